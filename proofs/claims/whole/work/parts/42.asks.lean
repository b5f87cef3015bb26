/-! class and model: calls that only read -/
def Eqv (c : Int32 × fM) (M : fM → Int32 × fM) (B y : Nat) : Prop := c.1 = (M c.2).1 ∧ Kv (M c.2).2 (B + 10000) (y + 4000)
section ASKS
variable {σ : fM} {n m f z t B y : Nat}
theorem P1.S3 (h : P1 σ n m B y) : σ.1 (iS 0) 3 = σ.1 151 7 := h.1.1.1.trans h.2.1.1.1.symm
theorem P1.S4 (h : P1 σ n m B y) : σ.1 (iS 0) 4 = σ.1 151 8 := h.1.1.2.1.trans h.2.1.1.2.2.1.symm
theorem P1.n6 (h : P1 σ n m B y) : n ≤ 6 := h.2.1.1.2.1
theorem P1.m8 (h : P1 σ n m B y) : m ≤ 8 := h.2.1.1.2.2.2
theorem P1.O (h : P1 σ n m B y) {j : Nat} (hj : j < n) {p : Nat} (hp : p < 9) (h4 : p ≠ 4) : σ.1 (iO 0 j) p = mo (σ.1 151) j p := (h.1.2.2.2.1 j hj).1 p hp h4
theorem P1.O4 (h : P1 σ n m B y) {j : Nat} (hj : j < n) (hb : ¬ mo (σ.1 151) j 3 = -1) : σ.1 (iO 0 j) 4 = mo (σ.1 151) j 4 := (h.1.2.2.2.1 j hj).2.1 hb
theorem P1.Tq (h : P1 σ n m B y) {j : Nat} (hj : j < n) {q : Nat} (hq : q < 32) : σ.1 (iT 0 j) q = mt (σ.1 151) j q := (h.1.2.2.2.1 j hj).2.2 q hq
theorem P1.L (h : P1 σ n m B y) {l : Nat} (hl : l < m) {j : Nat} (hj : j < 3) : σ.1 (iL 0 l) j = ml (σ.1 151) l j := h.1.2.2.2.2.1 l hl j hj
theorem P1.W (h : P1 σ n m B y) {j : Nat} (hj : j < 3) : σ.1 (iSet 0) j = σ.1 151 j := h.1.2.2.1 j hj
theorem P1.S (h : P1 σ n m B y) : σ.1 (iS 0) 5 = σ.1 151 4 ∧ σ.1 (iS 0) 6 = σ.1 151 3 ∧ σ.1 (iS 0) 7 = σ.1 151 5 ∧ σ.1 (iS 0) 8 = σ.1 151 6 := h.1.2.1
theorem P1.or (h : P1 σ n m B y) {v : Int32} (ho : ¬ wi v 0 (σ.1 151 7 - 1) = false) : ∃ j, j < n ∧ v = nI j ∧ ix v = j := by
  obtain ⟨j, hj, e⟩ := wi_or (c := σ.1 151 7) (n := n) (by have := h.n6; omega) h.2.1.1.1 (by simpa using ho)
  exact ⟨j, hj, e, by rw [e]; exact nI_clamp (by have := h.n6; omega)⟩
theorem P1.ln (h : P1 σ n m B y) {v : Int32} (ho : ¬ wi v 0 (σ.1 151 8 - 1) = false) : ∃ j, j < m ∧ v = nI j ∧ ix v = j := by
  obtain ⟨j, hj, e⟩ := wi_or (c := σ.1 151 8) (n := m) (by have := h.m8; omega) h.2.1.1.2.2.1 (by simpa using ho)
  exact ⟨j, hj, e, by rw [e]; exact nI_clamp (by have := h.m8; omega)⟩
theorem ad_of {v : Int32} (ho : ¬ isA v = false) : ∃ j, j < 64 ∧ v = nI j ∧ ix v = j := by
  obtain ⟨j, hj, e⟩ := wi_A (a := v) (by simpa using ho)
  exact ⟨j, by omega, e, by rw [e]; exact nI_clamp (by omega)⟩
theorem wi_to {v b : Int32} {k : Nat} (hk : k < 2 ^ 30) (hb : b = nI k) (ho : ¬ wi v 0 b = false) : ∃ j, j ≤ k ∧ v = nI j ∧ ix v = j := by
  obtain ⟨j, hj, e⟩ := wi_ix (v := v) (b := b) (n := k) (by omega) hb (by simpa using ho)
  exact ⟨j, hj, e, by rw [e]; exact nI_clamp (by omega)⟩
theorem Eqv_r {c : Int32 × fM} {M : fM → Int32 × fM} (h1 : P1 σ n m B y) (h2 : P2 σ f z B y) (h3 : P3 σ t) (e : c = M σ) (e2 : c.2 = σ) : Eqv c M B y := by
  unfold Eqv
  rw [e2, ← e, e2]
  exact ⟨rfl, up_all h1 h2 h3⟩
theorem eq_counter (h : P1 σ n m B y) (o i : Int32) : cCounter σ o i = mCounter σ o i := by
  unfold cCounter mCounter
  rw [h.S3]
  by_cases ho : wi o 0 (σ.1 151 7 - 1) = false
  · rw [if_pos ho, if_pos ho]
  · rw [if_neg ho, if_neg ho]
    obtain ⟨j, hj, -, e⟩ := h.or ho
    rw [e, oSize_cg (h.O hj (by decide) (by decide)) (h.O hj (by decide) (by decide))]
    by_cases h0 : ¬ 0 ≤ i
    · rw [if_pos h0, if_pos h0]
    · rw [if_neg h0, if_neg h0]
      by_cases hs : oSize (mo (σ.1 151) j) ≤ i
      · rw [if_pos hs, if_pos hs]
      · rw [if_neg hs, if_neg hs]
        obtain ⟨q, hq, eq⟩ := vp_in_of (oSize_le (h.2.1.2.2.2.1 j hj).1.2.1 (Decidable.not_not.mp h0) hs) (by decide)
        have : ix i = q := by rw [eq]; exact nI_clamp (by omega)
        rw [this, h.Tq hj hq]
theorem eq_oracleOf (h : P1 σ n m B y) (o w : Int32) : cOracleOf σ n m o w = mOracleOf σ m o w := by
  unfold cOracleOf mOracleOf
  rw [h.S3]
  by_cases ho : wi o 0 (σ.1 151 7 - 1) = false
  · rw [if_pos ho, if_pos ho]
  · rw [if_neg ho, if_neg ho]
    by_cases hw : wi w 0 10 = false
    · rw [if_pos hw, if_pos hw]
    · rw [if_neg hw, if_neg hw]
      obtain ⟨j, hj, -, e⟩ := h.or ho
      obtain ⟨v, hv, -, ev⟩ := wi_to (k := 10) (by decide) (by decide) hw
      have hs : oSeat (σ.1 (iO 0 j)) = oSeat (mo (σ.1 151) j) := oSeat_cg (h.O hj (by decide) (by decide))
      have hw1 : sumF 0 (fun l => if σ.1 (iL 0 l) 1 = o then σ.1 (iL 0 l) 2 else 0) m = owF (σ.1 151) 1 o m := sumF_cg (fun l hl => by rw [h.L hl (by decide), h.L hl (by decide)])
      have hw0 : sumF 0 (fun l => if σ.1 (iL 0 l) 0 = o then σ.1 (iL 0 l) 2 else 0) m = owF (σ.1 151) 0 o m := sumF_cg (fun l hl => by rw [h.L hl (by decide), h.L hl (by decide)])
      rw [e, ev]
      show ((if v = 3 then (if oSeat (σ.1 (iO 0 j)) = true then σ.1 (iO 0 j) 3 else kNone) else if v = 4 then (if oSeat (σ.1 (iO 0 j)) = true then σ.1 (iO 0 j) 4 else kNone) else if v = 9 then _ else if v = 10 then _ else σ.1 (iO 0 j) v), σ) = _
      rw [hw1, hw0, hs]
      by_cases v9 : v = 9
      · subst v9; rfl
      · by_cases v10 : v = 10
        · subst v10; rfl
        · by_cases v3 : v = 3
          · subst v3
            rw [if_pos rfl, if_neg v9, if_neg v10, h.O hj (by decide) (by decide)]
            by_cases q : oSeat (mo (σ.1 151) j) = true
            · rw [if_pos q, if_neg (fun x => by rw [q] at x; exact absurd x.2 (by decide))]
            · rw [if_neg q, if_pos ⟨Or.inl rfl, by simpa using q⟩]
          · by_cases v4 : v = 4
            · subst v4
              rw [if_neg v3, if_pos rfl, if_neg v9, if_neg v10]
              by_cases q : oSeat (mo (σ.1 151) j) = true
              · rw [if_pos q, if_neg (fun x => by rw [q] at x; exact absurd x.2 (by decide)), h.O4 hj (fun x => by unfold oSeat at q; rw [x] at q; exact absurd q (by decide))]
              · rw [if_neg q, if_pos ⟨Or.inr rfl, by simpa using q⟩]
            · rw [if_neg v3, if_neg v4, if_neg v9, if_neg v10, if_neg v9, if_neg v10, if_neg (fun x => x.1.elim v3 v4), h.O hj (by omega) v4]
theorem eq_loanOf (h : P1 σ n m B y) (i w : Int32) : cLoanOf σ i w = mLoanOf σ i w := by
  unfold cLoanOf mLoanOf
  rw [h.S4]
  by_cases ho : wi i 0 (σ.1 151 8 - 1) = false
  · rw [if_pos ho, if_pos ho]
  · rw [if_neg ho, if_neg ho]
    by_cases hw : wi w 0 2 = false
    · rw [if_pos hw, if_pos hw]
    · rw [if_neg hw, if_neg hw]
      obtain ⟨j, hj, -, e⟩ := h.ln ho
      obtain ⟨v, hv, -, ev⟩ := wi_to (k := 2) (by decide) (by decide) hw
      rw [e, ev, h.L hj (by omega)]
theorem seenB_nI {e b : Nat} (he : e < 2 ^ 64) (hb : b < 64) : seenB (lN e) (nI b) = decide (e / 2 ^ b % 2 = 1) := by
  unfold seenB
  rw [wb_bit he hb]
  have h2 : e / 2 ^ b % 2 = 0 ∨ e / 2 ^ b % 2 = 1 := by omega
  rcases h2 with q | q <;> rw [q] <;> decide
theorem eq_aliases (h : P1 σ n m B y) (o a : Int32) : cAliases σ o a = mAliases σ o a := by
  unfold cAliases mAliases
  rw [h.S3]
  by_cases ho : wi o 0 (σ.1 151 7 - 1) = false
  · rw [if_pos ho, if_pos ho]
  · rw [if_neg ho, if_neg ho]
    by_cases hw : isA a = false
    · rw [if_pos hw, if_pos hw]
    · rw [if_neg hw, if_neg hw]
      obtain ⟨j, hj, -, e⟩ := h.or ho
      obtain ⟨v, hv, ea, ev⟩ := ad_of hw
      have hO0 : σ.1 (iO 0 j) 0 = mo (σ.1 151) j 0 := h.O hj (by decide) (by decide)
      have hO1 : σ.1 (iO 0 j) 1 = mo (σ.1 151) j 1 := h.O hj (by decide) (by decide)
      rw [e, ev, ea, oTab_cg hO0]
      by_cases ht : oTab (mo (σ.1 151) j) = false
      · rw [if_pos ht, if_pos ht]
      · rw [if_neg ht, if_neg ht]
        obtain ⟨ee, h64, es, hb⟩ := h.1.2.2.2.2.2
        have : alF σ j (nI v) 64 = maF (σ.1 151) j v 64 := sumF_cg (fun b hb64 => by
          rw [es, seenB_nI h64 hb64, oSlot_cg hO0 hO1, oSlot_cg hO0 hO1, h.S.2.1, hb b hb64]
          by_cases q1 : ee / 2 ^ b % 2 = 1
          · rw [if_pos q1, if_pos rfl]
            by_cases q2 : nI b = nI v
            · rw [if_neg (fun x => x.1 q2), if_pos q2]
            · rw [if_neg q2]
              by_cases q3 : oSlot (mo (σ.1 151) j) (nI b) (σ.1 151 3) = oSlot (mo (σ.1 151) j) (nI v) (σ.1 151 3)
              · rw [if_pos ⟨q2, by simpa using q1, q3⟩, if_pos q3]
              · rw [if_neg (fun x => q3 x.2.2), if_neg q3]
          · rw [if_neg (fun x => q1 (by simpa using x.2.1)), if_neg q1, if_neg (by decide)])
        rw [this]
def rkN (p : Nat → Nat) (n j : Nat) : Nat := sumN (fun i => if (p j < p i ∨ (p i = p j ∧ i < j)) then 1 else 0) n
theorem sumN_lt {p q : Nat → Nat} {k : Nat} : ∀ {n : Nat}, k < n → (∀ i, i < n → p i ≤ q i) → p k < q k → sumN p n < sumN q n
  | 0, h, _, _ => absurd h (Nat.not_lt_zero _)
  | n + 1, h, hl, hk => by
    show sumN p n + p n < sumN q n + q n
    by_cases e : k = n
    · subst e
      have := sumN_mono (p := p) (q := q) (n := k) (fun i hi => hl i (by omega))
      omega
    · have := sumN_lt (n := n) (k := k) (by omega) (fun i hi => hl i (by omega)) hk
      have := hl n (by omega)
      omega
theorem rk_lt {p : Nat → Nat} {n i j : Nat} (hi : i < n) (h : (p j < p i ∨ (p i = p j ∧ i < j))) : rkN p n i < rkN p n j := by
  refine sumN_lt (k := i) hi (fun q hq => ?_) ?_
  · split
    · rw [if_pos (by omega)]; exact Nat.le_refl 1
    · exact Nat.zero_le _
  · rw [if_neg (by omega), if_pos h]; decide
theorem rk_inj {p : Nat → Nat} {n i j : Nat} (hi : i < n) (hj : j < n) (h : rkN p n i = rkN p n j) : i = j := by
  by_cases e : i = j
  · exact e
  · have : (p j < p i ∨ (p i = p j ∧ i < j)) ∨ (p i < p j ∨ (p j = p i ∧ j < i)) := by omega
    rcases this with q | q
    · have := rk_lt hi q; omega
    · have := rk_lt hj q; omega
theorem rk_le {p : Nat → Nat} {n j : Nat} : rkN p n j ≤ n := by
  have := sumN_c (p := fun i => if (p j < p i ∨ (p i = p j ∧ i < j)) then 1 else 0) (c := 1) (n := n) (fun i _ => by split <;> omega)
  unfold rkN
  omega
theorem mrF_eq {r : Nat → Int32} {n : Nat} {q : Int32} {j : Nat} (hj : mRi r n j = q) : ∀ k, j < k → (∀ i, i < k → mRi r n i = q → i = j) → mrF r n q k = nI j
  | 0, h, _ => absurd h (Nat.not_lt_zero _)
  | k + 1, h, hu => by
    unfold mrF
    by_cases e : mRi r n k = q
    · rw [if_pos e, hu k (by omega) e]
    · rw [if_neg e]
      exact mrF_eq hj k (by have : j ≠ k := fun x => e (x ▸ hj); omega) (fun i hi => hu i (by omega))
theorem mrF_no {r : Nat → Int32} {n : Nat} {q : Int32} : ∀ k, (∀ i, i < k → ¬ mRi r n i = q) → mrF r n q k = kNone
  | 0, _ => rfl
  | k + 1, hu => by
    unfold mrF
    rw [if_neg (hu k (by omega))]
    exact mrF_no k (fun i hi => hu i (by omega))
theorem fstF_sp (p : Nat → Bool) : ∀ n, fstF p n < n → p (fstF p n) = true
  | 0, h => absurd h (Nat.not_lt_zero _)
  | n + 1, h => by
    unfold fstF at h ⊢
    by_cases q : fstF p n < n
    · rw [if_pos q]; exact fstF_sp p n q
    · rw [if_neg q] at h ⊢
      by_cases e : p n = true
      · rw [if_pos e]; exact e
      · rw [if_neg e] at h; omega
theorem fstF_nn (p : Nat → Bool) : ∀ n, ¬ fstF p n < n → ∀ i, i < n → ¬ p i = true
  | 0, _, i, hi => absurd hi (Nat.not_lt_zero i)
  | n + 1, h, i, hi => by
    unfold fstF at h
    by_cases q : fstF p n < n
    · rw [if_pos q] at h; omega
    · rw [if_neg q] at h
      by_cases e : p n = true
      · rw [if_pos e] at h; omega
      · by_cases hin : i = n
        · rw [hin]; exact e
        · exact fstF_nn p n q i (by omega)
theorem eq_rich (h : P1 σ n m B y) (hB : B < 2 ^ 24) (p : Int32) : cRich σ n p = mRich σ n p := by
  unfold cRich mRich
  by_cases h0 : ¬ 0 ≤ p
  · rw [if_pos h0, if_pos h0]
  · rw [if_neg h0, if_neg h0]
    obtain ⟨pp, hp, hs⟩ := h.2.1.2.2.2.2.1
    have lt : ∀ i, i < n → pp i < 2 ^ 24 := fun i hi => by have := sumN_le (p := pp) hi; omega
    have hn := h.n6
    have em : ∀ j, j < n → mRi (σ.1 151) n j = nI (rkN pp n j) := fun j hj => sumF_N (fun i hi => by
      have l1 := lt i hi
      have l2 := lt j hj
      rw [hp i hi, hp j hj]
      have a1 : (0 < nI (pp i) - nI (pp j)) ↔ pp j < pp i := by
        rw [Int32.lt_iff_toInt_lt, pk_sub_toInt (by omega) (by omega)]
        show (0 : Int) < _ ↔ _
        omega
      have a2 : (nI (pp i) - nI (pp j) = 0) ↔ pp i = pp j := by
        rw [← Int32.toInt_inj, pk_sub_toInt (by omega) (by omega)]
        show _ = (0 : Int) ↔ _
        omega
      have a3 : (nI i < nI j) ↔ i < j := nI_ltI (by omega) (by omega)
      show (if _ then (1 : Int32) else 0) = nI (if (pp j < pp i ∨ (pp i = pp j ∧ i < j)) then 1 else 0)
      by_cases q : (pp j < pp i ∨ (pp i = pp j ∧ i < j))
      · rw [if_pos q, if_pos (by rw [a1, a2, a3]; exact q)]; rfl
      · rw [if_neg q, if_neg (by rw [a1, a2, a3]; exact q)]; rfl)
    have ec : ∀ j, j < n → rcF σ n j = nI (rkN pp n j) := fun j hj => sumF_N (fun i hi => by
      have l1 := lt i hi
      have l2 := lt j hj
      have a1 : (nI (pp j) < nI (pp i)) ↔ pp j < pp i := nI_ltI (by omega) (by omega)
      have a2 : (nI (pp i) = nI (pp j)) ↔ pp i = pp j := nI_eq (by omega) (by omega)
      have a3 : (nI i < nI j) ↔ i < j := nI_ltI (by omega) (by omega)
      rw [h.O hi (by decide) (by decide), h.O hj (by decide) (by decide), hp i hi, hp j hj]
      show (if _ then (1 : Int32) else 0) = nI (if (pp j < pp i ∨ (pp i = pp j ∧ i < j)) then 1 else 0)
      by_cases q : (pp j < pp i ∨ (pp i = pp j ∧ i < j))
      · rw [if_pos q, if_pos (by rw [a1, a2, a3]; exact q)]; rfl
      · rw [if_neg q, if_neg (by rw [a1, a2, a3]; exact q)]; rfl)
    by_cases hf : fstF (fun j => decide (rcF σ n j = p)) n < n
    · have hsp := fstF_sp _ n hf
      rw [if_pos hf]
      generalize fstF (fun j => decide (rcF σ n j = p)) n = k at hf hsp
      have hk : rcF σ n k = p := by simpa using hsp
      rw [ec k hf] at hk
      rw [mrF_eq (j := k) ((em k hf).trans hk) n hf (fun i hi q => by
        rw [em i hi, ← hk] at q
        exact rk_inj hi hf ((nI_eq (by have := rk_le (p := pp) (n := n) (j := i); omega) (by have := rk_le (p := pp) (n := n) (j := k); omega)).mp q))]
    · have hnn := fstF_nn _ n hf
      rw [if_neg hf, mrF_no n (fun i hi q => hnn i hi (by rw [em i hi] at q; simp [ec i hi, q]))]
theorem eq_share (h : P1 σ n m B y) (o : Int32) : cShare σ o = mShare σ o := by
  unfold cShare mShare
  rw [h.S3]
  by_cases ho : wi o 0 (σ.1 151 7 - 1) = false
  · rw [if_pos ho, if_pos ho]
  · rw [if_neg ho, if_neg ho]
    obtain ⟨j, hj, -, e⟩ := h.or ho
    unfold shV
    rw [e, h.O hj (p := 5) (by decide) (by decide), h.O hj (p := 6) (by decide) (by decide)]
theorem eq_count (h : P1 σ n m B y) (h2 : P2 σ f z B y) (h3 : P3 σ t) (w : Int32) : cCount σ n w = mCount σ n w := by
  have e9 : σ.1 1 2 = σ.1 150 3 := h2.1.2.1.trans h2.2.1.symm
  have e10 : σ.1 3 2 = σ.1 150 5 := h3.1.1.trans h3.2.1.symm
  have c1 : sumF 0 (fun i => if oSeat (σ.1 (iO 0 i)) = true then 1 else 0) n = mseF (σ.1 151) n := sumF_cg (fun i hi => by rw [oSeat_cg (h.O hi (by decide) (by decide))])
  have c2 : sumF 0 (fun i => if oRuin (σ.1 (iO 0 i)) = true then 1 else 0) n = mruF (σ.1 151) n := sumF_cg (fun i hi => by
    rw [oRuin_cg (h.O hi (by decide) (by decide))]
    by_cases q : mo (σ.1 151) i 2 = 0
    · rw [if_pos (by unfold oRuin; simpa using q), if_pos q]
    · rw [if_neg (fun x => q (by simpa [oRuin] using x)), if_neg q])
  have c4 : sumF (σ.1 (iS 0) 5) (fun i => σ.1 (iO 0 i) 2) n = mcoF (σ.1 151) n := by
    rw [h.S.1]
    exact sumF_cg (fun i hi => h.O hi (by decide) (by decide))
  unfold cCount mCount
  by_cases hw : wi w 0 22 = false
  · rw [if_pos hw]
    have o1 := wi_out22 hw
    rw [if_neg (fun q => by
      obtain ⟨v, hv, e⟩ := wi_20 q
      rw [e, nI_toInt (by omega)] at o1
      omega), if_pos (by
      by_cases q : wi w 0 10 = false
      · exact q
      · exfalso
        obtain ⟨v, hv, e, -⟩ := wi_to (k := 10) (by decide) (by decide) q
        rw [e, nI_toInt (by omega)] at o1
        omega)]
  · rw [if_neg hw]
    obtain ⟨v, hv, e, ev⟩ := wi_to (k := 22) (by decide) (by decide) hw
    rw [ev, h.S3, c1, c2, c4, h.S.1, h.S.2.1, h.S.2.2.1, h.S.2.2.2, h.S4, e9, e10]
    subst e
    by_cases v10 : v ≤ 10
    · have q20 : ∀ v, v ≤ 10 → ¬ wi (nI v) 20 22 = true := by decide
      have q10 : ∀ v, v ≤ 10 → ¬ wi (nI v) 0 10 = false := by decide
      rw [if_neg (q20 v v10), if_neg (q10 v v10)]
      by_cases v0 : v = 10
      · subst v0; rfl
      · rw [if_neg v0]
        by_cases v9 : v = 9
        · subst v9; rfl
        · rw [if_neg v9, if_neg v9, if_pos (by omega : v < 20)]
          match v, v10, v0, v9 with
          | 0, _, _, _ => rfl
          | 1, _, _, _ => rfl
          | 2, _, _, _ => rfl
          | 3, _, _, _ => rfl
          | 4, _, _, _ => rfl
          | 5, _, _, _ => rfl
          | 6, _, _, _ => rfl
          | 7, _, _, _ => rfl
          | 8, _, _, _ => rfl
          | u + 9, q1, q2, q3 => exfalso; omega
    · by_cases v20 : v < 20
      · have q20 : ∀ v, v < 20 → ¬ wi (nI v) 20 22 = true := by decide
        have q10 : ∀ v, v < 20 → ¬ v ≤ 10 → wi (nI v) 0 10 = false := by decide
        rw [if_neg (q20 v v20), if_pos (q10 v v20 v10)]
        repeat rw [if_neg (by omega)]
        rw [if_pos v20]
      · have q20 : ∀ v, v ≤ 22 → ¬ v < 20 → wi (nI v) 20 22 = true := by decide
        rw [if_pos (q20 v hv v20), h.W (by omega)]
        repeat rw [if_neg (by omega)]
end ASKS
