/-! class and model: one relation -/
/-- the state s of the class is the row r of the model -/
def rel (σ : fM) (s : Nat) (r : Nat → Int32) (n m : Nat) : Prop :=
  cnt σ s n m ∧ (σ.1 (iS s) 5 = r 4 ∧ σ.1 (iS s) 6 = r 3 ∧ σ.1 (iS s) 7 = r 5 ∧ σ.1 (iS s) 8 = r 6) ∧ (∀ j, j < 3 → σ.1 (iSet s) j = r j) ∧
  (∀ i, i < n → (∀ p, p < 9 → p ≠ 4 → σ.1 (iO s i) p = mo r i p) ∧ (¬ mo r i 3 = -1 → σ.1 (iO s i) 4 = mo r i 4) ∧ ∀ q, q < 32 → σ.1 (iT s i) q = mt r i q) ∧
  (∀ l, l < m → ∀ j, j < 3 → σ.1 (iL s l) j = ml r l j) ∧
  ∃ e : Nat, e < 2 ^ 64 ∧ σ.2 (iS s) = lN e ∧ ∀ a, a < 64 → r (9 + a) = if e / 2 ^ a % 2 = 1 then 1 else 0
/-- booths and seats -/
def mBo (r : Nat → Int32) (n : Nat) : Prop := (∀ i, i < n → mo r i 3 = -1 ∨ ((∃ b : Nat, b < 3 ∧ mo r i 3 = nI b) ∧ (mo r i 4 = 0 ∨ mo r i 4 = 1))) ∧ ∀ i j, i < n → j < n → i ≠ j → ¬ mo r i 3 = -1 → mo r i 3 = mo r j 3 → ¬ mo r i 4 = mo r j 4
def sT (σ : fM) (s : Nat) (r : Nat → Int32) (n m B h : Nat) : Prop := rel σ s r n m ∧ mG r n m B h ∧ mBo r n
theorem rel_cg {σ τ : fM} {s n m : Nat} {r : Nat → Int32} (hs : s < 6) (e : ∀ q, 6 + 24 * s ≤ q → q < 30 + 24 * s → τ.1 q = σ.1 q) (e2 : τ.2 (iS s) = σ.2 (iS s)) (h : rel σ s r n m) : rel τ s r n m := by
  obtain ⟨⟨h1, h2, h3, h4⟩, h5, h6, h7, h8, h9⟩ := h
  have eS : τ.1 (iS s) = σ.1 (iS s) := e _ (by unfold iS; omega) (by unfold iS; omega)
  have eW : τ.1 (iSet s) = σ.1 (iSet s) := e _ (by unfold iSet; omega) (by unfold iSet; omega)
  have eO : ∀ i, i < n → τ.1 (iO s i) = σ.1 (iO s i) := fun i hi => e _ (by unfold iO; omega) (by unfold iO; omega)
  have eT : ∀ i, i < n → τ.1 (iT s i) = σ.1 (iT s i) := fun i hi => e _ (by unfold iT; omega) (by unfold iT; omega)
  have eL : ∀ l, l < m → τ.1 (iL s l) = σ.1 (iL s l) := fun l hl => e _ (by unfold iL; omega) (by unfold iL; omega)
  refine ⟨⟨by rw [eS]; exact h1, by rw [eS]; exact h2, h3, h4⟩, by rw [eS]; exact h5, by rw [eW]; exact h6, fun i hi => by rw [eO i hi, eT i hi]; exact h7 i hi, fun l hl => by rw [eL l hl]; exact h8 l hl, by rw [e2]; exact h9⟩
theorem rel_r {σ : fM} {s n m : Nat} {r r' : Nat → Int32} (e : ∀ q, q < 349 → r' q = r q) (h : rel σ s r n m) : rel σ s r' n m := by
  obtain ⟨⟨h1, h2, h3, h4⟩, h5, h6, h7, h8, x, h9, h10, h11⟩ := h
  have em : ∀ i, i < n → ∀ p, p < 42 → mo r' i p = mo r i p := fun i hi p hp => e _ (by omega)
  refine ⟨⟨h1, h2, h3, h4⟩, by rw [e 4 (by decide), e 3 (by decide), e 5 (by decide), e 6 (by decide)]; exact h5, fun j hj => by rw [e j (by omega)]; exact h6 j hj, fun i hi => ⟨fun p hp h4 => by rw [em i hi p (by omega)]; exact (h7 i hi).1 p hp h4, fun hb => by rw [em i hi 3 (by decide)] at hb; rw [em i hi 4 (by decide)]; exact (h7 i hi).2.1 hb, fun q hq => by rw [show mt r' i q = mt r i q from em i hi (10 + q) (by omega)]; exact (h7 i hi).2.2 q hq⟩, fun l hl j hj => by rw [show ml r' l j = ml r l j from e _ (by omega)]; exact h8 l hl j hj, x, h9, h10, fun a ha => by rw [e (9 + a) (by omega)]; exact h11 a ha⟩
theorem mBo_cg {r r' : Nat → Int32} {n : Nat} (e : ∀ i, i < n → mo r' i 3 = mo r i 3 ∧ mo r' i 4 = mo r i 4) (h : mBo r n) : mBo r' n := by
  refine ⟨fun i hi => by rw [(e i hi).1, (e i hi).2]; exact h.1 i hi, fun i j hi hj hij => by rw [(e i hi).1, (e i hi).2, (e j hj).1, (e j hj).2]; exact h.2 i j hi hj hij⟩
theorem sT_cg {σ τ : fM} {s n m B y : Nat} {r r' : Nat → Int32} (hs : s < 6) (e : ∀ q, 6 + 24 * s ≤ q → q < 30 + 24 * s → τ.1 q = σ.1 q) (e2 : τ.2 (iS s) = σ.2 (iS s)) (er : ∀ q, q < 349 → r' q = r q) (h : sT σ s r n m B y) : sT τ s r' n m B y := by
  have hn6 := h.2.1.1.2.1
  exact ⟨rel_r er (rel_cg hs e e2 h.1), mG_cg h.2.1 er, mBo_cg (fun i hi => ⟨er _ (by omega), er _ (by omega)⟩) h.2.2⟩
theorem mG_B {r : Nat → Int32} {n m B B' y : Nat} (g : mG r n m B y) (h : B ≤ B') : mG r n m B' y := by
  obtain ⟨a1, a2, a3, a4, ⟨p, p1, p2⟩, a6⟩ := g
  exact ⟨a1, a2, a3, a4, ⟨p, p1, by omega⟩, a6⟩
theorem sT_up {σ : fM} {s n m B B' y y' : Nat} {r : Nat → Int32} (h : sT σ s r n m B y) (h1 : B ≤ B') (h2 : y ≤ y') : sT σ s r n m B' y' := ⟨h.1, mG_up (mG_B h.2.1 h1) h2, h.2.2⟩
theorem sT_gst {σ : fM} {s n m B y : Nat} {r : Nat → Int32} (h : sT σ s r n m B y) : gst σ s n m := by
  obtain ⟨⟨hc, -, -, hO, hL, -⟩, g, -⟩ := h
  refine ⟨hc, fun l hl => ?_, fun i hi => ?_⟩
  · obtain ⟨c, h1, h2⟩ := g.cr l hl
    exact ⟨c, h1, by rw [hL l hl 0 (by decide)]; exact h2⟩
  · exact oGood_cg ((hO i hi).1 0 (by decide) (by decide)) ((hO i hi).1 1 (by decide) (by decide)) (g.2.2.2.1 i hi).1.2.1
/-- what is said of an oracle by its ints -/
theorem oTab_cg {f f' : Nat → Int32} (h : f' 0 = f 0) : oTab f' = oTab f := by unfold oTab; rw [h]
theorem oSlot_cg {f f' : Nat → Int32} (h0 : f' 0 = f 0) (h1 : f' 1 = f 1) (a hi : Int32) : oSlot f' a hi = oSlot f a hi := by unfold oSlot oMask; rw [h0, h1]
theorem oSize_cg {f f' : Nat → Int32} (h0 : f' 0 = f 0) (h1 : f' 1 = f 1) : oSize f' = oSize f := by unfold oSize; rw [oTab_cg h0, h1]
theorem oSeat_cg {f f' : Nat → Int32} (h : f' 3 = f 3) : oSeat f' = oSeat f := by unfold oSeat; rw [h]
theorem oRuin_cg {f f' : Nat → Int32} (h : f' 2 = f 2) : oRuin f' = oRuin f := by unfold oRuin; rw [h]
theorem oWord_ct {f f' t t' : Nat → Int32} (h0 : f' 0 = f 0) (h1 : f' 1 = f 1) (hg : oGood f) (ht : ∀ q, q < 32 → t' q = t q) (a hi : Int32) : oWord f' t' a hi = oWord f t a hi := by
  unfold oWord
  rw [oTab_cg h0, oSlot_cg h0 h1, h1]
  by_cases hT : oTab f = true
  · obtain ⟨j, hj, ej⟩ := vp_in_of (oSlot_in hg hT a hi) (by decide)
    rw [if_pos hT, if_pos hT, ej, nI_clamp (by omega), ht j hj]
  · rw [if_neg hT, if_neg hT]
theorem oStake_ct {f f' t t' : Nat → Int32} (h0 : f' 0 = f 0) (h1 : f' 1 = f 1) (h2 : f' 2 = f 2) (h3 : f' 3 = f 3) (hg : oGood f) (ht : ∀ q, q < 32 → t' q = t q) (u a hi : Int32) : oStake f' t' u a hi = oStake f t u a hi := by
  have hs : oSure f' t' a hi = oSure f t a hi := by
    unfold oSure
    rw [oTab_cg h0, oSlot_cg h0 h1]
    by_cases hT : oTab f = true
    · obtain ⟨j, hj, ej⟩ := vp_in_of (oSlot_in hg hT a hi) (by decide)
      rw [ej, nI_clamp (by omega), ht j hj]
    · rw [show oTab f = false by simpa using hT]; rfl
  unfold oStake
  rw [oIn_cg h2 h3, hs, h2]
theorem le_sub {a b : Nat} (ha : a < 2 ^ 30) (hb : b < 2 ^ 30) : (0 ≤ nI a - nI b) ↔ b ≤ a := by
  rw [Int32.le_iff_toInt_le, pk_sub_toInt ha hb]
  show (0 : Int) ≤ _ ↔ _
  omega
theorem sub_addP (a b p : Int32) : a - b + p = a + p - b := by
  rw [Int32.sub_eq_add_neg, Int32.sub_eq_add_neg, Int32.add_assoc, Int32.add_assoc, Int32.add_comm (-b)]
theorem sub_subP (a b p : Int32) : a - b + - p = a - (b + p) := by
  rw [Int32.sub_eq_add_neg, Int32.sub_eq_add_neg, Int32.neg_add, Int32.add_assoc, ← Int32.sub_eq_add_neg (-b) p]
section FORE
variable {σ : fM} {s n m B y a : Nat} {r : Nat → Int32}
/-- the coins of those that are not contrary, and say 1, or 0 -/
def cx (r : Nat → Int32) (a : Nat) (p : Nat → Nat) (b : Bool) (o : Nat) : Nat := if mo r o 0 = 4 then 0 else if oIn (mo r o) = false then 0 else if decide (oWord (mo r o) (mt r o) (nI a) (r 3) = 1) = b then p o else 0
theorem cx_le (r : Nat → Int32) (a : Nat) (p : Nat → Nat) (b : Bool) (o : Nat) : cx r a p b o ≤ p o := by
  unfold cx
  split
  · omega
  · split
    · omega
    · split <;> omega
theorem mMore_N {p : Nat → Nat} (hp : pus r n p) : ∀ i, i ≤ n → mMore r a i = nI (sumN (cx r a p true) i) - nI (sumN (cx r a p false) i)
  | 0, _ => by show (0 : Int32) = nI 0 - nI 0; decide
  | i + 1, h => by
    have ih := mMore_N hp i (by omega)
    have hpi := hp i (by omega)
    show mMore r a i + (if mo r i 0 = 4 then 0 else if oIn (mo r i) = false then 0 else if oWord (mo r i) (mt r i) (nI a) (r 3) = 1 then mo r i 2 else - mo r i 2) = nI (sumN (cx r a p true) i + cx r a p true i) - nI (sumN (cx r a p false) i + cx r a p false i)
    rw [ih]
    unfold cx
    by_cases h4 : mo r i 0 = 4
    · rw [if_pos h4, if_pos h4, if_pos h4, Int32.add_zero]; rfl
    · rw [if_neg h4, if_neg h4, if_neg h4]
      by_cases hin : oIn (mo r i) = false
      · rw [if_pos hin, if_pos hin, if_pos hin, Int32.add_zero]; rfl
      · rw [if_neg hin, if_neg hin, if_neg hin]
        by_cases hw : oWord (mo r i) (mt r i) (nI a) (r 3) = 1
        · rw [if_pos hw, decide_eq_true hw, if_pos rfl, if_neg (by decide), hpi, sub_addP, nI_add]; rfl
        · rw [if_neg hw, decide_eq_false hw, if_neg (by decide), if_pos rfl, hpi, sub_subP, nI_add]; rfl

theorem foW_eq (T : sT σ s r n m B y) {i : Nat} (hi : i < n) : foW σ s (nI a) i = oWord (mo r i) (mt r i) (nI a) (r 3) := by
  obtain ⟨⟨-, ⟨-, e3, -⟩, -, hO, -, -⟩, g, -⟩ := T
  unfold foW
  rw [e3]
  exact oWord_ct ((hO i hi).1 0 (by decide) (by decide)) ((hO i hi).1 1 (by decide) (by decide)) (g.2.2.2.1 i hi).1.2.1 (hO i hi).2.2 _ _
theorem foSt_eq (T : sT σ s r n m B y) {i : Nat} (hi : i < n) : foSt σ s (nI a) i = oStake (mo r i) (mt r i) (r 0) (nI a) (r 3) := by
  obtain ⟨⟨-, ⟨-, e3, -⟩, eS, hO, -, -⟩, g, -⟩ := T
  unfold foSt
  rw [e3, eS 0 (by decide)]
  exact oStake_ct ((hO i hi).1 0 (by decide) (by decide)) ((hO i hi).1 1 (by decide) (by decide)) ((hO i hi).1 2 (by decide) (by decide)) ((hO i hi).1 3 (by decide) (by decide)) (g.2.2.2.1 i hi).1.2.1 (hO i hi).2.2 _ _ _
theorem foIn_eq (T : sT σ s r n m B y) {i : Nat} (hi : i < n) : oIn (σ.1 (iO s i)) = oIn (mo r i) := by
  obtain ⟨⟨-, -, -, hO, -, -⟩, -, -⟩ := T
  exact oIn_cg ((hO i hi).1 2 (by decide) (by decide)) ((hO i hi).1 3 (by decide) (by decide))
theorem foC_eq (T : sT σ s r n m B y) {p : Nat → Nat} (hp : pus r n p) : foC1 σ s (nI a) n = nI (sumN (cx r a p true) n) ∧ foC0 σ s (nI a) n = nI (sumN (cx r a p false) n) := by
  have hO := T.1.2.2.2.1
  constructor
  · refine sumF_N (fun i hi => ?_)
    rw [foW_eq T hi, foIn_eq T hi, (hO i hi).1 0 (by decide) (by decide), (hO i hi).1 2 (by decide) (by decide), hp i hi]
    unfold cx
    by_cases h4 : mo r i 0 = 4
    · rw [if_neg (fun q => q.1 h4), if_pos h4]; rfl
    · rw [if_neg h4]
      by_cases hin : oIn (mo r i) = true
      · rw [if_neg (show ¬ oIn (mo r i) = false by rw [hin]; decide)]
        by_cases hw : oWord (mo r i) (mt r i) (nI a) (r 3) = 1
        · rw [if_pos ⟨h4, hin, hw⟩, decide_eq_true hw, if_pos rfl]
        · rw [if_neg (fun q => hw q.2.2), decide_eq_false hw, if_neg (by decide)]; rfl
      · rw [if_neg (fun q => hin q.2.1), if_pos (by simpa using hin)]; rfl
  · refine sumF_N (fun i hi => ?_)
    rw [foW_eq T hi, foIn_eq T hi, (hO i hi).1 0 (by decide) (by decide), (hO i hi).1 2 (by decide) (by decide), hp i hi]
    unfold cx
    by_cases h4 : mo r i 0 = 4
    · rw [if_neg (fun q => q.1 h4), if_pos h4]; rfl
    · rw [if_neg h4]
      by_cases hin : oIn (mo r i) = true
      · rw [if_neg (show ¬ oIn (mo r i) = false by rw [hin]; decide)]
        by_cases hw : oWord (mo r i) (mt r i) (nI a) (r 3) = 1
        · rw [if_neg (fun q => q.2.2 hw), decide_eq_true hw, if_neg (by decide)]; rfl
        · rw [if_pos ⟨h4, hin, hw⟩, decide_eq_false hw, if_pos rfl]
      · rw [if_neg (fun q => hin q.2.1), if_pos (by simpa using hin)]; rfl
/-- what is foretold: the same words and stakes -/
theorem fo_eq (T : sT σ s r n m B y) (hB : B < 2 ^ 24) {i : Nat} (hi : i < n) : (fore σ s n (nI a)).1 (iO s i) 9 = mWord r n i a ∧ (fore σ s n (nI a)).1 (iO s i) 10 = oStake (mo r i) (mt r i) (r 0) (nI a) (r 3) := by
  obtain ⟨p, hp, hs⟩ := T.2.1.2.2.2.2.1
  obtain ⟨c1, c0⟩ := foC_eq (a := a) T hp
  have hO := (T.1.2.2.2.1 i hi).1 0 (by decide) (by decide)
  have hM := mMore_N (a := a) hp n (Nat.le_refl n)
  have b1 : sumN (cx r a p true) n ≤ sumN p n := sumN_mono (fun i _ => cx_le _ _ _ _ _)
  have b0 : sumN (cx r a p false) n ≤ sumN p n := sumN_mono (fun i _ => cx_le _ _ _ _ _)
  rw [fore_O _ hi]
  unfold foR2 foR1 mWord
  rw [hO, c1, c0, hM, foSt_eq T hi, foW_eq T hi]
  by_cases h4 : mo r i 0 = 4
  · rw [if_pos h4, if_pos h4, if_pos h4]
    refine ⟨?_, by rw [upd_n _ _ _ _ (by decide), upd_s]⟩
    rw [upd_s]
    by_cases hle : sumN (cx r a p false) n ≤ sumN (cx r a p true) n
    · rw [if_pos (nI_le hle (by omega)), if_pos ((le_sub (by omega) (by omega)).mpr hle)]
    · rw [if_neg (nI_ge (by omega) (by omega)), if_neg (fun q => hle ((le_sub (by omega) (by omega)).mp q))]
  · rw [if_neg h4, if_neg h4, if_neg h4]
    exact ⟨by rw [upd_s], by rw [upd_n _ _ _ _ (by decide), upd_s]⟩
theorem mWord_01 (g : mG r n m B y) {i : Nat} (hi : i < n) : mWord r n i a = 0 ∨ mWord r n i a = 1 := by
  obtain ⟨⟨k, hk, ek⟩, hg, -, h01⟩ := (g.2.2.2.1 i hi).1
  unfold mWord
  by_cases h4 : mo r i 0 = 4
  · rw [if_pos h4]
    split
    · exact Or.inl rfl
    · exact Or.inr rfl
  · rw [if_neg h4]
    unfold oWord
    by_cases hT : oTab (mo r i) = true
    · rw [if_pos hT]
      split
      · exact Or.inl rfl
      · exact Or.inr rfl
    · rw [if_neg hT]
      refine h01 ?_
      rw [oTab_k hk ek] at hT
      rcases (show k = 0 ∨ k = 1 ∨ k = 2 ∨ k = 3 ∨ k = 4 by omega) with rfl | rfl | rfl | rfl | rfl
      · exact ek
      · exact absurd rfl hT
      · exact absurd rfl hT
      · exact absurd rfl hT
      · exact absurd ek h4
end FORE
