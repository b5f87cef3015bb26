/-! class and model: more changes, and the text -/
section MORE
variable {σ : fM} {n m f z t B y : Nat}
theorem wi1_to {v b : Int32} {k : Nat} (hk : k < 2 ^ 30) (hb : b = nI k) (ho : ¬ wi v 1 b = false) : ∃ j, 1 ≤ j ∧ j ≤ k ∧ v = nI j ∧ ix v = j := by
  obtain ⟨w, a, b', c⟩ := wi_to (v := v) (b := b) (k := k) hk hb (fun x => ho (by
    unfold wi at x ⊢
    have l : ¬ v < 1 → ¬ v < 0 := fun a b => a (Int32.lt_trans b (by decide))
    by_cases c1 : v < 1
    · simp [c1]
    · simpa [c1, l c1] using x))
  refine ⟨w, ?_, a, b', c⟩
  rcases Nat.eq_zero_or_pos w with h | h
  · exfalso
    apply ho
    rw [b', h]
    unfold wi
    rw [decide_eq_true (show nI 0 < 1 by decide)]
    rfl
  · exact h
theorem isS_eq (w v : Int32) : isS w v = (wi w 0 2 && wi v (sLo (ix w)) (sHi (ix w))) := by
  by_cases hw : wi w 0 2 = false
  · rw [hw]
    have n0 : ¬ w = 0 := fun e => by rw [e] at hw; exact absurd hw (by decide)
    have n1 : ¬ w = 1 := fun e => by rw [e] at hw; exact absurd hw (by decide)
    have n2 : ¬ w = 2 := fun e => by rw [e] at hw; exact absurd hw (by decide)
    unfold isS
    rw [if_neg n0, if_neg n1, decide_eq_false n2]
    rfl
  · obtain ⟨j, hj, e, ej⟩ := wi_to (k := 2) (by decide) (by decide) hw
    rw [show wi w 0 2 = true by simpa using hw, ej, e]
    rcases (show j = 0 ∨ j = 1 ∨ j = 2 by omega) with rfl | rfl | rfl <;> rfl
theorem mG_set {r : Nat → Int32} {w : Nat} {v : Int32} (g : mG r n m B y) (hw : w < 3) (hs : msett (upd r w v)) : mG (upd r w v) n m B y := by
  obtain ⟨⟨a1, hn6, a3, hm8⟩, ⟨hv, b1, b2⟩, -, ho, ⟨p, p1, p2⟩, hl⟩ := g
  have eR : ∀ q, 3 ≤ q → upd r w v q = r q := fun q hq => upd_n _ _ _ _ (by omega)
  refine ⟨⟨by rw [eR 7 (by decide)]; exact a1, hn6, by rw [eR 8 (by decide)]; exact a3, hm8⟩, ⟨hv, b1, by rw [eR 3 (by decide)]; exact b2⟩, hs, fun i hi => ?_, ⟨p, fun i hi => (eR _ (by omega)).trans (p1 i hi), p2⟩, lgo_cg hl (fun l q hl hq => eR _ (by omega))⟩
  have e : mo (upd r w v) i = mo r i := funext fun q => eR _ (by omega)
  have e' : mt (upd r w v) i = mt r i := funext fun q => eR _ (by omega)
  rw [e, e']
  exact ho i hi
theorem sT_set {c : fM} {r : Nat → Int32} {w : Nat} {v : Int32} (h : sT c 0 r n m B y) (hw : w < 3) (hs : msett (upd r w v)) : sT (pu c (iSet 0) w v) 0 (upd r w v) n m B y := by
  obtain ⟨⟨hc, h5, hW, hO, hL, e, he1, he2, he3⟩, g, b⟩ := h
  have hn6 := hc.2.2.1
  have hm8 := hc.2.2.2
  have eR : ∀ q, 3 ≤ q → upd r w v q = r q := fun q hq => upd_n _ _ _ _ (by omega)
  refine ⟨⟨⟨by rw [pu_ne _ (iS_Set 0 0)]; exact hc.1, by rw [pu_ne _ (iS_Set 0 0)]; exact hc.2.1, hn6, hm8⟩, by rw [pu_ne _ (iS_Set 0 0), eR 4 (by decide), eR 3 (by decide), eR 5 (by decide), eR 6 (by decide)]; exact h5, fun j hj => ?_, fun i hi => ?_, fun l hl j hj => ?_, e, he1, he2, fun a ha => by rw [eR _ (by omega)]; exact he3 a ha⟩, mG_set g hw hs, mBo_cg (fun i hi => ⟨eR _ (by omega), eR _ (by omega)⟩) b⟩
  · rw [pu_upd]
    by_cases e : j = w
    · rw [e, upd_s, upd_s]
    · rw [upd_n _ _ _ _ e, upd_n _ _ _ _ e]; exact hW j hj
  · have em : ∀ p, mo (upd r w v) i p = mo r i p := fun p => eR _ (by omega)
    have et : ∀ p, mt (upd r w v) i p = mt r i p := fun p => eR _ (by omega)
    rw [pu_ne _ (iO_Set 0 i 0 (by omega)), pu_ne _ (by unfold iT iSet; omega)]
    exact ⟨fun p hp h4 => by rw [em]; exact (hO i hi).1 p hp h4, fun hb => by rw [em] at hb ⊢; exact (hO i hi).2.1 hb, fun q hq => by rw [et]; exact (hO i hi).2.2 q hq⟩
  · rw [pu_ne _ (iL_Set 0 l 0 (by omega)), show ml (upd r w v) l j = ml r l j from eR _ (by omega)]; exact hL l hl j hj
theorem eq_set (h1 : P1 σ n m B y) (h2 : P2 σ f z B y) (h3 : P3 σ t) (w v : Int32) : Eqv (cSet σ f z n m w v) (fun τ => mSet τ z w v) B y := by
  unfold Eqv cSet mSet
  rw [isS_eq]
  by_cases hw : wi w 0 2 = false
  · rw [if_pos hw]
    dsimp only
    rw [hw, Bool.false_and, if_pos rfl]
    exact ⟨rfl, up_all h1 h2 h3⟩
  · rw [if_neg hw]
    obtain ⟨j, hj, ew, e⟩ := wi_to (k := 2) (by decide) (by decide) hw
    have hwt : wi w 0 2 = true := by simpa using hw
    rw [e, hwt, Bool.true_and]
    by_cases hv : wi v (sLo j) (sHi j) = false
    · rw [if_pos hv]
      dsimp only
      rw [if_pos hv]
      exact ⟨rfl, up_all h1 h2 h3⟩
    · rw [if_neg hv]
      dsimp only
      have hc : ∀ q, q < 6 ∨ 30 ≤ q → (pu (keepM σ f z n m) (iSet 0) j v).1 q = (keepM σ f z n m).1 q := fun q hq => pu_ne _ (by unfold iSet; omega)
      rw [keep_151 h1 hc, if_neg hv]
      dsimp only
      refine ⟨by rw [keep_lo h1 (by unfold iSet; omega) (by unfold iSet; omega)]; exact h1.W (by omega), D_go (c := pu (keepM σ f z n m) (iSet 0) j v) h1 h2 h3 hc (fun s hs => rfl) (fun q a b => pu_ne _ a) (by show (mrec _ _).2 = _; rw [mrec_2]) (n' := n) (m' := m) ?_⟩
      rw [pu_upd, mrec_151, keep_151 h1 hc]
      refine sT_up (sT_set (P1_keep h1) (by omega) ?_) (Nat.le_add_right _ _) (Nat.le_add_right _ _)
      obtain ⟨s0, s1, s2⟩ := h1.2.1.2.2.1
      rcases (show j = 0 ∨ j = 1 ∨ j = 2 by omega) with rfl | rfl | rfl
      · obtain ⟨u, u1, u2, u3, -⟩ := wi1_to (v := v) (b := 50) (k := 50) (by decide) (by decide) hv
        exact ⟨⟨u, u1, u2, by rw [upd_s]; exact u3⟩, by rw [upd_n _ _ _ _ (by decide)]; exact s1, by rw [upd_n _ _ _ _ (by decide)]; exact s2⟩
      · obtain ⟨u, u2, u3, -⟩ := wi_to (v := v) (b := 50) (k := 50) (by decide) (by decide) hv
        exact ⟨by rw [upd_n _ _ _ _ (by decide)]; exact s0, ⟨u, u2, by rw [upd_s]; exact u3⟩, by rw [upd_n _ _ _ _ (by decide)]; exact s2⟩
      · obtain ⟨u, u2, u3, -⟩ := wi_to (v := v) (b := 100) (k := 100) (by decide) (by decide) hv
        exact ⟨by rw [upd_n _ _ _ _ (by decide)]; exact s0, by rw [upd_n _ _ _ _ (by decide)]; exact s1, ⟨u, u2, by rw [upd_s]; exact u3⟩⟩
theorem tks_eq {b : Int32} (hb : ¬ wi b 0 2 = false) (g : Nat → Int32) : tks b g = mtk b g := by
  obtain ⟨j, hj, e, -⟩ := wi_to (k := 2) (by decide) (by decide) hb
  rw [e]
  unfold tks mtk
  rcases (show j = 0 ∨ j = 1 ∨ j = 2 by omega) with rfl | rfl | rfl
  · rfl
  · show (!decide ((1 : Int32) = 1) || oTab g) = oTab g
    simp
  · rfl
theorem anyF_cg {p q : Nat → Bool} : ∀ n, (∀ i, i < n → p i = q i) → anyF p n = anyF q n
  | 0, _ => rfl
  | n + 1, h => by
    unfold anyF
    rw [anyF_cg n (fun i hi => h i (by omega)), h n (by omega)]
theorem anyF_no {q : Nat → Bool} : ∀ {n : Nat}, anyF q n = false → ∀ i, i < n → q i = false
  | 0, _, i, hi => absurd hi (Nat.not_lt_zero i)
  | n + 1, h, i, hi => by
    unfold anyF at h
    simp only [Bool.or_eq_false_iff] at h
    by_cases e : i = n
    · rw [e]; exact h.2
    · exact anyF_no h.1 i (by omega)
theorem sumN_0 {p : Nat → Nat} : ∀ {n : Nat}, (∀ i, i < n → p i = 0) → sumN p n = 0
  | 0, _ => rfl
  | n + 1, h => by
    show sumN p n + p n = 0
    rw [sumN_0 (fun i hi => h i (by omega)), h n (by omega)]
theorem sumN_one {w : Nat → Bool} : ∀ {n : Nat}, (∀ i j, i < n → j < n → i ≠ j → w i = true → ¬ w j = true) → sumN (fun i => if w i = true then 1 else 0) n = if anyF w n = true then 1 else 0
  | 0, _ => rfl
  | n + 1, h => by
    show sumN (fun i => if w i = true then 1 else 0) n + (if w n = true then 1 else 0) = _
    unfold anyF
    by_cases hn : w n = true
    · rw [sumN_0 (fun i hi => if_neg (h n i (by omega) (by omega) (by omega) hn)), hn, Bool.or_true]
      rfl
    · rw [sumN_one (fun i j hi hj => h i j (by omega) (by omega)), if_neg hn, show w n = false by simpa using hn, Bool.or_false]
      rfl
/-- who sits at booth b, place p -/
def bat (r : Nat → Int32) (b p : Int32) (i : Nat) : Bool := decide (mo r i 3 = b) && decide (mo r i 4 = p)
theorem bat_t {r : Nat → Int32} {b p : Int32} {i : Nat} : bat r b p i = true ↔ mo r i 3 = b ∧ mo r i 4 = p := by unfold bat; simp
theorem lowF_eq (r : Nat → Int32) (b : Int32) : ∀ n, lowF r b n = if anyF (bat r b 0) n = true then 1 else 0
  | 0 => rfl
  | n + 1 => by
    unfold lowF anyF
    rw [lowF_eq r b n]
    by_cases h3 : mo r n 3 = b
    · rw [if_pos h3]
      by_cases h4 : mo r n 4 = 0
      · rw [if_pos h4, bat_t.mpr ⟨h3, h4⟩, Bool.or_true, if_pos rfl]
      · rw [if_neg h4, show bat r b 0 n = false by unfold bat; rw [decide_eq_false h4]; simp, Bool.or_false]
    · rw [if_neg h3, show bat r b 0 n = false by unfold bat; rw [decide_eq_false h3]; rfl, Bool.or_false]
theorem sit_eq {r : Nat → Int32} {b : Int32} (hb : ¬ b = -1) (hB : mBo r n) : sitF r b n = nI ((if anyF (bat r b 0) n = true then 1 else 0) + (if anyF (bat r b 1) n = true then 1 else 0)) := by
  have u : ∀ p i j, i < n → j < n → i ≠ j → bat r b p i = true → ¬ bat r b p j = true := fun p i j hi hj hij a c => by
    obtain ⟨a1, a2⟩ := bat_t.mp a
    obtain ⟨c1, c2⟩ := bat_t.mp c
    exact hB.2 i j hi hj hij (by rw [a1]; exact hb) (by rw [a1, c1]) (by rw [a2, c2])
  rw [← sumN_one (u 0), ← sumN_one (u 1)]
  have s : ∀ k, k ≤ n → sitF r b k = nI (sumN (fun i => if bat r b 0 i = true then 1 else 0) k + sumN (fun i => if bat r b 1 i = true then 1 else 0) k) := by
    intro k
    induction k with
    | zero => intro _; rfl
    | succ k ih =>
      intro hk
      show sitF r b k + (if mo r k 3 = b then 1 else 0) = nI ((sumN (fun i => if bat r b 0 i = true then 1 else 0) k + (if bat r b 0 k = true then 1 else 0)) + (sumN (fun i => if bat r b 1 i = true then 1 else 0) k + (if bat r b 1 k = true then 1 else 0)))
      rw [ih (by omega)]
      generalize sumN (fun i => if bat r b 0 i = true then 1 else 0) k = x
      generalize sumN (fun i => if bat r b 1 i = true then 1 else 0) k = w
      by_cases h3 : mo r k 3 = b
      · rw [if_pos h3]
        have h4 : mo r k 4 = 0 ∨ mo r k 4 = 1 := by
          rcases hB.1 k (by omega) with q | q
          · exact absurd (h3.symm.trans q) hb
          · exact q.2
        rcases h4 with q | q
        · rw [if_pos (bat_t.mpr ⟨h3, q⟩), if_neg (fun e => absurd ((bat_t.mp e).2.symm.trans q) (by decide)), show (1 : Int32) = nI 1 by decide, nI_add]
          exact congrArg nI (by omega)
        · rw [if_neg (fun e => absurd ((bat_t.mp e).2.symm.trans q) (by decide)), if_pos (bat_t.mpr ⟨h3, q⟩), show (1 : Int32) = nI 1 by decide, nI_add]
          exact congrArg nI (by omega)
      · rw [if_neg h3, if_neg (fun e => h3 (bat_t.mp e).1), if_neg (fun e => h3 (bat_t.mp e).1), Int32.add_zero]
        rfl
  exact s n (Nat.le_refl n)
theorem eq_seat (h1 : P1 σ n m B y) (h2 : P2 σ f z B y) (h3 : P3 σ t) (o b : Int32) : Eqv (cSeat σ f z n m o b) (fun τ => mSeat τ z n o b) B y := by
  unfold Eqv cSeat mSeat
  rw [h1.S3]
  by_cases ho : wi o 0 (σ.1 151 7 - 1) = false
  · rw [if_pos ho]
    dsimp only
    rw [if_pos ho]
    exact ⟨rfl, up_all h1 h2 h3⟩
  · rw [if_neg ho]
    obtain ⟨j, hj, -, e⟩ := h1.or ho
    have hn6 := h1.n6
    rw [e, oSeat_cg (h1.O hj (p := 3) (by decide) (by decide))]
    by_cases hb : wi b 0 2 = false
    · rw [if_pos hb]
      dsimp only
      rw [if_neg ho, if_pos hb]
      exact ⟨rfl, up_all h1 h2 h3⟩
    · rw [if_neg hb]
      by_cases hs : oSeat (mo (σ.1 151) j) = true
      · rw [if_pos hs]
        dsimp only
        rw [if_neg ho, if_neg hb, if_pos hs]
        exact ⟨rfl, up_all h1 h2 h3⟩
      · rw [if_neg hs, tks_eq hb]
        have ek : mtk b (σ.1 (iO 0 j)) = mtk b (mo (σ.1 151) j) := by
          unfold mtk
          rw [oTab_cg (h1.O hj (p := 0) (by decide) (by decide)), h1.O hj (p := 0) (by decide) (by decide)]
        rw [ek]
        by_cases hk : mtk b (mo (σ.1 151) j) = false
        · rw [if_pos hk]
          dsimp only
          rw [if_neg ho, if_neg hb, if_neg hs, if_pos hk]
          exact ⟨rfl, up_all h1 h2 h3⟩
        · rw [if_neg hk]
          obtain ⟨bb, hbb, eb, -⟩ := wi_to (k := 2) (by decide) (by decide) hb
          have hb1 : ¬ b = -1 := by
            rw [eb]
            rcases (show bb = 0 ∨ bb = 1 ∨ bb = 2 by omega) with rfl | rfl | rfl <;> decide
          have tk : ∀ p, tak σ 0 n b p = anyF (bat (σ.1 151) b p) n := fun p => anyF_cg n (fun i hi => by
            rw [h1.O hi (p := 3) (by decide) (by decide)]
            unfold bat
            by_cases q : mo (σ.1 151) i 3 = b
            · rw [h1.O4 hi (by rw [q]; exact hb1)]
            · rw [decide_eq_false q]; rfl)
          have m6 : sitF (σ.1 151) b n = _ := sit_eq hb1 h1.2.2
          rw [tk, tk]
          by_cases hf : anyF (bat (σ.1 151) b 0) n = true ∧ anyF (bat (σ.1 151) b 1) n = true
          · rw [if_pos hf.1, if_pos hf.2, if_pos rfl]
            dsimp only
            rw [if_neg ho, if_neg hb, if_neg hs, if_neg hk, if_pos (by rw [m6, if_pos hf.1, if_pos hf.2]; decide)]
            exact ⟨rfl, up_all h1 h2 h3⟩
          · have hp : (if anyF (bat (σ.1 151) b 0) n = true then (if anyF (bat (σ.1 151) b 1) n = true then (-1 : Int32) else 1) else 0) = lowF (σ.1 151) b n := by
              rw [lowF_eq]
              by_cases q : anyF (bat (σ.1 151) b 0) n = true
              · rw [if_pos q, if_pos q, if_neg (fun x => hf ⟨q, x⟩)]
              · rw [if_neg q, if_neg q]
            rw [hp]
            have hl01 : lowF (σ.1 151) b n = 0 ∨ lowF (σ.1 151) b n = 1 := by
              rw [lowF_eq]
              split
              · exact Or.inr rfl
              · exact Or.inl rfl
            have hfree : ∀ i, i < n → mo (σ.1 151) i 3 = b → ¬ mo (σ.1 151) i 4 = lowF (σ.1 151) b n := fun i hi q3 q4 => by
              rw [lowF_eq] at q4
              by_cases q : anyF (bat (σ.1 151) b 0) n = true
              · rw [if_pos q] at q4
                have := anyF_no (q := bat (σ.1 151) b 1) (n := n) (by cases hx : anyF (bat (σ.1 151) b 1) n with | true => exact absurd ⟨q, hx⟩ hf | false => rfl) i hi
                rw [bat_t.mpr ⟨q3, q4⟩] at this
                cases this
              · rw [if_neg q] at q4
                have := anyF_no (q := bat (σ.1 151) b 0) (n := n) (by simpa using q) i hi
                rw [bat_t.mpr ⟨q3, q4⟩] at this
                cases this
            generalize hP : lowF (σ.1 151) b n = P at hl01 hfree
            rw [if_neg (by rcases hl01 with q | q <;> rw [q] <;> decide)]
            dsimp only
            have hc : ∀ q, q ≠ iO 0 j → (pu (pu (keepM σ f z n m) (iO 0 j) 3 b) (iO 0 j) 4 P).1 q = (keepM σ f z n m).1 q := fun q hq => by rw [pu_ne _ hq, pu_ne _ hq]
            have hc2 : ∀ q, q < 6 ∨ 30 ≤ q → (pu (pu (keepM σ f z n m) (iO 0 j) 3 b) (iO 0 j) 4 P).1 q = (keepM σ f z n m).1 q := fun q hq => hc q (by unfold iO; omega)
            rw [keep_151 h1 hc2, if_neg ho, if_neg hb, if_neg hs, if_neg hk, if_neg (fun x => by
              rw [m6] at x
              by_cases q0 : anyF (bat (σ.1 151) b 0) n = true
              · rw [if_pos q0, if_neg (fun q1 => hf ⟨q0, q1⟩)] at x
                exact absurd x (by decide)
              · rw [if_neg q0] at x
                split at x <;> exact absurd x (by decide))]
            dsimp only
            have eK : (keepM σ f z n m).1 (iO 0 j) = σ.1 (iO 0 j) := keep_lo h1 (by unfold iO; omega) (by unfold iO; omega)
            have hR : ∀ q, (∀ p, 2 ≤ p → p < 5 → q ≠ 73 + 42 * j + p) → mSitR (σ.1 151) j n b q = σ.1 151 q := fun q hq => by
              unfold mSitR
              rw [upd_n _ _ _ _ (hq 4 (by decide) (by decide)), upd_n _ _ _ _ (hq 3 (by decide) (by decide))]
            have m4 : mo (mSitR (σ.1 151) j n b) j 4 = P := by rw [← hP]; exact upd_s _ _ _
            have m3 : mo (mSitR (σ.1 151) j n b) j 3 = b := (upd_n _ _ _ _ (by omega)).trans (upd_s _ _ _)
            have mj : ∀ p, p < 42 → p ≠ 3 → p ≠ 4 → mo (mSitR (σ.1 151) j n b) j p = mo (σ.1 151) j p := fun p hp h3 h4 => (upd_n _ _ _ _ (by omega)).trans (upd_n _ _ _ _ (by omega))
            have mi : ∀ i, i ≠ j → ∀ p, p < 42 → mo (mSitR (σ.1 151) j n b) i p = mo (σ.1 151) i p := fun i hi p hp => (upd_n _ _ _ _ (by omega)).trans (upd_n _ _ _ _ (by omega))
            have mp2 : ∀ i, mo (mSitR (σ.1 151) j n b) i 2 = mo (σ.1 151) i 2 := fun i => (upd_n _ _ _ _ (by omega)).trans (upd_n _ _ _ _ (by omega))
            obtain ⟨p, p1, p2⟩ := mG_pus h1.2.1
            have b1 := h1.2.2
            have pk := P1_keep (f := f) (z := z) h1
            have RL : rel (pu (pu (keepM σ f z n m) (iO 0 j) 3 b) (iO 0 j) 4 P) 0 (mSitR (σ.1 151) j n b) n m := by
              refine rel_or pk.1 hj hc rfl hR (fun p hp h4 => ?_) (fun x => ?_)
              · rw [pu_upd, upd_n _ _ _ _ h4, pu_upd, eK]
                by_cases e3 : p = 3
                · rw [e3, upd_s, m3]
                · rw [upd_n _ _ _ _ e3, h1.O hj hp h4, mj p (by omega) e3 h4]
              · rw [pu_upd, upd_s, m4]
            refine ⟨sumF_cg (fun i hi => by rw [(RL.2.2.2.1 i hi).1 3 (by decide) (by decide)]), D_go (c := pu (pu (keepM σ f z n m) (iO 0 j) 3 b) (iO 0 j) 4 P) h1 h2 h3 hc2 (fun s hs => rfl) (fun q a b => puR_ne _ a) (by show (mrec _ _).2 = _; rw [mrec_2]) (n' := n) (m' := m) ?_⟩
            rw [puR_self]
            refine sT_up ⟨RL, mG_or h1.2.1 hj hR ⟨p, fun i hi => (mp2 i).trans (p1 i hi), p2⟩, ⟨fun i hi => ?_, fun i i' hi hi' hii hbo eb => ?_⟩⟩ (Nat.le_add_right _ _) (Nat.le_add_right _ _)
            · by_cases e : i = j
              · rw [e, m3, m4]
                exact Or.inr ⟨⟨bb, by omega, eb⟩, hl01⟩
              · rw [mi i e 3 (by decide), mi i e 4 (by decide)]; exact b1.1 i hi
            · by_cases ij : i = j
              · have ij' : i' ≠ j := fun x => hii (by rw [ij, x])
                rw [ij, m3, mi i' ij' 3 (by decide)] at eb
                rw [ij, m4, mi i' ij' 4 (by decide)]
                exact fun x => hfree i' hi' eb.symm x.symm
              · rw [mi i ij 3 (by decide)] at hbo eb
                rw [mi i ij 4 (by decide)]
                by_cases ij' : i' = j
                · rw [ij', m3] at eb
                  rw [ij', m4]
                  exact hfree i hi eb
                · rw [mi i' ij' 3 (by decide)] at eb
                  rw [mi i' ij' 4 (by decide)]
                  exact b1.2 i i' hi hi' hii hbo eb
end MORE
