/-! the beginning: settings and oracles -/
def sor (O : Nat → Int32) (i : Nat) : Prop := (∃ c : Nat, c ≤ 4 ∧ O (10 * i) = nI c) ∧ (∃ n : Nat, n ≤ 3 ∧ O (10 * i + 1) = nI n) ∧ (O (10 * i) = 0 → O (10 * i + 1) = 0 ∨ O (10 * i + 1) = 1) ∧ O (10 * i + 3) = -1 ∧ (∃ p : Nat, p ≤ 199 ∧ O (10 * i + 2) = nI p) ∧ O (10 * i + 4) = 0 ∧ O (10 * i + 5) = 0 ∧ O (10 * i + 6) = 0 ∧ O (10 * i + 7) = 0
def su (σ : fM) (Q O : Nat → Int32) (n : Nat) : Prop := cnt σ 0 n 0 ∧ (σ.1 (iS 0) 5 = 0 ∧ σ.1 (iS 0) 6 = 0 ∧ σ.1 (iS 0) 7 = 0 ∧ σ.1 (iS 0) 8 = 0) ∧ (∀ j, j < 3 → σ.1 (iSet 0) j = Q j) ∧
  (∀ i, i < n → sor O i ∧ (∀ p, p < 4 → σ.1 (iO 0 i) p = O (10 * i + p)) ∧ (∀ p, 4 ≤ p → p < 8 → σ.1 (iO 0 i) (p + 1) = O (10 * i + p)) ∧ ∀ q, q < 8 → σ.1 (iT 0 i) q = 1) ∧ ∃ f z, pst σ f z
section SU
variable {σ τ : fM} {Q O T V : Nat → Int32} {n f z : Nat}
theorem sor_cg {O' : Nat → Int32} {i : Nat} (e : ∀ j, 10 * i ≤ j → j < 10 * i + 10 → O' j = O j) (h : sor O i) : sor O' i := by
  unfold sor
  rw [e (10 * i) (by omega) (by omega), e (10 * i + 1) (by omega) (by omega), e (10 * i + 2) (by omega) (by omega), e (10 * i + 3) (by omega) (by omega), e (10 * i + 4) (by omega) (by omega), e (10 * i + 5) (by omega) (by omega), e (10 * i + 6) (by omega) (by omega), e (10 * i + 7) (by omega) (by omega)]
  exact h
theorem su_cg {Q' O' : Nat → Int32} (e : ∀ q, q = 1 ∨ (6 ≤ q ∧ q < 30) → τ.1 q = σ.1 q) (eQ : ∀ j, j < 3 → Q' j = Q j) (eO : ∀ j, j < 10 * n → O' j = O j) (h : su σ Q O n) : su τ Q' O' n := by
  obtain ⟨⟨h1, h2, h3, h4⟩, h5, h6, h7, f, z, h8⟩ := h
  have eS := e (iS 0) (by unfold iS; omega)
  refine ⟨⟨by rw [eS]; exact h1, by rw [eS]; exact h2, h3, h4⟩, by rw [eS]; exact h5, fun j hj => by rw [e (iSet 0) (by unfold iSet; omega), eQ j hj]; exact h6 j hj, fun i hi => ?_, f, z, by unfold pst at h8 ⊢; rw [e 1 (by decide)]; exact h8⟩
  obtain ⟨a, b, c, d⟩ := h7 i hi
  rw [e (iO 0 i) (by unfold iO; omega), e (iT 0 i) (by unfold iT; omega)]
  exact ⟨sor_cg (fun j h1 h2 => eO j (by omega)) a, fun p hp => by rw [eO _ (by omega)]; exact b p hp, fun p p4 p8 => by rw [eO _ (by omega)]; exact c p p4 p8, d⟩
theorem su_gst (h : su σ Q O n) : gst σ 0 n 0 := by
  refine ⟨h.1, fun l hl => absurd hl (Nat.not_lt_zero l), fun i hi => ?_⟩
  obtain ⟨a, b, -⟩ := h.2.2.2.1 i hi
  exact oGood_cg (b 0 (by decide)) (b 1 (by decide)) (oGood_l a.2.1)
theorem su_keep (h : su σ Q O n) (hp : pst σ f z) : su (keepM σ f z n 0) Q O n := by
  have h6 := h.1.2.2.1
  have e : ∀ q, 6 ≤ q → q < 30 → (keepM σ f z n 0).1 q = σ.1 q := fun q a b => keepM_ne h6 (Nat.zero_le _) (by omega) (Or.inl (by omega))
  obtain ⟨⟨h1, h2, h3, h4⟩, h5, h6', h7, -⟩ := h
  have eS := e (iS 0) (by unfold iS; omega) (by unfold iS; omega)
  refine ⟨⟨by rw [eS]; exact h1, by rw [eS]; exact h2, h3, h4⟩, by rw [eS]; exact h5, fun j hj => by rw [e (iSet 0) (by unfold iSet; omega) (by unfold iSet; omega)]; exact h6' j hj, fun i hi => ?_, _, _, keepM_1 h6 (Nat.zero_le _) hp⟩
  rw [e (iO 0 i) (by unfold iO; omega) (by unfold iO; omega), e (iT 0 i) (by unfold iT; omega) (by unfold iT; omega)]
  exact h7 i hi
theorem su_hi (h : su σ Q O n) {q : Nat} (hq : 150 ≤ q) : (keepM σ f z n 0).1 q = σ.1 q := keepM_ne h.1.2.2.1 (Nat.zero_le _) (by omega) (Or.inr hq)
theorem lc_set {w v : Nat} (hw : w < 3) (hv : (w = 0 → 1 ≤ v ∧ v ≤ 50) ∧ (w = 1 → v ≤ 50) ∧ v ≤ 100) (h : su σ Q O n) (hp : pst σ f z) : (cSet σ f z n 0 (nI w) (nI v)).1 = Q w ∧ su (cSet σ f z n 0 (nI w) (nI v)).2 (upd Q w (nI v)) O n ∧ ∀ q, 150 ≤ q → (cSet σ f z n 0 (nI w) (nI v)).2.1 q = σ.1 q := by
  have w1 : wi (nI w) 0 2 = true := wiN (a := 0) (b := 2) (Nat.zero_le _) (by omega) (by decide)
  have w2 : wi (nI v) (sLo w) (sHi w) = true := by
    rcases (show w = 0 ∨ w = 1 ∨ w = 2 by omega) with rfl | rfl | rfl
    · exact wiN (a := 1) (b := 50) (hv.1 rfl).1 (hv.1 rfl).2 (by decide)
    · exact wiN (a := 0) (b := 50) (Nat.zero_le _) (hv.2.1 rfl) (by decide)
    · exact wiN (a := 0) (b := 100) (Nat.zero_le _) hv.2.2 (by decide)
  unfold cSet
  rw [if_neg (tne w1), ix_n (by omega), if_neg (tne w2)]
  have hi : ∀ q, 150 ≤ q → (keepM σ f z n 0).1 q = σ.1 q := fun q hq => su_hi h hq
  have K' := su_keep h hp
  generalize keepM σ f z n 0 = τ at K' hi
  dsimp only
  obtain ⟨⟨h1, h2, h3, h4⟩, h5, h6, h7, f', z', h8⟩ := K'
  have e : ∀ q, q ≠ iSet 0 → (pu τ (iSet 0) w (nI v)).1 q = τ.1 q := fun q hq => pu_ne _ hq
  have eS := e (iS 0) (by unfold iS iSet; omega)
  refine ⟨h6 w hw, ⟨⟨by rw [eS]; exact h1, by rw [eS]; exact h2, h3, h4⟩, by rw [eS]; exact h5, fun j hj => ?_, fun i hi => ?_, f', z', by unfold pst at h8 ⊢; rw [e 1 (by unfold iSet; omega)]; exact h8⟩, fun q hq => by rw [e q (by unfold iSet; omega)]; exact hi q hq⟩
  · rw [pu_upd]
    by_cases c : j = w
    · rw [c, upd_s, upd_s]
    · rw [upd_n _ _ _ _ c, upd_n _ _ _ _ c]; exact h6 j hj
  · rw [e (iO 0 i) (by unfold iO iSet; omega), e (iT 0 i) (by unfold iT iSet; omega)]
    exact h7 i hi
theorem lc_oracle {c u p : Nat} (hn : n < 5) (hs : sor O n) (e0 : O (10 * n) = nI c) (e1 : O (10 * n + 1) = nI u) (e2 : O (10 * n + 2) = nI p) (hc : c ≤ 4) (hu : u ≤ 3) (h0 : c = 0 → u ≤ 1) (h4 : c = 4 → u = 0) (hpp : p ≤ 199) (h : su σ Q O n) (hp : pst σ f z) : (cOracle σ f z n 0 (nI c) (nI u) (nI p)).1 = nI n ∧ su (cOracle σ f z n 0 (nI c) (nI u) (nI p)).2 Q O (n + 1) ∧ ∀ q, 150 ≤ q → (cOracle σ f z n 0 (nI c) (nI u) (nI p)).2.1 q = σ.1 q := by
  have w1 : wi (nI c) 0 4 = true := wiN (a := 0) (b := 4) (Nat.zero_le _) hc (by decide)
  have w2 : wi (nI u) 0 (mostN (nI c)) = true := by
    rcases (show c = 0 ∨ c = 1 ∨ c = 2 ∨ c = 3 ∨ c = 4 by omega) with rfl | rfl | rfl | rfl | rfl
    · exact wiN (a := 0) (b := 1) (Nat.zero_le _) (h0 rfl) (by decide)
    · exact wiN (a := 0) (b := 5) (Nat.zero_le _) (by omega) (by decide)
    · exact wiN (a := 0) (b := 5) (Nat.zero_le _) (by omega) (by decide)
    · exact wiN (a := 0) (b := 5) (Nat.zero_le _) (by omega) (by decide)
    · rw [h4 rfl]; decide
  have w3 : wi (nI p) 0 9999 = true := wiN (a := 0) (b := 9999) (Nat.zero_le _) (by omega) (by decide)
  have w4 : σ.1 (iS 0) 3 < 6 := by rw [h.1.1]; exact nI_lt (b := 6) (by omega) (by decide)
  unfold cOracle
  rw [if_neg (tne w1), if_neg (tne w2), if_neg (tne w3), if_neg (fun q => q w4)]
  have hi : ∀ q, 150 ≤ q → (keepM σ f z n 0).1 q = σ.1 q := fun q hq => su_hi h hq
  have K' := su_keep h hp
  generalize keepM σ f z n 0 = τ at K' hi
  dsimp only
  obtain ⟨⟨h1, h2, h3, h4'⟩, h5, h6, h7, f', z', h8⟩ := K'
  generalize hr : oBegin (τ.1 (iO 0 n)) (nI c) (nI u) (nI p) = row
  generalize ht : (fun q => if q < 32 then (1 : Int32) else τ.1 (iT 0 n) q) = trow
  have eX : ∀ q, q ≠ iO 0 n → q ≠ iT 0 n → q ≠ iS 0 → (pu (puR (puR τ (iO 0 n) row) (iT 0 n) trow) (iS 0) 3 (nI (n + 1))).1 q = τ.1 q := fun q a b c => by rw [pu_ne _ c, puR_ne _ b, puR_ne _ a]
  have eS : (pu (puR (puR τ (iO 0 n) row) (iT 0 n) trow) (iS 0) 3 (nI (n + 1))).1 (iS 0) = upd (τ.1 (iS 0)) 3 (nI (n + 1)) := by rw [pu_upd, puR_ne _ (by unfold iS iT; omega), puR_ne _ (by unfold iS iO; omega)]
  have eO : (pu (puR (puR τ (iO 0 n) row) (iT 0 n) trow) (iS 0) 3 (nI (n + 1))).1 (iO 0 n) = row := by rw [pu_ne _ (by unfold iS iO; omega), puR_ne _ (by unfold iO iT; omega), puR_self]
  have eT : (pu (puR (puR τ (iO 0 n) row) (iT 0 n) trow) (iS 0) 3 (nI (n + 1))).1 (iT 0 n) = trow := by rw [pu_ne _ (by unfold iS iT; omega), puR_self]
  generalize pu (puR (puR τ (iO 0 n) row) (iT 0 n) trow) (iS 0) 3 (nI (n + 1)) = ρ at eX eS eO eT
  obtain ⟨-, -, -, s3, -, s4, s5, s6, s7⟩ := id hs
  refine ⟨rfl, ⟨⟨by rw [eS, upd_s], by rw [eS, upd_n _ _ _ _ (by decide)]; exact h2, by omega, h4'⟩, by rw [eS, upd_n _ _ _ _ (by decide), upd_n _ _ _ _ (by decide), upd_n _ _ _ _ (by decide), upd_n _ _ _ _ (by decide)]; exact h5, fun j hj => by rw [eX (iSet 0) (by unfold iSet iO; omega) (by unfold iSet iT; omega) (by unfold iSet iS; omega)]; exact h6 j hj, fun i hi => ?_, f', z', by unfold pst at h8 ⊢; rw [eX 1 (by unfold iO; omega) (by unfold iT; omega) (by unfold iS; omega)]; exact h8⟩, fun q hq => by rw [eX q (by unfold iO; omega) (by unfold iT; omega) (by unfold iS; omega)]; exact hi q hq⟩
  by_cases ci : i = n
  · subst ci
    refine ⟨hs, fun q hq => ?_, fun q q4 q8 => ?_, fun q hq => ?_⟩
    · rw [eO, ← hr]
      rcases (show q = 0 ∨ q = 1 ∨ q = 2 ∨ q = 3 by omega) with rfl | rfl | rfl | rfl
      · exact e0.symm
      · exact e1.symm
      · exact e2.symm
      · exact s3.symm
    · rw [eO, ← hr]
      rcases (show q = 4 ∨ q = 5 ∨ q = 6 ∨ q = 7 by omega) with rfl | rfl | rfl | rfl
      · exact s4.symm
      · exact s5.symm
      · exact s6.symm
      · exact s7.symm
    · rw [eT, ← ht]
      exact if_pos (by omega)
  · rw [eX (iO 0 i) (by unfold iO; omega) (by unfold iO iT; omega) (by unfold iO iS; omega), eX (iT 0 i) (by unfold iO iT; omega) (by unfold iT; omega) (by unfold iT iS; omega)]
    exact h7 i (by omega)
/-- the play begins -/
theorem su_K {Qc : Nat → Int32} (h : su σ Qc O 5) (eQ : ∀ j, j < 3 → Q j = Qc j) (q0 : ∃ u : Nat, 1 ≤ u ∧ u ≤ 50 ∧ Q 0 = nI u) (q1 : ∃ c : Nat, c ≤ 50 ∧ Q 1 = nI c) (q2 : ∃ c : Nat, c ≤ 100 ∧ Q 2 = nI c) (q3 : Q 3 = 0) (q4 : Q 4 = 0) (q5 : Q 5 = 0) (q6 : Q 6 = 0) (q7 : Q 7 = 0) (hT : ∀ j, j < 40 → T j = 1) : lKv σ Q O T V 0 1000 0 := by
  obtain ⟨h1, ⟨a5, a6, a7, a8⟩, h6, h7, f', z', h8⟩ := h
  refine ⟨⟨h1, q7, ⟨a5.trans q4.symm, a6.trans q3.symm, a7.trans q5.symm, a8.trans q6.symm⟩, fun j hj => (h6 j hj).trans (eQ j hj).symm, fun i hi => ⟨(h7 i hi).2.1, (h7 i hi).2.2.1, fun q hq => ((h7 i hi).2.2.2 q hq).trans (hT _ (by omega)).symm⟩, fun l hl => absurd hl (Nat.not_lt_zero l)⟩, ⟨⟨q0, q1, q2, 0, by decide, q3⟩, fun i hi => ?_, ⟨fun i => ix (O (10 * i + 2)), fun i hi => ?_, ?_⟩, fun l hl => absurd hl (Nat.not_lt_zero l)⟩, ⟨fun i hi hn => absurd (((h7 i hi).2.1 3 (by decide)).trans (h7 i hi).1.2.2.2.1) hn, fun i j hi hj hij hn => absurd (((h7 i hi).2.1 3 (by decide)).trans (h7 i hi).1.2.2.2.1) hn⟩, f', z', h8⟩
  · obtain ⟨b0, b1, b2, b3, b4, b5, b6, b7, b8⟩ := (h7 i hi).1
    exact ⟨b0, b1, b2, Or.inl b3, ⟨0, by decide, b7⟩, ⟨0, 0, Nat.le_refl _, b5, b6⟩, fun q hq => ⟨1, by decide, hT _ (by omega)⟩⟩
  · obtain ⟨-, -, -, -, ⟨p, hp, e⟩, -⟩ := (h7 i hi).1
    show O (10 * i + 2) = nI (ix (O (10 * i + 2)))
    rw [e, ix_n (by omega)]
  · refine Nat.le_trans (sumN_c (c := 199) (fun i hi => ?_)) (by decide)
    obtain ⟨-, -, -, -, ⟨p, hp, e⟩, -⟩ := (h7 i hi).1
    show ix (O (10 * i + 2)) ≤ 199
    rw [e, ix_n (by omega)]
    exact hp
end SU
