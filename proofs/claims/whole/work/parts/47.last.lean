/-! class and model: branch, the text, play -/
section LAST
variable {σ : fM} {n m f z t B y : Nat}
theorem eq_branch (h1 : P1 σ n m B y) (h2 : P2 σ f z B y) (h3 : P3 σ t) (hB : B < 2 ^ 24 - 2 ^ 12) (hy : y + 4000 < 2 ^ 24) (a k : Int32) : Eqv (cBranch σ f z n m a k) (fun τ => mBranch τ z n m a k) B y := by
  unfold Eqv cBranch mBranch
  by_cases hw : isA a = false
  · rw [if_pos hw]
    dsimp only
    rw [if_pos hw]
    exact ⟨rfl, up_all h1 h2 h3⟩
  · rw [if_neg hw]
    by_cases hk : wi k 0 1 = false
    · rw [if_pos hk]
      dsimp only
      rw [if_neg hw, if_pos hk]
      exact ⟨rfl, up_all h1 h2 h3⟩
    · rw [if_neg hk]
      dsimp only
      rw [if_neg hw, if_neg hk]
      dsimp only
      obtain ⟨v, hv, ea, ev⟩ := ad_of hw
      have K := P1_keep (f := f) (z := z) h1
      have gs := sT_gst K
      have hc2 : ∀ q, q < 6 ∨ 30 ≤ q → (runM (keepM σ f z n m) 0 n m a k).1 q = (keepM σ f z n m).1 q := fun q hq => run_out a k gs (by omega)
      have hL : ∀ s, 2 ≤ s → (runM (keepM σ f z n m) 0 n m a k).2 (iS s) = (keepM σ f z n m).2 (iS s) := fun s hs => run_2n a k gs (fun x => by have := iS_inj x; omega)
      have e151 := keep_151 h1 hc2
      have R := run_eq (σM := mrec (runM (keepM σ f z n m) 0 n m a k) z) K hB (by omega) hv (wi_01 hk) (by rw [mrec_151, e151])
      rw [← ea] at R
      obtain ⟨r1, r2, r3⟩ := R
      rw [ev]
      refine ⟨r1, D_go (c := runM (keepM σ f z n m) 0 n m a k) h1 h2 h3 hc2 hL (fun q c d => mcM_ne c d) (by rw [mcM_2, mrec_2]) (n' := n) (m' := mcC (mrec (runM (keepM σ f z n m) 0 n m a k) z) n m v k) ?_⟩
      rw [mcM_151]
      exact sT_up r3 (Nat.le_add_right _ _) (by omega)
theorem P2.old (h : P2 σ f z B y) : ∃ n' m' : Nat, 0 < z → sT σ (2 + (f + (z - 1)) % 4) (fun q => σ.1 153 ((z - 1) * 349 + q)) n' m' B y := by
  by_cases hz : 0 < z
  · obtain ⟨a, b, c⟩ := h.2.2 (z - 1) (by omega)
    exact ⟨a, b, fun _ => c⟩
  · exact ⟨0, 0, fun x => absurd x hz⟩
theorem ch_to {c : Int32} (h : ¬ wi c 32 126 = false) : ∃ q, q < 127 ∧ c = nI q := by
  obtain ⟨j, hj, e, -⟩ := wi_to (v := c) (b := 126) (k := 126) (by decide) (by decide) (fun x => h (by
    unfold wi at x ⊢
    have l : ¬ c < 32 → ¬ c < 0 := fun a b => a (Int32.lt_trans b (by decide))
    by_cases c1 : c < 32
    · simp [c1]
    · simpa [c1, l c1] using x))
  exact ⟨j, by omega, e⟩
theorem eq_type (h1 : P1 σ n m B y) (h2 : P2 σ f z B y) (h3 : P3 σ t) (c : Int32) : Eqv (cType σ t c) (fun τ => mType τ t c) B y := by
  obtain ⟨⟨t1, t2, t3⟩, t4, t5⟩ := id h3
  unfold Eqv cType mType
  by_cases hw : wi c 32 126 = false
  · rw [if_pos hw]
    dsimp only
    rw [if_pos hw]
    exact ⟨rfl, up_all h1 h2 h3⟩
  · rw [if_neg hw, t1]
    by_cases h80 : t = 80
    · rw [if_pos (fun x => by rw [h80] at x; exact absurd x (by decide))]
      dsimp only
      rw [if_neg hw, if_pos h80]
      exact ⟨rfl, up_all h1 h2 h3⟩
    · have hlt : nI t < 80 := nI_lt (b := 80) (by omega) (by decide)
      rw [if_neg (Decidable.not_not.mpr hlt)]
      dsimp only
      rw [if_neg hw, if_neg h80]
      dsimp only
      obtain ⟨q, hq, eq⟩ := ch_to hw
      have e : ∀ k, k ≠ 4 → k ≠ 3 → k ≠ 154 → k ≠ 150 → (pu (pu (pu (pu σ 4 t c) 3 2 (nI (t + 1))) 154 t c) 150 5 (nI (t + 1))).1 k = σ.1 k := fun k a1 a2 a3 a4 => by rw [pu_ne _ a4, pu_ne _ a3, pu_ne _ a2, pu_ne _ a1]
      refine ⟨rfl, up_all (n := n) (m := m) (f := f) (z := z) (t := t + 1) (P1_cg (fun q a b => e q (by omega) (by omega) (by omega) (by omega)) rfl (fun q hq => by rw [e 151 (by decide) (by decide) (by decide) (by decide)]) h1) (P2_cg (e 1 (by decide) (by decide) (by decide) (by decide)) ?_ (fun q a b => e q (by omega) (by omega) (by omega) (by omega)) (fun _ _ => rfl) (e 153 (by decide) (by decide) (by decide) (by decide)) h2) ⟨⟨?_, by omega, fun j hj => ?_⟩, m150_s, fun j hj => ?_⟩⟩
      · rw [m150_n (by decide), pu_ne _ (by decide), pu_ne _ (by decide), pu_ne _ (by decide)]
      · rw [pu_ne _ (by decide), pu_ne _ (by decide), pu_upd, upd_s]
      · rw [pu_ne _ (by decide), pu_ne _ (by decide), pu_ne _ (by decide), pu_upd]
        by_cases ej : j = t
        · rw [ej, upd_s]; exact ⟨q, hq, eq⟩
        · rw [upd_n _ _ _ _ ej]; exact t3 j (by omega)
      · rw [pu_ne _ (by decide), pu_upd, pu_ne _ (by decide), pu_ne _ (by decide), pu_ne (k := 150) _ (by decide), pu_ne (k := 154) _ (by decide), pu_ne (k := 3) _ (by decide), pu_upd]
        by_cases ej : j = t
        · rw [ej, upd_s, upd_s]
        · rw [upd_n _ _ _ _ ej, upd_n _ _ _ _ ej]; exact t5 j (by omega)
theorem eq_clear (h1 : P1 σ n m B y) (h2 : P2 σ f z B y) (h3 : P3 σ t) : Eqv (cClear σ) (fun τ => mClear τ) B y := by
  obtain ⟨⟨t1, t2, t3⟩, t4, t5⟩ := id h3
  unfold Eqv cClear mClear
  dsimp only
  have e : ∀ k, k ≠ 3 → k ≠ 150 → (pu (pu σ 3 2 0) 150 5 0).1 k = σ.1 k := fun k a1 a2 => by rw [pu_ne _ a2, pu_ne _ a1]
  refine ⟨by rw [t1, pu_ne _ (by decide), t4], up_all (n := n) (m := m) (f := f) (z := z) (t := 0) (P1_cg (fun q a b => e q (by omega) (by omega)) rfl (fun q hq => by rw [e 151 (by decide) (by decide)]) h1) (P2_cg (e 1 (by decide) (by decide)) ?_ (fun q a b => e q (by omega) (by omega)) (fun _ _ => rfl) (e 153 (by decide) (by decide)) h2) ⟨⟨?_, by omega, fun j hj => absurd hj (Nat.not_lt_zero j)⟩, m150_s, fun j hj => absurd hj (Nat.not_lt_zero j)⟩⟩
  · rw [m150_n (by decide), pu_ne _ (by decide)]
  · rw [pu_ne _ (by decide), pu_upd, upd_s]; rfl
theorem psQ_t {g : Nat → Int32} {i : Nat} (hp : psQ g t i = true) (hl : ps g i < t) : ¬ pR g (ps g i) = 0 := by
  unfold psQ at hp
  simp only [Bool.or_eq_true, decide_eq_true_eq, Bool.not_eq_true', decide_eq_false_iff_not] at hp
  exact hp.resolve_left (by omega)
theorem hf_sp {g : Nat → Int32} (ht : t ≤ 80) (h : hasF g t = true) : ¬ pR g (ps g (fti g t)) = 0 := by
  unfold hasF at h
  have hl : ps g (fti g t) < t := of_decide_eq_true h
  unfold fti at hl ⊢
  by_cases q : fstF (psQ g t) 81 < 81
  · exact psQ_t (fstF_hit q) hl
  · exfalso
    have e : fstF (psQ g t) 81 = 81 := by have := fstF_le (psQ g t) 81; omega
    have := ps_ge e
    rw [e] at hl
    omega
theorem Kv_text {τ : fM} (h1 : P1 σ n m B y) (h2 : P2 σ f z B y) (h3 : P3 σ t) (e : ∀ k, k ≠ 3 → k ≠ 5 → k ≠ 150 → τ.1 k = σ.1 k) (e2 : τ.2 = σ.2) (e3 : τ.1 3 2 = σ.1 3 2) (e5 : ∀ j, j < 10 → τ.1 150 j = σ.1 150 j) : Kv τ (B + 10000) (y + 4000) :=
  up_all (P1_cg (fun q a b => e q (by omega) (by omega) (by omega)) (by rw [e2]) (fun q hq => by rw [e 151 (by decide) (by decide) (by decide)]) h1)
    (P2_cg (e 1 (by decide) (by decide) (by decide)) (e5 3 (by decide)) (fun q a b => e q (by omega) (by omega) (by omega)) (fun s hs => by rw [e2]) (e 153 (by decide) (by decide) (by decide)) h2)
    (P3_cg e3 (e 4 (by decide) (by decide) (by decide)) (e5 5 (by decide)) (e 154 (by decide) (by decide) (by decide)) h3)
theorem P3_hfR (h3 : P3 σ t) : P3 (hfR σ t) t ∧ chm (hfR σ t) t = chr σ t := by
  obtain ⟨a1, a2, a3⟩ := hfR_o σ t
  have k : P3 (hfR σ t) t := P3_cg a3 (a2 4 (by decide) (by decide)) (by rw [a2 150 (by decide) (by decide)]) (a2 154 (by decide) (by decide)) h3
  exact ⟨k, (P3_ch k).trans (hfR_tx h3.1).2⟩
theorem Kv_hf (h1 : P1 σ n m B y) (h2 : P2 σ f z B y) (h3 : P3 σ t) : Kv (puR (hfR σ t) 150 (mhfR ((hfR σ t).1 150) (chm (hfR σ t) t) t)) (B + 10000) (y + 4000) := by
  obtain ⟨a1, a2, a3⟩ := hfR_o σ t
  refine Kv_text h1 h2 h3 (fun k b1 b2 b3 => by rw [puR_ne _ b3, a2 k b1 b2]) a1 (by rw [puR_ne _ (by decide)]; exact a3) (fun j hj => ?_)
  rw [puR_self, mhfR_n (by omega), a2 150 (by decide) (by decide)]
theorem pC_eq (g : Nat → Int32) (p : Nat) : pC g p = if pF g p = false then nI (pE g p) - nI p else crC (pW g p) (pV1 g p) (pV2 g p) := by
  unfold pC
  cases hF : pF g p with
  | true => rw [if_pos rfl, if_neg (by decide)]
  | false =>
    rw [if_neg (by decide), if_pos rfl]
    have e : pE g p = pB g p := by unfold pE; rw [hF, if_neg (by decide)]
    rw [e]
    by_cases hw : pW g p = -1
    · rw [if_pos hw]
      unfold pB
      rw [if_pos hw, Int32.sub_self]
    · rw [if_neg hw]
theorem hf_vals (h3 : P3 σ t) (hf : hasF (chr σ t) t = true) (f : Nat → Int32) : (hfR σ t).1 3 3 = mhfR f (chr σ t) t 10 ∧ (hfR σ t).1 3 6 = mhfR f (chr σ t) t 15 ∧ (hfR σ t).1 3 7 = mhfR f (chr σ t) t 16 := by
  have hn := hf_sp h3.1.2.1 hf
  unfold hfR mhfR
  rw [if_pos hf, if_pos hf, hfM_s]
  have ho := (roM_o (hfM σ t (fti (chr σ t) t)) t (ps (chr σ t) (fti (chr σ t) t))).1
  rw [(hfM_tx h3.1 _).2] at ho
  obtain ⟨-, -, -, o3, -, -, o6, o7⟩ := ho
  rw [o3, o6, o7]
  obtain ⟨-, -, -, -, v5, v6⟩ := mroR_v (mhR f (chr σ t) (fti (chr σ t) t)) (chr σ t) (ps (chr σ t) (fti (chr σ t) t))
  rw [v5, v6 hn (Or.inr trivial), mroR_n (by decide), mhR_10]
  refine ⟨rfl, rfl, ?_⟩
  exact pC_eq _ _
theorem eq_fault (h1 : P1 σ n m B y) (h2 : P2 σ f z B y) (h3 : P3 σ t) (w : Int32) : Eqv (cFault σ t w) (fun τ => mFault τ t w) B y := by
  unfold Eqv cFault mFault
  by_cases hw : wi w 0 2 = false
  · rw [if_pos hw]
    dsimp only
    rw [if_pos hw]
    exact ⟨rfl, up_all h1 h2 h3⟩
  · rw [if_neg hw]
    by_cases hf : hasF (chr σ t) t = false
    · rw [if_pos hf]
      dsimp only
      rw [if_neg hw, (P3_hfR h3).2, if_pos hf]
      refine ⟨rfl, ?_⟩
      rw [← (P3_hfR h3).2]
      exact Kv_hf h1 h2 h3
    · rw [if_neg hf]
      dsimp only
      rw [if_neg hw, (P3_hfR h3).2, if_neg hf]
      dsimp only
      obtain ⟨v0, v1, v2⟩ := hf_vals h3 (by simpa using hf) ((hfR σ t).1 150)
      refine ⟨?_, by rw [← (P3_hfR h3).2]; exact Kv_hf h1 h2 h3⟩
      obtain ⟨j, hj, ew, e⟩ := wi_to (k := 2) (by decide) (by decide) hw
      rw [e, ew]
      rcases (show j = 0 ∨ j = 1 ∨ j = 2 by omega) with rfl | rfl | rfl
      · exact v0
      · exact v1
      · exact v2
end LAST
