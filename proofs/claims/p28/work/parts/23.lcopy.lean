/-! the law's copy -/
theorem cpy_s (f g : Nat → Int32) (i : Nat) : upd (cpy f g i) i (f i) = cpy f g (i + 1) := by
  funext j
  unfold upd cpy
  by_cases h : j = i
  · rw [if_pos h, if_pos (by omega), h]
  · rw [if_neg h]
    by_cases h2 : j < i
    · rw [if_pos h2, if_pos (by omega)]
    · rw [if_neg h2, if_neg (by omega)]
theorem cpy_0 (f g : Nat → Int32) : cpy f g 0 = g := by
  funext j
  unfold cpy
  rw [if_neg (Nat.not_lt_zero j)]
theorem cpy_lt {f g : Nat → Int32} {n j : Nat} (h : j < n) : cpy f g n j = f j := if_pos h

set_option maxRecDepth 100000 in
set_option maxHeartbeats 4000000 in
theorem ct_L_copy {l : Launch} {X : fX} {σ : fM} {k0 k1 n : Nat} (hk0 : k0 < nX X) (hk1 : k1 < nX X) (hne : k0 ≠ k1) (hn : n < 2 ^ 20) (he0 : ∀ row e, enc X k0 row e = .inl (X.2.2.1 0, n, .inl row)) (he1 : ∀ row e, enc X k1 row e = .inl (X.2.2.1 0, n, .inl row)) : Ct l X yL_copy cL_copy 3 none 0 [ra X k0, ra X k1] σ none (puR σ k1 (cpy (σ.1 k0) (σ.1 k1) n)) := by
  refine Ct.of RL rfl (by decide) (Nat.le_of_ble_eq_true rfl) ?_
  intro x hL h hr
  refine g_sub [(0, ra X k0), (1, ra X k1)] ⟨rfl, rfl, trivial⟩ ?_
  have LOOP : ∀ (q i : Nat), i + q = n → G x X (puR σ k1 (cpy (σ.1 k0) (σ.1 k1) i)) [(0, ra X k0), (1, ra X k1), (2, .int (nI i))] [] 2 := by
    intro q
    induction q with
    | zero =>
      intro i hi 
      have hie : i = n := by omega
      rw [hie]
      refine g_iload_n h dL_copy_2 rfl ?_
      refine g_aload_n h dL_copy_3 rfl ?_
      refine g_alen h hk0 he0 (t := 0) rfl dL_copy_4 ?_
      refine g_icge h 20 dL_copy_5 (by decide) (fun c5 => ?_) (fun c5 => absurd (Int32.le_refl _) c5)
      exact g_vret h hr dL_copy_20 rfl
    | succ q ih =>
      intro i hi 
      have hlt : i < n := by omega
      refine g_iload_n h dL_copy_2 rfl ?_
      refine g_aload_n h dL_copy_3 rfl ?_
      refine g_alen h hk0 he0 (t := 0) rfl dL_copy_4 ?_
      refine g_icge h 20 dL_copy_5 (by decide) (fun c5 => absurd c5 (nI_ge hlt (by omega))) (fun c5 => ?_)
      refine g_aload_n h dL_copy_8 rfl ?_
      refine g_iload_n h dL_copy_9 rfl ?_
      refine g_aload_n h dL_copy_10 rfl ?_
      refine g_iload_n h dL_copy_11 rfl ?_
      refine g_ialdN h (k := k0) hk0 he0 rfl hlt (by omega) dL_copy_12 ?_
      rw [puR_ne _ hne]
      refine g_iastN h (k := k1) hk1 he1 rfl hlt (by omega) dL_copy_13 ?_
      refine g_iincN h dL_copy_14 rfl (by rw [hL]; decide) ?_
      refine g_goto h 2 dL_copy_17 (by decide) ?_
      refine g_mem (puR σ k1 (cpy (σ.1 k0) (σ.1 k1) (i + 1))) (by rw [pu_puR, puR_puR, puR_self, cpy_s]) ?_
      refine g_sub [(0, ra X k0), (1, ra X k1), (2, .int (nI (i + 1)))] ⟨rfl, rfl, rfl, trivial⟩ ?_
      exact ih (i + 1) (by omega)
  refine g_iconst (v := nI 0) h dL_copy_0 (by decide) ?_
  refine g_istore_n h dL_copy_1 (by rw [hL]; decide) ?_
  refine g_mem (puR σ k1 (cpy (σ.1 k0) (σ.1 k1) 0)) (by rw [cpy_0, puR_id]) ?_
  refine g_sub [(0, ra X k0), (1, ra X k1), (2, .int (nI 0))] ⟨rfl, rfl, rfl, trivial⟩ ?_
  exact LOOP n 0 (by omega)
