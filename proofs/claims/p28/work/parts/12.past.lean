/-! copies of states, the history of changes -/
def cpyO (s s2 : Nat) (σ : fM) : Nat → fM
  | 0 => σ
  | i + 1 => let τ := cpyO s s2 σ i
    puR (puR τ (iO s i) (oCopy (τ.1 (iO s2 i)) (τ.1 (iO s i)))) (iT s i) (cpy (τ.1 (iT s2 i)) (τ.1 (iT s i)) 32)
def cpyL (s s2 : Nat) (σ : fM) : Nat → fM
  | 0 => σ
  | i + 1 => let τ := cpyL s s2 σ i
    puR τ (iL s i) (lCopy (τ.1 (iL s2 i)) (τ.1 (iL s i)))
theorem cpyO_ne {s s2 : Nat} {σ : fM} {k : Nat} : ∀ {i : Nat}, (∀ j, j < i → iO s j ≠ k ∧ iT s j ≠ k) → (cpyO s s2 σ i).1 k = σ.1 k
  | 0, _ => rfl
  | i + 1, h => by
    have h1 := h i (Nat.lt_succ_self i)
    show (puR (puR (cpyO s s2 σ i) _ _) _ _).1 k = _
    rw [puR_ne _ h1.2.symm, puR_ne _ h1.1.symm]
    exact cpyO_ne (fun j hj => h j (Nat.lt_succ_of_lt hj))
theorem cpyL_ne {s s2 : Nat} {σ : fM} {k : Nat} : ∀ {i : Nat}, (∀ j, j < i → iL s j ≠ k) → (cpyL s s2 σ i).1 k = σ.1 k
  | 0, _ => rfl
  | i + 1, h => by
    have h1 := h i (Nat.lt_succ_self i)
    show (puR (cpyL s s2 σ i) _ _).1 k = _
    rw [puR_ne _ h1.symm]
    exact cpyL_ne (fun j hj => h j (Nat.lt_succ_of_lt hj))
def copyM (σ : fM) (s s2 n m : Nat) : fM :=
  let σ1 := cpyO s s2 (pu σ (iS s) 3 (σ.1 (iS s2) 3)) n
  let σ2 := cpyL s s2 (pu σ1 (iS s) 4 (σ1.1 (iS s2) 4)) m
  let σ3 := puR σ2 (iSet s) (cpy (σ2.1 (iSet s2)) (σ2.1 (iSet s)) 3)
  let σ4 := pu σ3 (iS s) 5 (σ3.1 (iS s2) 5)
  let σ5 := pu σ4 (iS s) 6 (σ4.1 (iS s2) 6)
  let σ6 := pu σ5 (iS s) 7 (σ5.1 (iS s2) 7)
  let σ7 := pu σ6 (iS s) 8 (σ6.1 (iS s2) 8)
  puL σ7 (iS s) (σ7.2 (iS s2))

set_option maxRecDepth 100000 in
set_option maxHeartbeats 4000000 in
theorem ct_X3_copyFrom {l : Launch} {X : fX} {σ : fM} {s s2 n m : Nat} (hs : s < 6) (hs2 : s2 < 6) (hss : s2 ≠ s) (hc : cnt σ s2 n m) : Ct l X yX3_copyFrom cX3_copyFrom 3 none 2 [ra X (iS s), ra X (iS s2)] σ none (copyM σ s s2 n m) := by
  refine Ct.of RX3 rfl (by decide) (Nat.le_of_ble_eq_true rfl) ?_
  intro x hL h hr
  refine g_sub [(0, ra X (iS s)), (1, ra X (iS s2))] ⟨rfl, rfl, trivial⟩ ?_
  obtain ⟨hn, hm, hn6, hm8⟩ := id hc
  have LOOP2 : ∀ (q i : Nat), i + q = m → G x X (cpyL s s2 (pu (cpyO s s2 (pu σ (iS s) 3 (σ.1 (iS s2) 3)) n) (iS s) 4 ((cpyO s s2 (pu σ (iS s) 3 (σ.1 (iS s2) 3)) n).1 (iS s2) 4)) i) [(0, ra X (iS s)), (1, ra X (iS s2)), (2, .int (nI i))] [] 49 := by
    intro q
    induction q with
    | zero =>
      intro i hi 
      have hie : i = m := by omega
      rw [hie]
      have hmi : (cpyL s s2 (pu (cpyO s s2 (pu σ (iS s) 3 (σ.1 (iS s2) 3)) n) (iS s) 4 ((cpyO s s2 (pu σ (iS s) 3 (σ.1 (iS s2) 3)) n).1 (iS s2) 4)) m).1 (iS s) 4 = nI m := by rw [cpyL_ne (fun j hj => iL_S s j s (by omega)), pu_puR, puR_self, upd_s, cpyO_ne (fun j hj => ⟨iO_S s j s2 (by omega), iT_S s j s2 (by omega)⟩), pu_ne _ (by unfold iS; omega)]; exact hm
      refine g_iload_n h dX3_copyFrom_49 rfl ?_
      refine g_aload_n h dX3_copyFrom_50 rfl ?_
      refine gf3_40 h (by omega) dX3_copyFrom_51 ?_
      refine g_icge h 78 dX3_copyFrom_54 (by decide) (fun c54 => ?_) (fun c54 => absurd (by rw [hmi]; exact Int32.le_refl _) c54)
      refine g_aload_n h dX3_copyFrom_78 rfl ?_
      refine gf3_25 h (by omega) dX3_copyFrom_79 ?_
      refine g_iconst (v := 0) h dX3_copyFrom_82 (by decide) ?_
      refine g_aload_n h dX3_copyFrom_83 rfl ?_
      refine gf3_25 h (by omega) dX3_copyFrom_84 ?_
      refine g_iconst (v := 0) h dX3_copyFrom_87 (by decide) ?_
      refine g_iconst (v := 3) h dX3_copyFrom_88 (by decide) ?_
      refine g_copy h (k0 := iSet s2) (k1 := iSet s) (n := 3) (lw_in 240 (by decide +kernel) rfl) (iSet_lt hs2) (iSet_lt hs) (enc_Set X hs2) (enc_Set X hs) nI_0.symm nI_0.symm (by decide) (Nat.le_refl _) (Nat.le_refl _) (by decide) dX3_copyFrom_89 (by decide) (Nat.le_of_ble_eq_true rfl) ?_
      refine g_aload_n h dX3_copyFrom_92 rfl ?_
      refine g_aload_n h dX3_copyFrom_93 rfl ?_
      refine gf3_52 h (by omega) dX3_copyFrom_94 ?_
      refine gp3_52 h (by omega) dX3_copyFrom_97 ?_
      refine g_aload_n h dX3_copyFrom_100 rfl ?_
      refine g_aload_n h dX3_copyFrom_101 rfl ?_
      refine gf3_55 h (by omega) dX3_copyFrom_102 ?_
      refine gp3_55 h (by omega) dX3_copyFrom_105 ?_
      refine g_aload_n h dX3_copyFrom_108 rfl ?_
      refine g_aload_n h dX3_copyFrom_109 rfl ?_
      refine gf3_58 h (by omega) dX3_copyFrom_110 ?_
      refine gp3_58 h (by omega) dX3_copyFrom_113 ?_
      refine g_aload_n h dX3_copyFrom_116 rfl ?_
      refine g_aload_n h dX3_copyFrom_117 rfl ?_
      refine gf3_61 h (by omega) dX3_copyFrom_118 ?_
      refine gp3_61 h (by omega) dX3_copyFrom_121 ?_
      refine g_aload_n h dX3_copyFrom_124 rfl ?_
      refine g_aload_n h dX3_copyFrom_125 rfl ?_
      refine gf3_64 h (by omega) dX3_copyFrom_126 ?_
      refine gp3_64 h (by omega) dX3_copyFrom_129 ?_
      exact g_vret h hr dX3_copyFrom_132 rfl
    | succ q ih =>
      intro i hi 
      have hlt : i < m := by omega
      have hmi : (cpyL s s2 (pu (cpyO s s2 (pu σ (iS s) 3 (σ.1 (iS s2) 3)) n) (iS s) 4 ((cpyO s s2 (pu σ (iS s) 3 (σ.1 (iS s2) 3)) n).1 (iS s2) 4)) i).1 (iS s) 4 = nI m := by rw [cpyL_ne (fun j hj => iL_S s j s (by omega)), pu_puR, puR_self, upd_s, cpyO_ne (fun j hj => ⟨iO_S s j s2 (by omega), iT_S s j s2 (by omega)⟩), pu_ne _ (by unfold iS; omega)]; exact hm
      generalize hτ : (cpyL s s2 (pu (cpyO s s2 (pu σ (iS s) 3 (σ.1 (iS s2) 3)) n) (iS s) 4 ((cpyO s s2 (pu σ (iS s) 3 (σ.1 (iS s2) 3)) n).1 (iS s2) 4)) i) = τ at hmi ⊢
      refine g_iload_n h dX3_copyFrom_49 rfl ?_
      refine g_aload_n h dX3_copyFrom_50 rfl ?_
      refine gf3_40 h (by omega) dX3_copyFrom_51 ?_
      refine g_icge h 78 dX3_copyFrom_54 (by decide) (fun c54 => absurd c54 (by rw [hmi]; exact nI_ge hlt (by omega))) (fun c54 => ?_)
      refine g_aload_n h dX3_copyFrom_57 rfl ?_
      refine gf3_20 h (by omega) dX3_copyFrom_58 ?_
      refine g_iload_n h dX3_copyFrom_61 rfl ?_
      refine g_aaldL h (by omega) rfl (by omega) dX3_copyFrom_62 ?_
      refine g_aload_n h dX3_copyFrom_63 rfl ?_
      refine gf3_20 h (by omega) dX3_copyFrom_64 ?_
      refine g_iload_n h dX3_copyFrom_67 rfl ?_
      refine g_aaldL h (by omega) rfl (by omega) dX3_copyFrom_68 ?_
      refine cl3_43 h hs (by omega) (ct_X0_copyFrom hs (by omega) hs2 (by omega) (by unfold iL; omega)) rfl dX3_copyFrom_69 rfl (Nat.le_of_ble_eq_true rfl) (by decide) ?_
      refine g_iincN h dX3_copyFrom_72 rfl (by rw [hL]; decide) ?_
      refine g_goto h 49 dX3_copyFrom_75 (by decide) ?_
      exact g_mem (cpyL s s2 (pu (cpyO s s2 (pu σ (iS s) 3 (σ.1 (iS s2) 3)) n) (iS s) 4 ((cpyO s s2 (pu σ (iS s) 3 (σ.1 (iS s2) 3)) n).1 (iS s2) 4)) (i + 1)) (by rw [← hτ]; rfl) (g_sub [(0, ra X (iS s)), (1, ra X (iS s2)), (2, .int (nI (i + 1)))] ⟨rfl, rfl, rfl, trivial⟩ (ih (i + 1) (by omega)))
  have LOOP1 : ∀ (q i : Nat), i + q = n → G x X (cpyO s s2 (pu σ (iS s) 3 (σ.1 (iS s2) 3)) i) [(0, ra X (iS s)), (1, ra X (iS s2)), (2, .int (nI i))] [] 10 := by
    intro q
    induction q with
    | zero =>
      intro i hi 
      have hie : i = n := by omega
      rw [hie]
      have hni : (cpyO s s2 (pu σ (iS s) 3 (σ.1 (iS s2) 3)) n).1 (iS s) 3 = nI n := by rw [cpyO_ne (fun j hj => ⟨iO_S s j s (by omega), iT_S s j s (by omega)⟩), pu_puR, puR_self, upd_s]; exact hn
      refine g_iload_n h dX3_copyFrom_10 rfl ?_
      refine g_aload_n h dX3_copyFrom_11 rfl ?_
      refine gf3_32 h (by omega) dX3_copyFrom_12 ?_
      refine g_icge h 39 dX3_copyFrom_15 (by decide) (fun c15 => ?_) (fun c15 => absurd (by rw [hni]; exact Int32.le_refl _) c15)
      refine g_aload_n h dX3_copyFrom_39 rfl ?_
      refine g_aload_n h dX3_copyFrom_40 rfl ?_
      refine gf3_40 h (by omega) dX3_copyFrom_41 ?_
      refine gp3_40 h (by omega) dX3_copyFrom_44 ?_
      refine g_iconst (v := 0) h dX3_copyFrom_47 (by decide) ?_
      refine g_istore_n h dX3_copyFrom_48 (by rw [hL]; decide) ?_
      refine g_sub [(0, ra X (iS s)), (1, ra X (iS s2)), (2, .int (nI 0))] ⟨rfl, rfl, lk_0, trivial⟩ ?_
      exact LOOP2 m 0 (by omega)
    | succ q ih =>
      intro i hi 
      have hlt : i < n := by omega
      have hni : (cpyO s s2 (pu σ (iS s) 3 (σ.1 (iS s2) 3)) i).1 (iS s) 3 = nI n := by rw [cpyO_ne (fun j hj => ⟨iO_S s j s (by omega), iT_S s j s (by omega)⟩), pu_puR, puR_self, upd_s]; exact hn
      generalize hτ : (cpyO s s2 (pu σ (iS s) 3 (σ.1 (iS s2) 3)) i) = τ at hni ⊢
      refine g_iload_n h dX3_copyFrom_10 rfl ?_
      refine g_aload_n h dX3_copyFrom_11 rfl ?_
      refine gf3_32 h (by omega) dX3_copyFrom_12 ?_
      refine g_icge h 39 dX3_copyFrom_15 (by decide) (fun c15 => absurd c15 (by rw [hni]; exact nI_ge hlt (by omega))) (fun c15 => ?_)
      refine g_aload_n h dX3_copyFrom_18 rfl ?_
      refine gf3_11 h (by omega) dX3_copyFrom_19 ?_
      refine g_iload_n h dX3_copyFrom_22 rfl ?_
      refine g_aaldO h (by omega) rfl (by omega) dX3_copyFrom_23 ?_
      refine g_aload_n h dX3_copyFrom_24 rfl ?_
      refine gf3_11 h (by omega) dX3_copyFrom_25 ?_
      refine g_iload_n h dX3_copyFrom_28 rfl ?_
      refine g_aaldO h (by omega) rfl (by omega) dX3_copyFrom_29 ?_
      refine cl3_36 h hs (by omega) (ct_X1_copyFrom hs (by omega) hs2 (by omega) (by unfold iO; omega)) rfl dX3_copyFrom_30 rfl (Nat.le_of_ble_eq_true rfl) (by decide) ?_
      refine g_iincN h dX3_copyFrom_33 rfl (by rw [hL]; decide) ?_
      refine g_goto h 10 dX3_copyFrom_36 (by decide) ?_
      exact g_mem (cpyO s s2 (pu σ (iS s) 3 (σ.1 (iS s2) 3)) (i + 1)) (by rw [← hτ]; rfl) (g_sub [(0, ra X (iS s)), (1, ra X (iS s2)), (2, .int (nI (i + 1)))] ⟨rfl, rfl, rfl, trivial⟩ (ih (i + 1) (by omega)))
  refine g_aload_n h dX3_copyFrom_0 rfl ?_
  refine g_aload_n h dX3_copyFrom_1 rfl ?_
  refine gf3_32 h (by omega) dX3_copyFrom_2 ?_
  refine gp3_32 h (by omega) dX3_copyFrom_5 ?_
  refine g_iconst (v := 0) h dX3_copyFrom_8 (by decide) ?_
  refine g_istore_n h dX3_copyFrom_9 (by rw [hL]; decide) ?_
  refine g_sub [(0, ra X (iS s)), (1, ra X (iS s2)), (2, .int (nI 0))] ⟨rfl, rfl, lk_0, trivial⟩ ?_
  exact LOOP1 n 0 (by omega)

/-- the past: where it begins, how many states it holds -/
def pst (σ : fM) (f z : Nat) : Prop := σ.1 1 1 = nI f ∧ σ.1 1 2 = nI z ∧ f < 4 ∧ z ≤ 4
theorem iS_1 (s : Nat) : iS s ≠ 1 := by unfold iS; omega
theorem copyM_ne {σ : fM} {s s2 n m k : Nat} (hn : n ≤ 6) (hm : m ≤ 8) (h : k < 6 + 24 * s ∨ 30 + 24 * s ≤ k) : (copyM σ s s2 n m).1 k = σ.1 k := by
  have e1 : k ≠ iS s := by unfold iS; omega
  have e2 : k ≠ iSet s := by unfold iSet; omega
  unfold copyM
  dsimp only
  show (pu _ (iS s) 8 _).1 k = _
  rw [pu_ne _ e1, pu_ne _ e1, pu_ne _ e1, pu_ne _ e1, puR_ne _ e2, cpyL_ne (fun j hj => by unfold iL; omega), pu_ne _ e1, cpyO_ne (fun j hj => by unfold iO iT; omega), pu_ne _ e1]
theorem rem4 {z : Nat} (hz : z < 2 ^ 31) : nI z - nI z / 4 * 4 = nI (z % 4) := pk_rem (d := 4) hz (by decide) (by decide)
def keepM (σ : fM) (f z n m : Nat) : fM :=
  let τ := copyM σ (2 + (f + z) % 4) 0 n m
  if z < 4 then pu τ 1 2 (nI (z + 1)) else pu τ 1 1 (nI ((f + 1) % 4))

set_option maxRecDepth 100000 in
set_option maxHeartbeats 4000000 in
theorem ct_X2_keep {l : Launch} {X : fX} {σ : fM} {f z n m : Nat} (hp : pst σ f z) (hc : cnt σ 0 n m) : Ct l X yX2_keep cX2_keep 2 none 3 [ra X 1, ra X (iS 0)] σ none (keepM σ f z n m) := by
  refine Ct.of RX2 rfl (by decide) (Nat.le_of_ble_eq_true rfl) ?_
  intro x hL h hr
  refine g_sub [(0, ra X 1), (1, ra X (iS 0))] ⟨rfl, rfl, trivial⟩ ?_
  obtain ⟨hf, hz, hf4, hz4⟩ := id hp
  obtain ⟨hn, hm, hn6, hm8⟩ := id hc
  refine g_aload_n h dX2_keep_0 rfl ?_
  refine gf2_11 h  dX2_keep_1 ?_
  refine g_aload_n h dX2_keep_4 rfl ?_
  refine gf2_18 h  dX2_keep_5 ?_
  refine g_aload_n h dX2_keep_8 rfl ?_
  refine gf2_22 h  dX2_keep_9 ?_
  refine g_iadd h dX2_keep_12 ?_
  refine g_iconst (v := 4) h dX2_keep_13 (by decide) ?_
  refine g_irem h dX2_keep_14 (by decide) ?_
  refine g_aaldN (f := fun j => iS (2 + j)) h (k := 2) (nX_lt (by decide)) (enc_2 X) rfl (by rw [hf, hz, nI_add]; exact rem4 (by omega)) (by omega) (by decide) dX2_keep_15 ?_
  refine g_aload_n h dX2_keep_16 rfl ?_
  refine cl2_25 h (by omega) (ct_X3_copyFrom (by omega) (by decide) (by omega) hc) rfl dX2_keep_17 rfl (Nat.le_of_ble_eq_true rfl) (by decide) ?_
  refine g_aload_n h dX2_keep_20 rfl ?_
  refine gf2_22 h  dX2_keep_21 ?_
  refine g_iconst (v := 4) h dX2_keep_24 (by decide) ?_
  refine g_icge h 41 dX2_keep_25 (by decide) (fun c25 => ?_) (fun c25 => ?_)
  · simp only [copyM_ne hn6 hm8 (show 1 < 6 + 24 * (2 + (f + z) % 4) ∨ 30 + 24 * (2 + (f + z) % 4) ≤ 1 by omega), hz] at c25
    refine g_aload_n h dX2_keep_41 rfl ?_
    refine g_aload_n h dX2_keep_42 rfl ?_
    refine gf2_18 h  dX2_keep_43 ?_
    refine g_iconst (v := 1) h dX2_keep_46 (by decide) ?_
    refine g_iadd h dX2_keep_47 ?_
    refine g_iconst (v := 4) h dX2_keep_48 (by decide) ?_
    refine g_irem h dX2_keep_49 (by decide) ?_
    refine gp2_18 h  dX2_keep_50 ?_
    exact g_vret h hr dX2_keep_53 (by have e := copyM_ne (σ := σ) (s2 := 0) hn6 hm8 (show 1 < 6 + 24 * (2 + (f + z) % 4) ∨ 30 + 24 * (2 + (f + z) % 4) ≤ 1 by omega); unfold keepM; dsimp only; first | (rw [if_pos (Nat.not_le.mp fun q => c25 (nI_le (b := z) q (by omega))), e, hz, nI_1]; done) | (rw [if_neg (fun q => absurd c25 (nI_ge q (by decide))), e, hf, nI_1, rem4 (by omega)]))
  · simp only [copyM_ne hn6 hm8 (show 1 < 6 + 24 * (2 + (f + z) % 4) ∨ 30 + 24 * (2 + (f + z) % 4) ≤ 1 by omega), hz] at c25
    refine g_aload_n h dX2_keep_28 rfl ?_
    refine g_dup h dX2_keep_29 rfl ?_
    refine gf2_22 h  dX2_keep_30 ?_
    refine g_iconst (v := 1) h dX2_keep_33 (by decide) ?_
    refine g_iadd h dX2_keep_34 ?_
    refine gp2_22 h  dX2_keep_35 ?_
    refine g_goto h 53 dX2_keep_38 (by decide) ?_
    exact g_vret h hr dX2_keep_53 (by have e := copyM_ne (σ := σ) (s2 := 0) hn6 hm8 (show 1 < 6 + 24 * (2 + (f + z) % 4) ∨ 30 + 24 * (2 + (f + z) % 4) ≤ 1 by omega); unfold keepM; dsimp only; first | (rw [if_pos (Nat.not_le.mp fun q => c25 (nI_le (b := z) q (by omega))), e, hz, nI_1]; done) | (rw [if_neg (fun q => absurd c25 (nI_ge q (by decide))), e, hf, nI_1, rem4 (by omega)]))