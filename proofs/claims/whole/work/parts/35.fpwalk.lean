/-! floats: the walks of the class and the model -/

set_option maxRecDepth 100000 in
set_option maxHeartbeats 4000000 in
theorem ct_X5_bits0 {l : Launch} {X : fX} {σ : fM} {u w cc0 ee0 : Nat} {vv : Int32} (hu : u ≤ w) (hw : w < 2 ^ 24) (hv0 : u = 0 → vv = 0) (hv1 : 0 < u → fOk cc0 ee0 ∧ ee0 ≤ 127 ∧ 80 ≤ ee0 ∧ vv = nI (ee0 * 2 ^ 23 + (cc0 - 2 ^ 23)) ∧ FP.fdiv (FP.i2f (nI u)) (FP.i2f (nI w)) = FV cc0 ee0) : Ct l X yX5_bitsOfQuotient cX5_bitsOfQuotient 5 (some .int) 0 [.int (nI u), .int (nI w)] σ (some (.int vv)) σ := by
  refine Ct.of RX5 rfl (by decide) (Nat.le_of_ble_eq_true rfl) ?_
  intro x hL h hr
  refine g_sub [(0, .int (nI u)), (1, .int (nI w))] ⟨rfl, rfl, trivial⟩ ?_
  refine g_iload_n h dX5_bitsOfQuotient_0 rfl ?_
  refine g_ifle h 8 dX5_bitsOfQuotient_1 (by decide) (fun c1 => ?_) (fun c1 => ?_)
  · have hu0 : u = 0 := by
      rcases Nat.eq_zero_or_pos u with e | e
      · exact e
      · exact absurd c1 (nI_nle e (by omega))
    refine g_iconst (v := 0) h dX5_bitsOfQuotient_8 (by decide) ?_
    exact g_iret h hr dX5_bitsOfQuotient_9 (hv0 hu0).symm rfl
  · have h0 : 0 < u := by
      rcases Nat.eq_zero_or_pos u with e | e
      · exact absurd (by rw [e]; decide) c1
      · exact e
    obtain ⟨hk, hk127, hk80, hV, hdv⟩ := hv1 h0
    have hk7 : fOk cc0 127 := ⟨hk.1, hk.2.1, by decide, by decide⟩
    have LOOP : ∀ (q j : Nat), j + q = (127 - ee0) → G x X σ [(2, .float (FV cc0 (ee0 + j))), (3, .int (nI (127 - j))), (4, .int (nI j))] [] 22 := by
      intro q
      induction q with
      | zero =>
        intro j hj 
        have hie : j = (127 - ee0) := by omega
        rw [hie]
        rw [show ee0 + (127 - ee0) = 127 by omega, show 127 - (127 - ee0) = ee0 by omega]
        refine g_iload h dX5_bitsOfQuotient_22 rfl ?_
        refine g_bipush (v := 126) h dX5_bitsOfQuotient_24 (by decide) ?_
        refine g_icge h 48 dX5_bitsOfQuotient_26 (by decide) (fun c26 => absurd c26 (nI_ge (b := 126) (by omega) (by decide))) (fun c26 => ?_)
        refine g_fload_n h dX5_bitsOfQuotient_29 rfl ?_
        refine g_fconst1 h dX5_bitsOfQuotient_30 ?_
        refine g_fcmp h dX5_bitsOfQuotient_31 ?_
        refine g_ifge h 48 dX5_bitsOfQuotient_32 (by decide) (fun c32 => ?_) (fun c32 => absurd ((fcmp_1 hk7 (Nat.le_refl 127)).2 rfl) c32)
        refine g_iload_n h dX5_bitsOfQuotient_48 rfl ?_
        refine g_bipush (v := 23) h dX5_bitsOfQuotient_49 (by decide) ?_
        refine g_ishl h dX5_bitsOfQuotient_51 ?_
        refine g_fload_n h dX5_bitsOfQuotient_52 rfl ?_
        refine g_ldcf h (1258291200) (lw_in 439 (by decide +kernel) rfl) dX5_bitsOfQuotient_53 ?_
        refine g_fmul h dX5_bitsOfQuotient_55 (by rw [fmul_k hk7 (by decide) val_23]; exact FV_nn ⟨hk.1, hk.2.1, by decide, by decide⟩) ?_
        refine g_st [.float (FV cc0 150), .int (nI (ee0 * 2 ^ 23))] (by rw [fmul_k hk7 (by decide) val_23, pk_shlN (23 &&& 31) 23 (by decide) (by omega)]) ?_
        refine g_f2i h dX5_bitsOfQuotient_56 ?_
        refine g_top (nI cc0) (f2i_v ⟨hk.1, hk.2.1, by decide, by decide⟩) ?_
        refine g_ldc h (8388608) (lw_in 440 (by decide +kernel) rfl) dX5_bitsOfQuotient_57 ?_
        refine g_isub h dX5_bitsOfQuotient_59 ?_
        refine g_iadd h dX5_bitsOfQuotient_60 ?_
        exact g_iret h hr dX5_bitsOfQuotient_61 (by rw [hV, show (8388608 : Int32) = nI (2 ^ 23) by decide, pk_sub hk.1, nI_add]) rfl
      | succ q ih =>
        intro j hj 
        have hlt : j < (127 - ee0) := by omega
        refine g_iload h dX5_bitsOfQuotient_22 rfl ?_
        refine g_bipush (v := 126) h dX5_bitsOfQuotient_24 (by decide) ?_
        refine g_icge h 48 dX5_bitsOfQuotient_26 (by decide) (fun c26 => absurd c26 (nI_ge (b := 126) (by omega) (by decide))) (fun c26 => ?_)
        refine g_fload_n h dX5_bitsOfQuotient_29 rfl ?_
        refine g_fconst1 h dX5_bitsOfQuotient_30 ?_
        refine g_fcmp h dX5_bitsOfQuotient_31 ?_
        refine g_ifge h 48 dX5_bitsOfQuotient_32 (by decide) (fun c32 => absurd c32 (by rw [(fcmp_1 (show fOk cc0 (ee0 + j) from ⟨hk.1, hk.2.1, by omega, by omega⟩) (by omega)).1 (by omega)]; decide)) (fun c32 => ?_)
        refine g_fload_n h dX5_bitsOfQuotient_35 rfl ?_
        refine g_fconst2 h dX5_bitsOfQuotient_36 ?_
        refine g_fmul h dX5_bitsOfQuotient_37 (by rw [fmul_k (show fOk cc0 (ee0 + j) from ⟨hk.1, hk.2.1, by omega, by omega⟩) (by omega) val_2]; exact FV_nn ⟨hk.1, hk.2.1, by omega, by omega⟩) ?_
        refine g_st [.float (FV cc0 (ee0 + (j + 1)))] (by rw [fmul_k (show fOk cc0 (ee0 + j) from ⟨hk.1, hk.2.1, by omega, by omega⟩) (by omega) val_2]; rfl) ?_
        refine g_fstore_n h dX5_bitsOfQuotient_38 (by rw [hL]; decide) ?_
        refine g_iinc h dX5_bitsOfQuotient_39 rfl (by rw [hL]; decide) ?_
        refine g_iincN h dX5_bitsOfQuotient_42 rfl (by rw [hL]; decide) ?_
        refine g_goto h 22 dX5_bitsOfQuotient_45 (by decide) ?_
        refine g_sub [(2, .float (FV cc0 (ee0 + (j + 1)))), (3, .int (nI (127 - (j + 1)))), (4, .int (nI (j + 1)))] ⟨rfl, (congrArg (fun z => some (Value.int z)) (by rw [nI_m1, show 127 - j = (127 - (j + 1)) + 1 by omega, nI_pred])), rfl, trivial⟩ ?_
        exact ih (j + 1) (by omega)
    refine g_iload_n h dX5_bitsOfQuotient_4 rfl ?_
    refine g_ifgt h 10 dX5_bitsOfQuotient_5 (by decide) (fun c5 => ?_) (fun c5 => absurd (nI_lt (a := 0) (by omega) (by omega)) c5)
    refine g_iload_n h dX5_bitsOfQuotient_10 rfl ?_
    refine g_i2f h dX5_bitsOfQuotient_11 ?_
    refine g_iload_n h dX5_bitsOfQuotient_12 rfl ?_
    refine g_i2f h dX5_bitsOfQuotient_13 ?_
    refine g_fdiv h dX5_bitsOfQuotient_14 (by rw [hdv]; exact FV_nn hk) ?_
    refine g_st [.float (FV cc0 ee0)] (by rw [hdv]) ?_
    refine g_fstore_n h dX5_bitsOfQuotient_15 (by rw [hL]; decide) ?_
    refine g_bipush (v := 127) h dX5_bitsOfQuotient_16 (by decide) ?_
    refine g_istore_n h dX5_bitsOfQuotient_18 (by rw [hL]; decide) ?_
    refine g_iconst (v := 0) h dX5_bitsOfQuotient_19 (by decide) ?_
    refine g_istore h dX5_bitsOfQuotient_20 (by rw [hL]; decide) ?_
    refine g_sub [(2, .float (FV cc0 (ee0 + 0))), (3, .int (nI (127 - 0))), (4, .int (nI 0))] ⟨rfl, rfl, lk_0, trivial⟩ ?_
    exact LOOP (127 - ee0) 0 (by omega)

theorem ct_X5_bitsOfQuotient {l : Launch} {X : fX} {σ : fM} {u w : Nat} (hu : u ≤ w) (hw : w < 2 ^ 24) : Ct l X yX5_bitsOfQuotient cX5_bitsOfQuotient 5 (some .int) 0 [.int (nI u), .int (nI w)] σ (some (.int (fbV u w))) σ :=
  ct_X5_bits0 (cc0 := fbc u w) (ee0 := fbe u w) hu hw (fun h => by unfold fbV; rw [if_pos h]) (fun h0 => by
    obtain ⟨a, b, c, d⟩ := fbce_ok h0 hu hw
    exact ⟨a, b, c, d, fdiv_v h0 hu hw⟩)


set_option maxRecDepth 100000 in
set_option maxHeartbeats 4000000 in
theorem ct_X6_fb0 {l : Launch} {X : fX} {σ : fM} {u w nn0 mm0 : Nat} {vv : Int32} (hu : u ≤ w) (hw : w < 2 ^ 24) (hv0 : u = 0 → vv = 0) (hv1 : 0 < u → nn0 < 48 ∧ w * 2 ^ 23 ≤ u * 2 ^ nn0 ∧ (∀ i, i < nn0 → u * 2 ^ i < w * 2 ^ 23) ∧ 23 ≤ nn0 ∧ 2 ^ 23 ≤ mm0 ∧ mm0 ≤ 2 ^ 24 ∧ u * 2 ^ nn0 < w * 2 ^ 24 ∧ mm0 = FP.Core.nearest (u * 2 ^ nn0) w ∧ vv = nI ((150 - nn0) * 2 ^ 23 + (mm0 - 2 ^ 23))) : Ct l X yX6_floatBits cX6_floatBits 9 (some .int) 0 [.int (nI u), .int (nI w)] σ (some (.int vv)) σ := by
  refine Ct.of RX6 rfl (by decide) (Nat.le_of_ble_eq_true rfl) ?_
  intro x hL h hr
  refine g_sub [(0, .int (nI u)), (1, .int (nI w))] ⟨rfl, rfl, trivial⟩ ?_
  refine g_iload_n h dX6_floatBits_0 rfl ?_
  refine g_ifne h 6 dX6_floatBits_1 (by decide) (fun c1 => ?_) (fun c1 => ?_)
  · have h0 : 0 < u := Nat.pos_of_ne_zero (fun e => c1 (by rw [e]; rfl))
    obtain ⟨hN48, hN, hp, hN23, hC1, hC2, hC3, hCd, hV⟩ := hv1 h0
    have hw0L : ¬ lN w = 0 := fun q => by have := (pk_lEQ (b := 0) (by omega) (by decide)).mp q; omega
    have hA : u * 2 ^ nn0 < 2 ^ 48 := Nat.lt_of_lt_of_le hC3 (Nat.mul_le_mul_right (2 ^ 24) (Nat.le_of_lt hw))
    have hRw : u * 2 ^ nn0 % w < w := Nat.mod_lt _ (by omega)
    have hQw : u * 2 ^ nn0 / w ≤ u * 2 ^ nn0 := Nat.div_le_self _ _
    have LOOP : ∀ (q i : Nat), i + q = nn0 → G x X σ [(1, .int (nI w)), (2, .long (lN (u * 2 ^ i))), (4, .int (nI i))] [] 12 := by
      intro q
      induction q with
      | zero =>
        intro i hi 
        have hie : i = nn0 := by omega
        rw [hie]
        refine g_lload_n h dX6_floatBits_12 rfl ?_
        refine g_iload_n h dX6_floatBits_13 rfl ?_
        refine g_i2l h dX6_floatBits_14 ?_
        refine g_bipush (v := 23) h dX6_floatBits_15 (by decide) ?_
        refine g_lshl h dX6_floatBits_17 ?_
        refine g_st [.long (lN (w * 2 ^ 23)), .long (lN (u * 2 ^ nn0))] (by rw [nI_l (show w < 2 ^ 31 by omega)]; exact congrArg (fun z => [Value.long z, .long (lN (u * 2 ^ nn0))]) (wb_shl w (k := 23) (by decide))) ?_
        refine g_lcmp h dX6_floatBits_18 ?_
        refine g_ifge h 34 dX6_floatBits_19 (by decide) (fun c19 => ?_) (fun c19 => absurd ((lg_cmp_ge _ _).mpr ((pk_lLE (by omega) (by omega)).mpr hN)) c19)
        refine g_lload_n h dX6_floatBits_34 rfl ?_
        refine g_iload_n h dX6_floatBits_35 rfl ?_
        refine g_i2l h dX6_floatBits_36 ?_
        refine g_st [.long (lN w), .long (lN (u * 2 ^ nn0))] (by rw [nI_l (show w < 2 ^ 31 by omega)]) ?_
        refine g_ldiv h dX6_floatBits_37 hw0L ?_
        refine g_st [.long (lN (u * 2 ^ nn0 / w))] (by rw [pk_lDiv (by omega) (by omega) (by omega)]) ?_
        refine g_lstore h dX6_floatBits_38 (by rw [hL]; decide) ?_
        refine g_ldc2 h (2) (lw_in 842 (by decide +kernel) rfl) dX6_floatBits_40 ?_
        refine g_lload_n h dX6_floatBits_43 rfl ?_
        refine g_iload_n h dX6_floatBits_44 rfl ?_
        refine g_i2l h dX6_floatBits_45 ?_
        refine g_st [.long (lN w), .long (lN (u * 2 ^ nn0)), .long 2] (by rw [nI_l (show w < 2 ^ 31 by omega)]) ?_
        refine g_lrem h dX6_floatBits_46 hw0L ?_
        refine g_st [.long (lN (u * 2 ^ nn0 % w)), .long 2] (by rw [pk_lRem (by omega) (by omega) (by omega)]) ?_
        refine g_lmul h dX6_floatBits_47 ?_
        refine g_st [.long (lN (2 * (u * 2 ^ nn0 % w)))] (by rw [show (2 : Int64) = lN 2 by decide, lN_mul]) ?_
        refine g_lstore h dX6_floatBits_48 (by rw [hL]; decide) ?_
        refine g_lload h dX6_floatBits_50 rfl ?_
        refine g_lload h dX6_floatBits_52 rfl ?_
        refine g_iload_n h dX6_floatBits_54 rfl ?_
        refine g_i2l h dX6_floatBits_55 ?_
        refine g_st [.long (lN w), .long (lN (2 * (u * 2 ^ nn0 % w))), .long (lN (u * 2 ^ nn0 / w))] (by rw [nI_l (show w < 2 ^ 31 by omega)]) ?_
        refine g_lcmp h dX6_floatBits_56 ?_
        refine g_ifgt h 79 dX6_floatBits_57 (by decide) (fun c57 => ?_) (fun c57 => ?_)
        · have hgt : w < 2 * (u * 2 ^ nn0 % w) := (pk_lLT (by omega) (by omega)).mp ((lg_cmp_gt _ _).mp c57)
          refine g_lconst (v := 1) h dX6_floatBits_79 (by decide) ?_
          refine g_goto h 84 dX6_floatBits_80 (by decide) ?_
          refine g_ladd h dX6_floatBits_84 ?_
          have hCq : mm0 = (u * 2 ^ nn0 / w) + 1 := by
            rw [hCd]
            unfold FP.Core.nearest
            rw [if_neg (by omega), if_pos hgt]
          refine g_st [.long (lN (mm0))] (by rw [hCq]; first | rfl | exact congrArg (fun z => [Value.long z]) (by rw [show (1 : Int64) = lN 1 by decide, lN_add]) | exact congrArg (fun z => [Value.long z]) (by rw [Int64.add_zero])) ?_
          refine g_lstore h dX6_floatBits_85 (by rw [hL]; decide) ?_
          refine g_sipush (v := 150) h dX6_floatBits_87 (by decide) ?_
          refine g_iload h dX6_floatBits_90 rfl ?_
          refine g_isub h dX6_floatBits_92 ?_
          refine g_top (nI (150 - nn0)) (by rw [show (150 : Int32) = nI 150 by decide, pk_sub (by omega)]) ?_
          refine g_bipush (v := 23) h dX6_floatBits_93 (by decide) ?_
          refine g_ishl h dX6_floatBits_95 ?_
          refine g_top (nI ((150 - nn0) * 2 ^ 23)) (by rw [pk_shlN (23 &&& 31) 23 (by decide) (by omega)]) ?_
          refine g_lload h dX6_floatBits_96 rfl ?_
          refine g_ldc2 h (8388608) (lw_in 843 (by decide +kernel) rfl) dX6_floatBits_98 ?_
          refine g_lsub h dX6_floatBits_101 ?_
          refine g_st [.long (lN (mm0 - 2 ^ 23)), .int (nI ((150 - nn0) * 2 ^ 23))] (by rw [show (8388608 : Int64) = lN (2 ^ 23) by decide, lN_sub hC1]) ?_
          refine g_l2i h dX6_floatBits_102 ?_
          refine g_iadd h dX6_floatBits_103 ?_
          exact g_iret h hr dX6_floatBits_104 (by rw [hV, lN_i, nI_add]) rfl
        · have hgt : ¬ w < 2 * (u * 2 ^ nn0 % w) := fun q => c57 ((lg_cmp_gt _ _).mpr ((pk_lLT (by omega) (by omega)).mpr q))
          refine g_lload h dX6_floatBits_60 rfl ?_
          refine g_iload_n h dX6_floatBits_62 rfl ?_
          refine g_i2l h dX6_floatBits_63 ?_
          refine g_st [.long (lN w), .long (lN (2 * (u * 2 ^ nn0 % w))), .long (lN (u * 2 ^ nn0 / w))] (by rw [nI_l (show w < 2 ^ 31 by omega)]) ?_
          refine g_lcmp h dX6_floatBits_64 ?_
          refine g_ifne h 83 dX6_floatBits_65 (by decide) (fun c65 => ?_) (fun c65 => ?_)
          · have heq : ¬ 2 * (u * 2 ^ nn0 % w) = w := fun q => c65 ((lg_cmp_eq _ _).mpr (by rw [q]))
            refine g_lconst (v := 0) h dX6_floatBits_83 (by decide) ?_
            refine g_ladd h dX6_floatBits_84 ?_
            have hCq : mm0 = (u * 2 ^ nn0 / w) := by
              rw [hCd]
              unfold FP.Core.nearest
              rw [if_pos (by omega)]
            refine g_st [.long (lN (mm0))] (by rw [hCq]; first | rfl | exact congrArg (fun z => [Value.long z]) (by rw [show (1 : Int64) = lN 1 by decide, lN_add]) | exact congrArg (fun z => [Value.long z]) (by rw [Int64.add_zero])) ?_
            refine g_lstore h dX6_floatBits_85 (by rw [hL]; decide) ?_
            refine g_sipush (v := 150) h dX6_floatBits_87 (by decide) ?_
            refine g_iload h dX6_floatBits_90 rfl ?_
            refine g_isub h dX6_floatBits_92 ?_
            refine g_top (nI (150 - nn0)) (by rw [show (150 : Int32) = nI 150 by decide, pk_sub (by omega)]) ?_
            refine g_bipush (v := 23) h dX6_floatBits_93 (by decide) ?_
            refine g_ishl h dX6_floatBits_95 ?_
            refine g_top (nI ((150 - nn0) * 2 ^ 23)) (by rw [pk_shlN (23 &&& 31) 23 (by decide) (by omega)]) ?_
            refine g_lload h dX6_floatBits_96 rfl ?_
            refine g_ldc2 h (8388608) (lw_in 843 (by decide +kernel) rfl) dX6_floatBits_98 ?_
            refine g_lsub h dX6_floatBits_101 ?_
            refine g_st [.long (lN (mm0 - 2 ^ 23)), .int (nI ((150 - nn0) * 2 ^ 23))] (by rw [show (8388608 : Int64) = lN (2 ^ 23) by decide, lN_sub hC1]) ?_
            refine g_l2i h dX6_floatBits_102 ?_
            refine g_iadd h dX6_floatBits_103 ?_
            exact g_iret h hr dX6_floatBits_104 (by rw [hV, lN_i, nI_add]) rfl
          · have heq : 2 * (u * 2 ^ nn0 % w) = w := (pk_lEQ (by omega) (by omega)).mp ((lg_cmp_eq _ _).mp c65)
            refine g_lload h dX6_floatBits_68 rfl ?_
            refine g_ldc2 h (2) (lw_in 842 (by decide +kernel) rfl) dX6_floatBits_70 ?_
            refine g_lrem h dX6_floatBits_73 (by decide) ?_
            refine g_st [.long (lN ((u * 2 ^ nn0 / w) % 2)), .long (lN (u * 2 ^ nn0 / w))] (by rw [show (2 : Int64) = lN 2 by decide, pk_lRem (by omega) (by decide) (by decide)]) ?_
            refine g_lconst (v := 1) h dX6_floatBits_74 (by decide) ?_
            refine g_lcmp h dX6_floatBits_75 ?_
            refine g_ifne h 83 dX6_floatBits_76 (by decide) (fun c76 => ?_) (fun c76 => ?_)
            · have hodd : ¬ (u * 2 ^ nn0 / w) % 2 = 1 := fun q => c76 ((lg_cmp_eq _ _).mpr (by rw [q]; decide))
              refine g_lconst (v := 0) h dX6_floatBits_83 (by decide) ?_
              refine g_ladd h dX6_floatBits_84 ?_
              have hCq : mm0 = (u * 2 ^ nn0 / w) := by
                rw [hCd]
                unfold FP.Core.nearest
                rw [if_neg (by omega), if_neg (by omega), show (u * 2 ^ nn0 / w) % 2 = 0 by omega, Nat.add_zero]
              refine g_st [.long (lN (mm0))] (by rw [hCq]; first | rfl | exact congrArg (fun z => [Value.long z]) (by rw [show (1 : Int64) = lN 1 by decide, lN_add]) | exact congrArg (fun z => [Value.long z]) (by rw [Int64.add_zero])) ?_
              refine g_lstore h dX6_floatBits_85 (by rw [hL]; decide) ?_
              refine g_sipush (v := 150) h dX6_floatBits_87 (by decide) ?_
              refine g_iload h dX6_floatBits_90 rfl ?_
              refine g_isub h dX6_floatBits_92 ?_
              refine g_top (nI (150 - nn0)) (by rw [show (150 : Int32) = nI 150 by decide, pk_sub (by omega)]) ?_
              refine g_bipush (v := 23) h dX6_floatBits_93 (by decide) ?_
              refine g_ishl h dX6_floatBits_95 ?_
              refine g_top (nI ((150 - nn0) * 2 ^ 23)) (by rw [pk_shlN (23 &&& 31) 23 (by decide) (by omega)]) ?_
              refine g_lload h dX6_floatBits_96 rfl ?_
              refine g_ldc2 h (8388608) (lw_in 843 (by decide +kernel) rfl) dX6_floatBits_98 ?_
              refine g_lsub h dX6_floatBits_101 ?_
              refine g_st [.long (lN (mm0 - 2 ^ 23)), .int (nI ((150 - nn0) * 2 ^ 23))] (by rw [show (8388608 : Int64) = lN (2 ^ 23) by decide, lN_sub hC1]) ?_
              refine g_l2i h dX6_floatBits_102 ?_
              refine g_iadd h dX6_floatBits_103 ?_
              exact g_iret h hr dX6_floatBits_104 (by rw [hV, lN_i, nI_add]) rfl
            · have hodd : (u * 2 ^ nn0 / w) % 2 = 1 := (pk_lEQ (b := 1) (by omega) (by decide)).mp ((lg_cmp_eq _ _).mp c76)
              refine g_lconst (v := 1) h dX6_floatBits_79 (by decide) ?_
              refine g_goto h 84 dX6_floatBits_80 (by decide) ?_
              refine g_ladd h dX6_floatBits_84 ?_
              have hCq : mm0 = (u * 2 ^ nn0 / w) + 1 := by
                rw [hCd]
                unfold FP.Core.nearest
                rw [if_neg (by omega), if_neg (by omega), hodd]
              refine g_st [.long (lN (mm0))] (by rw [hCq]; first | rfl | exact congrArg (fun z => [Value.long z]) (by rw [show (1 : Int64) = lN 1 by decide, lN_add]) | exact congrArg (fun z => [Value.long z]) (by rw [Int64.add_zero])) ?_
              refine g_lstore h dX6_floatBits_85 (by rw [hL]; decide) ?_
              refine g_sipush (v := 150) h dX6_floatBits_87 (by decide) ?_
              refine g_iload h dX6_floatBits_90 rfl ?_
              refine g_isub h dX6_floatBits_92 ?_
              refine g_top (nI (150 - nn0)) (by rw [show (150 : Int32) = nI 150 by decide, pk_sub (by omega)]) ?_
              refine g_bipush (v := 23) h dX6_floatBits_93 (by decide) ?_
              refine g_ishl h dX6_floatBits_95 ?_
              refine g_top (nI ((150 - nn0) * 2 ^ 23)) (by rw [pk_shlN (23 &&& 31) 23 (by decide) (by omega)]) ?_
              refine g_lload h dX6_floatBits_96 rfl ?_
              refine g_ldc2 h (8388608) (lw_in 843 (by decide +kernel) rfl) dX6_floatBits_98 ?_
              refine g_lsub h dX6_floatBits_101 ?_
              refine g_st [.long (lN (mm0 - 2 ^ 23)), .int (nI ((150 - nn0) * 2 ^ 23))] (by rw [show (8388608 : Int64) = lN (2 ^ 23) by decide, lN_sub hC1]) ?_
              refine g_l2i h dX6_floatBits_102 ?_
              refine g_iadd h dX6_floatBits_103 ?_
              exact g_iret h hr dX6_floatBits_104 (by rw [hV, lN_i, nI_add]) rfl
      | succ q ih =>
        intro i hi 
        have hlt : i < nn0 := by omega
        refine g_lload_n h dX6_floatBits_12 rfl ?_
        refine g_iload_n h dX6_floatBits_13 rfl ?_
        refine g_i2l h dX6_floatBits_14 ?_
        refine g_bipush (v := 23) h dX6_floatBits_15 (by decide) ?_
        refine g_lshl h dX6_floatBits_17 ?_
        refine g_st [.long (lN (w * 2 ^ 23)), .long (lN (u * 2 ^ i))] (by rw [nI_l (show w < 2 ^ 31 by omega)]; exact congrArg (fun z => [Value.long z, .long (lN (u * 2 ^ i))]) (wb_shl w (k := 23) (by decide))) ?_
        refine g_lcmp h dX6_floatBits_18 ?_
        refine g_ifge h 34 dX6_floatBits_19 (by decide) (fun c19 => absurd ((pk_lLE (by omega) (Nat.lt_of_lt_of_le (hp i hlt) (by omega))).mp ((lg_cmp_ge _ _).mp c19)) (Nat.not_le.mpr (hp i hlt))) (fun c19 => ?_)
        refine g_ldc2 h (2) (lw_in 842 (by decide +kernel) rfl) dX6_floatBits_22 ?_
        refine g_lload_n h dX6_floatBits_25 rfl ?_
        refine g_lmul h dX6_floatBits_26 ?_
        refine g_lstore_n h dX6_floatBits_27 (by rw [hL]; decide) ?_
        refine g_iincN h dX6_floatBits_28 rfl (by rw [hL]; decide) ?_
        refine g_goto h 12 dX6_floatBits_31 (by decide) ?_
        refine g_sub [(1, .int (nI w)), (2, .long (lN (u * 2 ^ (i + 1)))), (4, .int (nI (i + 1)))] ⟨rfl, (congrArg (fun z => some (Value.long z)) (by rw [show (2 : Int64) = lN 2 by decide, lN_mul, Nat.pow_succ]; exact congrArg lN (by rw [Nat.mul_comm 2, Nat.mul_assoc]))), rfl, trivial⟩ ?_
        exact ih (i + 1) (by omega)
    refine g_iload_n h dX6_floatBits_6 rfl ?_
    refine g_i2l h dX6_floatBits_7 ?_
    refine g_st [.long (lN (u * 2 ^ 0))] (by rw [nI_l (by omega), Nat.pow_zero, Nat.mul_one]) ?_
    refine g_lstore_n h dX6_floatBits_8 (by rw [hL]; decide) ?_
    refine g_iconst (v := 0) h dX6_floatBits_9 (by decide) ?_
    refine g_istore h dX6_floatBits_10 (by rw [hL]; decide) ?_
    refine g_sub [(1, .int (nI w)), (2, .long (lN (u * 2 ^ 0))), (4, .int (nI 0))] ⟨rfl, rfl, lk_0, trivial⟩ ?_
    exact LOOP nn0 0 (by omega)
  · have hu0 : u = 0 := (nI_eq (b := 0) (by omega) (by decide)).mp c1
    refine g_iconst (v := 0) h dX6_floatBits_4 (by decide) ?_
    exact g_iret h hr dX6_floatBits_5 (hv0 hu0).symm rfl

theorem ct_X6_floatBits {l : Launch} {X : fX} {σ : fM} {u w : Nat} (hu : u ≤ w) (hw : w < 2 ^ 24) : Ct l X yX6_floatBits cX6_floatBits 9 (some .int) 0 [.int (nI u), .int (nI w)] σ (some (.int (fbV u w))) σ :=
  ct_X6_fb0 (nn0 := fbN u w) (mm0 := fbC u w) hu hw (fun h => by unfold fbV; rw [if_pos h]) (fun h0 => by
    obtain ⟨a, b, c, d⟩ := fbN_ok h0 hu hw
    obtain ⟨e, f, g⟩ := fbC_ok h0 hu hw
    exact ⟨a, b, c, d, e, f, g, by unfold fbC; rfl, by unfold fbV; rw [if_neg (Nat.ne_of_gt h0)]⟩)


def shR (f : Nat → Int32) : Prop := ∃ a b : Nat, a + b < 2 ^ 24 ∧ f 5 = nI a ∧ f 6 = nI b
def shV (f : Nat → Int32) : Int32 := if f 5 + f 6 ≤ 0 then kNone else fbV (ix (f 5)) (ix (f 5 + f 6))
def cShare (σ : fM) (o : Int32) : Int32 × fM := if wi o 0 (σ.1 (iS 0) 3 - 1) = false then (kBad, σ) else (shV (σ.1 (iO 0 (ix o))), σ)
def mShare (σ : fM) (o : Int32) : Int32 × fM := if wi o 0 (σ.1 151 7 - 1) = false then (kBad, σ) else (shV (mo (σ.1 151) (ix o)), σ)

set_option maxRecDepth 100000 in
set_option maxHeartbeats 4000000 in
theorem ct_X5_share {l : Launch} {X : fX} {σ : fM} {n m : Nat} (hg : gst σ 0 n m) (hsh : ∀ i, i < n → shR (σ.1 (iO 0 i))) {o : Int32} : Ct l X yX5_share cX5_share 4 (some .int) 2 [ra X 0, .int o] σ (some (.int (cShare σ o).1)) (cShare σ o).2 := by
  refine Ct.of RX5 rfl (by decide) (Nat.le_of_ble_eq_true rfl) ?_
  intro x hL h hr
  refine g_sub [(0, ra X 0), (1, .int o)] ⟨rfl, rfl, trivial⟩ ?_
  obtain ⟨hc, hcr, hgd⟩ := id hg
  obtain ⟨hn, hm, hn6, hm8⟩ := id hc
  refine g_aload_n h dX5_share_0 rfl ?_
  refine g_iload_n h dX5_share_1 rfl ?_
  refine cl5_71 h  (ct_X5_isOracle ) rfl dX5_share_2 rfl (Nat.le_of_ble_eq_true rfl) (by decide) ?_
  refine g_ifneB h 11 dX5_share_5 (by decide) (fun c5 => ?_) (fun c5 => ?_)
  · obtain ⟨j, hj, rfl⟩ := wi_or (by omega) hn c5
    have hij : (nI j).toNatClampNeg = j := nI_clamp (by omega)
    obtain ⟨a, b, hab, ea, eb⟩ := hsh j hj
    refine g_aload_n h dX5_share_11 rfl ?_
    refine gf5_10 h  dX5_share_12 ?_
    refine gf5_61 h (by omega) dX5_share_15 ?_
    refine g_iload_n h dX5_share_18 rfl ?_
    refine g_aaldO h (by omega) rfl (by omega) dX5_share_19 ?_
    refine g_astore_n h dX5_share_20 (by rw [hL]; decide) ?_
    refine g_aload_n h dX5_share_21 rfl ?_
    refine gf5_121 h (by omega) (by omega) dX5_share_22 ?_
    refine g_aload_n h dX5_share_25 rfl ?_
    refine gf5_124 h (by omega) (by omega) dX5_share_26 ?_
    refine g_iadd h dX5_share_29 ?_
    refine g_istore_n h dX5_share_30 (by rw [hL]; decide) ?_
    refine g_iload_n h dX5_share_31 rfl ?_
    refine g_ifle h 46 dX5_share_32 (by decide) (fun c32 => ?_) (fun c32 => ?_)
    · refine g_ldc h (-1000004) (lw_in 402 (by decide +kernel) rfl) dX5_share_46 ?_
      exact g_iret h hr dX5_share_48 (by first | (simp [cShare, kBad, ix, c5, c32]; done) | (unfold cShare; rw [if_neg (by rw [c5]; decide), show ix (nI j) = j from hij]; dsimp only; unfold shV ix; first | (rw [if_neg c32, ea, eb, nI_add, nI_clamp (by omega), nI_clamp (by omega)]; done) | (rw [if_pos c32]; rfl))) (by first | (simp [cShare, ix, c5, c32]; done) | (simp [cShare, ix, hij, c5, c32]; done))
    · refine g_aload_n h dX5_share_35 rfl ?_
      refine gf5_121 h (by omega) (by omega) dX5_share_36 ?_
      refine g_iload_n h dX5_share_39 rfl ?_
      refine g_st [.int (nI (a + b)), .int (nI a)] (by rw [ea, eb, nI_add]) ?_
      refine cl5_173 h (ct_X5_bitsOfQuotient (u := a) (w := a + b) (by omega) hab) rfl dX5_share_40 rfl (Nat.le_of_ble_eq_true rfl) (by decide) ?_
      refine g_goto h 48 dX5_share_43 (by decide) ?_
      exact g_iret h hr dX5_share_48 (by first | (simp [cShare, kBad, ix, c5, c32]; done) | (unfold cShare; rw [if_neg (by rw [c5]; decide), show ix (nI j) = j from hij]; dsimp only; unfold shV ix; first | (rw [if_neg c32, ea, eb, nI_add, nI_clamp (by omega), nI_clamp (by omega)]; done) | (rw [if_pos c32]; rfl))) (by first | (simp [cShare, ix, c5, c32]; done) | (simp [cShare, ix, hij, c5, c32]; done))
  · refine g_ldc h (-1000001) (lw_in 237 (by decide +kernel) rfl) dX5_share_8 ?_
    exact g_iret h hr dX5_share_10 (by first | (simp [cShare, kBad, ix, c5]; done) | (unfold cShare; rw [if_neg (by rw [c5]; decide), show ix (nI j) = j from hij]; dsimp only; unfold shV ix; first | (rw [if_neg c32, ea, eb, nI_add, nI_clamp (by omega), nI_clamp (by omega)]; done) | (rw [if_pos c32]; rfl))) (by first | (simp [cShare, ix, c5]; done) | (simp [cShare, ix, hij, c5]; done))
set_option maxRecDepth 100000 in
set_option maxHeartbeats 4000000 in
theorem ct_X6_share {l : Launch} {X : fX} {σ : fM} {n m : Nat} (hc : mcn (σ.1 151) n m) (hsh : ∀ i, i < n → shR (mo (σ.1 151) i)) {o : Int32} : Ct l X yX6_share cX6_share 3 (some .int) 2 [ra X 150, .int o] σ (some (.int (mShare σ o).1)) (mShare σ o).2 := by
  refine Ct.of RX6 rfl (by decide) (Nat.le_of_ble_eq_true rfl) ?_
  intro x hL h hr
  refine g_sub [(0, ra X 150), (1, .int o)] ⟨rfl, rfl, trivial⟩ ?_
  obtain ⟨hn, hn6, hm, hm8⟩ := id hc
  refine g_aload_n h dX6_share_0 rfl ?_
  refine g_iload_n h dX6_share_1 rfl ?_
  refine cl6_86 h  (ct_X6_isOracle ) rfl dX6_share_2 rfl (Nat.le_of_ble_eq_true rfl) (by decide) ?_
  refine g_ifneB h 11 dX6_share_5 (by decide) (fun c5 => ?_) (fun c5 => ?_)
  · obtain ⟨j, hj, rfl⟩ := wi_or (by omega) hn c5
    have hij : (nI j).toNatClampNeg = j := nI_clamp (by omega)
    obtain ⟨a, b, hab, ea, eb⟩ := hsh j hj
    refine g_aload_n h dX6_share_11 rfl ?_
    refine g_iload_n h dX6_share_12 rfl ?_
    refine g_iconst (v := 5) h dX6_share_13 (by decide) ?_
    refine cl6_46 h  (ct_X6_part (i := j) (p := 5) (by omega) (by decide)) rfl dX6_share_14 rfl (Nat.le_of_ble_eq_true rfl) (by decide) ?_
    refine g_aload_n h dX6_share_17 rfl ?_
    refine g_iload_n h dX6_share_18 rfl ?_
    refine g_bipush (v := 6) h dX6_share_19 (by decide) ?_
    refine cl6_46 h  (ct_X6_part (i := j) (p := 6) (by omega) (by decide)) rfl dX6_share_21 rfl (Nat.le_of_ble_eq_true rfl) (by decide) ?_
    refine g_iadd h dX6_share_24 ?_
    refine g_top (nI (a + b)) (by rw [ea, eb, nI_add]) ?_
    refine g_istore_n h dX6_share_25 (by rw [hL]; decide) ?_
    refine g_iload_n h dX6_share_26 rfl ?_
    refine g_ifne h 35 dX6_share_27 (by decide) (fun c27 => ?_) (fun c27 => ?_)
    · refine g_aload_n h dX6_share_35 rfl ?_
      refine g_iload_n h dX6_share_36 rfl ?_
      refine g_iconst (v := 5) h dX6_share_37 (by decide) ?_
      refine cl6_46 h  (ct_X6_part (i := j) (p := 5) (by omega) (by decide)) rfl dX6_share_38 rfl (Nat.le_of_ble_eq_true rfl) (by decide) ?_
      refine g_iload_n h dX6_share_41 rfl ?_
      refine g_st [.int (nI (a + b)), .int (nI a)] (by rw [ea]) ?_
      refine cl6_134 h (ct_X6_floatBits (u := a) (w := a + b) (by omega) hab) rfl dX6_share_42 rfl (Nat.le_of_ble_eq_true rfl) (by decide) ?_
      exact g_iret h hr dX6_share_45 (by first | (simp [mShare, kBad, ix, c5, c27]; done) | (unfold mShare; rw [if_neg (by rw [c5]; decide), show ix (nI j) = j from hij]; dsimp only; unfold shV ix; first | (rw [ea, eb, nI_add, if_neg (nI_nle (Nat.pos_of_ne_zero (fun e => c27 (by rw [e]; rfl))) (by omega)), nI_clamp (by omega), nI_clamp (by omega)]; done) | (rw [ea, eb, nI_add, c27, if_pos (by decide)]; rfl))) (by first | (simp [mShare, ix, c5, c27]; done) | (simp [mShare, ix, hij, c5, c27]; done))
    · refine g_ldc h (-1000004) (lw_in 822 (by decide +kernel) rfl) dX6_share_30 ?_
      refine g_goto h 45 dX6_share_32 (by decide) ?_
      exact g_iret h hr dX6_share_45 (by first | (simp [mShare, kBad, ix, c5, c27]; done) | (unfold mShare; rw [if_neg (by rw [c5]; decide), show ix (nI j) = j from hij]; dsimp only; unfold shV ix; first | (rw [ea, eb, nI_add, if_neg (nI_nle (Nat.pos_of_ne_zero (fun e => c27 (by rw [e]; rfl))) (by omega)), nI_clamp (by omega), nI_clamp (by omega)]; done) | (rw [ea, eb, nI_add, c27, if_pos (by decide)]; rfl))) (by first | (simp [mShare, ix, c5, c27]; done) | (simp [mShare, ix, hij, c5, c27]; done))
  · refine g_ldc h (-1000001) (lw_in 696 (by decide +kernel) rfl) dX6_share_8 ?_
    exact g_iret h hr dX6_share_10 (by first | (simp [mShare, kBad, ix, c5]; done) | (unfold mShare; rw [if_neg (by rw [c5]; decide), show ix (nI j) = j from hij]; dsimp only; unfold shV ix; first | (rw [ea, eb, nI_add, if_neg (nI_nle (Nat.pos_of_ne_zero (fun e => c27 (by rw [e]; rfl))) (by omega)), nI_clamp (by omega), nI_clamp (by omega)]; done) | (rw [ea, eb, nI_add, c27, if_pos (by decide)]; rfl))) (by first | (simp [mShare, ix, c5]; done) | (simp [mShare, ix, hij, c5]; done))

theorem nle0 {k : Nat} (hk : k < 2 ^ 31) (h : nI k ≤ 0) : k = 0 := by
  rcases Nat.eq_zero_or_pos k with e | e
  · exact e
  · exact absurd h (nI_nle e hk)
def odV (xa ya : Nat) : Int32 := if xa + ya = 0 then kNone else fbV xa (xa + ya)
def cOdds (σ : fM) (n : Nat) (a : Int32) (xa ya : Nat) : Int32 × fM := if isA a = false then (kBad, σ) else (odV xa ya, fore σ 0 n a)
def mOdds (σ : fM) (a : Int32) (xa ya : Nat) : Int32 × fM := if isA a = false then (kBad, σ) else (odV xa ya, σ)
def modA (r : Nat → Int32) (a : Nat) : Nat → Int32 := sumF 0 (fun o => oStake (mo r o) (mt r o) (r 0) (nI a) (r 3))
def modO (r : Nat → Int32) (n a : Nat) : Nat → Int32 := sumF 0 (fun o => if mWord r n o a = 1 then oStake (mo r o) (mt r o) (r 0) (nI a) (r 3) else 0)

set_option maxRecDepth 100000 in
set_option maxHeartbeats 4000000 in
theorem ct_X5_odds {l : Launch} {X : fX} {σ : fM} {n m : Nat} (hg : gst σ 0 n m) {a : Int32} {xa ya : Nat} (hxy : xa + ya < 2 ^ 24) (h1 : isA a = true → stk (fore σ 0 n a) 0 n 1 = nI xa ∧ stk (fore σ 0 n a) 0 n 0 = nI ya) : Ct l X yX5_odds cX5_odds 4 (some .int) 4 [ra X 0, .int a] σ (some (.int (cOdds σ n a xa ya).1)) (cOdds σ n a xa ya).2 := by
  refine Ct.of RX5 rfl (by decide) (Nat.le_of_ble_eq_true rfl) ?_
  intro x hL h hr
  refine g_sub [(0, ra X 0), (1, .int a)] ⟨rfl, rfl, trivial⟩ ?_
  obtain ⟨hc, hcr, hgd⟩ := id hg
  obtain ⟨hn, hm, hn6, hm8⟩ := id hc
  refine g_iload_n h dX5_odds_0 rfl ?_
  refine cl5_107 h (ct_X5_isAddress) rfl dX5_odds_1 rfl (Nat.le_of_ble_eq_true rfl) (by decide) ?_
  refine g_ifneB h 10 dX5_odds_4 (by decide) (fun c4 => ?_) (fun c4 => ?_)
  · obtain ⟨e1, e0⟩ := h1 c4
    refine g_aload_n h dX5_odds_10 rfl ?_
    refine gf5_10 h  dX5_odds_11 ?_
    refine g_iload_n h dX5_odds_14 rfl ?_
    refine cl5_179 h (by omega) (ct_X3_foretell (by decide) hc hgd) rfl dX5_odds_15 rfl (Nat.le_of_ble_eq_true rfl) (by decide) ?_
    refine g_aload_n h dX5_odds_18 rfl ?_
    refine gf5_10 h  dX5_odds_19 ?_
    refine g_iconst (v := 1) h dX5_odds_22 (by decide) ?_
    refine cl5_189 h (by omega) (ct_X3_stakesOn (by decide) (fore_cnt _ hc)) rfl dX5_odds_23 rfl (Nat.le_of_ble_eq_true rfl) (by decide) ?_
    refine g_top (nI xa) e1 ?_
    refine g_istore_n h dX5_odds_26 (by rw [hL]; decide) ?_
    refine g_iload_n h dX5_odds_27 rfl ?_
    refine g_aload_n h dX5_odds_28 rfl ?_
    refine gf5_10 h  dX5_odds_29 ?_
    refine g_iconst (v := 0) h dX5_odds_32 (by decide) ?_
    refine cl5_189 h (by omega) (ct_X3_stakesOn (by decide) (fore_cnt _ hc)) rfl dX5_odds_33 rfl (Nat.le_of_ble_eq_true rfl) (by decide) ?_
    refine g_st [.int (nI ya), .int (nI xa)] (by rw [← e0]; rfl) ?_
    refine g_iadd h dX5_odds_36 ?_
    refine g_top (nI (xa + ya)) (nI_add xa ya) ?_
    refine g_istore_n h dX5_odds_37 (by rw [hL]; decide) ?_
    refine g_iload_n h dX5_odds_38 rfl ?_
    refine g_ifle h 50 dX5_odds_39 (by decide) (fun c39 => ?_) (fun c39 => ?_)
    · refine g_ldc h (-1000004) (lw_in 402 (by decide +kernel) rfl) dX5_odds_50 ?_
      exact g_iret h hr dX5_odds_52 (by first | (simp [cOdds, kBad, c4, c39]; done) | (unfold cOdds; rw [if_neg (by rw [c4]; decide)]; dsimp only; unfold odV; first | (rw [if_neg (fun e => c39 (by rw [e]; decide))]; done) | (rw [if_pos (nle0 (by omega) c39)]; rfl))) (by simp [cOdds, c4, c39])
    · refine g_iload_n h dX5_odds_42 rfl ?_
      refine g_iload_n h dX5_odds_43 rfl ?_
      refine cl5_173 h (ct_X5_bitsOfQuotient (u := xa) (w := xa + ya) (by omega) hxy) rfl dX5_odds_44 rfl (Nat.le_of_ble_eq_true rfl) (by decide) ?_
      refine g_goto h 52 dX5_odds_47 (by decide) ?_
      exact g_iret h hr dX5_odds_52 (by first | (simp [cOdds, kBad, c4, c39]; done) | (unfold cOdds; rw [if_neg (by rw [c4]; decide)]; dsimp only; unfold odV; first | (rw [if_neg (fun e => c39 (by rw [e]; decide))]; done) | (rw [if_pos (nle0 (by omega) c39)]; rfl))) (by simp [cOdds, c4, c39])
  · refine g_ldc h (-1000001) (lw_in 237 (by decide +kernel) rfl) dX5_odds_7 ?_
    exact g_iret h hr dX5_odds_9 (by first | (simp [cOdds, kBad, c4]; done) | (unfold cOdds; rw [if_neg (by rw [c4]; decide)]; dsimp only; unfold odV; first | (rw [if_neg (fun e => c39 (by rw [e]; decide))]; done) | (rw [if_pos (nle0 (by omega) c39)]; rfl))) (by simp [cOdds, c4])
set_option maxRecDepth 100000 in
set_option maxHeartbeats 4000000 in
theorem ct_X6_odds {l : Launch} {X : fX} {σ : fM} {n m B y0 : Nat} (g : mG (σ.1 151) n m B y0) (hB : B < 2 ^ 24 - 2 ^ 12) {a : Int32} {xa ya : Nat} (hxy : xa + ya < 2 ^ 24) (h1 : isA a = true → modO (σ.1 151) n (ix a) n = nI xa ∧ modA (σ.1 151) (ix a) n = nI (xa + ya)) : Ct l X yX6_odds cX6_odds 5 (some .int) 8 [ra X 150, .int a] σ (some (.int (mOdds σ a xa ya).1)) (mOdds σ a xa ya).2 := by
  refine Ct.of RX6 rfl (by decide) (Nat.le_of_ble_eq_true rfl) ?_
  intro x hL h hr
  refine g_sub [(0, ra X 150), (1, .int a)] ⟨rfl, rfl, trivial⟩ ?_
  obtain ⟨hn, hn6, hm, hm8⟩ := id g.1
  refine g_iload_n h dX6_odds_0 rfl ?_
  refine cl6_117 h (ct_X6_isAddress) rfl dX6_odds_1 rfl (Nat.le_of_ble_eq_true rfl) (by decide) ?_
  refine g_ifneB h 10 dX6_odds_4 (by decide) (fun c4 => ?_) (fun c4 => ?_)
  · obtain ⟨eO, eA⟩ := h1 c4
    obtain ⟨a, ha63, rfl⟩ := wi_A c4
    rw [show ix (nI a) = a from nI_clamp (by omega)] at eO eA
    have LOOP : ∀ (q i : Nat), i + q = n → G x X σ [(0, ra X 150), (1, .int (nI a)), (2, .int (modA (σ.1 151) a i)), (3, .int (modO (σ.1 151) n a i)), (4, .int (nI i))] [] 17 := by
      intro q
      induction q with
      | zero =>
        intro i hi 
        have hie : i = n := by omega
        rw [hie]
        refine g_iload h dX6_odds_17 rfl ?_
        refine g_aload_n h dX6_odds_19 rfl ?_
        refine gf6_7 h  dX6_odds_20 ?_
        refine g_bipush (v := 7) h dX6_odds_23 (by decide) ?_
        refine g_ialdN h (k := 151) (by decide) (enc_151 X) (show (7 : Int32) = nI 7 by decide) (by decide) (by decide) dX6_odds_25 ?_
        refine g_icge h 70 dX6_odds_26 (by decide) (fun c26 => ?_) (fun c26 => absurd (by rw [hn]; exact Int32.le_refl _) c26)
        refine g_iload_n h dX6_odds_70 rfl ?_
        refine g_top (nI (xa + ya)) eA ?_
        refine g_ifne h 79 dX6_odds_71 (by decide) (fun c71 => ?_) (fun c71 => ?_)
        · refine g_iload_n h dX6_odds_79 rfl ?_
          refine g_iload_n h dX6_odds_80 rfl ?_
          refine g_st [.int (nI (xa + ya)), .int (nI xa)] (by rw [eA, eO]) ?_
          refine cl6_134 h (ct_X6_floatBits (u := xa) (w := xa + ya) (by omega) hxy) rfl dX6_odds_81 rfl (Nat.le_of_ble_eq_true rfl) (by decide) ?_
          exact g_iret h hr dX6_odds_84 (by unfold mOdds; rw [if_neg (by rw [c4]; decide)]; dsimp only; unfold odV; first | (rw [if_neg (fun e => c71 (by rw [e]; rfl))]; done) | (rw [if_pos ((nI_eq (b := 0) (by omega) (by decide)).mp c71)]; rfl)) (by simp [mOdds, c4])
        · refine g_ldc h (-1000004) (lw_in 822 (by decide +kernel) rfl) dX6_odds_74 ?_
          refine g_goto h 84 dX6_odds_76 (by decide) ?_
          exact g_iret h hr dX6_odds_84 (by unfold mOdds; rw [if_neg (by rw [c4]; decide)]; dsimp only; unfold odV; first | (rw [if_neg (fun e => c71 (by rw [e]; rfl))]; done) | (rw [if_pos ((nI_eq (b := 0) (by omega) (by decide)).mp c71)]; rfl)) (by simp [mOdds, c4])
      | succ q ih =>
        intro i hi 
        have hlt : i < n := by omega
        refine g_iload h dX6_odds_17 rfl ?_
        refine g_aload_n h dX6_odds_19 rfl ?_
        refine gf6_7 h  dX6_odds_20 ?_
        refine g_bipush (v := 7) h dX6_odds_23 (by decide) ?_
        refine g_ialdN h (k := 151) (by decide) (enc_151 X) (show (7 : Int32) = nI 7 by decide) (by decide) (by decide) dX6_odds_25 ?_
        refine g_icge h 70 dX6_odds_26 (by decide) (fun c26 => absurd c26 (by rw [hn]; exact nI_ge hlt (by omega))) (fun c26 => ?_)
        refine g_iload_n h dX6_odds_29 rfl ?_
        refine g_aload_n h dX6_odds_30 rfl ?_
        refine g_iload h dX6_odds_31 rfl ?_
        refine g_iload_n h dX6_odds_33 rfl ?_
        refine cl6_107 h  (ct_X6_stakeOf (i := i) (a := a) (by omega) (by omega) g.2.1 ((g.gd (by omega)).2.2 i hlt)) rfl dX6_odds_34 rfl (Nat.le_of_ble_eq_true rfl) (by decide) ?_
        refine g_iadd h dX6_odds_37 ?_
        refine g_istore_n h dX6_odds_38 (by rw [hL]; decide) ?_
        refine g_iload_n h dX6_odds_39 rfl ?_
        refine g_aload_n h dX6_odds_40 rfl ?_
        refine g_iload h dX6_odds_41 rfl ?_
        refine g_iload_n h dX6_odds_43 rfl ?_
        refine cl6_104 h  (ct_X6_wordOf (n := n) (m := m) (j := i) (a := a) (g.gd (by omega)) hlt (by omega)) rfl dX6_odds_44 rfl (Nat.le_of_ble_eq_true rfl) (by decide) ?_
        refine g_iconst (v := 1) h dX6_odds_47 (by decide) ?_
        refine g_icne h 61 dX6_odds_48 (by decide) (fun c48 => ?_) (fun c48 => ?_)
        · refine g_iconst (v := 0) h dX6_odds_61 (by decide) ?_
          refine g_iadd h dX6_odds_62 ?_
          refine g_istore_n h dX6_odds_63 (by rw [hL]; decide) ?_
          refine g_iincN h dX6_odds_64 rfl (by rw [hL]; decide) ?_
          refine g_goto h 17 dX6_odds_67 (by decide) ?_
          refine g_sub [(0, ra X 150), (1, .int (nI a)), (2, .int (modA (σ.1 151) a (i + 1))), (3, .int (modO (σ.1 151) n a (i + 1))), (4, .int (nI (i + 1)))] ⟨rfl, rfl, (congrArg (fun z => some (Value.int z)) (by show _ = sumF _ _ i + _; first | (simp [modA, modO, c26, c48]; done) | (simp_all [modA, modO]; done))), (congrArg (fun z => some (Value.int z)) (by show _ = sumF _ _ i + _; first | (simp [modA, modO, c26, c48]; done) | (simp_all [modA, modO]; done))), rfl, trivial⟩ ?_
          exact ih (i + 1) (by omega)
        · refine g_aload_n h dX6_odds_51 rfl ?_
          refine g_iload h dX6_odds_52 rfl ?_
          refine g_iload_n h dX6_odds_54 rfl ?_
          refine cl6_107 h  (ct_X6_stakeOf (i := i) (a := a) (by omega) (by omega) g.2.1 ((g.gd (by omega)).2.2 i hlt)) rfl dX6_odds_55 rfl (Nat.le_of_ble_eq_true rfl) (by decide) ?_
          refine g_goto h 62 dX6_odds_58 (by decide) ?_
          refine g_iadd h dX6_odds_62 ?_
          refine g_istore_n h dX6_odds_63 (by rw [hL]; decide) ?_
          refine g_iincN h dX6_odds_64 rfl (by rw [hL]; decide) ?_
          refine g_goto h 17 dX6_odds_67 (by decide) ?_
          refine g_sub [(0, ra X 150), (1, .int (nI a)), (2, .int (modA (σ.1 151) a (i + 1))), (3, .int (modO (σ.1 151) n a (i + 1))), (4, .int (nI (i + 1)))] ⟨rfl, rfl, (congrArg (fun z => some (Value.int z)) (by show _ = sumF _ _ i + _; first | (simp [modA, modO, c26, c48]; done) | (simp_all [modA, modO]; done))), (congrArg (fun z => some (Value.int z)) (by show _ = sumF _ _ i + _; first | (simp [modA, modO, c26, c48]; done) | (simp_all [modA, modO]; done))), rfl, trivial⟩ ?_
          exact ih (i + 1) (by omega)
    refine g_iconst (v := 0) h dX6_odds_10 (by decide) ?_
    refine g_istore_n h dX6_odds_11 (by rw [hL]; decide) ?_
    refine g_iconst (v := 0) h dX6_odds_12 (by decide) ?_
    refine g_istore_n h dX6_odds_13 (by rw [hL]; decide) ?_
    refine g_iconst (v := 0) h dX6_odds_14 (by decide) ?_
    refine g_istore h dX6_odds_15 (by rw [hL]; decide) ?_
    refine g_sub [(0, ra X 150), (1, .int (nI a)), (2, .int (modA (σ.1 151) a 0)), (3, .int (modO (σ.1 151) n a 0)), (4, .int (nI 0))] ⟨rfl, rfl, rfl, rfl, lk_0, trivial⟩ ?_
    exact LOOP n 0 (by omega)
  · refine g_ldc h (-1000001) (lw_in 696 (by decide +kernel) rfl) dX6_odds_7 ?_
    exact g_iret h hr dX6_odds_9 (by first | (simp [mOdds, kBad, c4]; done)) (by first | (simp [mOdds, c4]; done))