/-! floats: the walks of the class -/

set_option maxRecDepth 100000 in
set_option maxHeartbeats 4000000 in
theorem ct_X5_bits0 {l : Launch} {X : fX} {σ : fM} {u w cc0 ee0 : Nat} {vv : Int32} (hu : u ≤ w) (hw : w < 2 ^ 24) (hv0 : u = 0 → vv = 0) (hv1 : 0 < u → fOk cc0 ee0 ∧ ee0 ≤ 127 ∧ 80 ≤ ee0 ∧ vv = nI (ee0 * 2 ^ 23 + (cc0 - 2 ^ 23)) ∧ FP.fdiv (FP.i2f (nI u)) (FP.i2f (nI w)) = FV cc0 ee0) : Ct l X yX5_bitsOfQuotient cX5_bitsOfQuotient 5 (some .int) 0 [.int (nI u), .int (nI w)] σ (some (.int vv)) σ := by
  refine Ct.of RX5 rfl (by decide) (Nat.le_of_ble_eq_true rfl) ?_
  intro x hL h hr
  refine g_sub [(0, .int (nI u)), (1, .int (nI w))] ⟨rfl, rfl, trivial⟩ ?_
  refine g_iload_n h dX5_bitsOfQuotient_0 rfl ?_
  refine g_ifle h 8 dX5_bitsOfQuotient_1 (by decide) (fun c1 => ?_) (fun c1 => ?_)
  · have hu0 : u = 0 := by
      rcases Nat.eq_zero_or_pos u with e | e
      · exact e
      · exact absurd c1 (nI_nle e (by omega))
    refine g_iconst (v := 0) h dX5_bitsOfQuotient_8 (by decide) ?_
    exact g_iret h hr dX5_bitsOfQuotient_9 (hv0 hu0).symm rfl
  · have h0 : 0 < u := by
      rcases Nat.eq_zero_or_pos u with e | e
      · exact absurd (by rw [e]; decide) c1
      · exact e
    obtain ⟨hk, hk127, hk80, hV, hdv⟩ := hv1 h0
    have hk7 : fOk cc0 127 := ⟨hk.1, hk.2.1, by decide, by decide⟩
    have LOOP : ∀ (q j : Nat), j + q = (127 - ee0) → G x X σ [(2, .float (FV cc0 (ee0 + j))), (3, .int (nI (127 - j))), (4, .int (nI j))] [] 22 := by
      intro q
      induction q with
      | zero =>
        intro j hj 
        have hie : j = (127 - ee0) := by omega
        rw [hie]
        rw [show ee0 + (127 - ee0) = 127 by omega, show 127 - (127 - ee0) = ee0 by omega]
        refine g_iload h dX5_bitsOfQuotient_22 rfl ?_
        refine g_bipush (v := 126) h dX5_bitsOfQuotient_24 (by decide) ?_
        refine g_icge h 48 dX5_bitsOfQuotient_26 (by decide) (fun c26 => absurd c26 (nI_ge (b := 126) (by omega) (by decide))) (fun c26 => ?_)
        refine g_fload_n h dX5_bitsOfQuotient_29 rfl ?_
        refine g_fconst1 h dX5_bitsOfQuotient_30 ?_
        refine g_fcmp h dX5_bitsOfQuotient_31 ?_
        refine g_ifge h 48 dX5_bitsOfQuotient_32 (by decide) (fun c32 => ?_) (fun c32 => absurd ((fcmp_1 hk7 (Nat.le_refl 127)).2 rfl) c32)
        refine g_iload_n h dX5_bitsOfQuotient_48 rfl ?_
        refine g_bipush (v := 23) h dX5_bitsOfQuotient_49 (by decide) ?_
        refine g_ishl h dX5_bitsOfQuotient_51 ?_
        refine g_fload_n h dX5_bitsOfQuotient_52 rfl ?_
        refine g_ldcf h (1258291200) (lw_in 464 (by decide +kernel) rfl) dX5_bitsOfQuotient_53 ?_
        refine g_fmul h dX5_bitsOfQuotient_55 (by rw [fmul_k hk7 (by decide) val_23]; exact FV_nn ⟨hk.1, hk.2.1, by decide, by decide⟩) ?_
        refine g_st [.float (FV cc0 150), .int (nI (ee0 * 2 ^ 23))] (by rw [fmul_k hk7 (by decide) val_23, pk_shlN (23 &&& 31) 23 (by decide) (by omega)]) ?_
        refine g_f2i h dX5_bitsOfQuotient_56 ?_
        refine g_top (nI cc0) (f2i_v ⟨hk.1, hk.2.1, by decide, by decide⟩) ?_
        refine g_ldc h (8388608) (lw_in 465 (by decide +kernel) rfl) dX5_bitsOfQuotient_57 ?_
        refine g_isub h dX5_bitsOfQuotient_59 ?_
        refine g_iadd h dX5_bitsOfQuotient_60 ?_
        exact g_iret h hr dX5_bitsOfQuotient_61 (by rw [hV, show (8388608 : Int32) = nI (2 ^ 23) by decide, pk_sub hk.1, nI_add]) rfl
      | succ q ih =>
        intro j hj 
        have hlt : j < (127 - ee0) := by omega
        refine g_iload h dX5_bitsOfQuotient_22 rfl ?_
        refine g_bipush (v := 126) h dX5_bitsOfQuotient_24 (by decide) ?_
        refine g_icge h 48 dX5_bitsOfQuotient_26 (by decide) (fun c26 => absurd c26 (nI_ge (b := 126) (by omega) (by decide))) (fun c26 => ?_)
        refine g_fload_n h dX5_bitsOfQuotient_29 rfl ?_
        refine g_fconst1 h dX5_bitsOfQuotient_30 ?_
        refine g_fcmp h dX5_bitsOfQuotient_31 ?_
        refine g_ifge h 48 dX5_bitsOfQuotient_32 (by decide) (fun c32 => absurd c32 (by rw [(fcmp_1 (show fOk cc0 (ee0 + j) from ⟨hk.1, hk.2.1, by omega, by omega⟩) (by omega)).1 (by omega)]; decide)) (fun c32 => ?_)
        refine g_fload_n h dX5_bitsOfQuotient_35 rfl ?_
        refine g_fconst2 h dX5_bitsOfQuotient_36 ?_
        refine g_fmul h dX5_bitsOfQuotient_37 (by rw [fmul_k (show fOk cc0 (ee0 + j) from ⟨hk.1, hk.2.1, by omega, by omega⟩) (by omega) val_2]; exact FV_nn ⟨hk.1, hk.2.1, by omega, by omega⟩) ?_
        refine g_st [.float (FV cc0 (ee0 + (j + 1)))] (by rw [fmul_k (show fOk cc0 (ee0 + j) from ⟨hk.1, hk.2.1, by omega, by omega⟩) (by omega) val_2]; rfl) ?_
        refine g_fstore_n h dX5_bitsOfQuotient_38 (by rw [hL]; decide) ?_
        refine g_iinc h dX5_bitsOfQuotient_39 rfl (by rw [hL]; decide) ?_
        refine g_iincN h dX5_bitsOfQuotient_42 rfl (by rw [hL]; decide) ?_
        refine g_goto h 22 dX5_bitsOfQuotient_45 (by decide) ?_
        refine g_sub [(2, .float (FV cc0 (ee0 + (j + 1)))), (3, .int (nI (127 - (j + 1)))), (4, .int (nI (j + 1)))] ⟨rfl, (congrArg (fun z => some (Value.int z)) (by rw [nI_m1, show 127 - j = (127 - (j + 1)) + 1 by omega, nI_pred])), rfl, trivial⟩ ?_
        exact ih (j + 1) (by omega)
    refine g_iload_n h dX5_bitsOfQuotient_4 rfl ?_
    refine g_ifgt h 10 dX5_bitsOfQuotient_5 (by decide) (fun c5 => ?_) (fun c5 => absurd (nI_lt (a := 0) (by omega) (by omega)) c5)
    refine g_iload_n h dX5_bitsOfQuotient_10 rfl ?_
    refine g_i2f h dX5_bitsOfQuotient_11 ?_
    refine g_iload_n h dX5_bitsOfQuotient_12 rfl ?_
    refine g_i2f h dX5_bitsOfQuotient_13 ?_
    refine g_fdiv h dX5_bitsOfQuotient_14 (by rw [hdv]; exact FV_nn hk) ?_
    refine g_st [.float (FV cc0 ee0)] (by rw [hdv]) ?_
    refine g_fstore_n h dX5_bitsOfQuotient_15 (by rw [hL]; decide) ?_
    refine g_bipush (v := 127) h dX5_bitsOfQuotient_16 (by decide) ?_
    refine g_istore_n h dX5_bitsOfQuotient_18 (by rw [hL]; decide) ?_
    refine g_iconst (v := 0) h dX5_bitsOfQuotient_19 (by decide) ?_
    refine g_istore h dX5_bitsOfQuotient_20 (by rw [hL]; decide) ?_
    refine g_sub [(2, .float (FV cc0 (ee0 + 0))), (3, .int (nI (127 - 0))), (4, .int (nI 0))] ⟨rfl, rfl, lk_0, trivial⟩ ?_
    exact LOOP (127 - ee0) 0 (by omega)

theorem ct_X5_bitsOfQuotient {l : Launch} {X : fX} {σ : fM} {u w : Nat} (hu : u ≤ w) (hw : w < 2 ^ 24) : Ct l X yX5_bitsOfQuotient cX5_bitsOfQuotient 5 (some .int) 0 [.int (nI u), .int (nI w)] σ (some (.int (fbV u w))) σ :=
  ct_X5_bits0 (cc0 := fbc u w) (ee0 := fbe u w) hu hw (fun h => by unfold fbV; rw [if_pos h]) (fun h0 => by
    obtain ⟨a, b, c, d⟩ := fbce_ok h0 hu hw
    exact ⟨a, b, c, d, fdiv_v h0 hu hw⟩)


def shR (f : Nat → Int32) : Prop := ∃ a b : Nat, a + b < 2 ^ 24 ∧ f 5 = nI a ∧ f 6 = nI b
def shV (f : Nat → Int32) : Int32 := if f 5 + f 6 ≤ 0 then kNone else fbV (ix (f 5)) (ix (f 5 + f 6))
def cShare (σ : fM) (o : Int32) : Int32 × fM := if wi o 0 (σ.1 (iS 0) 3 - 1) = false then (kBad, σ) else (shV (σ.1 (iO 0 (ix o))), σ)

set_option maxRecDepth 100000 in
set_option maxHeartbeats 4000000 in
theorem ct_X5_share {l : Launch} {X : fX} {σ : fM} {n m : Nat} (hg : gst σ 0 n m) (hsh : ∀ i, i < n → shR (σ.1 (iO 0 i))) {o : Int32} : Ct l X yX5_share cX5_share 4 (some .int) 2 [ra X 0, .int o] σ (some (.int (cShare σ o).1)) (cShare σ o).2 := by
  refine Ct.of RX5 rfl (by decide) (Nat.le_of_ble_eq_true rfl) ?_
  intro x hL h hr
  refine g_sub [(0, ra X 0), (1, .int o)] ⟨rfl, rfl, trivial⟩ ?_
  obtain ⟨hc, hcr, hgd⟩ := id hg
  obtain ⟨hn, hm, hn6, hm8⟩ := id hc
  refine g_aload_n h dX5_share_0 rfl ?_
  refine g_iload_n h dX5_share_1 rfl ?_
  refine cl5_71 h  (ct_X5_isOracle ) rfl dX5_share_2 rfl (Nat.le_of_ble_eq_true rfl) (by decide) ?_
  refine g_ifneB h 11 dX5_share_5 (by decide) (fun c5 => ?_) (fun c5 => ?_)
  · obtain ⟨j, hj, rfl⟩ := wi_or (by omega) hn c5
    have hij : (nI j).toNatClampNeg = j := nI_clamp (by omega)
    obtain ⟨a, b, hab, ea, eb⟩ := hsh j hj
    refine g_aload_n h dX5_share_11 rfl ?_
    refine gf5_10 h  dX5_share_12 ?_
    refine gf5_61 h (by omega) dX5_share_15 ?_
    refine g_iload_n h dX5_share_18 rfl ?_
    refine g_aaldO h (by omega) rfl (by omega) dX5_share_19 ?_
    refine g_astore_n h dX5_share_20 (by rw [hL]; decide) ?_
    refine g_aload_n h dX5_share_21 rfl ?_
    refine gf5_121 h (by omega) (by omega) dX5_share_22 ?_
    refine g_aload_n h dX5_share_25 rfl ?_
    refine gf5_124 h (by omega) (by omega) dX5_share_26 ?_
    refine g_iadd h dX5_share_29 ?_
    refine g_istore_n h dX5_share_30 (by rw [hL]; decide) ?_
    refine g_iload_n h dX5_share_31 rfl ?_
    refine g_ifle h 46 dX5_share_32 (by decide) (fun c32 => ?_) (fun c32 => ?_)
    · refine g_ldc h (-1000004) (lw_in 422 (by decide +kernel) rfl) dX5_share_46 ?_
      exact g_iret h hr dX5_share_48 (by first | (simp [cShare, kBad, ix, c5, c32]; done) | (unfold cShare; rw [if_neg (by rw [c5]; decide), show ix (nI j) = j from hij]; dsimp only; unfold shV ix; first | (rw [if_neg c32, ea, eb, nI_add, nI_clamp (by omega), nI_clamp (by omega)]; done) | (rw [if_pos c32]; rfl))) (by first | (simp [cShare, ix, c5, c32]; done) | (simp [cShare, ix, hij, c5, c32]; done))
    · refine g_aload_n h dX5_share_35 rfl ?_
      refine gf5_121 h (by omega) (by omega) dX5_share_36 ?_
      refine g_iload_n h dX5_share_39 rfl ?_
      refine g_st [.int (nI (a + b)), .int (nI a)] (by rw [ea, eb, nI_add]) ?_
      refine cl5_173 h (ct_X5_bitsOfQuotient (u := a) (w := a + b) (by omega) hab) rfl dX5_share_40 rfl (Nat.le_of_ble_eq_true rfl) (by decide) ?_
      refine g_goto h 48 dX5_share_43 (by decide) ?_
      exact g_iret h hr dX5_share_48 (by first | (simp [cShare, kBad, ix, c5, c32]; done) | (unfold cShare; rw [if_neg (by rw [c5]; decide), show ix (nI j) = j from hij]; dsimp only; unfold shV ix; first | (rw [if_neg c32, ea, eb, nI_add, nI_clamp (by omega), nI_clamp (by omega)]; done) | (rw [if_pos c32]; rfl))) (by first | (simp [cShare, ix, c5, c32]; done) | (simp [cShare, ix, hij, c5, c32]; done))
  · refine g_ldc h (-1000001) (lw_in 220 (by decide +kernel) rfl) dX5_share_8 ?_
    exact g_iret h hr dX5_share_10 (by first | (simp [cShare, kBad, ix, c5]; done) | (unfold cShare; rw [if_neg (by rw [c5]; decide), show ix (nI j) = j from hij]; dsimp only; unfold shV ix; first | (rw [if_neg c32, ea, eb, nI_add, nI_clamp (by omega), nI_clamp (by omega)]; done) | (rw [if_pos c32]; rfl))) (by first | (simp [cShare, ix, c5]; done) | (simp [cShare, ix, hij, c5]; done))

theorem nle0 {k : Nat} (hk : k < 2 ^ 31) (h : nI k ≤ 0) : k = 0 := by
  rcases Nat.eq_zero_or_pos k with e | e
  · exact e
  · exact absurd h (nI_nle e hk)
def odV (xa ya : Nat) : Int32 := if xa + ya = 0 then kNone else fbV xa (xa + ya)
def cOdds (σ : fM) (n : Nat) (a : Int32) (xa ya : Nat) : Int32 × fM := if isA a = false then (kBad, σ) else (odV xa ya, fore σ 0 n a)

set_option maxRecDepth 100000 in
set_option maxHeartbeats 4000000 in
theorem ct_X5_odds {l : Launch} {X : fX} {σ : fM} {n m : Nat} (hg : gst σ 0 n m) {a : Int32} {xa ya : Nat} (hxy : xa + ya < 2 ^ 24) (h1 : isA a = true → stk (fore σ 0 n a) 0 n 1 = nI xa ∧ stk (fore σ 0 n a) 0 n 0 = nI ya) : Ct l X yX5_odds cX5_odds 4 (some .int) 4 [ra X 0, .int a] σ (some (.int (cOdds σ n a xa ya).1)) (cOdds σ n a xa ya).2 := by
  refine Ct.of RX5 rfl (by decide) (Nat.le_of_ble_eq_true rfl) ?_
  intro x hL h hr
  refine g_sub [(0, ra X 0), (1, .int a)] ⟨rfl, rfl, trivial⟩ ?_
  obtain ⟨hc, hcr, hgd⟩ := id hg
  obtain ⟨hn, hm, hn6, hm8⟩ := id hc
  refine g_iload_n h dX5_odds_0 rfl ?_
  refine cl5_107 h (ct_X5_isAddress) rfl dX5_odds_1 rfl (Nat.le_of_ble_eq_true rfl) (by decide) ?_
  refine g_ifneB h 10 dX5_odds_4 (by decide) (fun c4 => ?_) (fun c4 => ?_)
  · obtain ⟨e1, e0⟩ := h1 c4
    refine g_aload_n h dX5_odds_10 rfl ?_
    refine gf5_10 h  dX5_odds_11 ?_
    refine g_iload_n h dX5_odds_14 rfl ?_
    refine cl5_179 h (by omega) (ct_X3_foretell (by decide) hc hgd) rfl dX5_odds_15 rfl (Nat.le_of_ble_eq_true rfl) (by decide) ?_
    refine g_aload_n h dX5_odds_18 rfl ?_
    refine gf5_10 h  dX5_odds_19 ?_
    refine g_iconst (v := 1) h dX5_odds_22 (by decide) ?_
    refine cl5_189 h (by omega) (ct_X3_stakesOn (by decide) (fore_cnt _ hc)) rfl dX5_odds_23 rfl (Nat.le_of_ble_eq_true rfl) (by decide) ?_
    refine g_top (nI xa) e1 ?_
    refine g_istore_n h dX5_odds_26 (by rw [hL]; decide) ?_
    refine g_iload_n h dX5_odds_27 rfl ?_
    refine g_aload_n h dX5_odds_28 rfl ?_
    refine gf5_10 h  dX5_odds_29 ?_
    refine g_iconst (v := 0) h dX5_odds_32 (by decide) ?_
    refine cl5_189 h (by omega) (ct_X3_stakesOn (by decide) (fore_cnt _ hc)) rfl dX5_odds_33 rfl (Nat.le_of_ble_eq_true rfl) (by decide) ?_
    refine g_st [.int (nI ya), .int (nI xa)] (by rw [← e0]; rfl) ?_
    refine g_iadd h dX5_odds_36 ?_
    refine g_top (nI (xa + ya)) (nI_add xa ya) ?_
    refine g_istore_n h dX5_odds_37 (by rw [hL]; decide) ?_
    refine g_iload_n h dX5_odds_38 rfl ?_
    refine g_ifle h 50 dX5_odds_39 (by decide) (fun c39 => ?_) (fun c39 => ?_)
    · refine g_ldc h (-1000004) (lw_in 422 (by decide +kernel) rfl) dX5_odds_50 ?_
      exact g_iret h hr dX5_odds_52 (by first | (simp [cOdds, kBad, c4, c39]; done) | (unfold cOdds; rw [if_neg (by rw [c4]; decide)]; dsimp only; unfold odV; first | (rw [if_neg (fun e => c39 (by rw [e]; decide))]; done) | (rw [if_pos (nle0 (by omega) c39)]; rfl))) (by simp [cOdds, c4, c39])
    · refine g_iload_n h dX5_odds_42 rfl ?_
      refine g_iload_n h dX5_odds_43 rfl ?_
      refine cl5_173 h (ct_X5_bitsOfQuotient (u := xa) (w := xa + ya) (by omega) hxy) rfl dX5_odds_44 rfl (Nat.le_of_ble_eq_true rfl) (by decide) ?_
      refine g_goto h 52 dX5_odds_47 (by decide) ?_
      exact g_iret h hr dX5_odds_52 (by first | (simp [cOdds, kBad, c4, c39]; done) | (unfold cOdds; rw [if_neg (by rw [c4]; decide)]; dsimp only; unfold odV; first | (rw [if_neg (fun e => c39 (by rw [e]; decide))]; done) | (rw [if_pos (nle0 (by omega) c39)]; rfl))) (by simp [cOdds, c4, c39])
  · refine g_ldc h (-1000001) (lw_in 220 (by decide +kernel) rfl) dX5_odds_7 ?_
    exact g_iret h hr dX5_odds_9 (by first | (simp [cOdds, kBad, c4]; done) | (unfold cOdds; rw [if_neg (by rw [c4]; decide)]; dsimp only; unfold odV; first | (rw [if_neg (fun e => c39 (by rw [e]; decide))]; done) | (rw [if_pos (nle0 (by omega) c39)]; rfl))) (by simp [cOdds, c4])