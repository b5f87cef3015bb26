/-! the law's turns: to lend and to give -/
section TURNS
variable {l : Launch} {x : fC} {X : fX} {σ τ : fM} {Q O T V w : Nat → Int32} {m B y : Nat}
theorem KM_up {B' y' : Nat} (K : KM σ Q O T V w m B y) (h1 : B ≤ B') (h2 : y ≤ y') : KM σ Q O T V w m B' y' := ⟨lKv_up K.1 h1 h2, K.2⟩

set_option maxRecDepth 100000 in
set_option maxHeartbeats 4000000 in
theorem tn_4 (h : Ok l x X cL_law RL 8) (hL : xL x = 16) {i k a e v : Nat} {xv : Int32} (hk : k < 5) (he : e < 5) (h1v : 1 ≤ v) (hv : v ≤ 9999) (hB : B < 2 ^ 24) (K : KM σ Q O T V w m B y) (C : ∀ (σ : fM) (Q O T V w : Nat → Int32) (m k : Nat), k < 5 → KM σ Q O T V w m (B + 100) (y + 3) → G x X σ [(0, .ref (X.2.2.2.1 2)), (1, ra X 0), (2, ra X (qI 0)), (3, ra X (oI 0)), (4, ra X (tI 0)), (5, ra X (vI 0)), (6, ra X 154), (7, .int (nI i)), (8, .int xv), (10, .int (nI k)), (12, .int (nI a))] [] 871) : G x X (put5 σ 0 Q O T V w) [(0, .ref (X.2.2.2.1 2)), (1, ra X 0), (2, ra X (qI 0)), (3, ra X (oI 0)), (4, ra X (tI 0)), (5, ra X (vI 0)), (6, ra X 154), (7, .int (nI i)), (8, .int xv), (10, .int (nI k)), (11, .int (nI (10 * k))), (12, .int (nI a)), (13, .int (nI e)), (14, .int (nI v)), (15, .int (bi (decide (nI v ≤ O (10 * k + 2)))))] [] 616 := by
  have hm8 := K.m8
  by_cases hke : k = e
  · refine g_iload h dL_law_616 rfl ?_
    refine g_iload h dL_law_618 rfl ?_
    refine g_iceq h 733 dL_law_620 (by decide) (fun c620 => ?_) (fun c620 => absurd (congrArg nI hke) c620)
    refine g_goto h 871 dL_law_733 (by decide) ?_
    refine g_mem σ K.2.self ?_
    refine g_sub [(0, .ref (X.2.2.2.1 2)), (1, ra X 0), (2, ra X (qI 0)), (3, ra X (oI 0)), (4, ra X (tI 0)), (5, ra X (vI 0)), (6, ra X 154), (7, .int (nI i)), (8, .int xv), (10, .int (nI k)), (12, .int (nI a))] ⟨rfl, rfl, rfl, rfl, rfl, rfl, rfl, rfl, rfl, rfl, rfl, trivial⟩ ?_
    exact C _ _ _ _ _ _ _ _ hk (KM_up K (by omega) (by omega))
  by_cases hm7 : m = 8
  · refine g_iload h dL_law_616 rfl ?_
    refine g_iload h dL_law_618 rfl ?_
    refine g_iceq h 733 dL_law_620 (by decide) (fun c620 => absurd ((nI_eq (by omega) (by omega)).mp c620) hke) (fun c620 => ?_)
    refine g_aload_n h dL_law_623 rfl ?_
    refine g_bipush (v := nI 7) h dL_law_624 (by decide) ?_
    refine g_ldq h hb0 (by omega) dL_law_626 ?_
    refine g_top (nI m) K.1.1.2.1 ?_
    refine g_bipush (v := nI 8) h dL_law_627 (by decide) ?_
    refine g_icge h 733 dL_law_629 (by decide) (fun c629 => ?_) (fun c629 => absurd (nI_le (a := 8) (by omega) (by omega)) c629)
    refine g_goto h 871 dL_law_733 (by decide) ?_
    refine g_mem σ K.2.self ?_
    refine g_sub [(0, .ref (X.2.2.2.1 2)), (1, ra X 0), (2, ra X (qI 0)), (3, ra X (oI 0)), (4, ra X (tI 0)), (5, ra X (vI 0)), (6, ra X 154), (7, .int (nI i)), (8, .int xv), (10, .int (nI k)), (12, .int (nI a))] ⟨rfl, rfl, rfl, rfl, rfl, rfl, rfl, rfl, rfl, rfl, rfl, trivial⟩ ?_
    exact C _ _ _ _ _ _ _ _ hk (KM_up K (by omega) (by omega))
  have K1 : lKv (put5 σ 0 Q O T V w) Q O T V m B y := lKv_p5 K.1
  obtain ⟨f, z, hp⟩ := id K1.2.2.2
  have hC := ct_X5_lend (l := l) (X := X) (lrl_gst K1.1 K1.2.1) hp (o := nI k) (e := nI e) (v := nI v)
  have hR := lc_lend hk he hke h1v hv (by omega) hB K1 hp
  by_cases hle : nI v ≤ O (10 * k + 2)
  · obtain ⟨r1, r2, r3⟩ := hR.1 hle
    rw [r1, p5_hold r3] at hC
    generalize (cLend (put5 σ 0 Q O T V w) f z 5 m (nI k) (nI e) (nI v)).2 = τ at hC r2
    refine g_iload h dL_law_616 rfl ?_
    refine g_iload h dL_law_618 rfl ?_
    refine g_iceq h 733 dL_law_620 (by decide) (fun c620 => absurd ((nI_eq (by omega) (by omega)).mp c620) hke) (fun c620 => ?_)
    refine g_aload_n h dL_law_623 rfl ?_
    refine g_bipush (v := nI 7) h dL_law_624 (by decide) ?_
    refine g_ldq h hb0 (by omega) dL_law_626 ?_
    refine g_top (nI m) K.1.1.2.1 ?_
    refine g_bipush (v := nI 8) h dL_law_627 (by decide) ?_
    refine g_icge h 733 dL_law_629 (by decide) (fun c629 => absurd c629 (nI_ge (b := 8) (by omega) (by decide))) (fun c629 => ?_)
    refine g_aload_n h dL_law_632 rfl ?_
    refine g_iload h dL_law_633 rfl ?_
    refine g_iload h dL_law_635 rfl ?_
    refine g_iload h dL_law_637 rfl ?_
    refine clL_111 h  hC rfl dL_law_639 rfl (Nat.le_of_ble_eq_true rfl) (by decide) ?_
    refine g_iload h dL_law_642 rfl ?_
    refine g_ifeqB h 654 dL_law_644 (by decide) (fun c644 => absurd hle (of_decide_eq_false c644)) (fun c644 => ?_)
    refine g_aload_n h dL_law_647 rfl ?_
    refine g_bipush (v := nI 7) h dL_law_648 (by decide) ?_
    refine g_ldq h hb0 (by omega) dL_law_650 ?_
    refine g_top (nI m) K.1.1.2.1 ?_
    refine g_goto h 656 dL_law_651 (by decide) ?_
    refine g_iceq h 661 dL_law_656 (by decide) (fun c656 => ?_) (fun c656 => absurd rfl c656)
    refine g_iload h dL_law_661 rfl ?_
    refine g_ifeqB h 733 dL_law_663 (by decide) (fun c663 => absurd hle (of_decide_eq_false c663)) (fun c663 => ?_)
    refine g_aload h dL_law_666 rfl ?_
    refine g_iconst (v := nI 3) h dL_law_668 (by decide) ?_
    refine g_aload_n h dL_law_669 rfl ?_
    refine g_bipush (v := nI 7) h dL_law_670 (by decide) ?_
    refine g_ldq h hb0 (by omega) dL_law_672 ?_
    refine g_top (nI m) K.1.1.2.1 ?_
    refine g_imulN h dL_law_673 ?_
    refine g_iload h dL_law_674 rfl ?_
    refine g_stv h hb0 (by omega) dL_law_676 ?_
    refine g_aload h dL_law_677 rfl ?_
    refine g_iconst (v := nI 3) h dL_law_679 (by decide) ?_
    refine g_aload_n h dL_law_680 rfl ?_
    refine g_bipush (v := nI 7) h dL_law_681 (by decide) ?_
    refine g_ldq h hb0 (by omega) dL_law_683 ?_
    refine g_top (nI m) K.1.1.2.1 ?_
    refine g_imulN h dL_law_684 ?_
    refine g_iconst (v := nI 1) h dL_law_685 (by decide) ?_
    refine g_iaddN h dL_law_686 ?_
    refine g_iload h dL_law_687 rfl ?_
    refine g_stv h hb0 (by omega) dL_law_689 ?_
    refine g_aload h dL_law_690 rfl ?_
    refine g_iconst (v := nI 3) h dL_law_692 (by decide) ?_
    refine g_aload_n h dL_law_693 rfl ?_
    refine g_bipush (v := nI 7) h dL_law_694 (by decide) ?_
    refine g_dup2 h dL_law_696 rfl rfl ?_
    refine g_ldq h hb0 (by omega) dL_law_697 ?_
    refine g_top (nI m) K.1.1.2.1 ?_
    refine g_dup_x2 h dL_law_698 rfl rfl rfl ?_
    refine g_iconst (v := nI 1) h dL_law_699 (by decide) ?_
    refine g_iaddN h dL_law_700 ?_
    refine g_stq h hb0 (by omega) dL_law_701 ?_
    refine g_imulN h dL_law_702 ?_
    refine g_iconst (v := nI 2) h dL_law_703 (by decide) ?_
    refine g_iaddN h dL_law_704 ?_
    refine g_iload h dL_law_705 rfl ?_
    refine g_stv h hb0 (by omega) dL_law_707 ?_
    refine g_aload_n h dL_law_708 rfl ?_
    refine g_iload h dL_law_709 rfl ?_
    refine g_iconst (v := nI 2) h dL_law_711 (by decide) ?_
    refine g_iaddN h dL_law_712 ?_
    refine g_dup2 h dL_law_713 rfl rfl ?_
    refine g_ldo h hb0 (by omega) dL_law_714 ?_
    refine g_iload h dL_law_715 rfl ?_
    refine g_isub h dL_law_717 ?_
    refine g_sto h hb0 (by omega) dL_law_718 ?_
    refine g_aload_n h dL_law_719 rfl ?_
    refine g_bipush (v := nI 10) h dL_law_720 (by decide) ?_
    refine g_iload h dL_law_722 rfl ?_
    refine g_imulN h dL_law_724 ?_
    refine g_iconst (v := nI 2) h dL_law_725 (by decide) ?_
    refine g_iaddN h dL_law_726 ?_
    refine g_dup2 h dL_law_727 rfl rfl ?_
    refine g_ldo h hb0 (by omega) dL_law_728 ?_
    refine g_iload h dL_law_729 rfl ?_
    refine g_iadd h dL_law_731 ?_
    refine g_sto h hb0 (by omega) dL_law_732 ?_
    refine g_goto h 871 dL_law_733 (by decide) ?_
    refine g_mem (put5 τ 0 (upd Q 7 (nI (m + 1))) (upd (upd O (10 * k + 2) (O (10 * k + 2) - nI v)) (10 * e + 2) (O (10 * e + 2) + nI v)) T (upd (upd (upd V (3 * m) (nI k)) (3 * m + 1) (nI e)) (3 * m + 2) (nI v)) w) (by rw [upd_n O _ (10 * e + 2) _ (by omega)]) ?_
    refine g_sub [(0, .ref (X.2.2.2.1 2)), (1, ra X 0), (2, ra X (qI 0)), (3, ra X (oI 0)), (4, ra X (tI 0)), (5, ra X (vI 0)), (6, ra X 154), (7, .int (nI i)), (8, .int xv), (10, .int (nI k)), (12, .int (nI a))] ⟨rfl, rfl, rfl, rfl, rfl, rfl, rfl, rfl, rfl, rfl, rfl, trivial⟩ ?_
    exact C _ _ _ _ _ _ _ _ hk (KM_p5 (lKv_up r2 (by omega) (by omega)))
  · rw [hR.2 hle] at hC
    refine g_iload h dL_law_616 rfl ?_
    refine g_iload h dL_law_618 rfl ?_
    refine g_iceq h 733 dL_law_620 (by decide) (fun c620 => absurd ((nI_eq (by omega) (by omega)).mp c620) hke) (fun c620 => ?_)
    refine g_aload_n h dL_law_623 rfl ?_
    refine g_bipush (v := nI 7) h dL_law_624 (by decide) ?_
    refine g_ldq h hb0 (by omega) dL_law_626 ?_
    refine g_top (nI m) K.1.1.2.1 ?_
    refine g_bipush (v := nI 8) h dL_law_627 (by decide) ?_
    refine g_icge h 733 dL_law_629 (by decide) (fun c629 => absurd c629 (nI_ge (b := 8) (by omega) (by decide))) (fun c629 => ?_)
    refine g_aload_n h dL_law_632 rfl ?_
    refine g_iload h dL_law_633 rfl ?_
    refine g_iload h dL_law_635 rfl ?_
    refine g_iload h dL_law_637 rfl ?_
    refine clL_111 h  hC rfl dL_law_639 rfl (Nat.le_of_ble_eq_true rfl) (by decide) ?_
    refine g_iload h dL_law_642 rfl ?_
    refine g_ifeqB h 654 dL_law_644 (by decide) (fun c644 => ?_) (fun c644 => absurd (decide_eq_true_iff.mp c644) hle)
    refine g_ldc h (-1000002) (lw_in 519 (by decide +kernel) rfl) dL_law_654 ?_
    refine g_iceq h 661 dL_law_656 (by decide) (fun c656 => ?_) (fun c656 => absurd rfl c656)
    refine g_iload h dL_law_661 rfl ?_
    refine g_ifeqB h 733 dL_law_663 (by decide) (fun c663 => ?_) (fun c663 => absurd (decide_eq_true_iff.mp c663) hle)
    refine g_goto h 871 dL_law_733 (by decide) ?_
    refine g_mem σ K.2.self ?_
    refine g_sub [(0, .ref (X.2.2.2.1 2)), (1, ra X 0), (2, ra X (qI 0)), (3, ra X (oI 0)), (4, ra X (tI 0)), (5, ra X (vI 0)), (6, ra X 154), (7, .int (nI i)), (8, .int xv), (10, .int (nI k)), (12, .int (nI a))] ⟨rfl, rfl, rfl, rfl, rfl, rfl, rfl, rfl, rfl, rfl, rfl, trivial⟩ ?_
    exact C _ _ _ _ _ _ _ _ hk (KM_up K (by omega) (by omega))

set_option maxRecDepth 100000 in
set_option maxHeartbeats 4000000 in
theorem tn_lend (h : Ok l x X cL_law RL 8) (hL : xL x = 16) {i k a : Nat} {xv : Int32} (hk : k < 5) (hB : B < 2 ^ 24) (K : KM σ Q O T V w m B y) (C : ∀ (σ : fM) (Q O T V w : Nat → Int32) (m k : Nat), k < 5 → KM σ Q O T V w m (B + 100) (y + 3) → G x X σ [(0, .ref (X.2.2.2.1 2)), (1, ra X 0), (2, ra X (qI 0)), (3, ra X (oI 0)), (4, ra X (tI 0)), (5, ra X (vI 0)), (6, ra X 154), (7, .int (nI i)), (8, .int xv), (10, .int (nI k)), (12, .int (nI a))] [] 871) : G x X σ [(0, .ref (X.2.2.2.1 2)), (1, ra X 0), (2, ra X (qI 0)), (3, ra X (oI 0)), (4, ra X (tI 0)), (5, ra X (vI 0)), (6, ra X 154), (7, .int (nI i)), (8, .int xv), (10, .int (nI k)), (11, .int (nI (10 * k))), (12, .int (nI a))] [] 573 := by
  refine g_mem (put5 σ 0 Q O T V w) K.2.self.symm ?_
  refine g_iload h dL_law_573 rfl ?_
  refine g_bipush (v := nI 9) h dL_law_575 (by decide) ?_
  refine g_ishr h dL_law_577 ?_
  refine g_iconst (v := nI 5) h dL_law_578 (by decide) ?_
  refine clL_94 h (ct_L_low (n := 5) (by decide) (by decide)) rfl dL_law_579 rfl (Nat.le_of_ble_eq_true rfl) (by decide) ?_
  refine g_istore h dL_law_582 (by rw [hL]; decide) ?_
  refine g_iconst (v := nI 1) h dL_law_584 (by decide) ?_
  refine g_iload h dL_law_585 rfl ?_
  refine g_bipush (v := nI 11) h dL_law_587 (by decide) ?_
  refine g_ishr h dL_law_589 ?_
  refine g_bipush (v := nI 60) h dL_law_590 (by decide) ?_
  refine clL_94 h (ct_L_low (n := 60) (by decide) (by decide)) rfl dL_law_592 rfl (Nat.le_of_ble_eq_true rfl) (by decide) ?_
  refine g_iadd h dL_law_595 ?_
  refine g_top (nI (1 + lowN (xv >>> (nI 11 &&& 31)) 60)) (nI_add _ _) ?_
  refine g_istore h dL_law_596 (by rw [hL]; decide) ?_
  refine g_aload_n h dL_law_598 rfl ?_
  refine g_iload h dL_law_599 rfl ?_
  refine g_iconst (v := nI 2) h dL_law_601 (by decide) ?_
  refine g_iaddN h dL_law_602 ?_
  refine g_ldo h hb0 (by omega) dL_law_603 ?_
  refine g_iload h dL_law_604 rfl ?_
  refine g_iclt h 613 dL_law_606 (by decide) (fun c606 => ?_) (fun c606 => ?_)
  · refine g_iconst (v := nI 0) h dL_law_613 (by decide) ?_
    refine g_istore h dL_law_614 (by rw [hL]; decide) ?_
    refine g_sub [(0, .ref (X.2.2.2.1 2)), (1, ra X 0), (2, ra X (qI 0)), (3, ra X (oI 0)), (4, ra X (tI 0)), (5, ra X (vI 0)), (6, ra X 154), (7, .int (nI i)), (8, .int xv), (10, .int (nI k)), (11, .int (nI (10 * k))), (12, .int (nI a)), (13, .int (nI (lowN (xv >>> (nI 9 &&& 31)) 5))), (14, .int (nI (1 + lowN (xv >>> (nI 11 &&& 31)) 60))), (15, .int (bi (decide (nI (1 + lowN (xv >>> (nI 11 &&& 31)) 60) ≤ O (10 * k + 2)))))] ⟨rfl, rfl, rfl, rfl, rfl, rfl, rfl, rfl, rfl, rfl, rfl, rfl, rfl, rfl, (congrArg (fun z => some (Value.int z)) (by rw [decide_eq_false (Int32.not_le.mpr c606)]; rfl)), trivial⟩ ?_
    exact tn_4 h hL hk (lowN_lt _ (by decide)) (by omega) (by have := lowN_lt (xv >>> (nI 11 &&& 31)) (n := 60) (by decide); omega) hB K C
  · refine g_iconst (v := nI 1) h dL_law_609 (by decide) ?_
    refine g_goto h 614 dL_law_610 (by decide) ?_
    refine g_istore h dL_law_614 (by rw [hL]; decide) ?_
    refine g_sub [(0, .ref (X.2.2.2.1 2)), (1, ra X 0), (2, ra X (qI 0)), (3, ra X (oI 0)), (4, ra X (tI 0)), (5, ra X (vI 0)), (6, ra X 154), (7, .int (nI i)), (8, .int xv), (10, .int (nI k)), (11, .int (nI (10 * k))), (12, .int (nI a)), (13, .int (nI (lowN (xv >>> (nI 9 &&& 31)) 5))), (14, .int (nI (1 + lowN (xv >>> (nI 11 &&& 31)) 60))), (15, .int (bi (decide (nI (1 + lowN (xv >>> (nI 11 &&& 31)) 60) ≤ O (10 * k + 2)))))] ⟨rfl, rfl, rfl, rfl, rfl, rfl, rfl, rfl, rfl, rfl, rfl, rfl, rfl, rfl, (congrArg (fun z => some (Value.int z)) (by rw [decide_eq_true (Int32.not_lt.mp c606)]; rfl)), trivial⟩ ?_
    exact tn_4 h hL hk (lowN_lt _ (by decide)) (by omega) (by have := lowN_lt (xv >>> (nI 11 &&& 31)) (n := 60) (by decide); omega) hB K C

set_option maxRecDepth 100000 in
set_option maxHeartbeats 4000000 in
theorem tn_5 (h : Ok l x X cL_law RL 8) (hL : xL x = 16) {i k a c : Nat} {xv : Int32} (hk : k < 5) (h1c : 1 ≤ c) (hc : c ≤ 100) (hB : B + 100 ≤ 100000) (K : KM σ Q O T V w m B y) (C : ∀ (σ : fM) (Q O T V w : Nat → Int32) (m k : Nat), k < 5 → KM σ Q O T V w m (B + 100) (y + 3) → G x X σ [(0, .ref (X.2.2.2.1 2)), (1, ra X 0), (2, ra X (qI 0)), (3, ra X (oI 0)), (4, ra X (tI 0)), (5, ra X (vI 0)), (6, ra X 154), (7, .int (nI i)), (8, .int xv), (10, .int (nI k)), (12, .int (nI a))] [] 871) : G x X (put5 σ 0 Q O T V w) [(0, .ref (X.2.2.2.1 2)), (1, ra X 0), (2, ra X (qI 0)), (3, ra X (oI 0)), (4, ra X (tI 0)), (5, ra X (vI 0)), (6, ra X 154), (7, .int (nI i)), (8, .int xv), (10, .int (nI k)), (11, .int (nI (10 * k))), (12, .int (nI a)), (13, .int (nI c))] [] 756 := by
  have K1 : lKv (put5 σ 0 Q (upd O (10 * k + 2) (O (10 * k + 2) + nI c)) T V w) Q O T V m B y := lKv_p5 K.1
  obtain ⟨f, z, hp⟩ := id K1.2.2.2
  have hC := ct_X5_give (l := l) (X := X) (lrl_gst K1.1 K1.2.1) hp (o := nI k) (v := nI c)
  obtain ⟨r1, r2, r3⟩ := lc_give hk h1c hc (by omega) K1 hp
  rw [r1, p5_hold r3] at hC
  generalize (cGive (put5 σ 0 Q (upd O (10 * k + 2) (O (10 * k + 2) + nI c)) T V w) f z 5 m (nI k) (nI c)).2 = τ at hC r2
  refine g_aload_n h dL_law_756 rfl ?_
  refine g_iload h dL_law_757 rfl ?_
  refine g_iconst (v := nI 2) h dL_law_759 (by decide) ?_
  refine g_iaddN h dL_law_760 ?_
  refine g_dup2 h dL_law_761 rfl rfl ?_
  refine g_ldo h hb0 (by omega) dL_law_762 ?_
  refine g_iload h dL_law_763 rfl ?_
  refine g_iadd h dL_law_765 ?_
  refine g_sto h hb0 (by omega) dL_law_766 ?_
  refine g_aload_n h dL_law_767 rfl ?_
  refine g_iload h dL_law_768 rfl ?_
  refine g_iload h dL_law_770 rfl ?_
  refine clL_114 h  hC rfl dL_law_772 rfl (Nat.le_of_ble_eq_true rfl) (by decide) ?_
  refine g_aload_n h dL_law_775 rfl ?_
  refine g_iload h dL_law_776 rfl ?_
  refine g_iconst (v := nI 2) h dL_law_778 (by decide) ?_
  refine g_iaddN h dL_law_779 ?_
  refine g_ldo h hb0 (by omega) dL_law_780 ?_
  refine g_iceq h 786 dL_law_781 (by decide) (fun c781 => ?_) (fun c781 => absurd (by rw [upd_s]) c781)
  refine g_goto h 871 dL_law_786 (by decide) ?_
  refine g_sub [(0, .ref (X.2.2.2.1 2)), (1, ra X 0), (2, ra X (qI 0)), (3, ra X (oI 0)), (4, ra X (tI 0)), (5, ra X (vI 0)), (6, ra X 154), (7, .int (nI i)), (8, .int xv), (10, .int (nI k)), (12, .int (nI a))] ⟨rfl, rfl, rfl, rfl, rfl, rfl, rfl, rfl, rfl, rfl, rfl, trivial⟩ ?_
  exact C _ _ _ _ _ _ _ _ hk (KM_p5 (lKv_up r2 (by omega) (by omega)))

set_option maxRecDepth 100000 in
set_option maxHeartbeats 4000000 in
theorem tn_give (h : Ok l x X cL_law RL 8) (hL : xL x = 16) {i k a : Nat} {xv : Int32} (hk : k < 5) (hB : B + 100 ≤ 100000) (K : KM σ Q O T V w m B y) (C : ∀ (σ : fM) (Q O T V w : Nat → Int32) (m k : Nat), k < 5 → KM σ Q O T V w m (B + 100) (y + 3) → G x X σ [(0, .ref (X.2.2.2.1 2)), (1, ra X 0), (2, ra X (qI 0)), (3, ra X (oI 0)), (4, ra X (tI 0)), (5, ra X (vI 0)), (6, ra X 154), (7, .int (nI i)), (8, .int xv), (10, .int (nI k)), (12, .int (nI a))] [] 871) : G x X σ [(0, .ref (X.2.2.2.1 2)), (1, ra X 0), (2, ra X (qI 0)), (3, ra X (oI 0)), (4, ra X (tI 0)), (5, ra X (vI 0)), (6, ra X 154), (7, .int (nI i)), (8, .int xv), (10, .int (nI k)), (11, .int (nI (10 * k))), (12, .int (nI a))] [] 742 := by
  refine g_mem (put5 σ 0 Q O T V w) K.2.self.symm ?_
  refine g_iconst (v := nI 1) h dL_law_742 (by decide) ?_
  refine g_iload h dL_law_743 rfl ?_
  refine g_bipush (v := nI 9) h dL_law_745 (by decide) ?_
  refine g_ishr h dL_law_747 ?_
  refine g_bipush (v := nI 100) h dL_law_748 (by decide) ?_
  refine clL_94 h (ct_L_low (n := 100) (by decide) (by decide)) rfl dL_law_750 rfl (Nat.le_of_ble_eq_true rfl) (by decide) ?_
  refine g_iadd h dL_law_753 ?_
  refine g_top (nI (1 + lowN (xv >>> (nI 9 &&& 31)) 100)) (nI_add _ _) ?_
  refine g_istore h dL_law_754 (by rw [hL]; decide) ?_
  refine g_sub [(0, .ref (X.2.2.2.1 2)), (1, ra X 0), (2, ra X (qI 0)), (3, ra X (oI 0)), (4, ra X (tI 0)), (5, ra X (vI 0)), (6, ra X 154), (7, .int (nI i)), (8, .int xv), (10, .int (nI k)), (11, .int (nI (10 * k))), (12, .int (nI a)), (13, .int (nI (1 + lowN (xv >>> (nI 9 &&& 31)) 100)))] ⟨rfl, rfl, rfl, rfl, rfl, rfl, rfl, rfl, rfl, rfl, rfl, rfl, rfl, trivial⟩ ?_
  exact tn_5 h hL hk (by omega) (by have := lowN_lt (xv >>> (nI 9 &&& 31)) (n := 100) (by decide); omega) hB K C

end TURNS
