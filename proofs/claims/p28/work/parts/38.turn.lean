/-! the law's turns: branches; the end of a turn; the turns -/
section TURNS
variable {l : Launch} {x : fC} {X : fX} {σ τ : fM} {Q O T V w : Nat → Int32} {m B y : Nat}
theorem Ok.kn {cc : ByteArray} {own : String} {d k n : Nat} (h : Ok l x X cc own d) (hk : k ≤ (xR x).cells) (hn : n ≤ (xR x).slots) : Ok l (kn x k n) X cc own d := ⟨h.1, h.2.1, h.2.2.1, h.2.2.2.1, h.2.2.2.2.1, h.2.2.2.2.2.1, h.2.2.2.2.2.2.1, hk, hn⟩
section CE
variable {L : List (Nat × Value)} {st : List Value} {pc : Nat} {cc : ByteArray} {d : Nat}
theorem clE_119 (h : Ok l x X cc RL d) (hA : ∀ q, (xs x).heap.size ≤ q → xA x q) {av rest : List Value} {d' mc ms : Nat} {r : Int32} {R : fM → Prop} (hC : CtE l X yL_same cL_same 15 (some .boolean) d' mc ms av σ (some (.int r)) R) (hn : av.length = 6) (hd : decode cc pc = .ok (.invokestatic 119, 3)) (hst : st = av.reverse ++ rest) (hcat : (rest.map fun v => v.category).sum ≤ 8) (hdd : d' < d) (hcells : xk x + mc ≤ (xR x).cells) (hslots : xn x + ms ≤ (xR x).slots)
    (kk : ∀ σ', R σ' → G (kn x (xk x + mc) (xn x + ms)) X σ' L (.int r :: rest) (pc + 3)) : G x X σ L st pc := g_callE h hA (n := 6) (gd_T (lw_in 417 tb_same rfl)) (lw_in 415 (by decide +kernel) rfl) (lw_in 416 (by decide +kernel) rfl) (lw_in 0 (by decide +kernel) rfl) (by decide +kernel) (by decide) hn hC hd hst hcat hdd hcells hslots kk
theorem clE_123 (h : Ok l x X cc RL d) (hA : ∀ q, (xs x).heap.size ≤ q → xA x q) {av rest : List Value} {d' mc ms : Nat} {r : Int32} {R : fM → Prop} (hC : CtE l X yL_would cL_would 17 (some .boolean) d' mc ms av σ (some (.int r)) R) (hn : av.length = 9) (hd : decode cc pc = .ok (.invokestatic 123, 3)) (hst : st = av.reverse ++ rest) (hcat : (rest.map fun v => v.category).sum ≤ 8) (hdd : d' < d) (hcells : xk x + mc ≤ (xR x).cells) (hslots : xn x + ms ≤ (xR x).slots)
    (kk : ∀ σ', R σ' → G (kn x (xk x + mc) (xn x + ms)) X σ' L (.int r :: rest) (pc + 3)) : G x X σ L st pc := g_callE h hA (n := 9) (gd_T (lw_in 497 tb_would rfl)) (lw_in 495 (by decide +kernel) rfl) (lw_in 496 (by decide +kernel) rfl) (lw_in 0 (by decide +kernel) rfl) (by decide +kernel) (by decide) hn hC hd hst hcat hdd hcells hslots kk
end CE

set_option maxRecDepth 100000 in
set_option maxHeartbeats 4000000 in
theorem tn_6 (h : Ok l x X cL_law RL 8) (hL : xL x = 16) (hA : ∀ q, (xs x).heap.size ≤ q → xA x q) {i k a j : Nat} {xv : Int32} (ha : a < 64) (hj : j < 3) (hB : B < 2 ^ 24) (hy : y < 2 ^ 24) (K : KM σ Q O T V w m B y) (C : ∀ σ, KM σ Q O T V w m B y → G x X σ [(0, .ref (X.2.2.2.1 2)), (1, ra X 0), (2, ra X (qI 0)), (3, ra X (oI 0)), (4, ra X (tI 0)), (5, ra X (vI 0)), (6, ra X 154), (7, .int (nI i)), (8, .int xv), (10, .int (nI k)), (11, .int (nI (10 * k))), (12, .int (nI a)), (13, .int (nI j))] [] 865) : G x X σ [(0, .ref (X.2.2.2.1 2)), (1, ra X 0), (2, ra X (qI 0)), (3, ra X (oI 0)), (4, ra X (tI 0)), (5, ra X (vI 0)), (6, ra X 154), (7, .int (nI i)), (8, .int xv), (10, .int (nI k)), (11, .int (nI (10 * k))), (12, .int (nI a)), (13, .int (nI j))] [] 842 := by
  refine g_mem (put5 σ 0 Q O T V w) K.2.self.symm ?_
  refine g_aload_n h dL_law_842 rfl ?_
  refine g_iload h dL_law_843 rfl ?_
  refine g_iload h dL_law_845 rfl ?_
  refine g_iaddN h dL_law_847 ?_
  refine g_bipush (v := nI 64) h dL_law_848 (by decide) ?_
  refine g_irem h dL_law_850 (by decide) ?_
  refine g_top (nI ((a + j) % 64)) (pk_rem (by omega) (by decide) (by decide)) ?_
  refine g_aload_n h dL_law_851 rfl ?_
  refine g_aload_n h dL_law_852 rfl ?_
  refine g_aload h dL_law_853 rfl ?_
  refine g_aload h dL_law_855 rfl ?_
  refine clE_119 h hA (ct_L_same (by omega) (by omega) (Nat.mod_lt _ (by decide)) K) rfl dL_law_857 rfl (Nat.le_of_ble_eq_true rfl) (by decide) h.2.2.2.2.2.2.2.1 h.2.2.2.2.2.2.2.2 (fun σ1 hR => ?_)
  change G x X _ _ _ _
  obtain ⟨μ, rfl, K⟩ := hR
  refine g_ifne h 865 dL_law_860 (by decide) (fun c860 => ?_) (fun c860 => absurd c860 (by decide))
  refine g_mem μ K.2.self ?_
  exact C μ K

set_option maxRecDepth 100000 in
set_option maxHeartbeats 4000000 in
theorem tn_br (h : Ok l x X cL_law RL 8) (hL : xL x = 16) (hA : ∀ q, (xs x).heap.size ≤ q → xA x q) {i k a : Nat} {xv : Int32} (hk : k < 5) (ha : a < 64) (hB : B < 2 ^ 24 - 2 ^ 12) (hy : y + 4 < 2 ^ 24) (K : KM σ Q O T V w m B y) (C : ∀ (σ : fM) (Q O T V w : Nat → Int32) (m k : Nat), k < 5 → KM σ Q O T V w m (B + 100) (y + 3) → G x X σ [(0, .ref (X.2.2.2.1 2)), (1, ra X 0), (2, ra X (qI 0)), (3, ra X (oI 0)), (4, ra X (tI 0)), (5, ra X (vI 0)), (6, ra X 154), (7, .int (nI i)), (8, .int xv), (10, .int (nI k)), (12, .int (nI a))] [] 871) : G x X σ [(0, .ref (X.2.2.2.1 2)), (1, ra X 0), (2, ra X (qI 0)), (3, ra X (oI 0)), (4, ra X (tI 0)), (5, ra X (vI 0)), (6, ra X 154), (7, .int (nI i)), (8, .int xv), (10, .int (nI k)), (11, .int (nI (10 * k))), (12, .int (nI a))] [] 789 := by
  have LOOP : ∀ (q j : Nat), j + q = 3 → ∀ (σ : fM) (Q O T V w : Nat → Int32) (m : Nat), KM σ Q O T V w m B (y + j) → G x X σ [(0, .ref (X.2.2.2.1 2)), (1, ra X 0), (2, ra X (qI 0)), (3, ra X (oI 0)), (4, ra X (tI 0)), (5, ra X (vI 0)), (6, ra X 154), (7, .int (nI i)), (8, .int xv), (10, .int (nI k)), (11, .int (nI (10 * k))), (12, .int (nI a)), (13, .int (nI j))] [] 792 := by
    intro q
    induction q with
    | zero =>
      intro j hj σ Q O T V w m K
      have hj3 : j = 3 := hj
      refine g_iload h dL_law_792 rfl ?_
      refine g_iconst (v := nI 3) h dL_law_794 (by decide) ?_
      refine g_icge h 871 dL_law_795 (by decide) (fun c795 => ?_) (fun c795 => absurd (by rw [hj3]; exact Int32.le_refl _) c795)
      rw [hj3] at K
      refine g_sub [(0, .ref (X.2.2.2.1 2)), (1, ra X 0), (2, ra X (qI 0)), (3, ra X (oI 0)), (4, ra X (tI 0)), (5, ra X (vI 0)), (6, ra X 154), (7, .int (nI i)), (8, .int xv), (10, .int (nI k)), (12, .int (nI a))] ⟨rfl, rfl, rfl, rfl, rfl, rfl, rfl, rfl, rfl, rfl, rfl, trivial⟩ ?_
      exact C _ _ _ _ _ _ _ _ hk (KM_up K (by omega) (Nat.le_refl _))
    | succ q ih =>
      intro j hj σ Q O T V w m K
      have hlt : j < 3 := by omega
      refine g_mem (put5 σ 0 Q O T V w) K.2.self.symm ?_
      refine g_iload h dL_law_792 rfl ?_
      refine g_iconst (v := nI 3) h dL_law_794 (by decide) ?_
      refine g_icge h 871 dL_law_795 (by decide) (fun c795 => absurd c795 (nI_ge hlt (by decide))) (fun c795 => ?_)
      refine g_iload h dL_law_798 rfl ?_
      refine g_bipush (v := nI 9) h dL_law_800 (by decide) ?_
      refine g_iload h dL_law_802 rfl ?_
      refine g_iaddN h dL_law_804 ?_
      refine g_ishr h dL_law_805 ?_
      refine g_iconst (v := nI 2) h dL_law_806 (by decide) ?_
      refine clL_94 h (ct_L_low (n := 2) (by decide) (by decide)) rfl dL_law_807 rfl (Nat.le_of_ble_eq_true rfl) (by decide) ?_
      have htk := lowN_lt (xv >>> (nI (9 + j) &&& 31)) (n := 2) (by decide)
      generalize lowN (xv >>> (nI (9 + j) &&& 31)) 2 = tk at htk ⊢
      refine g_istore h dL_law_810 (by rw [hL]; decide) ?_
      refine g_iload h dL_law_812 rfl ?_
      refine g_iload h dL_law_814 rfl ?_
      refine g_aload_n h dL_law_816 rfl ?_
      refine g_aload_n h dL_law_817 rfl ?_
      refine g_aload h dL_law_818 rfl ?_
      refine g_aload h dL_law_820 rfl ?_
      refine g_aload h dL_law_822 rfl ?_
      refine clL_74 h (ct_L_branch hb0 (K.H (by omega)) (K.1.2.1.cr K.1.1.2.1 K.m8)) rfl dL_law_824 rfl (Nat.le_of_ble_eq_true rfl) (by decide) ?_
      refine g_istore h dL_law_827 (by rw [hL]; decide) ?_
      refine g_mem (put5 σ 0 (brQ Q O T V m (nI a) (nI tk) w) (brR Q O T V m (nI a) (nI tk) w).1 (brR Q O T V m (nI a) (nI tk) w).2 (lbB Q O T V m (nI a) (nI tk) w).2.2.1 (lw1 Q O T (nI a) w 5)) rfl ?_
      have K1 : lKv (put5 σ 0 (brQ Q O T V m (nI a) (nI tk) w) (brR Q O T V m (nI a) (nI tk) w).1 (brR Q O T V m (nI a) (nI tk) w).2 (lbB Q O T V m (nI a) (nI tk) w).2.2.1 (lw1 Q O T (nI a) w 5)) Q O T V m B (y + j) := lKv_p5 K.1
      obtain ⟨f, z, hp⟩ := id K1.2.2.2
      have hC := ct_X5_branch (l := l) (X := X) (lrl_gst K1.1 K1.2.1) hp (a := nI a) (k := nI tk)
      obtain ⟨r1, r2, r3⟩ := lc_branch ha htk hB w K1 hp
      rw [r1, p5_hold r3] at hC
      generalize (cBranch (put5 σ 0 (brQ Q O T V m (nI a) (nI tk) w) (brR Q O T V m (nI a) (nI tk) w).1 (brR Q O T V m (nI a) (nI tk) w).2 (lbB Q O T V m (nI a) (nI tk) w).2.2.1 (lw1 Q O T (nI a) w 5)) f z 5 m (nI a) (nI tk)).2 = τ at hC r2
      refine g_aload_n h dL_law_829 rfl ?_
      refine g_iload h dL_law_830 rfl ?_
      refine g_iload h dL_law_832 rfl ?_
      refine clL_117 h  hC rfl dL_law_834 rfl (Nat.le_of_ble_eq_true rfl) (by decide) ?_
      refine g_iload h dL_law_837 rfl ?_
      refine g_icne h 863 dL_law_839 (by decide) (fun c839 => absurd rfl c839) (fun c839 => ?_)
      refine g_sub [(0, .ref (X.2.2.2.1 2)), (1, ra X 0), (2, ra X (qI 0)), (3, ra X (oI 0)), (4, ra X (tI 0)), (5, ra X (vI 0)), (6, ra X 154), (7, .int (nI i)), (8, .int xv), (10, .int (nI k)), (11, .int (nI (10 * k))), (12, .int (nI a)), (13, .int (nI j))] ⟨rfl, rfl, rfl, rfl, rfl, rfl, rfl, rfl, rfl, rfl, rfl, rfl, rfl, trivial⟩ ?_
      refine tn_6 h hL hA ha hlt (by omega) (by omega) (KM_p5 r2) (fun σ1 K9 => ?_)
      refine g_iincN h dL_law_865 rfl (by rw [hL]; decide) ?_
      refine g_goto h 792 dL_law_868 (by decide) ?_
      refine g_sub [(0, .ref (X.2.2.2.1 2)), (1, ra X 0), (2, ra X (qI 0)), (3, ra X (oI 0)), (4, ra X (tI 0)), (5, ra X (vI 0)), (6, ra X 154), (7, .int (nI i)), (8, .int xv), (10, .int (nI k)), (11, .int (nI (10 * k))), (12, .int (nI a)), (13, .int (nI (j + 1)))] ⟨rfl, rfl, rfl, rfl, rfl, rfl, rfl, rfl, rfl, rfl, rfl, rfl, rfl, trivial⟩ ?_
      exact ih (j + 1) (by omega) _ _ _ _ _ _ _ K9
  refine g_iconst (v := nI 0) h dL_law_789 (by decide) ?_
  refine g_istore h dL_law_790 (by rw [hL]; decide) ?_
  refine g_sub [(0, .ref (X.2.2.2.1 2)), (1, ra X 0), (2, ra X (qI 0)), (3, ra X (oI 0)), (4, ra X (tI 0)), (5, ra X (vI 0)), (6, ra X 154), (7, .int (nI i)), (8, .int xv), (10, .int (nI k)), (11, .int (nI (10 * k))), (12, .int (nI a)), (13, .int (nI 0))] ⟨rfl, rfl, rfl, rfl, rfl, rfl, rfl, rfl, rfl, rfl, rfl, rfl, rfl, trivial⟩ ?_
  exact LOOP 3 0 (by omega) _ _ _ _ _ _ _ K

set_option maxRecDepth 100000 in
set_option maxHeartbeats 4000000 in
theorem tn_end (h : Ok l x X cL_law RL 8) (hL : xL x = 16) (hA : ∀ q, (xs x).heap.size ≤ q → xA x q) {i k a : Nat} {xv : Int32} (he0 : X.2.2.2.2.1 = 0) (hc4 : xk x + 4 ≤ (xR x).cells) (hs122 : xn x + 122 ≤ (xR x).slots) (hk : k < 5) (ha : a < 64) (hB : B < 2 ^ 24 - 2 ^ 12) (hy : y < 2 ^ 24) (K : KM σ Q O T V w m B y) (C : ∀ (σ : fM) (w : Nat → Int32), KM σ Q O T V w m B y → G (kn x (xk x + 4) (xn x + 122)) X σ [(0, .ref (X.2.2.2.1 2)), (1, ra X 0), (2, ra X (qI 0)), (3, ra X (oI 0)), (4, ra X (tI 0)), (5, ra X (vI 0)), (6, ra X 154), (7, .int (nI (i + 1)))] [] 284) : G x X σ [(0, .ref (X.2.2.2.1 2)), (1, ra X 0), (2, ra X (qI 0)), (3, ra X (oI 0)), (4, ra X (tI 0)), (5, ra X (vI 0)), (6, ra X 154), (7, .int (nI i)), (8, .int xv), (10, .int (nI k)), (12, .int (nI a))] [] 871 := by
  refine g_mem (put5 σ 0 Q O T V w) K.2.self.symm ?_
  refine g_aload_n h dL_law_871 rfl ?_
  refine g_iload h dL_law_872 rfl ?_
  refine g_aload_n h dL_law_874 rfl ?_
  refine g_aload_n h dL_law_875 rfl ?_
  refine g_aload h dL_law_876 rfl ?_
  refine g_aload h dL_law_878 rfl ?_
  refine clE_119 h hA (ct_L_same (by omega) (by omega) ha K) rfl dL_law_880 rfl (Nat.le_of_ble_eq_true rfl) (by decide) h.2.2.2.2.2.2.2.1 h.2.2.2.2.2.2.2.2 (fun σ1 hR => ?_)
  change G x X _ _ _ _
  obtain ⟨μ, rfl, K⟩ := hR
  refine g_ifeq h 916 dL_law_883 (by decide) (fun c883 => absurd c883 (by decide)) (fun c883 => ?_)
  refine g_mem μ K.2.self ?_
  refine g_aload_n h dL_law_886 rfl ?_
  refine g_iload h dL_law_887 rfl ?_
  refine g_iload h dL_law_889 rfl ?_
  refine g_iconst (v := nI 1) h dL_law_891 (by decide) ?_
  refine g_iload h dL_law_892 rfl ?_
  refine g_bipush (v := nI 13) h dL_law_894 (by decide) ?_
  refine g_ishr h dL_law_896 ?_
  refine g_iconst (v := nI 4) h dL_law_897 (by decide) ?_
  refine clL_94 h (ct_L_low (n := 4) (by decide) (by decide)) rfl dL_law_898 rfl (Nat.le_of_ble_eq_true rfl) (by decide) ?_
  refine g_iadd h dL_law_901 ?_
  refine g_top (nI (1 + lowN (xv >>> (nI 13 &&& 31)) 4)) (nI_add _ _) ?_
  refine g_aload_n h dL_law_902 rfl ?_
  refine g_aload_n h dL_law_903 rfl ?_
  refine g_aload h dL_law_904 rfl ?_
  refine g_aload h dL_law_906 rfl ?_
  refine g_aload h dL_law_908 rfl ?_
  refine clE_123 h hA (ct_L_would he0 hB ha hk (t := 1 + lowN (xv >>> (nI 13 &&& 31)) 4) (by omega) (by have := lowN_lt (xv >>> (nI 13 &&& 31)) (n := 4) (by decide); omega) K) rfl dL_law_910 rfl (Nat.le_of_ble_eq_true rfl) (by decide) hc4 hs122 (fun σ1 hR => ?_)
  obtain ⟨w1, K⟩ := hR
  have h := h.kn hc4 hs122
  have hL : xL (kn x (xk x + 4) (xn x + 122)) = 16 := hL
  refine g_ifne h 918 dL_law_913 (by decide) (fun c913 => ?_) (fun c913 => absurd c913 (by decide))
  refine g_iincN h dL_law_918 rfl (by rw [hL]; decide) ?_
  refine g_goto h 284 dL_law_921 (by decide) ?_
  refine g_sub [(0, .ref (X.2.2.2.1 2)), (1, ra X 0), (2, ra X (qI 0)), (3, ra X (oI 0)), (4, ra X (tI 0)), (5, ra X (vI 0)), (6, ra X 154), (7, .int (nI (i + 1)))] ⟨rfl, rfl, rfl, rfl, rfl, rfl, rfl, rfl, trivial⟩ ?_
  exact C _ _ K

set_option maxRecDepth 100000 in
set_option maxHeartbeats 4000000 in
theorem tn (h : Ok l x X cL_law RL 8) (hL : xL x = 16) (hA : ∀ q, (xs x).heap.size ≤ q → xA x q) {i : Nat} (he0 : X.2.2.2.2.1 = 0) (hLn : X.2.2.2.2.2.1 < 2 ^ 30) (hc4 : xk x + 4 ≤ (xR x).cells) (hs122 : xn x + 122 ≤ (xR x).slots) (hi : i < 16) (hB : B ≤ 10000) (hy : y ≤ 10000) (K : KM σ Q O T V w m B y) (C : ∀ (σ : fM) (Q O T V w : Nat → Int32) (m : Nat), KM σ Q O T V w m (B + 100) (y + 3) → G (kn x (xk x + 4) (xn x + 122)) X σ [(0, .ref (X.2.2.2.1 2)), (1, ra X 0), (2, ra X (qI 0)), (3, ra X (oI 0)), (4, ra X (tI 0)), (5, ra X (vI 0)), (6, ra X 154), (7, .int (nI (i + 1)))] [] 284) : G x X σ [(0, .ref (X.2.2.2.1 2)), (1, ra X 0), (2, ra X (qI 0)), (3, ra X (oI 0)), (4, ra X (tI 0)), (5, ra X (vI 0)), (6, ra X 154), (7, .int (nI i))] [] 284 := by
  refine g_mem (put5 σ 0 Q O T V w) K.2.self.symm ?_
  have ha : lowN (cellV X (6 + i) >>> (nI 6 &&& 31)) 64 < 64 := lowN_lt _ (by decide)
  refine g_iload h dL_law_284 rfl ?_
  refine g_bipush (v := nI 16) h dL_law_286 (by decide) ?_
  refine g_icge h 924 dL_law_288 (by decide) (fun c288 => absurd c288 (nI_ge (by omega) (by decide))) (fun c288 => ?_)
  refine g_aload_n h dL_law_291 rfl ?_
  refine g_bipush (v := nI 6) h dL_law_292 (by decide) ?_
  refine g_iload h dL_law_294 rfl ?_
  refine g_iaddN h dL_law_296 ?_
  refine clL_90 h (ct_L_cell (by omega) hLn) rfl dL_law_297 rfl (Nat.le_of_ble_eq_true rfl) (by decide) ?_
  refine g_istore h dL_law_300 (by rw [hL]; decide) ?_
  refine g_iload h dL_law_302 rfl ?_
  refine g_bipush (v := nI 8) h dL_law_304 (by decide) ?_
  refine clL_94 h (ct_L_low (n := 8) (by decide) (by decide)) rfl dL_law_306 rfl (Nat.le_of_ble_eq_true rfl) (by decide) ?_
  refine g_istore h dL_law_309 (by rw [hL]; decide) ?_
  refine g_iload h dL_law_311 rfl ?_
  refine g_iconst (v := nI 3) h dL_law_313 (by decide) ?_
  refine g_ishr h dL_law_314 ?_
  refine g_iconst (v := nI 5) h dL_law_315 (by decide) ?_
  refine clL_94 h (ct_L_low (n := 5) (by decide) (by decide)) rfl dL_law_316 rfl (Nat.le_of_ble_eq_true rfl) (by decide) ?_
  refine g_istore h dL_law_319 (by rw [hL]; decide) ?_
  refine g_bipush (v := nI 10) h dL_law_321 (by decide) ?_
  refine g_iload h dL_law_323 rfl ?_
  refine g_imulN h dL_law_325 ?_
  refine g_istore h dL_law_326 (by rw [hL]; decide) ?_
  refine g_iload h dL_law_328 rfl ?_
  refine g_bipush (v := nI 6) h dL_law_330 (by decide) ?_
  refine g_ishr h dL_law_332 ?_
  refine g_bipush (v := nI 64) h dL_law_333 (by decide) ?_
  refine clL_94 h (ct_L_low (n := 64) (by decide) (by decide)) rfl dL_law_335 rfl (Nat.le_of_ble_eq_true rfl) (by decide) ?_
  refine g_istore h dL_law_338 (by rw [hL]; decide) ?_
  refine g_iload h dL_law_340 rfl ?_
  refine g_iconst (v := nI 2) h dL_law_342 (by decide) ?_
  refine g_iclt h 352 dL_law_343 (by decide) (fun c343 => ?_) (fun c343 => ?_)
  · refine g_sub [(0, .ref (X.2.2.2.1 2)), (1, ra X 0), (2, ra X (qI 0)), (3, ra X (oI 0)), (4, ra X (tI 0)), (5, ra X (vI 0)), (6, ra X 154), (7, .int (nI i)), (8, .int (cellV X (6 + i))), (9, .int (nI (lowN (cellV X (6 + i)) 8))), (10, .int (nI (lowN (cellV X (6 + i) >>> (nI 3 &&& 31)) 5))), (11, .int (nI (10 * lowN (cellV X (6 + i) >>> (nI 3 &&& 31)) 5))), (12, .int (nI (lowN (cellV X (6 + i) >>> (nI 6 &&& 31)) 64)))] ⟨rfl, rfl, rfl, rfl, rfl, rfl, rfl, rfl, rfl, rfl, rfl, rfl, rfl, trivial⟩ ?_
    refine g_mem σ K.2.self ?_
    exact tn_seat h hL hi (lowN_lt _ (by decide)) (by omega) K (fun σ Q O T V w m k hk K => tn_end h hL hA he0 hc4 hs122 hk ha (by omega) (by omega) K (fun σ w K => C σ Q O T V w m K))
  · refine g_iload h dL_law_346 rfl ?_
    refine g_iconst (v := nI 5) h dL_law_348 (by decide) ?_
    refine g_icge h 567 dL_law_349 (by decide) (fun c349 => ?_) (fun c349 => ?_)
    · refine g_iload h dL_law_567 rfl ?_
      refine g_iconst (v := nI 2) h dL_law_569 (by decide) ?_
      refine g_icne h 736 dL_law_570 (by decide) (fun c570 => ?_) (fun c570 => ?_)
      · refine g_iload h dL_law_736 rfl ?_
        refine g_iconst (v := nI 3) h dL_law_738 (by decide) ?_
        refine g_icne h 789 dL_law_739 (by decide) (fun c739 => ?_) (fun c739 => ?_)
        · refine g_sub [(0, .ref (X.2.2.2.1 2)), (1, ra X 0), (2, ra X (qI 0)), (3, ra X (oI 0)), (4, ra X (tI 0)), (5, ra X (vI 0)), (6, ra X 154), (7, .int (nI i)), (8, .int (cellV X (6 + i))), (10, .int (nI (lowN (cellV X (6 + i) >>> (nI 3 &&& 31)) 5))), (11, .int (nI (10 * lowN (cellV X (6 + i) >>> (nI 3 &&& 31)) 5))), (12, .int (nI (lowN (cellV X (6 + i) >>> (nI 6 &&& 31)) 64)))] ⟨rfl, rfl, rfl, rfl, rfl, rfl, rfl, rfl, rfl, rfl, rfl, rfl, trivial⟩ ?_
          refine g_mem σ K.2.self ?_
          exact tn_br h hL hA (lowN_lt _ (by decide)) ha (by omega) (by omega) K (fun σ Q O T V w m k hk K => tn_end h hL hA he0 hc4 hs122 hk ha (by omega) (by omega) K (fun σ w K => C σ Q O T V w m K))
        · refine g_sub [(0, .ref (X.2.2.2.1 2)), (1, ra X 0), (2, ra X (qI 0)), (3, ra X (oI 0)), (4, ra X (tI 0)), (5, ra X (vI 0)), (6, ra X 154), (7, .int (nI i)), (8, .int (cellV X (6 + i))), (10, .int (nI (lowN (cellV X (6 + i) >>> (nI 3 &&& 31)) 5))), (11, .int (nI (10 * lowN (cellV X (6 + i) >>> (nI 3 &&& 31)) 5))), (12, .int (nI (lowN (cellV X (6 + i) >>> (nI 6 &&& 31)) 64)))] ⟨rfl, rfl, rfl, rfl, rfl, rfl, rfl, rfl, rfl, rfl, rfl, rfl, trivial⟩ ?_
          refine g_mem σ K.2.self ?_
          exact tn_give h hL (lowN_lt _ (by decide)) (by omega) K (fun σ Q O T V w m k hk K => tn_end h hL hA he0 hc4 hs122 hk ha (by omega) (by omega) K (fun σ w K => C σ Q O T V w m K))
      · refine g_sub [(0, .ref (X.2.2.2.1 2)), (1, ra X 0), (2, ra X (qI 0)), (3, ra X (oI 0)), (4, ra X (tI 0)), (5, ra X (vI 0)), (6, ra X 154), (7, .int (nI i)), (8, .int (cellV X (6 + i))), (10, .int (nI (lowN (cellV X (6 + i) >>> (nI 3 &&& 31)) 5))), (11, .int (nI (10 * lowN (cellV X (6 + i) >>> (nI 3 &&& 31)) 5))), (12, .int (nI (lowN (cellV X (6 + i) >>> (nI 6 &&& 31)) 64)))] ⟨rfl, rfl, rfl, rfl, rfl, rfl, rfl, rfl, rfl, rfl, rfl, rfl, trivial⟩ ?_
        refine g_mem σ K.2.self ?_
        exact tn_lend h hL (lowN_lt _ (by decide)) (by omega) K (fun σ Q O T V w m k hk K => tn_end h hL hA he0 hc4 hs122 hk ha (by omega) (by omega) K (fun σ w K => C σ Q O T V w m K))
    · refine g_sub [(0, .ref (X.2.2.2.1 2)), (1, ra X 0), (2, ra X (qI 0)), (3, ra X (oI 0)), (4, ra X (tI 0)), (5, ra X (vI 0)), (6, ra X 154), (7, .int (nI i)), (8, .int (cellV X (6 + i))), (9, .int (nI (lowN (cellV X (6 + i)) 8))), (10, .int (nI (lowN (cellV X (6 + i) >>> (nI 3 &&& 31)) 5))), (11, .int (nI (10 * lowN (cellV X (6 + i) >>> (nI 3 &&& 31)) 5))), (12, .int (nI (lowN (cellV X (6 + i) >>> (nI 6 &&& 31)) 64)))] ⟨rfl, rfl, rfl, rfl, rfl, rfl, rfl, rfl, rfl, rfl, rfl, rfl, rfl, trivial⟩ ?_
      refine g_mem σ K.2.self ?_
      exact tn_seat h hL hi (lowN_lt _ (by decide)) (by omega) K (fun σ Q O T V w m k hk K => tn_end h hL hA he0 hc4 hs122 hk ha (by omega) (by omega) K (fun σ w K => C σ Q O T V w m K))

set_option maxRecDepth 100000 in
set_option maxHeartbeats 4000000 in
theorem tns (h : Ok l x X cL_law RL 8) (hL : xL x = 16) (hA : ∀ q, (xs x).heap.size ≤ q → xA x q) (he0 : X.2.2.2.2.1 = 0) (hLn : X.2.2.2.2.2.1 < 2 ^ 30) (fin : ∀ (k n : Nat), k ≤ (xR x).cells → n ≤ (xR x).slots → ∀ (σ : fM) (L : List (Nat × Value)), G (kn x k n) X σ L [.int 1] 925) : ∀ (q i : Nat), i + q = 16 → ∀ (k n : Nat), k + 4 * q ≤ (xR x).cells → n + 122 * q ≤ (xR x).slots → ∀ (σ : fM) (Q O T V w : Nat → Int32) (m : Nat), KM σ Q O T V w m (1000 + 100 * i) (3 * i) → G (kn x k n) X σ [(0, .ref (X.2.2.2.1 2)), (1, ra X 0), (2, ra X (qI 0)), (3, ra X (oI 0)), (4, ra X (tI 0)), (5, ra X (vI 0)), (6, ra X 154), (7, .int (nI i))] [] 284 := by
  intro q
  induction q with
  | zero =>
    intro i hi k n hk hn σ Q O T V w m K
    have hi16 : i = 16 := hi
    have h := h.kn (k := k) (n := n) (by omega) (by omega)
    have hL : xL (kn x k n) = 16 := hL
    refine g_iload h dL_law_284 rfl ?_
    refine g_bipush (v := nI 16) h dL_law_286 (by decide) ?_
    refine g_icge h 924 dL_law_288 (by decide) (fun c288 => ?_) (fun c288 => absurd (by rw [hi16]; exact Int32.le_refl _) c288)
    refine g_iconst (v := 1) h dL_law_924 (by decide) ?_
    exact fin _ _ (by omega) (by omega) _ _
  | succ q ih =>
    intro i hi k n hk hn σ Q O T V w m K
    refine tn (h.kn (k := k) (n := n) (by omega) (by omega)) hL hA he0 hLn (by show k + 4 ≤ (xR x).cells; omega) (by show n + 122 ≤ (xR x).slots; omega) (by omega) (by omega) (by omega) K (fun σ Q O T V w m K => ?_)
    exact ih (i + 1) (by omega) (k + 4) (n + 122) (by omega) (by omega) σ Q O T V w m K

end TURNS
