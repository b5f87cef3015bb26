/-! the law's beginning -/
def Z0 : Nat → Int32 := fun _ => 0
def tfl (n : Nat) : Nat → Int32 := fun j => if j < n then 1 else 0
theorem tfl_s (n : Nat) : upd (tfl n) n (nI 1) = tfl (n + 1) := by
  funext j
  unfold upd tfl
  by_cases c : j = n
  · rw [if_pos c, if_pos (by omega)]; rfl
  · rw [if_neg c]
    by_cases c2 : j < n
    · rw [if_pos c2, if_pos (by omega)]
    · rw [if_neg c2, if_neg (by omega)]
section BEGINNING
variable {l : Launch} {x : fC} {X : fX} {σ τ : fM} {Q O T V w : Nat → Int32}

set_option maxRecDepth 100000 in
set_option maxHeartbeats 4000000 in
theorem bg_2 (h : Ok l x X cL_law RL 8) (hL : xL x = 16) {u c s : Nat} (hu1 : 1 ≤ u) (hu : u ≤ 50) (hc : c ≤ 50) (hs : s ≤ 100) (S : su σ sF Z0 0) (C : ∀ σ, su σ (upd (upd (upd sF 0 (nI u)) 1 (nI c)) 2 (nI s)) Z0 0 → G x X (put5 σ 0 (upd (upd (upd Z0 0 (nI u)) 1 (nI c)) 2 (nI s)) Z0 Z0 Z0 Z0) [(0, .ref (X.2.2.2.1 2)), (1, ra X 0), (2, ra X (qI 0)), (3, ra X (oI 0)), (4, ra X (tI 0)), (5, ra X (vI 0)), (6, ra X 154)] [] 122) : G x X (put5 σ 0 (upd (upd (upd Z0 0 (nI u)) 1 (nI c)) 2 (nI s)) Z0 Z0 Z0 Z0) [(0, .ref (X.2.2.2.1 2)), (1, ra X 0), (2, ra X (qI 0)), (3, ra X (oI 0)), (4, ra X (tI 0)), (5, ra X (vI 0)), (6, ra X 154)] [] 82 := by
  refine g_aload_n h dL_law_82 rfl ?_
  refine g_iconst (v := nI 0) h dL_law_83 (by decide) ?_
  refine g_aload_n h dL_law_84 rfl ?_
  refine g_iconst (v := nI 0) h dL_law_85 (by decide) ?_
  refine g_ldq h hb0 (by omega) dL_law_86 ?_
  refine g_top (nI u) rfl ?_
  have Ka0 : su (put5 σ 0 (upd (upd (upd Z0 0 (nI u)) 1 (nI c)) 2 (nI s)) Z0 Z0 Z0 Z0) sF Z0 0 := su_cg (fun q hq => p5_lo (by omega)) (fun _ _ => rfl) (fun _ _ => rfl) S
  obtain ⟨f0, z0, hp0⟩ := id Ka0.2.2.2.2
  have hC0 := ct_X5_set (l := l) (X := X) (su_gst Ka0) hp0 (w := nI 0) (v := nI u)
  obtain ⟨r10, r20, r30⟩ := lc_set (w := 0) (v := u) (by decide) (by refine ⟨fun q => ?_, fun q => ?_, ?_⟩ <;> omega) Ka0 hp0
  rw [r10, p5_hold r30] at hC0
  generalize (cSet (put5 σ 0 (upd (upd (upd Z0 0 (nI u)) 1 (nI c)) 2 (nI s)) Z0 Z0 Z0 Z0) f0 z0 0 0 (nI 0) (nI u)).2 = τ0 at hC0 r20
  refine clL_97 h  hC0 rfl dL_law_87 rfl (Nat.le_of_ble_eq_true rfl) (by decide) ?_
  refine g_iconst (v := nI 5) h dL_law_90 (by decide) ?_
  refine g_icne h 120 dL_law_91 (by decide) (fun c91 => absurd rfl c91) (fun c91 => ?_)
  refine g_aload_n h dL_law_94 rfl ?_
  refine g_iconst (v := nI 1) h dL_law_95 (by decide) ?_
  refine g_aload_n h dL_law_96 rfl ?_
  refine g_iconst (v := nI 1) h dL_law_97 (by decide) ?_
  refine g_ldq h hb0 (by omega) dL_law_98 ?_
  refine g_top (nI c) rfl ?_
  have Ka1 : su (put5 τ0 0 (upd (upd (upd Z0 0 (nI u)) 1 (nI c)) 2 (nI s)) Z0 Z0 Z0 Z0) (upd sF 0 (nI u)) Z0 0 := su_cg (fun q hq => p5_lo (by omega)) (fun _ _ => rfl) (fun _ _ => rfl) r20
  obtain ⟨f1, z1, hp1⟩ := id Ka1.2.2.2.2
  have hC1 := ct_X5_set (l := l) (X := X) (su_gst Ka1) hp1 (w := nI 1) (v := nI c)
  obtain ⟨r11, r21, r31⟩ := lc_set (w := 1) (v := c) (by decide) (by refine ⟨fun q => ?_, fun q => ?_, ?_⟩ <;> omega) Ka1 hp1
  rw [r11, p5_hold r31] at hC1
  generalize (cSet (put5 τ0 0 (upd (upd (upd Z0 0 (nI u)) 1 (nI c)) 2 (nI s)) Z0 Z0 Z0 Z0) f1 z1 0 0 (nI 1) (nI c)).2 = τ1 at hC1 r21
  refine clL_97 h  hC1 rfl dL_law_99 rfl (Nat.le_of_ble_eq_true rfl) (by decide) ?_
  refine g_bipush (v := nI 10) h dL_law_102 (by decide) ?_
  refine g_icne h 120 dL_law_104 (by decide) (fun c104 => absurd rfl c104) (fun c104 => ?_)
  refine g_aload_n h dL_law_107 rfl ?_
  refine g_iconst (v := nI 2) h dL_law_108 (by decide) ?_
  refine g_aload_n h dL_law_109 rfl ?_
  refine g_iconst (v := nI 2) h dL_law_110 (by decide) ?_
  refine g_ldq h hb0 (by omega) dL_law_111 ?_
  refine g_top (nI s) rfl ?_
  have Ka2 : su (put5 τ1 0 (upd (upd (upd Z0 0 (nI u)) 1 (nI c)) 2 (nI s)) Z0 Z0 Z0 Z0) (upd (upd sF 0 (nI u)) 1 (nI c)) Z0 0 := su_cg (fun q hq => p5_lo (by omega)) (fun _ _ => rfl) (fun _ _ => rfl) r21
  obtain ⟨f2, z2, hp2⟩ := id Ka2.2.2.2.2
  have hC2 := ct_X5_set (l := l) (X := X) (su_gst Ka2) hp2 (w := nI 2) (v := nI s)
  obtain ⟨r12, r22, r32⟩ := lc_set (w := 2) (v := s) (by decide) (by refine ⟨fun q => ?_, fun q => ?_, ?_⟩ <;> omega) Ka2 hp2
  rw [r12, p5_hold r32] at hC2
  generalize (cSet (put5 τ1 0 (upd (upd (upd Z0 0 (nI u)) 1 (nI c)) 2 (nI s)) Z0 Z0 Z0 Z0) f2 z2 0 0 (nI 2) (nI s)).2 = τ2 at hC2 r22
  refine clL_97 h  hC2 rfl dL_law_112 rfl (Nat.le_of_ble_eq_true rfl) (by decide) ?_
  refine g_bipush (v := nI 50) h dL_law_115 (by decide) ?_
  refine g_iceq h 122 dL_law_117 (by decide) (fun c117 => ?_) (fun c117 => absurd rfl c117)
  exact C τ2 r22

set_option maxRecDepth 100000 in
set_option maxHeartbeats 4000000 in
theorem bg_1 (h : Ok l x X cL_law RL 8) (hL : xL x = 16) (hLn : X.2.2.2.2.2.1 < 2 ^ 30) (S : su σ sF Z0 0) (C : ∀ σ, su σ (upd (upd (upd sF 0 (nI (1 + lowN (cellV X 0) 20))) 1 (nI (lowN (cellV X 0 >>> (nI 5 &&& 31)) 51))) 2 (nI (lowN (cellV X 0 >>> (nI 11 &&& 31)) 101))) Z0 0 → G x X (put5 σ 0 (upd (upd (upd Z0 0 (nI (1 + lowN (cellV X 0) 20))) 1 (nI (lowN (cellV X 0 >>> (nI 5 &&& 31)) 51))) 2 (nI (lowN (cellV X 0 >>> (nI 11 &&& 31)) 101))) Z0 Z0 Z0 Z0) [(0, .ref (X.2.2.2.1 2)), (1, ra X 0), (2, ra X (qI 0)), (3, ra X (oI 0)), (4, ra X (tI 0)), (5, ra X (vI 0)), (6, ra X 154)] [] 122) : G x X (put5 σ 0 Z0 Z0 Z0 Z0 Z0) [(0, .ref (X.2.2.2.1 2)), (1, ra X 0), (2, ra X (qI 0)), (3, ra X (oI 0)), (4, ra X (tI 0)), (5, ra X (vI 0)), (6, ra X 154)] [] 36 := by
  refine g_aload_n h dL_law_36 rfl ?_
  refine g_iconst (v := nI 0) h dL_law_37 (by decide) ?_
  refine g_iconst (v := nI 1) h dL_law_38 (by decide) ?_
  refine g_aload_n h dL_law_39 rfl ?_
  refine g_iconst (v := nI 0) h dL_law_40 (by decide) ?_
  refine clL_90 h (ct_L_cell (by omega) hLn) rfl dL_law_41 rfl (Nat.le_of_ble_eq_true rfl) (by decide) ?_
  refine g_bipush (v := nI 20) h dL_law_44 (by decide) ?_
  refine clL_94 h (ct_L_low (n := 20) (by decide) (by decide)) rfl dL_law_46 rfl (Nat.le_of_ble_eq_true rfl) (by decide) ?_
  refine g_iadd h dL_law_49 ?_
  refine g_top (nI (1 + lowN (cellV X 0) 20)) (nI_add _ _) ?_
  refine g_stq h hb0 (by omega) dL_law_50 ?_
  refine g_aload_n h dL_law_51 rfl ?_
  refine g_iconst (v := nI 1) h dL_law_52 (by decide) ?_
  refine g_aload_n h dL_law_53 rfl ?_
  refine g_iconst (v := nI 0) h dL_law_54 (by decide) ?_
  refine clL_90 h (ct_L_cell (by omega) hLn) rfl dL_law_55 rfl (Nat.le_of_ble_eq_true rfl) (by decide) ?_
  refine g_iconst (v := nI 5) h dL_law_58 (by decide) ?_
  refine g_ishr h dL_law_59 ?_
  refine g_bipush (v := nI 51) h dL_law_60 (by decide) ?_
  refine clL_94 h (ct_L_low (n := 51) (by decide) (by decide)) rfl dL_law_62 rfl (Nat.le_of_ble_eq_true rfl) (by decide) ?_
  refine g_stq h hb0 (by omega) dL_law_65 ?_
  refine g_aload_n h dL_law_66 rfl ?_
  refine g_iconst (v := nI 2) h dL_law_67 (by decide) ?_
  refine g_aload_n h dL_law_68 rfl ?_
  refine g_iconst (v := nI 0) h dL_law_69 (by decide) ?_
  refine clL_90 h (ct_L_cell (by omega) hLn) rfl dL_law_70 rfl (Nat.le_of_ble_eq_true rfl) (by decide) ?_
  refine g_bipush (v := nI 11) h dL_law_73 (by decide) ?_
  refine g_ishr h dL_law_75 ?_
  refine g_bipush (v := nI 101) h dL_law_76 (by decide) ?_
  refine clL_94 h (ct_L_low (n := 101) (by decide) (by decide)) rfl dL_law_78 rfl (Nat.le_of_ble_eq_true rfl) (by decide) ?_
  refine g_stq h hb0 (by omega) dL_law_81 ?_
  exact bg_2 h hL (u := 1 + lowN (cellV X 0) 20) (c := lowN (cellV X 0 >>> (nI 5 &&& 31)) 51) (s := lowN (cellV X 0 >>> (nI 11 &&& 31)) 101) (by omega) (by have := lowN_lt (cellV X 0) (n := 20) (by decide); omega) (by have := lowN_lt (cellV X 0 >>> (nI 5 &&& 31)) (n := 51) (by decide); omega) (by have := lowN_lt (cellV X 0 >>> (nI 11 &&& 31)) (n := 101) (by decide); omega) S C

set_option maxRecDepth 100000 in
set_option maxHeartbeats 4000000 in
theorem bg_3 (h : Ok l x X cL_law RL 8) (hL : xL x = 16) (C : G x X (put5 σ 0 Q Z0 (tfl 40) Z0 Z0) [(0, .ref (X.2.2.2.1 2)), (1, ra X 0), (2, ra X (qI 0)), (3, ra X (oI 0)), (4, ra X (tI 0)), (5, ra X (vI 0)), (6, ra X 154)] [] 144) : G x X (put5 σ 0 Q Z0 (tfl 0) Z0 Z0) [(0, .ref (X.2.2.2.1 2)), (1, ra X 0), (2, ra X (qI 0)), (3, ra X (oI 0)), (4, ra X (tI 0)), (5, ra X (vI 0)), (6, ra X 154)] [] 122 := by
  have LOOP : ∀ (q n : Nat), n + q = 40 → G x X (put5 σ 0 Q Z0 (tfl n) Z0 Z0) [(0, .ref (X.2.2.2.1 2)), (1, ra X 0), (2, ra X (qI 0)), (3, ra X (oI 0)), (4, ra X (tI 0)), (5, ra X (vI 0)), (6, ra X 154), (7, .int (nI n))] [] 125 := by
    intro q
    induction q with
    | zero =>
      intro n hn
      have hn40 : n = 40 := hn
      refine g_iload h dL_law_125 rfl ?_
      refine g_bipush (v := nI 40) h dL_law_127 (by decide) ?_
      refine g_icge h 144 dL_law_129 (by decide) (fun c129 => ?_) (fun c129 => absurd (by rw [hn40]; exact Int32.le_refl _) c129)
      subst hn40
      refine g_sub [(0, .ref (X.2.2.2.1 2)), (1, ra X 0), (2, ra X (qI 0)), (3, ra X (oI 0)), (4, ra X (tI 0)), (5, ra X (vI 0)), (6, ra X 154)] ⟨rfl, rfl, rfl, rfl, rfl, rfl, rfl, trivial⟩ ?_
      exact C
    | succ q ih =>
      intro n hn
      have hlt : n < 40 := by omega
      refine g_iload h dL_law_125 rfl ?_
      refine g_bipush (v := nI 40) h dL_law_127 (by decide) ?_
      refine g_icge h 144 dL_law_129 (by decide) (fun c129 => absurd c129 (nI_ge hlt (by decide))) (fun c129 => ?_)
      refine g_aload h dL_law_132 rfl ?_
      refine g_iload h dL_law_134 rfl ?_
      refine g_iconst (v := nI 1) h dL_law_136 (by decide) ?_
      refine g_stt h hb0 (by omega) dL_law_137 ?_
      refine g_iincN h dL_law_138 rfl (by rw [hL]; decide) ?_
      refine g_goto h 125 dL_law_141 (by decide) ?_
      refine g_mem (put5 σ 0 Q Z0 (tfl (n + 1)) Z0 Z0) (by rw [tfl_s]) ?_
      refine g_sub [(0, .ref (X.2.2.2.1 2)), (1, ra X 0), (2, ra X (qI 0)), (3, ra X (oI 0)), (4, ra X (tI 0)), (5, ra X (vI 0)), (6, ra X 154), (7, .int (nI (n + 1)))] ⟨rfl, rfl, rfl, rfl, rfl, rfl, rfl, rfl, trivial⟩ ?_
      exact ih (n + 1) (by omega)
  refine g_iconst (v := nI 0) h dL_law_122 (by decide) ?_
  refine g_istore h dL_law_123 (by rw [hL]; decide) ?_
  refine g_sub [(0, .ref (X.2.2.2.1 2)), (1, ra X 0), (2, ra X (qI 0)), (3, ra X (oI 0)), (4, ra X (tI 0)), (5, ra X (vI 0)), (6, ra X 154), (7, .int (nI 0))] ⟨rfl, rfl, rfl, rfl, rfl, rfl, rfl, rfl, trivial⟩ ?_
  exact LOOP 40 0 (by omega)

set_option maxRecDepth 100000 in
set_option maxHeartbeats 4000000 in
theorem bg_5 (h : Ok l x X cL_law RL 8) (hL : xL x = 16) {Qc : Nat → Int32} {n c u p : Nat} {xv : Int32} (hn : n < 5) (hc : c ≤ 4) (hu : u ≤ 3) (h0 : c = 0 → u ≤ 1) (h4 : c = 4 → u = 0) (hpp : p ≤ 199) (S : su σ Qc O n) (hz : ∀ j, 10 * n ≤ j → O j = 0) (C : ∀ (σ : fM) (O : Nat → Int32), su σ Qc O (n + 1) → (∀ j, 10 * (n + 1) ≤ j → O j = 0) → G x X (put5 σ 0 Q O T Z0 Z0) [(0, .ref (X.2.2.2.1 2)), (1, ra X 0), (2, ra X (qI 0)), (3, ra X (oI 0)), (4, ra X (tI 0)), (5, ra X (vI 0)), (6, ra X 154), (7, .int (nI (n + 1)))] [] 147) : G x X (put5 σ 0 Q (upd (upd (upd O (10 * n) (nI c)) (10 * n + 1) (nI u)) (10 * n + 2) (nI p)) T Z0 Z0) [(0, .ref (X.2.2.2.1 2)), (1, ra X 0), (2, ra X (qI 0)), (3, ra X (oI 0)), (4, ra X (tI 0)), (5, ra X (vI 0)), (6, ra X 154), (7, .int (nI n)), (8, .int xv), (9, .int (nI (10 * n)))] [] 241 := by
  refine g_aload_n h dL_law_241 rfl ?_
  refine g_iload h dL_law_242 rfl ?_
  refine g_iconst (v := nI 3) h dL_law_244 (by decide) ?_
  refine g_iaddN h dL_law_245 ?_
  refine g_iconst (v := (-1)) h dL_law_246 (by decide) ?_
  refine g_sto h hb0 (by omega) dL_law_247 ?_
  refine g_aload_n h dL_law_248 rfl ?_
  refine g_aload_n h dL_law_249 rfl ?_
  refine g_iload h dL_law_250 rfl ?_
  refine g_ldo h hb0 (by omega) dL_law_252 ?_
  refine g_top (nI c) (by rw [upd_n _ _ _ _ (by omega), upd_n _ _ _ _ (by omega), upd_n _ _ _ _ (by omega), upd_s]) ?_
  refine g_aload_n h dL_law_253 rfl ?_
  refine g_iload h dL_law_254 rfl ?_
  refine g_iconst (v := nI 1) h dL_law_256 (by decide) ?_
  refine g_iaddN h dL_law_257 ?_
  refine g_ldo h hb0 (by omega) dL_law_258 ?_
  refine g_top (nI u) (by rw [upd_n _ _ _ _ (by omega), upd_n _ _ _ _ (by omega), upd_s]) ?_
  refine g_aload_n h dL_law_259 rfl ?_
  refine g_iload h dL_law_260 rfl ?_
  refine g_iconst (v := nI 2) h dL_law_262 (by decide) ?_
  refine g_iaddN h dL_law_263 ?_
  refine g_ldo h hb0 (by omega) dL_law_264 ?_
  refine g_top (nI p) (by rw [upd_n _ _ _ _ (by omega), upd_s]) ?_
  have Ka : su (put5 σ 0 Q (upd (upd (upd (upd O (10 * n) (nI c)) (10 * n + 1) (nI u)) (10 * n + 2) (nI p)) (10 * n + 3) (-1)) T Z0 Z0) Qc (upd (upd (upd (upd O (10 * n) (nI c)) (10 * n + 1) (nI u)) (10 * n + 2) (nI p)) (10 * n + 3) (-1)) n := su_cg (fun q hq => p5_lo (by omega)) (fun _ _ => rfl) (fun j hj => by rw [upd_n _ _ _ _ (by omega), upd_n _ _ _ _ (by omega), upd_n _ _ _ _ (by omega), upd_n _ _ _ _ (by omega)]) S
  obtain ⟨f, z, hp⟩ := id Ka.2.2.2.2
  have e0 : (upd (upd (upd (upd O (10 * n) (nI c)) (10 * n + 1) (nI u)) (10 * n + 2) (nI p)) (10 * n + 3) (-1)) (10 * n) = nI c := by rw [upd_n _ _ _ _ (by omega), upd_n _ _ _ _ (by omega), upd_n _ _ _ _ (by omega), upd_s]
  have e1 : (upd (upd (upd (upd O (10 * n) (nI c)) (10 * n + 1) (nI u)) (10 * n + 2) (nI p)) (10 * n + 3) (-1)) (10 * n + 1) = nI u := by rw [upd_n _ _ _ _ (by omega), upd_n _ _ _ _ (by omega), upd_s]
  have e2 : (upd (upd (upd (upd O (10 * n) (nI c)) (10 * n + 1) (nI u)) (10 * n + 2) (nI p)) (10 * n + 3) (-1)) (10 * n + 2) = nI p := by rw [upd_n _ _ _ _ (by omega), upd_s]
  have eh : ∀ j, 10 * n + 4 ≤ j → (upd (upd (upd (upd O (10 * n) (nI c)) (10 * n + 1) (nI u)) (10 * n + 2) (nI p)) (10 * n + 3) (-1)) j = 0 := fun j hj => by rw [upd_n _ _ _ _ (by omega), upd_n _ _ _ _ (by omega), upd_n _ _ _ _ (by omega), upd_n _ _ _ _ (by omega)]; exact hz j (by omega)
  have hs : sor (upd (upd (upd (upd O (10 * n) (nI c)) (10 * n + 1) (nI u)) (10 * n + 2) (nI p)) (10 * n + 3) (-1)) n := ⟨⟨c, hc, e0⟩, ⟨u, hu, e1⟩, fun q => (by rw [e1]; rw [e0] at q; have h9 := h0 ((nI_eq (b := 0) (by omega) (by decide)).mp q); rcases (show u = 0 ∨ u = 1 by omega) with e | e <;> rw [e] <;> decide), upd_s _ _ _, ⟨p, hpp, e2⟩, eh _ (by omega), eh _ (by omega), eh _ (by omega), eh _ (by omega)⟩
  have hC := ct_X5_oracle (l := l) (X := X) (su_gst Ka) hp (k := nI c) (u := nI u) (p := nI p)
  obtain ⟨r1, r2, r3⟩ := lc_oracle hn hs e0 e1 e2 hc hu h0 h4 hpp Ka hp
  rw [r1, p5_hold r3] at hC
  generalize (cOracle (put5 σ 0 Q (upd (upd (upd (upd O (10 * n) (nI c)) (10 * n + 1) (nI u)) (10 * n + 2) (nI p)) (10 * n + 3) (-1)) T Z0 Z0) f z n 0 (nI c) (nI u) (nI p)).2 = τ at hC r2
  refine clL_100 h  hC rfl dL_law_265 rfl (Nat.le_of_ble_eq_true rfl) (by decide) ?_
  refine g_iload h dL_law_268 rfl ?_
  refine g_iceq h 275 dL_law_270 (by decide) (fun c270 => ?_) (fun c270 => absurd rfl c270)
  refine g_iincN h dL_law_275 rfl (by rw [hL]; decide) ?_
  refine g_goto h 147 dL_law_278 (by decide) ?_
  refine g_sub [(0, .ref (X.2.2.2.1 2)), (1, ra X 0), (2, ra X (qI 0)), (3, ra X (oI 0)), (4, ra X (tI 0)), (5, ra X (vI 0)), (6, ra X 154), (7, .int (nI (n + 1)))] ⟨rfl, rfl, rfl, rfl, rfl, rfl, rfl, rfl, trivial⟩ ?_
  exact C τ _ r2 (fun j hj => eh j (by omega))

set_option maxRecDepth 100000 in
set_option maxHeartbeats 4000000 in
theorem bg_4 (h : Ok l x X cL_law RL 8) (hL : xL x = 16) {Qc : Nat → Int32} {n c u : Nat} {xv : Int32} (hn : n < 5) (hc : c ≤ 4) (hu : u ≤ 3) (h0 : c = 0 → u ≤ 1) (h4 : c = 4 → u = 0) (S : su σ Qc O n) (hz : ∀ j, 10 * n ≤ j → O j = 0) (C : ∀ (σ : fM) (O : Nat → Int32), su σ Qc O (n + 1) → (∀ j, 10 * (n + 1) ≤ j → O j = 0) → G x X (put5 σ 0 Q O T Z0 Z0) [(0, .ref (X.2.2.2.1 2)), (1, ra X 0), (2, ra X (qI 0)), (3, ra X (oI 0)), (4, ra X (tI 0)), (5, ra X (vI 0)), (6, ra X 154), (7, .int (nI (n + 1)))] [] 147) : G x X (put5 σ 0 Q (upd O (10 * n) (nI c)) T Z0 Z0) [(0, .ref (X.2.2.2.1 2)), (1, ra X 0), (2, ra X (qI 0)), (3, ra X (oI 0)), (4, ra X (tI 0)), (5, ra X (vI 0)), (6, ra X 154), (7, .int (nI n)), (8, .int xv), (9, .int (nI (10 * n)))] [.int (nI u), .int (nI (10 * n + 1)), ra X (oI 0)] 223 := by
  refine g_sto h hb0 (by omega) dL_law_223 ?_
  refine g_aload_n h dL_law_224 rfl ?_
  refine g_iload h dL_law_225 rfl ?_
  refine g_iconst (v := nI 2) h dL_law_227 (by decide) ?_
  refine g_iaddN h dL_law_228 ?_
  refine g_iload h dL_law_229 rfl ?_
  refine g_bipush (v := nI 6) h dL_law_231 (by decide) ?_
  refine g_ishr h dL_law_233 ?_
  refine g_sipush (v := nI 200) h dL_law_234 (by decide) ?_
  refine clL_94 h (ct_L_low (n := 200) (by decide) (by decide)) rfl dL_law_237 rfl (Nat.le_of_ble_eq_true rfl) (by decide) ?_
  refine g_sto h hb0 (by omega) dL_law_240 ?_
  exact bg_5 h hL hn hc hu h0 h4 (by have := lowN_lt (xv >>> (nI 6 &&& 31)) (n := 200) (by decide); omega) S hz C

set_option maxRecDepth 100000 in
set_option maxHeartbeats 4000000 in
theorem bg_6 (h : Ok l x X cL_law RL 8) (hL : xL x = 16) {Qc : Nat → Int32} {n c : Nat} {xv : Int32} (hn : n < 5) (hc : c ≤ 4) (S : su σ Qc O n) (hz : ∀ j, 10 * n ≤ j → O j = 0) (C : ∀ (σ : fM) (O : Nat → Int32), su σ Qc O (n + 1) → (∀ j, 10 * (n + 1) ≤ j → O j = 0) → G x X (put5 σ 0 Q O T Z0 Z0) [(0, .ref (X.2.2.2.1 2)), (1, ra X 0), (2, ra X (qI 0)), (3, ra X (oI 0)), (4, ra X (tI 0)), (5, ra X (vI 0)), (6, ra X 154), (7, .int (nI (n + 1)))] [] 147) : G x X (put5 σ 0 Q (upd O (10 * n) (nI c)) T Z0 Z0) [(0, .ref (X.2.2.2.1 2)), (1, ra X 0), (2, ra X (qI 0)), (3, ra X (oI 0)), (4, ra X (tI 0)), (5, ra X (vI 0)), (6, ra X 154), (7, .int (nI n)), (8, .int xv), (9, .int (nI (10 * n)))] [] 180 := by
  refine g_aload_n h dL_law_180 rfl ?_
  refine g_iload h dL_law_181 rfl ?_
  refine g_iconst (v := nI 1) h dL_law_183 (by decide) ?_
  refine g_iaddN h dL_law_184 ?_
  refine g_aload_n h dL_law_185 rfl ?_
  refine g_iload h dL_law_186 rfl ?_
  refine g_ldo h hb0 (by omega) dL_law_188 ?_
  refine g_top (nI c) (upd_s _ _ _) ?_
  refine g_ifne h 203 dL_law_189 (by decide) (fun c189 => ?_) (fun c189 => ?_)
  · refine g_aload_n h dL_law_203 rfl ?_
    refine g_iload h dL_law_204 rfl ?_
    refine g_ldo h hb0 (by omega) dL_law_206 ?_
    refine g_top (nI c) (upd_s _ _ _) ?_
    refine g_iconst (v := nI 4) h dL_law_207 (by decide) ?_
    refine g_icne h 215 dL_law_208 (by decide) (fun c208 => ?_) (fun c208 => ?_)
    · refine g_iload h dL_law_215 rfl ?_
      refine g_iconst (v := nI 3) h dL_law_217 (by decide) ?_
      refine g_ishr h dL_law_218 ?_
      refine g_iconst (v := nI 4) h dL_law_219 (by decide) ?_
      refine clL_94 h (ct_L_low (n := 4) (by decide) (by decide)) rfl dL_law_220 rfl (Nat.le_of_ble_eq_true rfl) (by decide) ?_
      have h2 := lowN_lt (xv >>> (nI 3 &&& 31)) (n := 4) (by decide)
      exact bg_4 h hL hn hc (u := lowN (xv >>> (nI 3 &&& 31)) 4) (by omega) (fun q => absurd (congrArg nI q) c189) (fun q => absurd (congrArg nI q) c208) S hz C
    · refine g_iconst (v := nI 0) h dL_law_211 (by decide) ?_
      refine g_goto h 223 dL_law_212 (by decide) ?_
      exact bg_4 h hL hn hc (u := 0) (by decide) (fun _ => by decide) (fun _ => rfl) S hz C
  · refine g_iload h dL_law_192 rfl ?_
    refine g_iconst (v := nI 3) h dL_law_194 (by decide) ?_
    refine g_ishr h dL_law_195 ?_
    refine g_iconst (v := nI 2) h dL_law_196 (by decide) ?_
    refine clL_94 h (ct_L_low (n := 2) (by decide) (by decide)) rfl dL_law_197 rfl (Nat.le_of_ble_eq_true rfl) (by decide) ?_
    refine g_goto h 223 dL_law_200 (by decide) ?_
    have hc0 : c = 0 := (nI_eq (b := 0) (by omega) (by decide)).mp c189
    have h2 := lowN_lt (xv >>> (nI 3 &&& 31)) (n := 2) (by decide)
    exact bg_4 h hL hn hc (u := lowN (xv >>> (nI 3 &&& 31)) 2) (by omega) (fun _ => by omega) (fun q => by omega) S hz C

set_option maxRecDepth 100000 in
set_option maxHeartbeats 4000000 in
theorem bg_7 (h : Ok l x X cL_law RL 8) (hL : xL x = 16) (hLn : X.2.2.2.2.2.1 < 2 ^ 30) {Qc : Nat → Int32} (C : ∀ (σ : fM) (O : Nat → Int32), su σ Qc O 5 → G x X (put5 σ 0 Q O T Z0 Z0) [(0, .ref (X.2.2.2.1 2)), (1, ra X 0), (2, ra X (qI 0)), (3, ra X (oI 0)), (4, ra X (tI 0)), (5, ra X (vI 0)), (6, ra X 154)] [] 281) : ∀ (q n : Nat), n + q = 5 → ∀ (σ : fM) (O : Nat → Int32), su σ Qc O n → (∀ j, 10 * n ≤ j → O j = 0) → G x X (put5 σ 0 Q O T Z0 Z0) [(0, .ref (X.2.2.2.1 2)), (1, ra X 0), (2, ra X (qI 0)), (3, ra X (oI 0)), (4, ra X (tI 0)), (5, ra X (vI 0)), (6, ra X 154), (7, .int (nI n))] [] 147 := by
  intro q
  induction q with
  | zero =>
    intro n hn σ O S hz
    have hn5 : n = 5 := hn
    refine g_iload h dL_law_147 rfl ?_
    refine g_iconst (v := nI 5) h dL_law_149 (by decide) ?_
    refine g_icge h 281 dL_law_150 (by decide) (fun c150 => ?_) (fun c150 => absurd (by rw [hn5]; exact Int32.le_refl _) c150)
    subst hn5
    refine g_sub [(0, .ref (X.2.2.2.1 2)), (1, ra X 0), (2, ra X (qI 0)), (3, ra X (oI 0)), (4, ra X (tI 0)), (5, ra X (vI 0)), (6, ra X 154)] ⟨rfl, rfl, rfl, rfl, rfl, rfl, rfl, trivial⟩ ?_
    exact C σ O S
  | succ q ih =>
    intro n hn σ O S hz
    have hlt : n < 5 := by omega
    refine g_iload h dL_law_147 rfl ?_
    refine g_iconst (v := nI 5) h dL_law_149 (by decide) ?_
    refine g_icge h 281 dL_law_150 (by decide) (fun c150 => absurd c150 (nI_ge hlt (by decide))) (fun c150 => ?_)
    refine g_aload_n h dL_law_153 rfl ?_
    refine g_iconst (v := nI 1) h dL_law_154 (by decide) ?_
    refine g_iload h dL_law_155 rfl ?_
    refine g_iaddN h dL_law_157 ?_
    refine clL_90 h (ct_L_cell (k := 1 + n) (by omega) hLn) rfl dL_law_158 rfl (Nat.le_of_ble_eq_true rfl) (by decide) ?_
    refine g_istore h dL_law_161 (by rw [hL]; decide) ?_
    refine g_bipush (v := nI 10) h dL_law_163 (by decide) ?_
    refine g_iload h dL_law_165 rfl ?_
    refine g_imulN h dL_law_167 ?_
    refine g_istore h dL_law_168 (by rw [hL]; decide) ?_
    refine g_aload_n h dL_law_170 rfl ?_
    refine g_iload h dL_law_171 rfl ?_
    refine g_iload h dL_law_173 rfl ?_
    refine g_iconst (v := nI 5) h dL_law_175 (by decide) ?_
    refine clL_94 h (ct_L_low (n := 5) (by decide) (by decide)) rfl dL_law_176 rfl (Nat.le_of_ble_eq_true rfl) (by decide) ?_
    refine g_sto h hb0 (by omega) dL_law_179 ?_
    refine g_sub [(0, .ref (X.2.2.2.1 2)), (1, ra X 0), (2, ra X (qI 0)), (3, ra X (oI 0)), (4, ra X (tI 0)), (5, ra X (vI 0)), (6, ra X 154), (7, .int (nI n)), (8, .int (cellV X (1 + n))), (9, .int (nI (10 * n)))] ⟨rfl, rfl, rfl, rfl, rfl, rfl, rfl, rfl, rfl, rfl, trivial⟩ ?_
    exact bg_6 h hL hlt (by have := lowN_lt (cellV X (1 + n)) (n := 5) (by decide); omega) S hz (fun σ O S hz => ih (n + 1) (by omega) σ O S hz)

set_option maxRecDepth 100000 in
set_option maxHeartbeats 4000000 in
theorem law_all (h : Ok l x X cL_law RL 8) (hL : xL x = 16) (hA : ∀ q, (xs x).heap.size ≤ q → xA x q) (he0 : X.2.2.2.2.1 = 0) (hLn : X.2.2.2.2.2.1 < 2 ^ 30) (hce : xk x + 64 ≤ (xR x).cells) (hsl : xn x + 1952 ≤ (xR x).slots) (fin : ∀ (k n : Nat), k ≤ (xR x).cells → n ≤ (xR x).slots → ∀ (σ : fM) (L : List (Nat × Value)), G (kn x k n) X σ L [.int 1] 925) (S : su σ sF Z0 0) : G x X (put5 σ 0 Z0 Z0 Z0 Z0 Z0) [(0, .ref (X.2.2.2.1 2)), (1, ra X 0), (2, ra X (qI 0)), (3, ra X (oI 0)), (4, ra X (tI 0)), (5, ra X (vI 0)), (6, ra X 154)] [] 36 := by
  refine bg_1 h hL hLn S (fun σ S => ?_)
  refine g_mem (put5 σ 0 (upd (upd (upd Z0 0 (nI (1 + lowN (cellV X 0) 20))) 1 (nI (lowN (cellV X 0 >>> (nI 5 &&& 31)) 51))) 2 (nI (lowN (cellV X 0 >>> (nI 11 &&& 31)) 101))) Z0 (tfl 0) Z0 Z0) (by rw [show tfl 0 = Z0 from rfl]) ?_
  refine bg_3 h hL ?_
  refine g_iconst (v := nI 0) h dL_law_144 (by decide) ?_
  refine g_istore h dL_law_145 (by rw [hL]; decide) ?_
  refine g_sub [(0, .ref (X.2.2.2.1 2)), (1, ra X 0), (2, ra X (qI 0)), (3, ra X (oI 0)), (4, ra X (tI 0)), (5, ra X (vI 0)), (6, ra X 154), (7, .int (nI 0))] ⟨rfl, rfl, rfl, rfl, rfl, rfl, rfl, rfl, trivial⟩ ?_
  refine bg_7 h hL hLn (fun σ O S => ?_) 5 0 (by omega) σ Z0 S (fun _ _ => rfl)
  refine g_iconst (v := nI 0) h dL_law_281 (by decide) ?_
  refine g_istore h dL_law_282 (by rw [hL]; decide) ?_
  refine g_sub [(0, .ref (X.2.2.2.1 2)), (1, ra X 0), (2, ra X (qI 0)), (3, ra X (oI 0)), (4, ra X (tI 0)), (5, ra X (vI 0)), (6, ra X 154), (7, .int (nI 0))] ⟨rfl, rfl, rfl, rfl, rfl, rfl, rfl, rfl, trivial⟩ ?_
  have K : lKv σ (upd (upd (upd Z0 0 (nI (1 + lowN (cellV X 0) 20))) 1 (nI (lowN (cellV X 0 >>> (nI 5 &&& 31)) 51))) 2 (nI (lowN (cellV X 0 >>> (nI 11 &&& 31)) 101))) O (tfl 40) Z0 0 1000 0 := su_K S (fun j hj => by rcases (show j = 0 ∨ j = 1 ∨ j = 2 by omega) with rfl | rfl | rfl <;> rfl) ⟨_, by omega, by have := lowN_lt (cellV X 0) (n := 20) (by decide); omega, rfl⟩ ⟨_, by have := lowN_lt (cellV X 0 >>> (nI 5 &&& 31)) (n := 51) (by decide); omega, rfl⟩ ⟨_, by have := lowN_lt (cellV X 0 >>> (nI 11 &&& 31)) (n := 101) (by decide); omega, rfl⟩ rfl rfl rfl rfl rfl (fun j hj => if_pos hj)
  exact tns h hL hA he0 hLn fin 16 0 (by omega) (xk x) (xn x) (by omega) (by omega) _ _ _ _ _ _ _ (KM_p5 K)

end BEGINNING
