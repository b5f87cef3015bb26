/-! the law's same: all that is asked agrees -/
theorem hb0 {X : fX} : bk X 0 := Or.inl rfl

set_option maxRecDepth 100000 in
set_option maxHeartbeats 4000000 in
theorem sm_1 {l : Launch} {x : fC} {X : fX} {μ : fM} {Q O T V w : Nat → Int32} {m B y a : Nat} (h : Ok l x X cL_same RL 6) (hL : xL x = 15) (hB : B < 2 ^ 24) (hy : y < 2 ^ 24) (ha : a < 64) (K : KM μ Q O T V w m B y) {c6 c7 c8 : Int32} {k : Nat} (hk : k < 5) (C : ∀ μ, KM μ Q O T V w m B y → G x X (put5 μ 0 Q O T V w) [(0, ra X 0), (1, .int (nI a)), (2, ra X (qI 0)), (3, ra X (oI 0)), (4, ra X (tI 0)), (5, ra X (vI 0)), (6, .int c6), (7, .int c7), (8, .int c8), (9, .int (nI k)), (10, .int (nI (10 * k)))] [] 256) : G x X (put5 μ 0 Q O T V w) [(0, ra X 0), (1, .int (nI a)), (2, ra X (qI 0)), (3, ra X (oI 0)), (4, ra X (tI 0)), (5, ra X (vI 0)), (6, .int c6), (7, .int c7), (8, .int c8), (9, .int (nI k))] [] 20 := by
  have hm8 := K.m8
  have LOOP : ∀ (q i : Nat), i + q = m → G x X (put5 μ 0 Q O T V w) [(0, ra X 0), (1, .int (nI a)), (2, ra X (qI 0)), (3, ra X (oI 0)), (4, ra X (tI 0)), (5, ra X (vI 0)), (6, .int c6), (7, .int c7), (8, .int c8), (9, .int (nI k)), (10, .int (nI (10 * k))), (11, .int (lOw V k i)), (12, .int (lOd V k i)), (13, .int (nI i))] [] 36 := by
    intro q
    induction q with
    | zero =>
      intro i hi 
      have hie : i = m := by omega
      rw [hie]
      refine g_iload h dL_same_36 rfl ?_
      refine g_aload_n h dL_same_38 rfl ?_
      refine g_bipush (v := nI 7) h dL_same_39 (by decide) ?_
      refine g_ldq h hb0 (by omega) dL_same_41 ?_
      refine g_icge h 113 dL_same_42 (by decide) (fun c42 => ?_) (fun c42 => absurd (by rw [K.1.1.2.1]; exact Int32.le_refl _) c42)
      refine g_aload_n h dL_same_113 rfl ?_
      refine g_iload h dL_same_114 rfl ?_
      refine g_iconst (v := nI 2) h dL_same_116 (by decide) ?_
      refine clL_38 h  (c5_oo K hk (j := 2) (by decide) (oo_2 K hk)) rfl dL_same_117 rfl (Nat.le_of_ble_eq_true rfl) (by decide) ?_
      refine g_aload_n h dL_same_120 rfl ?_
      refine g_iload h dL_same_121 rfl ?_
      refine g_iconst (v := nI 2) h dL_same_123 (by decide) ?_
      refine g_iaddN h dL_same_124 ?_
      refine g_ldo h hb0 (by omega) dL_same_125 ?_
      refine g_icne h 254 dL_same_126 (by decide) (fun c126 => absurd rfl c126) (fun c126 => ?_)
      refine g_aload_n h dL_same_129 rfl ?_
      refine g_iload h dL_same_130 rfl ?_
      refine g_iconst (v := nI 3) h dL_same_132 (by decide) ?_
      refine clL_38 h  (c5_oo K hk (j := 3) (by decide) (oo_3 K hk)) rfl dL_same_133 rfl (Nat.le_of_ble_eq_true rfl) (by decide) ?_
      refine g_aload_n h dL_same_136 rfl ?_
      refine g_iload h dL_same_137 rfl ?_
      refine g_iconst (v := nI 3) h dL_same_139 (by decide) ?_
      refine g_iaddN h dL_same_140 ?_
      refine g_ldo h hb0 (by omega) dL_same_141 ?_
      refine g_ifge h 150 dL_same_142 (by decide) (fun c142 => ?_) (fun c142 => ?_)
      · refine g_aload_n h dL_same_150 rfl ?_
        refine g_iload h dL_same_151 rfl ?_
        refine g_iconst (v := nI 3) h dL_same_153 (by decide) ?_
        refine g_iaddN h dL_same_154 ?_
        refine g_ldo h hb0 (by omega) dL_same_155 ?_
        refine g_icne h 254 dL_same_156 (by decide) (fun c156 => absurd (if_pos c142) c156) (fun c156 => ?_)
        refine g_aload_n h dL_same_159 rfl ?_
        refine g_iload h dL_same_160 rfl ?_
        refine g_iconst (v := nI 5) h dL_same_162 (by decide) ?_
        refine clL_38 h  (c5_oo K hk (j := 5) (by decide) (oo_p K hk (p := 4) (by decide) (by decide))) rfl dL_same_163 rfl (Nat.le_of_ble_eq_true rfl) (by decide) ?_
        refine g_aload_n h dL_same_166 rfl ?_
        refine g_iload h dL_same_167 rfl ?_
        refine g_iconst (v := nI 4) h dL_same_169 (by decide) ?_
        refine g_iaddN h dL_same_170 ?_
        refine g_ldo h hb0 (by omega) dL_same_171 ?_
        refine g_icne h 254 dL_same_172 (by decide) (fun c172 => absurd rfl c172) (fun c172 => ?_)
        refine g_aload_n h dL_same_175 rfl ?_
        refine g_iload h dL_same_176 rfl ?_
        refine g_bipush (v := nI 6) h dL_same_178 (by decide) ?_
        refine clL_38 h  (c5_oo K hk (j := 6) (by decide) (oo_p K hk (p := 5) (by decide) (by decide))) rfl dL_same_180 rfl (Nat.le_of_ble_eq_true rfl) (by decide) ?_
        refine g_aload_n h dL_same_183 rfl ?_
        refine g_iload h dL_same_184 rfl ?_
        refine g_iconst (v := nI 5) h dL_same_186 (by decide) ?_
        refine g_iaddN h dL_same_187 ?_
        refine g_ldo h hb0 (by omega) dL_same_188 ?_
        refine g_icne h 254 dL_same_189 (by decide) (fun c189 => absurd rfl c189) (fun c189 => ?_)
        refine g_aload_n h dL_same_192 rfl ?_
        refine g_iload h dL_same_193 rfl ?_
        refine g_bipush (v := nI 7) h dL_same_195 (by decide) ?_
        refine clL_38 h  (c5_oo K hk (j := 7) (by decide) (oo_p K hk (p := 6) (by decide) (by decide))) rfl dL_same_197 rfl (Nat.le_of_ble_eq_true rfl) (by decide) ?_
        refine g_aload_n h dL_same_200 rfl ?_
        refine g_iload h dL_same_201 rfl ?_
        refine g_bipush (v := nI 6) h dL_same_203 (by decide) ?_
        refine g_iaddN h dL_same_205 ?_
        refine g_ldo h hb0 (by omega) dL_same_206 ?_
        refine g_icne h 254 dL_same_207 (by decide) (fun c207 => absurd rfl c207) (fun c207 => ?_)
        refine g_aload_n h dL_same_210 rfl ?_
        refine g_iload h dL_same_211 rfl ?_
        refine g_bipush (v := nI 8) h dL_same_213 (by decide) ?_
        refine clL_38 h  (c5_oo K hk (j := 8) (by decide) (oo_p K hk (p := 7) (by decide) (by decide))) rfl dL_same_215 rfl (Nat.le_of_ble_eq_true rfl) (by decide) ?_
        refine g_aload_n h dL_same_218 rfl ?_
        refine g_iload h dL_same_219 rfl ?_
        refine g_bipush (v := nI 7) h dL_same_221 (by decide) ?_
        refine g_iaddN h dL_same_223 ?_
        refine g_ldo h hb0 (by omega) dL_same_224 ?_
        refine g_icne h 254 dL_same_225 (by decide) (fun c225 => absurd rfl c225) (fun c225 => ?_)
        refine g_aload_n h dL_same_228 rfl ?_
        refine g_iload h dL_same_229 rfl ?_
        refine g_bipush (v := nI 9) h dL_same_231 (by decide) ?_
        refine clL_38 h  (c5_oo K hk (j := 9) (by decide) (oo_9 K k)) rfl dL_same_233 rfl (Nat.le_of_ble_eq_true rfl) (by decide) ?_
        refine g_iload h dL_same_236 rfl ?_
        refine g_icne h 254 dL_same_238 (by decide) (fun c238 => absurd rfl c238) (fun c238 => ?_)
        refine g_aload_n h dL_same_241 rfl ?_
        refine g_iload h dL_same_242 rfl ?_
        refine g_bipush (v := nI 10) h dL_same_244 (by decide) ?_
        refine clL_38 h  (c5_oo K hk (j := 10) (by decide) (oo_10 K k)) rfl dL_same_246 rfl (Nat.le_of_ble_eq_true rfl) (by decide) ?_
        refine g_iload h dL_same_249 rfl ?_
        refine g_iceq h 256 dL_same_251 (by decide) (fun c251 => ?_) (fun c251 => absurd rfl c251)
        refine g_sub [(0, ra X 0), (1, .int (nI a)), (2, ra X (qI 0)), (3, ra X (oI 0)), (4, ra X (tI 0)), (5, ra X (vI 0)), (6, .int c6), (7, .int c7), (8, .int c8), (9, .int (nI k)), (10, .int (nI (10 * k)))] ⟨rfl, rfl, rfl, rfl, rfl, rfl, rfl, rfl, rfl, rfl, rfl, trivial⟩ ?_
        exact C _ K
      · refine g_ldc h (-1000004) (lw_in 431 (by decide +kernel) rfl) dL_same_145 ?_
        refine g_goto h 156 dL_same_147 (by decide) ?_
        refine g_icne h 254 dL_same_156 (by decide) (fun c156 => absurd (if_neg c142) c156) (fun c156 => ?_)
        refine g_aload_n h dL_same_159 rfl ?_
        refine g_iload h dL_same_160 rfl ?_
        refine g_iconst (v := nI 5) h dL_same_162 (by decide) ?_
        refine clL_38 h  (c5_oo K hk (j := 5) (by decide) (oo_p K hk (p := 4) (by decide) (by decide))) rfl dL_same_163 rfl (Nat.le_of_ble_eq_true rfl) (by decide) ?_
        refine g_aload_n h dL_same_166 rfl ?_
        refine g_iload h dL_same_167 rfl ?_
        refine g_iconst (v := nI 4) h dL_same_169 (by decide) ?_
        refine g_iaddN h dL_same_170 ?_
        refine g_ldo h hb0 (by omega) dL_same_171 ?_
        refine g_icne h 254 dL_same_172 (by decide) (fun c172 => absurd rfl c172) (fun c172 => ?_)
        refine g_aload_n h dL_same_175 rfl ?_
        refine g_iload h dL_same_176 rfl ?_
        refine g_bipush (v := nI 6) h dL_same_178 (by decide) ?_
        refine clL_38 h  (c5_oo K hk (j := 6) (by decide) (oo_p K hk (p := 5) (by decide) (by decide))) rfl dL_same_180 rfl (Nat.le_of_ble_eq_true rfl) (by decide) ?_
        refine g_aload_n h dL_same_183 rfl ?_
        refine g_iload h dL_same_184 rfl ?_
        refine g_iconst (v := nI 5) h dL_same_186 (by decide) ?_
        refine g_iaddN h dL_same_187 ?_
        refine g_ldo h hb0 (by omega) dL_same_188 ?_
        refine g_icne h 254 dL_same_189 (by decide) (fun c189 => absurd rfl c189) (fun c189 => ?_)
        refine g_aload_n h dL_same_192 rfl ?_
        refine g_iload h dL_same_193 rfl ?_
        refine g_bipush (v := nI 7) h dL_same_195 (by decide) ?_
        refine clL_38 h  (c5_oo K hk (j := 7) (by decide) (oo_p K hk (p := 6) (by decide) (by decide))) rfl dL_same_197 rfl (Nat.le_of_ble_eq_true rfl) (by decide) ?_
        refine g_aload_n h dL_same_200 rfl ?_
        refine g_iload h dL_same_201 rfl ?_
        refine g_bipush (v := nI 6) h dL_same_203 (by decide) ?_
        refine g_iaddN h dL_same_205 ?_
        refine g_ldo h hb0 (by omega) dL_same_206 ?_
        refine g_icne h 254 dL_same_207 (by decide) (fun c207 => absurd rfl c207) (fun c207 => ?_)
        refine g_aload_n h dL_same_210 rfl ?_
        refine g_iload h dL_same_211 rfl ?_
        refine g_bipush (v := nI 8) h dL_same_213 (by decide) ?_
        refine clL_38 h  (c5_oo K hk (j := 8) (by decide) (oo_p K hk (p := 7) (by decide) (by decide))) rfl dL_same_215 rfl (Nat.le_of_ble_eq_true rfl) (by decide) ?_
        refine g_aload_n h dL_same_218 rfl ?_
        refine g_iload h dL_same_219 rfl ?_
        refine g_bipush (v := nI 7) h dL_same_221 (by decide) ?_
        refine g_iaddN h dL_same_223 ?_
        refine g_ldo h hb0 (by omega) dL_same_224 ?_
        refine g_icne h 254 dL_same_225 (by decide) (fun c225 => absurd rfl c225) (fun c225 => ?_)
        refine g_aload_n h dL_same_228 rfl ?_
        refine g_iload h dL_same_229 rfl ?_
        refine g_bipush (v := nI 9) h dL_same_231 (by decide) ?_
        refine clL_38 h  (c5_oo K hk (j := 9) (by decide) (oo_9 K k)) rfl dL_same_233 rfl (Nat.le_of_ble_eq_true rfl) (by decide) ?_
        refine g_iload h dL_same_236 rfl ?_
        refine g_icne h 254 dL_same_238 (by decide) (fun c238 => absurd rfl c238) (fun c238 => ?_)
        refine g_aload_n h dL_same_241 rfl ?_
        refine g_iload h dL_same_242 rfl ?_
        refine g_bipush (v := nI 10) h dL_same_244 (by decide) ?_
        refine clL_38 h  (c5_oo K hk (j := 10) (by decide) (oo_10 K k)) rfl dL_same_246 rfl (Nat.le_of_ble_eq_true rfl) (by decide) ?_
        refine g_iload h dL_same_249 rfl ?_
        refine g_iceq h 256 dL_same_251 (by decide) (fun c251 => ?_) (fun c251 => absurd rfl c251)
        refine g_sub [(0, ra X 0), (1, .int (nI a)), (2, ra X (qI 0)), (3, ra X (oI 0)), (4, ra X (tI 0)), (5, ra X (vI 0)), (6, .int c6), (7, .int c7), (8, .int c8), (9, .int (nI k)), (10, .int (nI (10 * k)))] ⟨rfl, rfl, rfl, rfl, rfl, rfl, rfl, rfl, rfl, rfl, rfl, trivial⟩ ?_
        exact C _ K
    | succ q ih =>
      intro i hi 
      have hlt : i < m := by omega
      refine g_iload h dL_same_36 rfl ?_
      refine g_aload_n h dL_same_38 rfl ?_
      refine g_bipush (v := nI 7) h dL_same_39 (by decide) ?_
      refine g_ldq h hb0 (by omega) dL_same_41 ?_
      refine g_icge h 113 dL_same_42 (by decide) (fun c42 => absurd c42 (by rw [K.1.1.2.1]; exact nI_ge hlt (by omega))) (fun c42 => ?_)
      refine g_iload h dL_same_45 rfl ?_
      refine g_aload h dL_same_47 rfl ?_
      refine g_iconst (v := nI 3) h dL_same_49 (by decide) ?_
      refine g_iload h dL_same_50 rfl ?_
      refine g_imulN h dL_same_52 ?_
      refine g_iconst (v := nI 1) h dL_same_53 (by decide) ?_
      refine g_iaddN h dL_same_54 ?_
      refine g_ldv h hb0 (by omega) dL_same_55 ?_
      refine g_iload h dL_same_56 rfl ?_
      refine g_icne h 73 dL_same_58 (by decide) (fun c58 => ?_) (fun c58 => ?_)
      · refine g_iconst (v := 0) h dL_same_73 (by decide) ?_
        refine g_iadd h dL_same_74 ?_
        refine g_istore h dL_same_75 (by rw [hL]; decide) ?_
        refine g_iload h dL_same_77 rfl ?_
        refine g_aload h dL_same_79 rfl ?_
        refine g_iconst (v := nI 3) h dL_same_81 (by decide) ?_
        refine g_iload h dL_same_82 rfl ?_
        refine g_imulN h dL_same_84 ?_
        refine g_ldv h hb0 (by omega) dL_same_85 ?_
        refine g_iload h dL_same_86 rfl ?_
        refine g_icne h 103 dL_same_88 (by decide) (fun c88 => ?_) (fun c88 => ?_)
        · refine g_iconst (v := 0) h dL_same_103 (by decide) ?_
          refine g_iadd h dL_same_104 ?_
          refine g_istore h dL_same_105 (by rw [hL]; decide) ?_
          refine g_iincN h dL_same_107 rfl (by rw [hL]; decide) ?_
          refine g_goto h 36 dL_same_110 (by decide) ?_
          refine g_sub [(0, ra X 0), (1, .int (nI a)), (2, ra X (qI 0)), (3, ra X (oI 0)), (4, ra X (tI 0)), (5, ra X (vI 0)), (6, .int c6), (7, .int c7), (8, .int c8), (9, .int (nI k)), (10, .int (nI (10 * k))), (11, .int (lOw V k (i + 1))), (12, .int (lOd V k (i + 1))), (13, .int (nI (i + 1)))] ⟨rfl, rfl, rfl, rfl, rfl, rfl, rfl, rfl, rfl, rfl, rfl, (congrArg (fun z => some (Value.int z)) (by show _ = lOw V k i + (if _ then _ else _); first | (simp [c42, c58, c88]; done) | (simp_all; done))), (congrArg (fun z => some (Value.int z)) (by show _ = lOd V k i + (if _ then _ else _); first | (simp [c42, c58, c88]; done) | (simp_all; done))), rfl, trivial⟩ ?_
          exact ih (i + 1) (by omega)
        · refine g_aload h dL_same_91 rfl ?_
          refine g_iconst (v := nI 3) h dL_same_93 (by decide) ?_
          refine g_iload h dL_same_94 rfl ?_
          refine g_imulN h dL_same_96 ?_
          refine g_iconst (v := nI 2) h dL_same_97 (by decide) ?_
          refine g_iaddN h dL_same_98 ?_
          refine g_ldv h hb0 (by omega) dL_same_99 ?_
          refine g_goto h 104 dL_same_100 (by decide) ?_
          refine g_iadd h dL_same_104 ?_
          refine g_istore h dL_same_105 (by rw [hL]; decide) ?_
          refine g_iincN h dL_same_107 rfl (by rw [hL]; decide) ?_
          refine g_goto h 36 dL_same_110 (by decide) ?_
          refine g_sub [(0, ra X 0), (1, .int (nI a)), (2, ra X (qI 0)), (3, ra X (oI 0)), (4, ra X (tI 0)), (5, ra X (vI 0)), (6, .int c6), (7, .int c7), (8, .int c8), (9, .int (nI k)), (10, .int (nI (10 * k))), (11, .int (lOw V k (i + 1))), (12, .int (lOd V k (i + 1))), (13, .int (nI (i + 1)))] ⟨rfl, rfl, rfl, rfl, rfl, rfl, rfl, rfl, rfl, rfl, rfl, (congrArg (fun z => some (Value.int z)) (by show _ = lOw V k i + (if _ then _ else _); first | (simp [c42, c58, c88]; done) | (simp_all; done))), (congrArg (fun z => some (Value.int z)) (by show _ = lOd V k i + (if _ then _ else _); first | (simp [c42, c58, c88]; done) | (simp_all; done))), rfl, trivial⟩ ?_
          exact ih (i + 1) (by omega)
      · refine g_aload h dL_same_61 rfl ?_
        refine g_iconst (v := nI 3) h dL_same_63 (by decide) ?_
        refine g_iload h dL_same_64 rfl ?_
        refine g_imulN h dL_same_66 ?_
        refine g_iconst (v := nI 2) h dL_same_67 (by decide) ?_
        refine g_iaddN h dL_same_68 ?_
        refine g_ldv h hb0 (by omega) dL_same_69 ?_
        refine g_goto h 74 dL_same_70 (by decide) ?_
        refine g_iadd h dL_same_74 ?_
        refine g_istore h dL_same_75 (by rw [hL]; decide) ?_
        refine g_iload h dL_same_77 rfl ?_
        refine g_aload h dL_same_79 rfl ?_
        refine g_iconst (v := nI 3) h dL_same_81 (by decide) ?_
        refine g_iload h dL_same_82 rfl ?_
        refine g_imulN h dL_same_84 ?_
        refine g_ldv h hb0 (by omega) dL_same_85 ?_
        refine g_iload h dL_same_86 rfl ?_
        refine g_icne h 103 dL_same_88 (by decide) (fun c88 => ?_) (fun c88 => ?_)
        · refine g_iconst (v := 0) h dL_same_103 (by decide) ?_
          refine g_iadd h dL_same_104 ?_
          refine g_istore h dL_same_105 (by rw [hL]; decide) ?_
          refine g_iincN h dL_same_107 rfl (by rw [hL]; decide) ?_
          refine g_goto h 36 dL_same_110 (by decide) ?_
          refine g_sub [(0, ra X 0), (1, .int (nI a)), (2, ra X (qI 0)), (3, ra X (oI 0)), (4, ra X (tI 0)), (5, ra X (vI 0)), (6, .int c6), (7, .int c7), (8, .int c8), (9, .int (nI k)), (10, .int (nI (10 * k))), (11, .int (lOw V k (i + 1))), (12, .int (lOd V k (i + 1))), (13, .int (nI (i + 1)))] ⟨rfl, rfl, rfl, rfl, rfl, rfl, rfl, rfl, rfl, rfl, rfl, (congrArg (fun z => some (Value.int z)) (by show _ = lOw V k i + (if _ then _ else _); first | (simp [c42, c58, c88]; done) | (simp_all; done))), (congrArg (fun z => some (Value.int z)) (by show _ = lOd V k i + (if _ then _ else _); first | (simp [c42, c58, c88]; done) | (simp_all; done))), rfl, trivial⟩ ?_
          exact ih (i + 1) (by omega)
        · refine g_aload h dL_same_91 rfl ?_
          refine g_iconst (v := nI 3) h dL_same_93 (by decide) ?_
          refine g_iload h dL_same_94 rfl ?_
          refine g_imulN h dL_same_96 ?_
          refine g_iconst (v := nI 2) h dL_same_97 (by decide) ?_
          refine g_iaddN h dL_same_98 ?_
          refine g_ldv h hb0 (by omega) dL_same_99 ?_
          refine g_goto h 104 dL_same_100 (by decide) ?_
          refine g_iadd h dL_same_104 ?_
          refine g_istore h dL_same_105 (by rw [hL]; decide) ?_
          refine g_iincN h dL_same_107 rfl (by rw [hL]; decide) ?_
          refine g_goto h 36 dL_same_110 (by decide) ?_
          refine g_sub [(0, ra X 0), (1, .int (nI a)), (2, ra X (qI 0)), (3, ra X (oI 0)), (4, ra X (tI 0)), (5, ra X (vI 0)), (6, .int c6), (7, .int c7), (8, .int c8), (9, .int (nI k)), (10, .int (nI (10 * k))), (11, .int (lOw V k (i + 1))), (12, .int (lOd V k (i + 1))), (13, .int (nI (i + 1)))] ⟨rfl, rfl, rfl, rfl, rfl, rfl, rfl, rfl, rfl, rfl, rfl, (congrArg (fun z => some (Value.int z)) (by show _ = lOw V k i + (if _ then _ else _); first | (simp [c42, c58, c88]; done) | (simp_all; done))), (congrArg (fun z => some (Value.int z)) (by show _ = lOd V k i + (if _ then _ else _); first | (simp [c42, c58, c88]; done) | (simp_all; done))), rfl, trivial⟩ ?_
          exact ih (i + 1) (by omega)
  refine g_bipush (v := nI 10) h dL_same_20 (by decide) ?_
  refine g_iload h dL_same_22 rfl ?_
  refine g_imulN h dL_same_24 ?_
  refine g_istore h dL_same_25 (by rw [hL]; decide) ?_
  refine g_iconst (v := 0) h dL_same_27 (by decide) ?_
  refine g_istore h dL_same_28 (by rw [hL]; decide) ?_
  refine g_iconst (v := 0) h dL_same_30 (by decide) ?_
  refine g_istore h dL_same_31 (by rw [hL]; decide) ?_
  refine g_iconst (v := nI 0) h dL_same_33 (by decide) ?_
  refine g_istore h dL_same_34 (by rw [hL]; decide) ?_
  refine g_sub [(0, ra X 0), (1, .int (nI a)), (2, ra X (qI 0)), (3, ra X (oI 0)), (4, ra X (tI 0)), (5, ra X (vI 0)), (6, .int c6), (7, .int c7), (8, .int c8), (9, .int (nI k)), (10, .int (nI (10 * k))), (11, .int (lOw V k 0)), (12, .int (lOd V k 0)), (13, .int (nI 0))] ⟨rfl, rfl, rfl, rfl, rfl, rfl, rfl, rfl, rfl, rfl, rfl, rfl, rfl, rfl, trivial⟩ ?_
  exact LOOP m 0 (by omega)

set_option maxRecDepth 100000 in
set_option maxHeartbeats 4000000 in
theorem sm_2 {l : Launch} {x : fC} {X : fX} {μ : fM} {Q O T V w : Nat → Int32} {m B y a : Nat} (h : Ok l x X cL_same RL 6) (hL : xL x = 15) (hB : B < 2 ^ 24) (hy : y < 2 ^ 24) (ha : a < 64) (K : KM μ Q O T V w m B y) {c6 c7 c8 : Int32} {k : Nat} (hk : k < 5) (C : ∀ μ, KM μ Q O T V w m B y → G x X (put5 μ 0 Q O T V w) [(0, ra X 0), (1, .int (nI a)), (2, ra X (qI 0)), (3, ra X (oI 0)), (4, ra X (tI 0)), (5, ra X (vI 0)), (6, .int c6), (7, .int c7), (8, .int c8), (9, .int (nI k)), (10, .int (nI (10 * k)))] [] 298) : G x X (put5 μ 0 Q O T V w) [(0, ra X 0), (1, .int (nI a)), (2, ra X (qI 0)), (3, ra X (oI 0)), (4, ra X (tI 0)), (5, ra X (vI 0)), (6, .int c6), (7, .int c7), (8, .int c8), (9, .int (nI k)), (10, .int (nI (10 * k)))] [] 256 := by
  refine g_aload_n h dL_same_256 rfl ?_
  refine g_iload h dL_same_257 rfl ?_
  refine g_iload_n h dL_same_259 rfl ?_
  refine clL_45 h  (c5_says K hB hk ha) rfl dL_same_260 rfl (Nat.le_of_ble_eq_true rfl) (by decide) ?_
  refine g_iload h dL_same_263 rfl ?_
  refine g_iload_n h dL_same_265 rfl ?_
  refine g_aload_n h dL_same_266 rfl ?_
  refine g_aload_n h dL_same_267 rfl ?_
  refine g_aload h dL_same_268 rfl ?_
  refine clL_27 h (ct_L_says hb0 (K.H hB) hk) rfl dL_same_270 rfl (Nat.le_of_ble_eq_true rfl) (by decide) ?_
  refine g_icne h 296 dL_same_273 (by decide) (fun c273 => absurd rfl c273) (fun c273 => ?_)
  refine g_aload_n h dL_same_276 rfl ?_
  refine g_iload h dL_same_277 rfl ?_
  refine g_iload_n h dL_same_279 rfl ?_
  refine clL_47 h  (c5_stake (KM_fore (nI a) K) hB hk ha) rfl dL_same_280 rfl (Nat.le_of_ble_eq_true rfl) (by decide) ?_
  refine g_iload h dL_same_283 rfl ?_
  refine g_iload_n h dL_same_285 rfl ?_
  refine g_aload_n h dL_same_286 rfl ?_
  refine g_aload_n h dL_same_287 rfl ?_
  refine g_aload h dL_same_288 rfl ?_
  refine clL_30 h (ct_L_stake hb0 (K.H hB) hk) rfl dL_same_290 rfl (Nat.le_of_ble_eq_true rfl) (by decide) ?_
  refine g_iceq h 298 dL_same_293 (by decide) (fun c293 => ?_) (fun c293 => absurd rfl c293)
  refine g_sub [(0, ra X 0), (1, .int (nI a)), (2, ra X (qI 0)), (3, ra X (oI 0)), (4, ra X (tI 0)), (5, ra X (vI 0)), (6, .int c6), (7, .int c7), (8, .int c8), (9, .int (nI k)), (10, .int (nI (10 * k)))] ⟨rfl, rfl, rfl, rfl, rfl, rfl, rfl, rfl, rfl, rfl, rfl, trivial⟩ ?_
  exact C _ (KM_fore (nI a) (KM_fore (nI a) K))

set_option maxRecDepth 100000 in
set_option maxHeartbeats 4000000 in
theorem sm_3 {l : Launch} {x : fC} {X : fX} {μ : fM} {Q O T V w : Nat → Int32} {m B y a : Nat} (h : Ok l x X cL_same RL 6) (hL : xL x = 15) (hB : B < 2 ^ 24) (hy : y < 2 ^ 24) (ha : a < 64) (K : KM μ Q O T V w m B y) {c6 c7 c8 : Int32} {k : Nat} (hk : k < 5) (C : ∀ μ, KM μ Q O T V w m B y → G x X (put5 μ 0 Q O T V w) [(0, ra X 0), (1, .int (nI a)), (2, ra X (qI 0)), (3, ra X (oI 0)), (4, ra X (tI 0)), (5, ra X (vI 0)), (6, .int c6), (7, .int c7), (8, .int c8), (9, .int (nI k)), (10, .int (nI (10 * k)))] [] 365) : G x X (put5 μ 0 Q O T V w) [(0, ra X 0), (1, .int (nI a)), (2, ra X (qI 0)), (3, ra X (oI 0)), (4, ra X (tI 0)), (5, ra X (vI 0)), (6, .int c6), (7, .int c7), (8, .int c8), (9, .int (nI k)), (10, .int (nI (10 * k)))] [] 298 := by
  have LOOP : ∀ (q i : Nat), i + q = 8 → G x X (put5 μ 0 Q O T V w) [(0, ra X 0), (1, .int (nI a)), (2, ra X (qI 0)), (3, ra X (oI 0)), (4, ra X (tI 0)), (5, ra X (vI 0)), (6, .int c6), (7, .int c7), (8, .int c8), (9, .int (nI k)), (10, .int (nI (10 * k))), (13, .int (nI i))] [] 301 := by
    intro q
    induction q with
    | zero =>
      intro i hi 
      have hie : i = 8 := by omega
      rw [hie]
      refine g_iload h dL_same_301 rfl ?_
      refine g_bipush (v := nI 8) h dL_same_303 (by decide) ?_
      refine g_icge h 365 dL_same_305 (by decide) (fun c305 => ?_) (fun c305 => absurd (Int32.le_refl _) c305)
      refine g_sub [(0, ra X 0), (1, .int (nI a)), (2, ra X (qI 0)), (3, ra X (oI 0)), (4, ra X (tI 0)), (5, ra X (vI 0)), (6, .int c6), (7, .int c7), (8, .int c8), (9, .int (nI k)), (10, .int (nI (10 * k)))] ⟨rfl, rfl, rfl, rfl, rfl, rfl, rfl, rfl, rfl, rfl, rfl, trivial⟩ ?_
      exact C _ K
    | succ q ih =>
      intro i hi 
      have hlt : i < 8 := by omega
      refine g_iload h dL_same_301 rfl ?_
      refine g_bipush (v := nI 8) h dL_same_303 (by decide) ?_
      refine g_icge h 365 dL_same_305 (by decide) (fun c305 => absurd c305 (nI_ge hlt (by decide))) (fun c305 => ?_)
      refine g_aload_n h dL_same_308 rfl ?_
      refine g_iload h dL_same_309 rfl ?_
      refine g_iload h dL_same_311 rfl ?_
      refine clL_49 h  (c5_counter K hk hlt) rfl dL_same_313 rfl (Nat.le_of_ble_eq_true rfl) (by decide) ?_
      refine g_iload h dL_same_316 rfl ?_
      refine g_aload_n h dL_same_318 rfl ?_
      refine clL_24 h (ct_L_table hb0 (K.H hB).K hk) rfl dL_same_319 rfl (Nat.le_of_ble_eq_true rfl) (by decide) ?_
      refine g_ifeqB h 352 dL_same_322 (by decide) (fun c322 => ?_) (fun c322 => ?_)
      · refine g_ldc h (-1000004) (lw_in 431 (by decide +kernel) rfl) dL_same_352 ?_
        refine g_iceq h 359 dL_same_354 (by decide) (fun c354 => ?_) (fun c354 => absurd (if_neg (by rw [c322]; decide)) c354)
        refine g_iincN h dL_same_359 rfl (by rw [hL]; decide) ?_
        refine g_goto h 301 dL_same_362 (by decide) ?_
        refine g_sub [(0, ra X 0), (1, .int (nI a)), (2, ra X (qI 0)), (3, ra X (oI 0)), (4, ra X (tI 0)), (5, ra X (vI 0)), (6, .int c6), (7, .int c7), (8, .int c8), (9, .int (nI k)), (10, .int (nI (10 * k))), (13, .int (nI (i + 1)))] ⟨rfl, rfl, rfl, rfl, rfl, rfl, rfl, rfl, rfl, rfl, rfl, rfl, trivial⟩ ?_
        exact ih (i + 1) (by omega)
      · refine g_iload h dL_same_325 rfl ?_
        refine g_iconst (v := 1) h dL_same_327 (by decide) ?_
        refine g_aload_n h dL_same_328 rfl ?_
        refine g_iload h dL_same_329 rfl ?_
        refine g_iconst (v := nI 1) h dL_same_331 (by decide) ?_
        refine g_iaddN h dL_same_332 ?_
        refine g_ldo h hb0 (by omega) dL_same_333 ?_
        refine g_ishl h dL_same_334 ?_
        refine g_icge h 352 dL_same_335 (by decide) (fun c335 => ?_) (fun c335 => ?_)
        · refine g_ldc h (-1000004) (lw_in 431 (by decide +kernel) rfl) dL_same_352 ?_
          refine g_iceq h 359 dL_same_354 (by decide) (fun c354 => ?_) (fun c354 => absurd ((if_pos c322).trans (if_pos c335)) c354)
          refine g_iincN h dL_same_359 rfl (by rw [hL]; decide) ?_
          refine g_goto h 301 dL_same_362 (by decide) ?_
          refine g_sub [(0, ra X 0), (1, .int (nI a)), (2, ra X (qI 0)), (3, ra X (oI 0)), (4, ra X (tI 0)), (5, ra X (vI 0)), (6, .int c6), (7, .int c7), (8, .int c8), (9, .int (nI k)), (10, .int (nI (10 * k))), (13, .int (nI (i + 1)))] ⟨rfl, rfl, rfl, rfl, rfl, rfl, rfl, rfl, rfl, rfl, rfl, rfl, trivial⟩ ?_
          exact ih (i + 1) (by omega)
        · refine g_aload h dL_same_338 rfl ?_
          refine g_bipush (v := nI 8) h dL_same_340 (by decide) ?_
          refine g_iload h dL_same_342 rfl ?_
          refine g_imulN h dL_same_344 ?_
          refine g_iload h dL_same_345 rfl ?_
          refine g_iaddN h dL_same_347 ?_
          refine g_ldt h hb0 (by omega) dL_same_348 ?_
          refine g_goto h 354 dL_same_349 (by decide) ?_
          refine g_iceq h 359 dL_same_354 (by decide) (fun c354 => ?_) (fun c354 => absurd ((if_pos c322).trans (if_neg c335)) c354)
          refine g_iincN h dL_same_359 rfl (by rw [hL]; decide) ?_
          refine g_goto h 301 dL_same_362 (by decide) ?_
          refine g_sub [(0, ra X 0), (1, .int (nI a)), (2, ra X (qI 0)), (3, ra X (oI 0)), (4, ra X (tI 0)), (5, ra X (vI 0)), (6, .int c6), (7, .int c7), (8, .int c8), (9, .int (nI k)), (10, .int (nI (10 * k))), (13, .int (nI (i + 1)))] ⟨rfl, rfl, rfl, rfl, rfl, rfl, rfl, rfl, rfl, rfl, rfl, rfl, trivial⟩ ?_
          exact ih (i + 1) (by omega)
  refine g_iconst (v := nI 0) h dL_same_298 (by decide) ?_
  refine g_istore h dL_same_299 (by rw [hL]; decide) ?_
  refine g_sub [(0, ra X 0), (1, .int (nI a)), (2, ra X (qI 0)), (3, ra X (oI 0)), (4, ra X (tI 0)), (5, ra X (vI 0)), (6, .int c6), (7, .int c7), (8, .int c8), (9, .int (nI k)), (10, .int (nI (10 * k))), (13, .int (nI 0))] ⟨rfl, rfl, rfl, rfl, rfl, rfl, rfl, rfl, rfl, rfl, rfl, rfl, trivial⟩ ?_
  exact LOOP 8 0 (by omega)

set_option maxRecDepth 100000 in
set_option maxHeartbeats 4000000 in
theorem sm_4 {l : Launch} {x : fC} {X : fX} {μ : fM} {Q O T V w : Nat → Int32} {m B y a : Nat} (h : Ok l x X cL_same RL 6) (hL : xL x = 15) (hB : B < 2 ^ 24) (hy : y < 2 ^ 24) (ha : a < 64) (K : KM μ Q O T V w m B y) {k : Nat} (hk : k < 5) (C : ∀ μ, KM μ Q O T V w m B y → G x X (put5 μ 0 Q O T V w) [(0, ra X 0), (1, .int (nI a)), (2, ra X (qI 0)), (3, ra X (oI 0)), (4, ra X (tI 0)), (5, ra X (vI 0)), (6, .int (sumF (Q 4) (fun i => O (10 * i + 2)) (k + 1))), (7, .int (lAl Q O T (nI a) (k + 1))), (8, .int (lOn Q O T (nI a) (k + 1))), (9, .int (nI k)), (10, .int (nI (10 * k)))] [] 424) : G x X (put5 μ 0 Q O T V w) [(0, ra X 0), (1, .int (nI a)), (2, ra X (qI 0)), (3, ra X (oI 0)), (4, ra X (tI 0)), (5, ra X (vI 0)), (6, .int (sumF (Q 4) (fun i => O (10 * i + 2)) k)), (7, .int (lAl Q O T (nI a) k)), (8, .int (lOn Q O T (nI a) k)), (9, .int (nI k)), (10, .int (nI (10 * k)))] [] 365 := by
  refine g_iload h dL_same_365 rfl ?_
  refine g_aload_n h dL_same_367 rfl ?_
  refine g_iload h dL_same_368 rfl ?_
  refine g_iconst (v := nI 2) h dL_same_370 (by decide) ?_
  refine g_iaddN h dL_same_371 ?_
  refine g_ldo h hb0 (by omega) dL_same_372 ?_
  refine g_iadd h dL_same_373 ?_
  refine g_istore h dL_same_374 (by rw [hL]; decide) ?_
  refine g_iload h dL_same_376 rfl ?_
  refine g_iload h dL_same_378 rfl ?_
  refine g_iload_n h dL_same_380 rfl ?_
  refine g_aload_n h dL_same_381 rfl ?_
  refine g_aload_n h dL_same_382 rfl ?_
  refine g_aload h dL_same_383 rfl ?_
  refine clL_30 h (ct_L_stake hb0 (K.H hB) hk) rfl dL_same_385 rfl (Nat.le_of_ble_eq_true rfl) (by decide) ?_
  refine g_iadd h dL_same_388 ?_
  refine g_istore h dL_same_389 (by rw [hL]; decide) ?_
  refine g_iload h dL_same_391 rfl ?_
  refine g_iload h dL_same_393 rfl ?_
  refine g_iload_n h dL_same_395 rfl ?_
  refine g_aload_n h dL_same_396 rfl ?_
  refine g_aload_n h dL_same_397 rfl ?_
  refine g_aload h dL_same_398 rfl ?_
  refine clL_27 h (ct_L_says hb0 (K.H hB) hk) rfl dL_same_400 rfl (Nat.le_of_ble_eq_true rfl) (by decide) ?_
  refine g_iconst (v := 1) h dL_same_403 (by decide) ?_
  refine g_icne h 420 dL_same_404 (by decide) (fun c404 => ?_) (fun c404 => ?_)
  · refine g_iconst (v := 0) h dL_same_420 (by decide) ?_
    refine g_iadd h dL_same_421 ?_
    refine g_istore h dL_same_422 (by rw [hL]; decide) ?_
    refine g_sub [(0, ra X 0), (1, .int (nI a)), (2, ra X (qI 0)), (3, ra X (oI 0)), (4, ra X (tI 0)), (5, ra X (vI 0)), (6, .int (sumF (Q 4) (fun i => O (10 * i + 2)) (k + 1))), (7, .int (lAl Q O T (nI a) (k + 1))), (8, .int (lOn Q O T (nI a) (k + 1))), (9, .int (nI k)), (10, .int (nI (10 * k)))] ⟨rfl, rfl, rfl, rfl, rfl, rfl, rfl, rfl, (congrArg (fun z => some (Value.int z)) (by show _ = lOn Q O T (nI a) k + (if _ then _ else _); first | (rw [if_pos c404]; done) | (rw [if_neg c404]; done))), rfl, rfl, trivial⟩ ?_
    exact C _ K
  · refine g_iload h dL_same_407 rfl ?_
    refine g_iload_n h dL_same_409 rfl ?_
    refine g_aload_n h dL_same_410 rfl ?_
    refine g_aload_n h dL_same_411 rfl ?_
    refine g_aload h dL_same_412 rfl ?_
    refine clL_30 h (ct_L_stake hb0 (K.H hB) hk) rfl dL_same_414 rfl (Nat.le_of_ble_eq_true rfl) (by decide) ?_
    refine g_goto h 421 dL_same_417 (by decide) ?_
    refine g_iadd h dL_same_421 ?_
    refine g_istore h dL_same_422 (by rw [hL]; decide) ?_
    refine g_sub [(0, ra X 0), (1, .int (nI a)), (2, ra X (qI 0)), (3, ra X (oI 0)), (4, ra X (tI 0)), (5, ra X (vI 0)), (6, .int (sumF (Q 4) (fun i => O (10 * i + 2)) (k + 1))), (7, .int (lAl Q O T (nI a) (k + 1))), (8, .int (lOn Q O T (nI a) (k + 1))), (9, .int (nI k)), (10, .int (nI (10 * k)))] ⟨rfl, rfl, rfl, rfl, rfl, rfl, rfl, rfl, (congrArg (fun z => some (Value.int z)) (by show _ = lOn Q O T (nI a) k + (if _ then _ else _); first | (rw [if_pos c404]; done) | (rw [if_neg c404]; done))), rfl, rfl, trivial⟩ ?_
    exact C _ K

set_option maxRecDepth 100000 in
set_option maxHeartbeats 4000000 in
theorem sm_5 {l : Launch} {x : fC} {X : fX} {μ : fM} {Q O T V w : Nat → Int32} {m B y a : Nat} (h : Ok l x X cL_same RL 6) (hL : xL x = 15) (hB : B < 2 ^ 24) (hy : y < 2 ^ 24) (ha : a < 64) (K : KM μ Q O T V w m B y) {c6 c7 c8 : Int32} {k : Nat} (hk : k < 5) (C : ∀ μ, KM μ Q O T V w m B y → G x X (put5 μ 0 Q O T V w) [(0, ra X 0), (1, .int (nI a)), (2, ra X (qI 0)), (3, ra X (oI 0)), (4, ra X (tI 0)), (5, ra X (vI 0)), (6, .int c6), (7, .int c7), (8, .int c8), (9, .int (nI k))] [] 612) : G x X (put5 μ 0 Q O T V w) [(0, ra X 0), (1, .int (nI a)), (2, ra X (qI 0)), (3, ra X (oI 0)), (4, ra X (tI 0)), (5, ra X (vI 0)), (6, .int c6), (7, .int c7), (8, .int c8), (9, .int (nI k)), (10, .int (nI (10 * k)))] [] 424 := by
  obtain ⟨p, q, hpq0, ep, eq⟩ := (K.1.2.1.2.1 k hk).2.2.2.2.2.1
  obtain ⟨f1, f2, f3, f4⟩ := lSh_f (O := O) (k := k) (show p + q < 2 ^ 24 by omega) ep eq
  have LOOP : ∀ (q0 i : Nat), i + q0 = 5 → G x X (put5 μ 0 Q O T V w) [(0, ra X 0), (1, .int (nI a)), (2, ra X (qI 0)), (3, ra X (oI 0)), (4, ra X (tI 0)), (5, ra X (vI 0)), (6, .int c6), (7, .int c7), (8, .int c8), (9, .int (nI k)), (10, .int (nI (10 * k))), (13, .int (lPl O k i)), (14, .int (nI i))] [] 430 := by
    intro q0
    induction q0 with
    | zero =>
      intro i hi 
      have hie : i = 5 := by omega
      rw [hie]
      by_cases hz : p + q = 0
      · have hp0 : p = 0 := by omega
        have hq0 : q = 0 := by omega
        refine g_iload h dL_same_430 rfl ?_
        refine g_iconst (v := nI 5) h dL_same_432 (by decide) ?_
        refine g_icge h 495 dL_same_433 (by decide) (fun c433 => ?_) (fun c433 => absurd (Int32.le_refl _) c433)
        refine g_aload_n h dL_same_495 rfl ?_
        refine g_iload h dL_same_496 rfl ?_
        refine clL_52 h  (c5_rich K hB hk) rfl dL_same_498 rfl (Nat.le_of_ble_eq_true rfl) (by decide) ?_
        refine g_iload h dL_same_501 rfl ?_
        refine g_icne h 610 dL_same_503 (by decide) (fun c503 => absurd rfl c503) (fun c503 => ?_)
        refine g_aload_n h dL_same_506 rfl ?_
        refine g_iload h dL_same_507 rfl ?_
        refine clL_56 h  (c5_share K hy hk) rfl dL_same_509 rfl (Nat.le_of_ble_eq_true rfl) (by decide) ?_
        refine g_ldc h (-1000004) (lw_in 431 (by decide +kernel) rfl) dL_same_512 ?_
        refine g_icne h 521 dL_same_514 (by decide) (fun c514 => absurd (f1 hz) c514) (fun c514 => ?_)
        refine g_iconst (v := 1) h dL_same_517 (by decide) ?_
        refine g_goto h 522 dL_same_518 (by decide) ?_
        refine g_aload_n h dL_same_522 rfl ?_
        refine g_iload h dL_same_523 rfl ?_
        refine g_iconst (v := nI 4) h dL_same_525 (by decide) ?_
        refine g_iaddN h dL_same_526 ?_
        refine g_ldo h hb0 (by omega) dL_same_527 ?_
        refine g_aload_n h dL_same_528 rfl ?_
        refine g_iload h dL_same_529 rfl ?_
        refine g_iconst (v := nI 5) h dL_same_531 (by decide) ?_
        refine g_iaddN h dL_same_532 ?_
        refine g_ldo h hb0 (by omega) dL_same_533 ?_
        refine g_iadd h dL_same_534 ?_
        refine g_top (nI (p + q)) (by rw [ep, eq, nI_add]) ?_
        refine g_ifne h 542 dL_same_535 (by decide) (fun c535 => absurd (by rw [hz]; rfl) c535) (fun c535 => ?_)
        refine g_iconst (v := 1) h dL_same_538 (by decide) ?_
        refine g_goto h 543 dL_same_539 (by decide) ?_
        refine g_icne h 610 dL_same_543 (by decide) (fun c543 => absurd rfl c543) (fun c543 => ?_)
        refine g_aload_n h dL_same_546 rfl ?_
        refine g_iload h dL_same_547 rfl ?_
        refine g_iconst (v := nI 5) h dL_same_549 (by decide) ?_
        refine g_iaddN h dL_same_550 ?_
        refine g_ldo h hb0 (by omega) dL_same_551 ?_
        refine g_ifne h 575 dL_same_552 (by decide) (fun c552 => absurd (by rw [eq, hq0]; rfl) c552) (fun c552 => ?_)
        refine g_aload_n h dL_same_555 rfl ?_
        refine g_iload h dL_same_556 rfl ?_
        refine g_iconst (v := nI 4) h dL_same_558 (by decide) ?_
        refine g_iaddN h dL_same_559 ?_
        refine g_ldo h hb0 (by omega) dL_same_560 ?_
        refine g_ifle h 575 dL_same_561 (by decide) (fun c561 => ?_) (fun c561 => absurd (by rw [ep, hp0]; decide) c561)
        refine g_aload_n h dL_same_575 rfl ?_
        refine g_iload h dL_same_576 rfl ?_
        refine g_iconst (v := nI 4) h dL_same_578 (by decide) ?_
        refine g_iaddN h dL_same_579 ?_
        refine g_ldo h hb0 (by omega) dL_same_580 ?_
        refine g_aload_n h dL_same_581 rfl ?_
        refine g_iload h dL_same_582 rfl ?_
        refine g_iconst (v := nI 5) h dL_same_584 (by decide) ?_
        refine g_iaddN h dL_same_585 ?_
        refine g_ldo h hb0 (by omega) dL_same_586 ?_
        refine g_icne h 612 dL_same_587 (by decide) (fun c587 => absurd (by rw [ep, eq, hp0, hq0]) c587) (fun c587 => ?_)
        refine g_aload_n h dL_same_590 rfl ?_
        refine g_iload h dL_same_591 rfl ?_
        refine g_iconst (v := nI 4) h dL_same_593 (by decide) ?_
        refine g_iaddN h dL_same_594 ?_
        refine g_ldo h hb0 (by omega) dL_same_595 ?_
        refine g_ifle h 612 dL_same_596 (by decide) (fun c596 => ?_) (fun c596 => absurd (by rw [ep, hp0]; decide) c596)
        refine g_sub [(0, ra X 0), (1, .int (nI a)), (2, ra X (qI 0)), (3, ra X (oI 0)), (4, ra X (tI 0)), (5, ra X (vI 0)), (6, .int c6), (7, .int c7), (8, .int c8), (9, .int (nI k))] ⟨rfl, rfl, rfl, rfl, rfl, rfl, rfl, rfl, rfl, rfl, trivial⟩ ?_
        exact C _ K
      · have hz : 0 < p + q := by omega
        refine g_iload h dL_same_430 rfl ?_
        refine g_iconst (v := nI 5) h dL_same_432 (by decide) ?_
        refine g_icge h 495 dL_same_433 (by decide) (fun c433 => ?_) (fun c433 => absurd (Int32.le_refl _) c433)
        refine g_aload_n h dL_same_495 rfl ?_
        refine g_iload h dL_same_496 rfl ?_
        refine clL_52 h  (c5_rich K hB hk) rfl dL_same_498 rfl (Nat.le_of_ble_eq_true rfl) (by decide) ?_
        refine g_iload h dL_same_501 rfl ?_
        refine g_icne h 610 dL_same_503 (by decide) (fun c503 => absurd rfl c503) (fun c503 => ?_)
        refine g_aload_n h dL_same_506 rfl ?_
        refine g_iload h dL_same_507 rfl ?_
        refine clL_56 h  (c5_share K hy hk) rfl dL_same_509 rfl (Nat.le_of_ble_eq_true rfl) (by decide) ?_
        refine g_ldc h (-1000004) (lw_in 431 (by decide +kernel) rfl) dL_same_512 ?_
        refine g_icne h 521 dL_same_514 (by decide) (fun c514 => ?_) (fun c514 => absurd c514 (f2 hz))
        refine g_iconst (v := 0) h dL_same_521 (by decide) ?_
        refine g_aload_n h dL_same_522 rfl ?_
        refine g_iload h dL_same_523 rfl ?_
        refine g_iconst (v := nI 4) h dL_same_525 (by decide) ?_
        refine g_iaddN h dL_same_526 ?_
        refine g_ldo h hb0 (by omega) dL_same_527 ?_
        refine g_aload_n h dL_same_528 rfl ?_
        refine g_iload h dL_same_529 rfl ?_
        refine g_iconst (v := nI 5) h dL_same_531 (by decide) ?_
        refine g_iaddN h dL_same_532 ?_
        refine g_ldo h hb0 (by omega) dL_same_533 ?_
        refine g_iadd h dL_same_534 ?_
        refine g_top (nI (p + q)) (by rw [ep, eq, nI_add]) ?_
        refine g_ifne h 542 dL_same_535 (by decide) (fun c535 => ?_) (fun c535 => absurd c535 (fun z => absurd ((nI_eq (b := 0) (by omega) (by decide)).mp z) (by omega)))
        refine g_iconst (v := 0) h dL_same_542 (by decide) ?_
        refine g_icne h 610 dL_same_543 (by decide) (fun c543 => absurd rfl c543) (fun c543 => ?_)
        refine g_aload_n h dL_same_546 rfl ?_
        refine g_iload h dL_same_547 rfl ?_
        refine g_iconst (v := nI 5) h dL_same_549 (by decide) ?_
        refine g_iaddN h dL_same_550 ?_
        refine g_ldo h hb0 (by omega) dL_same_551 ?_
        refine g_ifne h 575 dL_same_552 (by decide) (fun c552 => ?_) (fun c552 => ?_)
        · refine g_aload_n h dL_same_575 rfl ?_
          refine g_iload h dL_same_576 rfl ?_
          refine g_iconst (v := nI 4) h dL_same_578 (by decide) ?_
          refine g_iaddN h dL_same_579 ?_
          refine g_ldo h hb0 (by omega) dL_same_580 ?_
          refine g_aload_n h dL_same_581 rfl ?_
          refine g_iload h dL_same_582 rfl ?_
          refine g_iconst (v := nI 5) h dL_same_584 (by decide) ?_
          refine g_iaddN h dL_same_585 ?_
          refine g_ldo h hb0 (by omega) dL_same_586 ?_
          refine g_icne h 612 dL_same_587 (by decide) (fun c587 => ?_) (fun c587 => ?_)
          · refine g_sub [(0, ra X 0), (1, .int (nI a)), (2, ra X (qI 0)), (3, ra X (oI 0)), (4, ra X (tI 0)), (5, ra X (vI 0)), (6, .int c6), (7, .int c7), (8, .int c8), (9, .int (nI k))] ⟨rfl, rfl, rfl, rfl, rfl, rfl, rfl, rfl, rfl, rfl, trivial⟩ ?_
            exact C _ K
          · have hpq : p = q := (nI_eq (by omega) (by omega)).mp (by rw [← ep, ← eq]; exact c587)
            refine g_aload_n h dL_same_590 rfl ?_
            refine g_iload h dL_same_591 rfl ?_
            refine g_iconst (v := nI 4) h dL_same_593 (by decide) ?_
            refine g_iaddN h dL_same_594 ?_
            refine g_ldo h hb0 (by omega) dL_same_595 ?_
            refine g_ifle h 612 dL_same_596 (by decide) (fun c596 => absurd c596 (by rw [ep]; exact nI_nle (by omega) (by omega))) (fun c596 => ?_)
            refine g_aload_n h dL_same_599 rfl ?_
            refine g_iload h dL_same_600 rfl ?_
            refine clL_56 h  (c5_share K hy hk) rfl dL_same_602 rfl (Nat.le_of_ble_eq_true rfl) (by decide) ?_
            refine g_ldc h (1056964608) (lw_in 467 (by decide +kernel) rfl) dL_same_605 ?_
            refine g_iceq h 612 dL_same_607 (by decide) (fun c607 => ?_) (fun c607 => absurd (f4 hpq (by omega)) c607)
            refine g_sub [(0, ra X 0), (1, .int (nI a)), (2, ra X (qI 0)), (3, ra X (oI 0)), (4, ra X (tI 0)), (5, ra X (vI 0)), (6, .int c6), (7, .int c7), (8, .int c8), (9, .int (nI k))] ⟨rfl, rfl, rfl, rfl, rfl, rfl, rfl, rfl, rfl, rfl, trivial⟩ ?_
            exact C _ K
        · have hq0 : q = 0 := (nI_eq (b := 0) (by omega) (by decide)).mp (eq.symm.trans c552)
          refine g_aload_n h dL_same_555 rfl ?_
          refine g_iload h dL_same_556 rfl ?_
          refine g_iconst (v := nI 4) h dL_same_558 (by decide) ?_
          refine g_iaddN h dL_same_559 ?_
          refine g_ldo h hb0 (by omega) dL_same_560 ?_
          refine g_ifle h 575 dL_same_561 (by decide) (fun c561 => absurd c561 (by rw [ep]; exact nI_nle (by omega) (by omega))) (fun c561 => ?_)
          refine g_aload_n h dL_same_564 rfl ?_
          refine g_iload h dL_same_565 rfl ?_
          refine clL_56 h  (c5_share K hy hk) rfl dL_same_567 rfl (Nat.le_of_ble_eq_true rfl) (by decide) ?_
          refine g_ldc h (1065353216) (lw_in 466 (by decide +kernel) rfl) dL_same_570 ?_
          refine g_icne h 610 dL_same_572 (by decide) (fun c572 => absurd (f3 hq0 (by omega)) c572) (fun c572 => ?_)
          refine g_aload_n h dL_same_575 rfl ?_
          refine g_iload h dL_same_576 rfl ?_
          refine g_iconst (v := nI 4) h dL_same_578 (by decide) ?_
          refine g_iaddN h dL_same_579 ?_
          refine g_ldo h hb0 (by omega) dL_same_580 ?_
          refine g_aload_n h dL_same_581 rfl ?_
          refine g_iload h dL_same_582 rfl ?_
          refine g_iconst (v := nI 5) h dL_same_584 (by decide) ?_
          refine g_iaddN h dL_same_585 ?_
          refine g_ldo h hb0 (by omega) dL_same_586 ?_
          refine g_icne h 612 dL_same_587 (by decide) (fun c587 => ?_) (fun c587 => ?_)
          · refine g_sub [(0, ra X 0), (1, .int (nI a)), (2, ra X (qI 0)), (3, ra X (oI 0)), (4, ra X (tI 0)), (5, ra X (vI 0)), (6, .int c6), (7, .int c7), (8, .int c8), (9, .int (nI k))] ⟨rfl, rfl, rfl, rfl, rfl, rfl, rfl, rfl, rfl, rfl, trivial⟩ ?_
            exact C _ K
          · have hpq : p = q := (nI_eq (by omega) (by omega)).mp (by rw [← ep, ← eq]; exact c587)
            refine g_aload_n h dL_same_590 rfl ?_
            refine g_iload h dL_same_591 rfl ?_
            refine g_iconst (v := nI 4) h dL_same_593 (by decide) ?_
            refine g_iaddN h dL_same_594 ?_
            refine g_ldo h hb0 (by omega) dL_same_595 ?_
            refine g_ifle h 612 dL_same_596 (by decide) (fun c596 => absurd c596 (by rw [ep]; exact nI_nle (by omega) (by omega))) (fun c596 => ?_)
            refine g_aload_n h dL_same_599 rfl ?_
            refine g_iload h dL_same_600 rfl ?_
            refine clL_56 h  (c5_share K hy hk) rfl dL_same_602 rfl (Nat.le_of_ble_eq_true rfl) (by decide) ?_
            refine g_ldc h (1056964608) (lw_in 467 (by decide +kernel) rfl) dL_same_605 ?_
            refine g_iceq h 612 dL_same_607 (by decide) (fun c607 => ?_) (fun c607 => absurd (f4 hpq (by omega)) c607)
            refine g_sub [(0, ra X 0), (1, .int (nI a)), (2, ra X (qI 0)), (3, ra X (oI 0)), (4, ra X (tI 0)), (5, ra X (vI 0)), (6, .int c6), (7, .int c7), (8, .int c8), (9, .int (nI k))] ⟨rfl, rfl, rfl, rfl, rfl, rfl, rfl, rfl, rfl, rfl, trivial⟩ ?_
            exact C _ K
    | succ q0 ih =>
      intro i hi 
      have hlt : i < 5 := by omega
      refine g_iload h dL_same_430 rfl ?_
      refine g_iconst (v := nI 5) h dL_same_432 (by decide) ?_
      refine g_icge h 495 dL_same_433 (by decide) (fun c433 => absurd c433 (nI_ge hlt (by decide))) (fun c433 => ?_)
      refine g_iload h dL_same_436 rfl ?_
      refine g_aload_n h dL_same_438 rfl ?_
      refine g_bipush (v := nI 10) h dL_same_439 (by decide) ?_
      refine g_iload h dL_same_441 rfl ?_
      refine g_imulN h dL_same_443 ?_
      refine g_iconst (v := nI 2) h dL_same_444 (by decide) ?_
      refine g_iaddN h dL_same_445 ?_
      refine g_ldo h hb0 (by omega) dL_same_446 ?_
      refine g_aload_n h dL_same_447 rfl ?_
      refine g_iload h dL_same_448 rfl ?_
      refine g_iconst (v := nI 2) h dL_same_450 (by decide) ?_
      refine g_iaddN h dL_same_451 ?_
      refine g_ldo h hb0 (by omega) dL_same_452 ?_
      refine g_icgt h 481 dL_same_453 (by decide) (fun c453 => ?_) (fun c453 => ?_)
      · refine g_iconst (v := 1) h dL_same_481 (by decide) ?_
        refine g_goto h 486 dL_same_482 (by decide) ?_
        refine g_iadd h dL_same_486 ?_
        refine g_istore h dL_same_487 (by rw [hL]; decide) ?_
        refine g_iincN h dL_same_489 rfl (by rw [hL]; decide) ?_
        refine g_goto h 430 dL_same_492 (by decide) ?_
        refine g_sub [(0, ra X 0), (1, .int (nI a)), (2, ra X (qI 0)), (3, ra X (oI 0)), (4, ra X (tI 0)), (5, ra X (vI 0)), (6, .int c6), (7, .int c7), (8, .int c8), (9, .int (nI k)), (10, .int (nI (10 * k))), (13, .int (lPl O k (i + 1))), (14, .int (nI (i + 1)))] ⟨rfl, rfl, rfl, rfl, rfl, rfl, rfl, rfl, rfl, rfl, rfl, (congrArg (fun z => some (Value.int z)) (by show _ = lPl O k i + (if _ then _ else _); rw [if_pos (Or.inl c453)])), rfl, trivial⟩ ?_
        exact ih (i + 1) (by omega)
      · refine g_aload_n h dL_same_456 rfl ?_
        refine g_bipush (v := nI 10) h dL_same_457 (by decide) ?_
        refine g_iload h dL_same_459 rfl ?_
        refine g_imulN h dL_same_461 ?_
        refine g_iconst (v := nI 2) h dL_same_462 (by decide) ?_
        refine g_iaddN h dL_same_463 ?_
        refine g_ldo h hb0 (by omega) dL_same_464 ?_
        refine g_aload_n h dL_same_465 rfl ?_
        refine g_iload h dL_same_466 rfl ?_
        refine g_iconst (v := nI 2) h dL_same_468 (by decide) ?_
        refine g_iaddN h dL_same_469 ?_
        refine g_ldo h hb0 (by omega) dL_same_470 ?_
        refine g_icne h 485 dL_same_471 (by decide) (fun c471 => ?_) (fun c471 => ?_)
        · refine g_iconst (v := 0) h dL_same_485 (by decide) ?_
          refine g_iadd h dL_same_486 ?_
          refine g_istore h dL_same_487 (by rw [hL]; decide) ?_
          refine g_iincN h dL_same_489 rfl (by rw [hL]; decide) ?_
          refine g_goto h 430 dL_same_492 (by decide) ?_
          refine g_sub [(0, ra X 0), (1, .int (nI a)), (2, ra X (qI 0)), (3, ra X (oI 0)), (4, ra X (tI 0)), (5, ra X (vI 0)), (6, .int c6), (7, .int c7), (8, .int c8), (9, .int (nI k)), (10, .int (nI (10 * k))), (13, .int (lPl O k (i + 1))), (14, .int (nI (i + 1)))] ⟨rfl, rfl, rfl, rfl, rfl, rfl, rfl, rfl, rfl, rfl, rfl, (congrArg (fun z => some (Value.int z)) (by show _ = lPl O k i + (if _ then _ else _); rw [if_neg (fun q => q.elim c453 (fun z => c471 z.1))])), rfl, trivial⟩ ?_
          exact ih (i + 1) (by omega)
        · refine g_iload h dL_same_474 rfl ?_
          refine g_iload h dL_same_476 rfl ?_
          refine g_icge h 485 dL_same_478 (by decide) (fun c478 => ?_) (fun c478 => ?_)
          · refine g_iconst (v := 0) h dL_same_485 (by decide) ?_
            refine g_iadd h dL_same_486 ?_
            refine g_istore h dL_same_487 (by rw [hL]; decide) ?_
            refine g_iincN h dL_same_489 rfl (by rw [hL]; decide) ?_
            refine g_goto h 430 dL_same_492 (by decide) ?_
            refine g_sub [(0, ra X 0), (1, .int (nI a)), (2, ra X (qI 0)), (3, ra X (oI 0)), (4, ra X (tI 0)), (5, ra X (vI 0)), (6, .int c6), (7, .int c7), (8, .int c8), (9, .int (nI k)), (10, .int (nI (10 * k))), (13, .int (lPl O k (i + 1))), (14, .int (nI (i + 1)))] ⟨rfl, rfl, rfl, rfl, rfl, rfl, rfl, rfl, rfl, rfl, rfl, (congrArg (fun z => some (Value.int z)) (by show _ = lPl O k i + (if _ then _ else _); rw [if_neg (fun q => q.elim c453 (fun z => absurd z.2 (Int32.not_lt.mpr c478)))])), rfl, trivial⟩ ?_
            exact ih (i + 1) (by omega)
          · refine g_iconst (v := 1) h dL_same_481 (by decide) ?_
            refine g_goto h 486 dL_same_482 (by decide) ?_
            refine g_iadd h dL_same_486 ?_
            refine g_istore h dL_same_487 (by rw [hL]; decide) ?_
            refine g_iincN h dL_same_489 rfl (by rw [hL]; decide) ?_
            refine g_goto h 430 dL_same_492 (by decide) ?_
            refine g_sub [(0, ra X 0), (1, .int (nI a)), (2, ra X (qI 0)), (3, ra X (oI 0)), (4, ra X (tI 0)), (5, ra X (vI 0)), (6, .int c6), (7, .int c7), (8, .int c8), (9, .int (nI k)), (10, .int (nI (10 * k))), (13, .int (lPl O k (i + 1))), (14, .int (nI (i + 1)))] ⟨rfl, rfl, rfl, rfl, rfl, rfl, rfl, rfl, rfl, rfl, rfl, (congrArg (fun z => some (Value.int z)) (by show _ = lPl O k i + (if _ then _ else _); rw [if_pos (Or.inr ⟨c471, Int32.not_le.mp c478⟩)])), rfl, trivial⟩ ?_
            exact ih (i + 1) (by omega)
  refine g_iconst (v := 0) h dL_same_424 (by decide) ?_
  refine g_istore h dL_same_425 (by rw [hL]; decide) ?_
  refine g_iconst (v := nI 0) h dL_same_427 (by decide) ?_
  refine g_istore h dL_same_428 (by rw [hL]; decide) ?_
  refine g_sub [(0, ra X 0), (1, .int (nI a)), (2, ra X (qI 0)), (3, ra X (oI 0)), (4, ra X (tI 0)), (5, ra X (vI 0)), (6, .int c6), (7, .int c7), (8, .int c8), (9, .int (nI k)), (10, .int (nI (10 * k))), (13, .int (lPl O k 0)), (14, .int (nI 0))] ⟨rfl, rfl, rfl, rfl, rfl, rfl, rfl, rfl, rfl, rfl, rfl, rfl, rfl, trivial⟩ ?_
  exact LOOP 5 0 (by omega)

set_option maxRecDepth 100000 in
set_option maxHeartbeats 4000000 in
theorem sm_6 {l : Launch} {x : fC} {X : fX} {μ : fM} {Q O T V w : Nat → Int32} {m B y a : Nat} (h : Ok l x X cL_same RL 6) (hL : xL x = 15) (hB : B < 2 ^ 24) (hy : y < 2 ^ 24) (ha : a < 64) (K : KM μ Q O T V w m B y) {sz : Nat} (hr : RtE x X (some .boolean) (some (.int 1)) (fun σ' => ∃ μ', σ' = put5 μ' 0 Q O T V w ∧ KM μ' Q O T V w m B y) sz (xk x) (xn x)) : G x X (put5 μ 0 Q O T V w) [(0, ra X 0), (1, .int (nI a)), (2, ra X (qI 0)), (3, ra X (oI 0)), (4, ra X (tI 0)), (5, ra X (vI 0)), (6, .int (sumF (Q 4) (fun i => O (10 * i + 2)) 5))] [] 732 := by
  have hm8 := K.m8
  have LOOP : ∀ (q i : Nat), i + q = m → G x X (put5 μ 0 Q O T V w) [(0, ra X 0), (1, .int (nI a)), (2, ra X (qI 0)), (3, ra X (oI 0)), (4, ra X (tI 0)), (5, ra X (vI 0)), (6, .int (sumF (Q 4) (fun i => O (10 * i + 2)) 5)), (10, .int (nI i))] [] 735 := by
    intro q
    induction q with
    | zero =>
      intro i hi 
      have hie : i = m := by omega
      rw [hie]
      refine g_iload h dL_same_735 rfl ?_
      refine g_aload_n h dL_same_737 rfl ?_
      refine g_bipush (v := nI 7) h dL_same_738 (by decide) ?_
      refine g_ldq h hb0 (by omega) dL_same_740 ?_
      refine g_icge h 788 dL_same_741 (by decide) (fun c741 => ?_) (fun c741 => absurd (by rw [K.1.1.2.1]; exact Int32.le_refl _) c741)
      refine g_aload_n h dL_same_788 rfl ?_
      refine g_iconst (v := nI 3) h dL_same_789 (by decide) ?_
      refine clL_67 h  (c5_count K (j := 3) (by decide) (by decide)) rfl dL_same_790 rfl (Nat.le_of_ble_eq_true rfl) (by decide) ?_
      refine g_aload_n h dL_same_793 rfl ?_
      refine g_iconst (v := nI 4) h dL_same_794 (by decide) ?_
      refine g_ldq h hb0 (by omega) dL_same_795 ?_
      refine g_icne h 862 dL_same_796 (by decide) (fun c796 => absurd rfl c796) (fun c796 => ?_)
      refine g_aload_n h dL_same_799 rfl ?_
      refine g_iconst (v := nI 4) h dL_same_800 (by decide) ?_
      refine clL_67 h  (c5_count K (j := 4) (by decide) (by decide)) rfl dL_same_801 rfl (Nat.le_of_ble_eq_true rfl) (by decide) ?_
      refine g_iload h dL_same_804 rfl ?_
      refine g_icne h 862 dL_same_806 (by decide) (fun c806 => absurd rfl c806) (fun c806 => ?_)
      refine g_aload_n h dL_same_809 rfl ?_
      refine g_iconst (v := nI 5) h dL_same_810 (by decide) ?_
      refine clL_67 h  (c5_count K (j := 5) (by decide) (by decide)) rfl dL_same_811 rfl (Nat.le_of_ble_eq_true rfl) (by decide) ?_
      refine g_aload_n h dL_same_814 rfl ?_
      refine g_iconst (v := nI 3) h dL_same_815 (by decide) ?_
      refine g_ldq h hb0 (by omega) dL_same_816 ?_
      refine g_icne h 862 dL_same_817 (by decide) (fun c817 => absurd rfl c817) (fun c817 => ?_)
      refine g_aload_n h dL_same_820 rfl ?_
      refine g_bipush (v := nI 6) h dL_same_821 (by decide) ?_
      refine clL_67 h  (c5_count K (j := 6) (by decide) (by decide)) rfl dL_same_823 rfl (Nat.le_of_ble_eq_true rfl) (by decide) ?_
      refine g_aload_n h dL_same_826 rfl ?_
      refine g_iconst (v := nI 5) h dL_same_827 (by decide) ?_
      refine g_ldq h hb0 (by omega) dL_same_828 ?_
      refine g_icne h 862 dL_same_829 (by decide) (fun c829 => absurd rfl c829) (fun c829 => ?_)
      refine g_aload_n h dL_same_832 rfl ?_
      refine g_bipush (v := nI 7) h dL_same_833 (by decide) ?_
      refine clL_67 h  (c5_count K (j := 7) (by decide) (by decide)) rfl dL_same_835 rfl (Nat.le_of_ble_eq_true rfl) (by decide) ?_
      refine g_aload_n h dL_same_838 rfl ?_
      refine g_bipush (v := nI 6) h dL_same_839 (by decide) ?_
      refine g_ldq h hb0 (by omega) dL_same_841 ?_
      refine g_icne h 862 dL_same_842 (by decide) (fun c842 => absurd rfl c842) (fun c842 => ?_)
      refine g_aload_n h dL_same_845 rfl ?_
      refine g_bipush (v := nI 8) h dL_same_846 (by decide) ?_
      refine clL_67 h  (c5_count K (j := 8) (by decide) (by decide)) rfl dL_same_848 rfl (Nat.le_of_ble_eq_true rfl) (by decide) ?_
      refine g_aload_n h dL_same_851 rfl ?_
      refine g_bipush (v := nI 7) h dL_same_852 (by decide) ?_
      refine g_ldq h hb0 (by omega) dL_same_854 ?_
      refine g_icne h 862 dL_same_855 (by decide) (fun c855 => absurd rfl c855) (fun c855 => ?_)
      refine g_iconst (v := 1) h dL_same_858 (by decide) ?_
      refine g_goto h 863 dL_same_859 (by decide) ?_
      exact g_iretE h hr (by decide) dL_same_863 rfl ⟨_, rfl, K⟩
    | succ q ih =>
      intro i hi 
      have hlt : i < m := by omega
      refine g_iload h dL_same_735 rfl ?_
      refine g_aload_n h dL_same_737 rfl ?_
      refine g_bipush (v := nI 7) h dL_same_738 (by decide) ?_
      refine g_ldq h hb0 (by omega) dL_same_740 ?_
      refine g_icge h 788 dL_same_741 (by decide) (fun c741 => absurd c741 (by rw [K.1.1.2.1]; exact nI_ge hlt (by omega))) (fun c741 => ?_)
      refine g_iconst (v := nI 0) h dL_same_744 (by decide) ?_
      refine g_istore h dL_same_745 (by rw [hL]; decide) ?_
      refine g_iload h dL_same_747 rfl ?_
      refine g_iconst (v := nI 3) h dL_same_749 (by decide) ?_
      refine g_icge h 782 dL_same_750 (by decide) (fun c750 => absurd c750 (by decide)) (fun c750 => ?_)
      refine g_aload_n h dL_same_753 rfl ?_
      refine g_iload h dL_same_754 rfl ?_
      refine g_iload h dL_same_756 rfl ?_
      refine clL_64 h  (c5_loanOf K hlt (by decide)) rfl dL_same_758 rfl (Nat.le_of_ble_eq_true rfl) (by decide) ?_
      refine g_aload h dL_same_761 rfl ?_
      refine g_iconst (v := nI 3) h dL_same_763 (by decide) ?_
      refine g_iload h dL_same_764 rfl ?_
      refine g_imulN h dL_same_766 ?_
      refine g_iload h dL_same_767 rfl ?_
      refine g_iaddN h dL_same_769 ?_
      refine g_ldv h hb0 (by omega) dL_same_770 ?_
      refine g_iceq h 776 dL_same_771 (by decide) (fun c771 => ?_) (fun c771 => absurd rfl c771)
      refine g_iincN h dL_same_776 rfl (by rw [hL]; decide) ?_
      refine g_goto h 747 dL_same_779 (by decide) ?_
      refine g_iload h dL_same_747 rfl ?_
      refine g_iconst (v := nI 3) h dL_same_749 (by decide) ?_
      refine g_icge h 782 dL_same_750 (by decide) (fun c750 => absurd c750 (by decide)) (fun c750 => ?_)
      refine g_aload_n h dL_same_753 rfl ?_
      refine g_iload h dL_same_754 rfl ?_
      refine g_iload h dL_same_756 rfl ?_
      refine clL_64 h  (c5_loanOf K hlt (by decide)) rfl dL_same_758 rfl (Nat.le_of_ble_eq_true rfl) (by decide) ?_
      refine g_aload h dL_same_761 rfl ?_
      refine g_iconst (v := nI 3) h dL_same_763 (by decide) ?_
      refine g_iload h dL_same_764 rfl ?_
      refine g_imulN h dL_same_766 ?_
      refine g_iload h dL_same_767 rfl ?_
      refine g_iaddN h dL_same_769 ?_
      refine g_ldv h hb0 (by omega) dL_same_770 ?_
      refine g_iceq h 776 dL_same_771 (by decide) (fun c771 => ?_) (fun c771 => absurd rfl c771)
      refine g_iincN h dL_same_776 rfl (by rw [hL]; decide) ?_
      refine g_goto h 747 dL_same_779 (by decide) ?_
      refine g_iload h dL_same_747 rfl ?_
      refine g_iconst (v := nI 3) h dL_same_749 (by decide) ?_
      refine g_icge h 782 dL_same_750 (by decide) (fun c750 => absurd c750 (by decide)) (fun c750 => ?_)
      refine g_aload_n h dL_same_753 rfl ?_
      refine g_iload h dL_same_754 rfl ?_
      refine g_iload h dL_same_756 rfl ?_
      refine clL_64 h  (c5_loanOf K hlt (by decide)) rfl dL_same_758 rfl (Nat.le_of_ble_eq_true rfl) (by decide) ?_
      refine g_aload h dL_same_761 rfl ?_
      refine g_iconst (v := nI 3) h dL_same_763 (by decide) ?_
      refine g_iload h dL_same_764 rfl ?_
      refine g_imulN h dL_same_766 ?_
      refine g_iload h dL_same_767 rfl ?_
      refine g_iaddN h dL_same_769 ?_
      refine g_ldv h hb0 (by omega) dL_same_770 ?_
      refine g_iceq h 776 dL_same_771 (by decide) (fun c771 => ?_) (fun c771 => absurd rfl c771)
      refine g_iincN h dL_same_776 rfl (by rw [hL]; decide) ?_
      refine g_goto h 747 dL_same_779 (by decide) ?_
      refine g_iload h dL_same_747 rfl ?_
      refine g_iconst (v := nI 3) h dL_same_749 (by decide) ?_
      refine g_icge h 782 dL_same_750 (by decide) (fun c750 => ?_) (fun c750 => absurd (by decide) c750)
      refine g_iincN h dL_same_782 rfl (by rw [hL]; decide) ?_
      refine g_goto h 735 dL_same_785 (by decide) ?_
      refine g_sub [(0, ra X 0), (1, .int (nI a)), (2, ra X (qI 0)), (3, ra X (oI 0)), (4, ra X (tI 0)), (5, ra X (vI 0)), (6, .int (sumF (Q 4) (fun i => O (10 * i + 2)) 5)), (10, .int (nI (i + 1)))] ⟨rfl, rfl, rfl, rfl, rfl, rfl, rfl, rfl, trivial⟩ ?_
      exact ih (i + 1) (by omega)
  refine g_iconst (v := nI 0) h dL_same_732 (by decide) ?_
  refine g_istore h dL_same_733 (by rw [hL]; decide) ?_
  refine g_sub [(0, ra X 0), (1, .int (nI a)), (2, ra X (qI 0)), (3, ra X (oI 0)), (4, ra X (tI 0)), (5, ra X (vI 0)), (6, .int (sumF (Q 4) (fun i => O (10 * i + 2)) 5)), (10, .int (nI 0))] ⟨rfl, rfl, rfl, rfl, rfl, rfl, rfl, rfl, trivial⟩ ?_
  exact LOOP m 0 (by omega)

set_option maxRecDepth 100000 in
set_option maxHeartbeats 4000000 in
theorem sm_7 {l : Launch} {x : fC} {X : fX} {μ : fM} {Q O T V w : Nat → Int32} {m B y a : Nat} (h : Ok l x X cL_same RL 6) (hL : xL x = 15) (hB : B < 2 ^ 24) (hy : y < 2 ^ 24) (ha : a < 64) (K : KM μ Q O T V w m B y) {xa ya : Nat} (hxy : xa + ya < 2 ^ 24) (C : ∀ μ, KM μ Q O T V w m B y → G x X (put5 μ 0 Q O T V w) [(0, ra X 0), (1, .int (nI a)), (2, ra X (qI 0)), (3, ra X (oI 0)), (4, ra X (tI 0)), (5, ra X (vI 0)), (6, .int (sumF (Q 4) (fun i => O (10 * i + 2)) 5))] [] 732) : G x X (put5 μ 0 Q O T V w) [(0, ra X 0), (1, .int (nI a)), (2, ra X (qI 0)), (3, ra X (oI 0)), (4, ra X (tI 0)), (5, ra X (vI 0)), (6, .int (sumF (Q 4) (fun i => O (10 * i + 2)) 5)), (7, .int (nI (xa + ya))), (8, .int (nI xa)), (9, .int (odV xa ya))] [] 625 := by
  obtain ⟨g1, g2, g3, g4, g5⟩ := odV_f hxy
  by_cases e : xa + ya = 0
  · refine g_iload h dL_same_625 rfl ?_
    refine g_ifne h 640 dL_same_627 (by decide) (fun c627 => absurd (by rw [e]; rfl) c627) (fun c627 => ?_)
    refine g_iload h dL_same_630 rfl ?_
    refine g_ldc h (-1000004) (lw_in 431 (by decide +kernel) rfl) dL_same_632 ?_
    refine g_iceq h 732 dL_same_634 (by decide) (fun c634 => ?_) (fun c634 => absurd (g1 e) c634)
    refine g_sub [(0, ra X 0), (1, .int (nI a)), (2, ra X (qI 0)), (3, ra X (oI 0)), (4, ra X (tI 0)), (5, ra X (vI 0)), (6, .int (sumF (Q 4) (fun i => O (10 * i + 2)) 5))] ⟨rfl, rfl, rfl, rfl, rfl, rfl, rfl, trivial⟩ ?_
    exact C _ K
  by_cases e2 : xa = 0
  · refine g_iload h dL_same_625 rfl ?_
    refine g_ifne h 640 dL_same_627 (by decide) (fun c627 => ?_) (fun c627 => absurd c627 (fun z => absurd ((nI_eq (b := 0) (by omega) (by decide)).mp z) (by omega)))
    refine g_iload h dL_same_640 rfl ?_
    refine g_ifne h 653 dL_same_642 (by decide) (fun c642 => absurd (by rw [e2]; rfl) c642) (fun c642 => ?_)
    refine g_iload h dL_same_645 rfl ?_
    refine g_ifeq h 732 dL_same_647 (by decide) (fun c647 => ?_) (fun c647 => absurd (g2 (by omega) e2) c647)
    refine g_sub [(0, ra X 0), (1, .int (nI a)), (2, ra X (qI 0)), (3, ra X (oI 0)), (4, ra X (tI 0)), (5, ra X (vI 0)), (6, .int (sumF (Q 4) (fun i => O (10 * i + 2)) 5))] ⟨rfl, rfl, rfl, rfl, rfl, rfl, rfl, trivial⟩ ?_
    exact C _ K
  by_cases e3 : ya = 0
  · refine g_iload h dL_same_625 rfl ?_
    refine g_ifne h 640 dL_same_627 (by decide) (fun c627 => ?_) (fun c627 => absurd c627 (fun z => absurd ((nI_eq (b := 0) (by omega) (by decide)).mp z) (by omega)))
    refine g_iload h dL_same_640 rfl ?_
    refine g_ifne h 653 dL_same_642 (by decide) (fun c642 => ?_) (fun c642 => absurd c642 (fun z => absurd ((nI_eq (b := 0) (by omega) (by decide)).mp z) (by omega)))
    refine g_iload h dL_same_653 rfl ?_
    refine g_iload h dL_same_655 rfl ?_
    refine g_icne h 670 dL_same_657 (by decide) (fun c657 => absurd (by rw [e3, Nat.add_zero]) c657) (fun c657 => ?_)
    refine g_iload h dL_same_660 rfl ?_
    refine g_ldc h (1065353216) (lw_in 466 (by decide +kernel) rfl) dL_same_662 ?_
    refine g_iceq h 732 dL_same_664 (by decide) (fun c664 => ?_) (fun c664 => absurd (g3 (by omega) e3) c664)
    refine g_sub [(0, ra X 0), (1, .int (nI a)), (2, ra X (qI 0)), (3, ra X (oI 0)), (4, ra X (tI 0)), (5, ra X (vI 0)), (6, .int (sumF (Q 4) (fun i => O (10 * i + 2)) 5))] ⟨rfl, rfl, rfl, rfl, rfl, rfl, rfl, trivial⟩ ?_
    exact C _ K
  by_cases e4 : xa = ya
  · refine g_iload h dL_same_625 rfl ?_
    refine g_ifne h 640 dL_same_627 (by decide) (fun c627 => ?_) (fun c627 => absurd c627 (fun z => absurd ((nI_eq (b := 0) (by omega) (by decide)).mp z) (by omega)))
    refine g_iload h dL_same_640 rfl ?_
    refine g_ifne h 653 dL_same_642 (by decide) (fun c642 => ?_) (fun c642 => absurd c642 (fun z => absurd ((nI_eq (b := 0) (by omega) (by decide)).mp z) (by omega)))
    refine g_iload h dL_same_653 rfl ?_
    refine g_iload h dL_same_655 rfl ?_
    refine g_icne h 670 dL_same_657 (by decide) (fun c657 => ?_) (fun c657 => absurd c657 (fun z => absurd ((nI_eq (by omega) (by omega)).mp z) (by omega)))
    refine g_iconst (v := 2) h dL_same_670 (by decide) ?_
    refine g_iload h dL_same_671 rfl ?_
    refine g_imul h dL_same_673 ?_
    refine g_iload h dL_same_674 rfl ?_
    refine g_st [.int (nI (xa + ya)), .int (nI (2 * xa))] (by rw [show (2 : Int32) = nI 2 by decide, pk_mul]) ?_
    refine g_icne h 689 dL_same_676 (by decide) (fun c676 => absurd (congrArg nI (by omega)) c676) (fun c676 => ?_)
    refine g_iload h dL_same_679 rfl ?_
    refine g_ldc h (1056964608) (lw_in 467 (by decide +kernel) rfl) dL_same_681 ?_
    refine g_iceq h 732 dL_same_683 (by decide) (fun c683 => ?_) (fun c683 => absurd (g4 (by omega) e4) c683)
    refine g_sub [(0, ra X 0), (1, .int (nI a)), (2, ra X (qI 0)), (3, ra X (oI 0)), (4, ra X (tI 0)), (5, ra X (vI 0)), (6, .int (sumF (Q 4) (fun i => O (10 * i + 2)) 5))] ⟨rfl, rfl, rfl, rfl, rfl, rfl, rfl, trivial⟩ ?_
    exact C _ K
  obtain ⟨xo, eo, x2, x3, x4, x5⟩ := g5 (by omega) (by omega)
  by_cases e5 : 2 * xa < xa + ya
  · refine g_iload h dL_same_625 rfl ?_
    refine g_ifne h 640 dL_same_627 (by decide) (fun c627 => ?_) (fun c627 => absurd c627 (fun z => absurd ((nI_eq (b := 0) (by omega) (by decide)).mp z) (by omega)))
    refine g_iload h dL_same_640 rfl ?_
    refine g_ifne h 653 dL_same_642 (by decide) (fun c642 => ?_) (fun c642 => absurd c642 (fun z => absurd ((nI_eq (b := 0) (by omega) (by decide)).mp z) (by omega)))
    refine g_iload h dL_same_653 rfl ?_
    refine g_iload h dL_same_655 rfl ?_
    refine g_icne h 670 dL_same_657 (by decide) (fun c657 => ?_) (fun c657 => absurd c657 (fun z => absurd ((nI_eq (by omega) (by omega)).mp z) (by omega)))
    refine g_iconst (v := 2) h dL_same_670 (by decide) ?_
    refine g_iload h dL_same_671 rfl ?_
    refine g_imul h dL_same_673 ?_
    refine g_iload h dL_same_674 rfl ?_
    refine g_st [.int (nI (xa + ya)), .int (nI (2 * xa))] (by rw [show (2 : Int32) = nI 2 by decide, pk_mul]) ?_
    refine g_icne h 689 dL_same_676 (by decide) (fun c676 => ?_) (fun c676 => absurd c676 (fun z => absurd ((nI_eq (by omega) (by omega)).mp z) (by omega)))
    refine g_iload h dL_same_689 rfl ?_
    refine g_top (nI xo) eo ?_
    refine g_ifle h 730 dL_same_691 (by decide) (fun c691 => absurd c691 (nI_nle (by omega) (by omega))) (fun c691 => ?_)
    refine g_iload h dL_same_694 rfl ?_
    refine g_ldc h (1065353216) (lw_in 466 (by decide +kernel) rfl) dL_same_696 ?_
    refine g_st [.int 1065353216, .int (nI xo)] (by rw [eo]) ?_
    refine g_icge h 730 dL_same_698 (by decide) (fun c698 => absurd c698 (nI_ge (b := 1065353216) (by omega) (by decide))) (fun c698 => ?_)
    refine g_iload h dL_same_701 rfl ?_
    refine g_ldc h (1056964608) (lw_in 467 (by decide +kernel) rfl) dL_same_703 ?_
    refine g_st [.int 1056964608, .int (nI xo)] (by rw [eo]) ?_
    refine g_icge h 712 dL_same_705 (by decide) (fun c705 => absurd c705 (nI_ge (b := 1056964608) (x4 e5) (by decide))) (fun c705 => ?_)
    refine g_iconst (v := 1) h dL_same_708 (by decide) ?_
    refine g_goto h 713 dL_same_709 (by decide) ?_
    refine g_iconst (v := 2) h dL_same_713 (by decide) ?_
    refine g_iload h dL_same_714 rfl ?_
    refine g_imul h dL_same_716 ?_
    refine g_iload h dL_same_717 rfl ?_
    refine g_st [.int (nI (xa + ya)), .int (nI (2 * xa)), .int 1] (by rw [show (2 : Int32) = nI 2 by decide, pk_mul]) ?_
    refine g_icge h 726 dL_same_719 (by decide) (fun c719 => absurd c719 (nI_ge (by omega) (by omega))) (fun c719 => ?_)
    refine g_iconst (v := 1) h dL_same_722 (by decide) ?_
    refine g_goto h 727 dL_same_723 (by decide) ?_
    refine g_iceq h 732 dL_same_727 (by decide) (fun c727 => ?_) (fun c727 => absurd rfl c727)
    refine g_sub [(0, ra X 0), (1, .int (nI a)), (2, ra X (qI 0)), (3, ra X (oI 0)), (4, ra X (tI 0)), (5, ra X (vI 0)), (6, .int (sumF (Q 4) (fun i => O (10 * i + 2)) 5))] ⟨rfl, rfl, rfl, rfl, rfl, rfl, rfl, trivial⟩ ?_
    exact C _ K
  refine g_iload h dL_same_625 rfl ?_
  refine g_ifne h 640 dL_same_627 (by decide) (fun c627 => ?_) (fun c627 => absurd c627 (fun z => absurd ((nI_eq (b := 0) (by omega) (by decide)).mp z) (by omega)))
  refine g_iload h dL_same_640 rfl ?_
  refine g_ifne h 653 dL_same_642 (by decide) (fun c642 => ?_) (fun c642 => absurd c642 (fun z => absurd ((nI_eq (b := 0) (by omega) (by decide)).mp z) (by omega)))
  refine g_iload h dL_same_653 rfl ?_
  refine g_iload h dL_same_655 rfl ?_
  refine g_icne h 670 dL_same_657 (by decide) (fun c657 => ?_) (fun c657 => absurd c657 (fun z => absurd ((nI_eq (by omega) (by omega)).mp z) (by omega)))
  refine g_iconst (v := 2) h dL_same_670 (by decide) ?_
  refine g_iload h dL_same_671 rfl ?_
  refine g_imul h dL_same_673 ?_
  refine g_iload h dL_same_674 rfl ?_
  refine g_st [.int (nI (xa + ya)), .int (nI (2 * xa))] (by rw [show (2 : Int32) = nI 2 by decide, pk_mul]) ?_
  refine g_icne h 689 dL_same_676 (by decide) (fun c676 => ?_) (fun c676 => absurd c676 (fun z => absurd ((nI_eq (by omega) (by omega)).mp z) (by omega)))
  refine g_iload h dL_same_689 rfl ?_
  refine g_top (nI xo) eo ?_
  refine g_ifle h 730 dL_same_691 (by decide) (fun c691 => absurd c691 (nI_nle (by omega) (by omega))) (fun c691 => ?_)
  refine g_iload h dL_same_694 rfl ?_
  refine g_ldc h (1065353216) (lw_in 466 (by decide +kernel) rfl) dL_same_696 ?_
  refine g_st [.int 1065353216, .int (nI xo)] (by rw [eo]) ?_
  refine g_icge h 730 dL_same_698 (by decide) (fun c698 => absurd c698 (nI_ge (b := 1065353216) (by omega) (by decide))) (fun c698 => ?_)
  refine g_iload h dL_same_701 rfl ?_
  refine g_ldc h (1056964608) (lw_in 467 (by decide +kernel) rfl) dL_same_703 ?_
  refine g_st [.int 1056964608, .int (nI xo)] (by rw [eo]) ?_
  refine g_icge h 712 dL_same_705 (by decide) (fun c705 => ?_) (fun c705 => absurd (nI_le (a := 1056964608) (x5 (by omega)) (by omega)) c705)
  refine g_iconst (v := 0) h dL_same_712 (by decide) ?_
  refine g_iconst (v := 2) h dL_same_713 (by decide) ?_
  refine g_iload h dL_same_714 rfl ?_
  refine g_imul h dL_same_716 ?_
  refine g_iload h dL_same_717 rfl ?_
  refine g_st [.int (nI (xa + ya)), .int (nI (2 * xa)), .int 0] (by rw [show (2 : Int32) = nI 2 by decide, pk_mul]) ?_
  refine g_icge h 726 dL_same_719 (by decide) (fun c719 => ?_) (fun c719 => absurd (nI_le (by omega) (by omega)) c719)
  refine g_iconst (v := 0) h dL_same_726 (by decide) ?_
  refine g_iceq h 732 dL_same_727 (by decide) (fun c727 => ?_) (fun c727 => absurd rfl c727)
  refine g_sub [(0, ra X 0), (1, .int (nI a)), (2, ra X (qI 0)), (3, ra X (oI 0)), (4, ra X (tI 0)), (5, ra X (vI 0)), (6, .int (sumF (Q 4) (fun i => O (10 * i + 2)) 5))] ⟨rfl, rfl, rfl, rfl, rfl, rfl, rfl, trivial⟩ ?_
  exact C _ K

set_option maxRecDepth 100000 in
set_option maxHeartbeats 4000000 in
theorem ct_L_same {l : Launch} {X : fX} {μ : fM} {Q O T V w : Nat → Int32} {m B y a : Nat} (hB : B < 2 ^ 24) (hy : y < 2 ^ 24) (ha : a < 64) (K : KM μ Q O T V w m B y) : CtE l X yL_same cL_same 15 (some .boolean) 6 0 0 [ra X 0, .int (nI a), ra X (qI 0), ra X (oI 0), ra X (tI 0), ra X (vI 0)] (put5 μ 0 Q O T V w) (some (.int 1)) (fun σ' => ∃ μ', σ' = put5 μ' 0 Q O T V w ∧ KM μ' Q O T V w m B y) := by
  refine CtE.of RL rfl (by decide) (Nat.le_of_ble_eq_true rfl) ?_
  intro x sz hL hR hk0 hn0 h hr
  have hr' : RtE x X (some .boolean) (some (.int 1)) (fun σ' => ∃ μ', σ' = put5 μ' 0 Q O T V w ∧ KM μ' Q O T V w m B y) sz (xk x) (xn x) := by rw [hk0, hn0]; exact hr
  refine g_sub [(0, ra X 0), (1, .int (nI a)), (2, ra X (qI 0)), (3, ra X (oI 0)), (4, ra X (tI 0)), (5, ra X (vI 0))] ⟨rfl, rfl, rfl, rfl, rfl, rfl, trivial⟩ ?_
  have LOOP : ∀ (q i : Nat), i + q = 5 → ∀ μ, KM μ Q O T V w m B y → G x X (put5 μ 0 Q O T V w) [(0, ra X 0), (1, .int (nI a)), (2, ra X (qI 0)), (3, ra X (oI 0)), (4, ra X (tI 0)), (5, ra X (vI 0)), (6, .int (sumF (Q 4) (fun i => O (10 * i + 2)) i)), (7, .int (lAl Q O T (nI a) i)), (8, .int (lOn Q O T (nI a) i)), (9, .int (nI i))] [] 14 := by
    intro q
    induction q with
    | zero =>
      intro i hi μ K
      have hie : i = 5 := by omega
      rw [hie]
      refine g_iload h dL_same_14 rfl ?_
      refine g_iconst (v := nI 5) h dL_same_16 (by decide) ?_
      refine g_icge h 618 dL_same_17 (by decide) (fun c17 => ?_) (fun c17 => absurd (Int32.le_refl _) c17)
      obtain ⟨xa, ya, hxy, e1, e2, hC⟩ := c5_odds (l := l) (X := X) K hB ha
      refine g_aload_n h dL_same_618 rfl ?_
      refine g_iload_n h dL_same_619 rfl ?_
      refine clL_61 h hC rfl dL_same_620 rfl (Nat.le_of_ble_eq_true rfl) (by decide) ?_
      refine g_istore h dL_same_623 (by rw [hL]; decide) ?_
      have K := KM_fore (nI a) K
      refine g_sub [(0, ra X 0), (1, .int (nI a)), (2, ra X (qI 0)), (3, ra X (oI 0)), (4, ra X (tI 0)), (5, ra X (vI 0)), (6, .int (sumF (Q 4) (fun i => O (10 * i + 2)) 5)), (7, .int (nI (xa + ya))), (8, .int (nI xa)), (9, .int (odV xa ya))] ⟨rfl, rfl, rfl, rfl, rfl, rfl, rfl, congrArg (fun z => some (Value.int z)) e1, congrArg (fun z => some (Value.int z)) e2, rfl, trivial⟩ ?_
      refine sm_7 h hL hB hy ha K hxy (fun μ K => ?_)
      exact sm_6 h hL hB hy ha K hr'
    | succ q ih =>
      intro i hi μ K
      have hlt : i < 5 := by omega
      refine g_iload h dL_same_14 rfl ?_
      refine g_iconst (v := nI 5) h dL_same_16 (by decide) ?_
      refine g_icge h 618 dL_same_17 (by decide) (fun c17 => absurd c17 (nI_ge hlt (by decide))) (fun c17 => ?_)
      refine g_sub [(0, ra X 0), (1, .int (nI a)), (2, ra X (qI 0)), (3, ra X (oI 0)), (4, ra X (tI 0)), (5, ra X (vI 0)), (6, .int (sumF (Q 4) (fun i => O (10 * i + 2)) i)), (7, .int (lAl Q O T (nI a) i)), (8, .int (lOn Q O T (nI a) i)), (9, .int (nI i))] ⟨rfl, rfl, rfl, rfl, rfl, rfl, rfl, rfl, rfl, rfl, trivial⟩ ?_
      refine sm_1 h hL hB hy ha K hlt (fun μ K => ?_)
      refine sm_2 h hL hB hy ha K hlt (fun μ K => ?_)
      refine sm_3 h hL hB hy ha K hlt (fun μ K => ?_)
      refine sm_4 h hL hB hy ha K hlt (fun μ K => ?_)
      refine sm_5 h hL hB hy ha K hlt (fun μ K => ?_)
      refine g_iincN h dL_same_612 rfl (by rw [hL]; decide) ?_
      refine g_goto h 14 dL_same_615 (by decide) ?_
      refine g_sub [(0, ra X 0), (1, .int (nI a)), (2, ra X (qI 0)), (3, ra X (oI 0)), (4, ra X (tI 0)), (5, ra X (vI 0)), (6, .int (sumF (Q 4) (fun i => O (10 * i + 2)) (i + 1))), (7, .int (lAl Q O T (nI a) (i + 1))), (8, .int (lOn Q O T (nI a) (i + 1))), (9, .int (nI (i + 1)))] ⟨rfl, rfl, rfl, rfl, rfl, rfl, rfl, rfl, rfl, rfl, trivial⟩ ?_
      exact ih (i + 1) (by omega) μ K
  refine g_aload_n h dL_same_0 rfl ?_
  refine g_iconst (v := nI 4) h dL_same_1 (by decide) ?_
  refine g_ldq h hb0 (by omega) dL_same_2 ?_
  refine g_istore h dL_same_3 (by rw [hL]; decide) ?_
  refine g_iconst (v := 0) h dL_same_5 (by decide) ?_
  refine g_istore h dL_same_6 (by rw [hL]; decide) ?_
  refine g_iconst (v := 0) h dL_same_8 (by decide) ?_
  refine g_istore h dL_same_9 (by rw [hL]; decide) ?_
  refine g_iconst (v := nI 0) h dL_same_11 (by decide) ?_
  refine g_istore h dL_same_12 (by rw [hL]; decide) ?_
  refine g_sub [(0, ra X 0), (1, .int (nI a)), (2, ra X (qI 0)), (3, ra X (oI 0)), (4, ra X (tI 0)), (5, ra X (vI 0)), (6, .int (sumF (Q 4) (fun i => O (10 * i + 2)) 0)), (7, .int (lAl Q O T (nI a) 0)), (8, .int (lOn Q O T (nI a) 0)), (9, .int (nI 0))] ⟨rfl, rfl, rfl, rfl, rfl, rfl, rfl, rfl, rfl, rfl, trivial⟩ ?_
  exact LOOP 5 0 (by omega) μ K
