/-! the law's pays: the debtor k has got something -/
abbrev lpT : Type := Int32 × (Nat → Int32) × (Nat → Int32)
def lpP (l : Nat) (z : lpT) : Int32 := if z.2.2 (3 * l + 2) ≤ z.1 then z.2.2 (3 * l + 2) else z.1
def lpS (k l : Nat) (z : lpT) : lpT := if z.2.2 (3 * l + 1) = nI k then
    (z.1 - lpP l z, upd (upd z.2.1 (10 * k + 2) (z.2.1 (10 * k + 2) - lpP l z)) (10 * (z.2.2 (3 * l)).toNatClampNeg + 2) (upd z.2.1 (10 * k + 2) (z.2.1 (10 * k + 2) - lpP l z) (10 * (z.2.2 (3 * l)).toNatClampNeg + 2) + lpP l z), upd z.2.2 (3 * l + 2) (z.2.2 (3 * l + 2) - lpP l z))
  else z
def lpF (k : Nat) (z : lpT) : Nat → lpT
  | 0 => z
  | l + 1 => lpS k l (lpF k z l)
theorem lpS_V (k l : Nat) (z : lpT) {j : Nat} (h : j % 3 ≠ 2) : (lpS k l z).2.2 j = z.2.2 j := by
  unfold lpS
  split
  · exact upd_n _ _ _ _ (by omega)
  · rfl
theorem lpF_V (k : Nat) (z : lpT) {j : Nat} (h : j % 3 ≠ 2) : ∀ l, (lpF k z l).2.2 j = z.2.2 j
  | 0 => rfl
  | l + 1 => (lpS_V k l _ h).trans (lpF_V k z h l)
def cp3 (V : Nat → Int32) (a l : Nat) : Nat → Int32 :=
  let V1 := upd V (3 * a + 0) (V (3 * l + 0))
  let V2 := upd V1 (3 * a + 1) (V1 (3 * l + 1))
  upd V2 (3 * a + 2) (V2 (3 * l + 2))
def ldS (l : Nat) (z : (Nat → Int32) × Nat) : (Nat → Int32) × Nat := if z.1 (3 * l + 2) ≤ 0 then z else (cp3 z.1 z.2 l, z.2 + 1)
def ldF (V : Nat → Int32) : Nat → (Nat → Int32) × Nat
  | 0 => (V, 0)
  | l + 1 => ldS l (ldF V l)
theorem ldF_le (V : Nat → Int32) : ∀ l, (ldF V l).2 ≤ l
  | 0 => Nat.le_refl 0
  | l + 1 => by
    have := ldF_le V l
    show (ldS l (ldF V l)).2 ≤ l + 1
    unfold ldS
    split
    · omega
    · show (ldF V l).2 + 1 ≤ l + 1
      omega
/-- oracles, loans, their number behind the paying -/
def lpZ (Q O V : Nat → Int32) (m k : Nat) (g : Int32) : lpT := lpF k (g * Q 2 / 100, O, V) m
def lpY (Q O V : Nat → Int32) (m k : Nat) (g : Int32) : (Nat → Int32) × Nat := ldF (lpZ Q O V m k g).2.2 m

set_option maxRecDepth 100000 in
set_option maxHeartbeats 4000000 in
theorem ct_L_pays {l : Launch} {X : fX} {σ : fM} {b : Nat} {Q O T V w : Nat → Int32} (hb : bk X b) {m : Nat} (hm : Q 7 = nI m) (hm8 : m ≤ 8) (hcr : ∀ l, l < m → ∃ c : Nat, c < 5 ∧ V (3 * l) = nI c) {k : Nat} (hk : k < 5) {g : Int32} : Ct l X yL_pays cL_pays 10 none 0 [.int (nI k), .int g, ra X (qI b), ra X (oI b), ra X (vI b)] (put5 σ b Q O T V w) none (put5 σ b (upd Q 7 (nI (lpY Q O V m k g).2)) (lpZ Q O V m k g).2.1 T (lpY Q O V m k g).1 w) := by
  refine Ct.of RL rfl (by decide) (Nat.le_of_ble_eq_true rfl) ?_
  intro x hL h hr
  refine g_sub [(0, .int (nI k)), (1, .int g), (2, ra X (qI b)), (3, ra X (oI b)), (4, ra X (vI b))] ⟨rfl, rfl, rfl, rfl, rfl, trivial⟩ ?_
  have LOOP2 : ∀ (q i : Nat), i + q = m → G x X (put5 σ b Q (lpF k (g * Q 2 / 100, O, V) m).2.1 T (ldF (lpF k (g * Q 2 / 100, O, V) m).2.2 i).1 w) [(2, ra X (qI b)), (4, ra X (vI b)), (6, .int (nI (ldF (lpF k (g * Q 2 / 100, O, V) m).2.2 i).2)), (7, .int (nI i))] [] 133 := by
    intro q
    induction q with
    | zero =>
      intro i hi 
      have hie : i = m := by omega
      rw [hie]
      refine g_iload h dL_pays_133 rfl ?_
      refine g_aload_n h dL_pays_135 rfl ?_
      refine g_bipush (v := nI 7) h dL_pays_136 (by decide) ?_
      refine g_ldq h hb (by omega) dL_pays_138 ?_
      refine g_icge h 222 dL_pays_139 (by decide) (fun c139 => ?_) (fun c139 => absurd (by rw [hm]; exact Int32.le_refl _) c139)
      refine g_aload_n h dL_pays_222 rfl ?_
      refine g_bipush (v := nI 7) h dL_pays_223 (by decide) ?_
      refine g_iload h dL_pays_225 rfl ?_
      refine g_stq h hb (by omega) dL_pays_227 ?_
      exact g_vret h hr dL_pays_228 rfl
    | succ q ih =>
      intro i hi 
      have hlt : i < m := by omega
      have hle := ldF_le (lpF k (g * Q 2 / 100, O, V) m).2.2 i
      refine g_iload h dL_pays_133 rfl ?_
      refine g_aload_n h dL_pays_135 rfl ?_
      refine g_bipush (v := nI 7) h dL_pays_136 (by decide) ?_
      refine g_ldq h hb (by omega) dL_pays_138 ?_
      refine g_icge h 222 dL_pays_139 (by decide) (fun c139 => absurd c139 (by rw [hm]; exact nI_ge hlt (by omega))) (fun c139 => ?_)
      refine g_aload h dL_pays_142 rfl ?_
      refine g_iconst (v := nI 3) h dL_pays_144 (by decide) ?_
      refine g_iload h dL_pays_145 rfl ?_
      refine g_imulN h dL_pays_147 ?_
      refine g_iconst (v := nI 2) h dL_pays_148 (by decide) ?_
      refine g_iaddN h dL_pays_149 ?_
      refine g_ldv h hb (by omega) dL_pays_150 ?_
      refine g_ifle h 158 dL_pays_151 (by decide) (fun c151 => ?_) (fun c151 => ?_)
      · refine g_iconst (v := 0) h dL_pays_158 (by decide) ?_
        refine g_istore h dL_pays_159 (by rw [hL]; decide) ?_
        refine g_iconst (v := nI 0) h dL_pays_161 (by decide) ?_
        refine g_istore h dL_pays_162 (by rw [hL]; decide) ?_
        refine g_iload h dL_pays_164 rfl ?_
        refine g_iconst (v := nI 3) h dL_pays_166 (by decide) ?_
        refine g_icge h 201 dL_pays_167 (by decide) (fun c167 => absurd c167 (by decide)) (fun c167 => ?_)
        refine g_iload h dL_pays_170 rfl ?_
        refine g_ifeq h 201 dL_pays_172 (by decide) (fun c172 => ?_) (fun c172 => absurd rfl c172)
        refine g_iload h dL_pays_201 rfl ?_
        refine g_iload h dL_pays_203 rfl ?_
        refine g_ifeq h 212 dL_pays_205 (by decide) (fun c205 => ?_) (fun c205 => absurd rfl c205)
        refine g_iconst (v := nI 0) h dL_pays_212 (by decide) ?_
        refine g_iaddN h dL_pays_213 ?_
        refine g_istore h dL_pays_214 (by rw [hL]; decide) ?_
        refine g_iincN h dL_pays_216 rfl (by rw [hL]; decide) ?_
        refine g_goto h 133 dL_pays_219 (by decide) ?_
        refine g_mem (put5 σ b Q (lpF k (g * Q 2 / 100, O, V) m).2.1 T (ldF (lpF k (g * Q 2 / 100, O, V) m).2.2 (i + 1)).1 w) (by show _ = put5 σ b Q (lpF k (g * Q 2 / 100, O, V) m).2.1 T (ldS i (ldF (lpF k (g * Q 2 / 100, O, V) m).2.2 i)).1 w; unfold ldS; rw [if_pos c151]; try rfl) ?_
        refine g_sub [(2, ra X (qI b)), (4, ra X (vI b)), (6, .int (nI (ldF (lpF k (g * Q 2 / 100, O, V) m).2.2 (i + 1)).2)), (7, .int (nI (i + 1)))] ⟨rfl, rfl, (congrArg (fun z => some (Value.int z)) (by show _ = nI (ldS i (ldF (lpF k (g * Q 2 / 100, O, V) m).2.2 i)).2; unfold ldS; rw [if_pos c151]; try rfl)), rfl, trivial⟩ ?_
        exact ih (i + 1) (by omega)
      · refine g_iconst (v := 1) h dL_pays_154 (by decide) ?_
        refine g_goto h 159 dL_pays_155 (by decide) ?_
        refine g_istore h dL_pays_159 (by rw [hL]; decide) ?_
        refine g_iconst (v := nI 0) h dL_pays_161 (by decide) ?_
        refine g_istore h dL_pays_162 (by rw [hL]; decide) ?_
        refine g_iload h dL_pays_164 rfl ?_
        refine g_iconst (v := nI 3) h dL_pays_166 (by decide) ?_
        refine g_icge h 201 dL_pays_167 (by decide) (fun c167 => absurd c167 (by decide)) (fun c167 => ?_)
        refine g_iload h dL_pays_170 rfl ?_
        refine g_ifeq h 201 dL_pays_172 (by decide) (fun c172 => absurd c172 (by decide)) (fun c172 => ?_)
        refine g_aload h dL_pays_175 rfl ?_
        refine g_iconst (v := nI 3) h dL_pays_177 (by decide) ?_
        refine g_iload h dL_pays_178 rfl ?_
        refine g_imulN h dL_pays_180 ?_
        refine g_iload h dL_pays_181 rfl ?_
        refine g_iaddN h dL_pays_183 ?_
        refine g_aload h dL_pays_184 rfl ?_
        refine g_iconst (v := nI 3) h dL_pays_186 (by decide) ?_
        refine g_iload h dL_pays_187 rfl ?_
        refine g_imulN h dL_pays_189 ?_
        refine g_iload h dL_pays_190 rfl ?_
        refine g_iaddN h dL_pays_192 ?_
        refine g_ldv h hb (by omega) dL_pays_193 ?_
        refine g_stv h hb (by omega) dL_pays_194 ?_
        refine g_iincN h dL_pays_195 rfl (by rw [hL]; decide) ?_
        refine g_goto h 164 dL_pays_198 (by decide) ?_
        refine g_iload h dL_pays_164 rfl ?_
        refine g_iconst (v := nI 3) h dL_pays_166 (by decide) ?_
        refine g_icge h 201 dL_pays_167 (by decide) (fun c167 => absurd c167 (by decide)) (fun c167 => ?_)
        refine g_iload h dL_pays_170 rfl ?_
        refine g_ifeq h 201 dL_pays_172 (by decide) (fun c172 => absurd c172 (by decide)) (fun c172 => ?_)
        refine g_aload h dL_pays_175 rfl ?_
        refine g_iconst (v := nI 3) h dL_pays_177 (by decide) ?_
        refine g_iload h dL_pays_178 rfl ?_
        refine g_imulN h dL_pays_180 ?_
        refine g_iload h dL_pays_181 rfl ?_
        refine g_iaddN h dL_pays_183 ?_
        refine g_aload h dL_pays_184 rfl ?_
        refine g_iconst (v := nI 3) h dL_pays_186 (by decide) ?_
        refine g_iload h dL_pays_187 rfl ?_
        refine g_imulN h dL_pays_189 ?_
        refine g_iload h dL_pays_190 rfl ?_
        refine g_iaddN h dL_pays_192 ?_
        refine g_ldv h hb (by omega) dL_pays_193 ?_
        refine g_stv h hb (by omega) dL_pays_194 ?_
        refine g_iincN h dL_pays_195 rfl (by rw [hL]; decide) ?_
        refine g_goto h 164 dL_pays_198 (by decide) ?_
        refine g_iload h dL_pays_164 rfl ?_
        refine g_iconst (v := nI 3) h dL_pays_166 (by decide) ?_
        refine g_icge h 201 dL_pays_167 (by decide) (fun c167 => absurd c167 (by decide)) (fun c167 => ?_)
        refine g_iload h dL_pays_170 rfl ?_
        refine g_ifeq h 201 dL_pays_172 (by decide) (fun c172 => absurd c172 (by decide)) (fun c172 => ?_)
        refine g_aload h dL_pays_175 rfl ?_
        refine g_iconst (v := nI 3) h dL_pays_177 (by decide) ?_
        refine g_iload h dL_pays_178 rfl ?_
        refine g_imulN h dL_pays_180 ?_
        refine g_iload h dL_pays_181 rfl ?_
        refine g_iaddN h dL_pays_183 ?_
        refine g_aload h dL_pays_184 rfl ?_
        refine g_iconst (v := nI 3) h dL_pays_186 (by decide) ?_
        refine g_iload h dL_pays_187 rfl ?_
        refine g_imulN h dL_pays_189 ?_
        refine g_iload h dL_pays_190 rfl ?_
        refine g_iaddN h dL_pays_192 ?_
        refine g_ldv h hb (by omega) dL_pays_193 ?_
        refine g_stv h hb (by omega) dL_pays_194 ?_
        refine g_iincN h dL_pays_195 rfl (by rw [hL]; decide) ?_
        refine g_goto h 164 dL_pays_198 (by decide) ?_
        refine g_iload h dL_pays_164 rfl ?_
        refine g_iconst (v := nI 3) h dL_pays_166 (by decide) ?_
        refine g_icge h 201 dL_pays_167 (by decide) (fun c167 => ?_) (fun c167 => absurd (by decide) c167)
        refine g_iload h dL_pays_201 rfl ?_
        refine g_iload h dL_pays_203 rfl ?_
        refine g_ifeq h 212 dL_pays_205 (by decide) (fun c205 => absurd c205 (by decide)) (fun c205 => ?_)
        refine g_iconst (v := nI 1) h dL_pays_208 (by decide) ?_
        refine g_goto h 213 dL_pays_209 (by decide) ?_
        refine g_iaddN h dL_pays_213 ?_
        refine g_istore h dL_pays_214 (by rw [hL]; decide) ?_
        refine g_iincN h dL_pays_216 rfl (by rw [hL]; decide) ?_
        refine g_goto h 133 dL_pays_219 (by decide) ?_
        refine g_mem (put5 σ b Q (lpF k (g * Q 2 / 100, O, V) m).2.1 T (ldF (lpF k (g * Q 2 / 100, O, V) m).2.2 (i + 1)).1 w) (by show _ = put5 σ b Q (lpF k (g * Q 2 / 100, O, V) m).2.1 T (ldS i (ldF (lpF k (g * Q 2 / 100, O, V) m).2.2 i)).1 w; unfold ldS; rw [if_neg c151]; try rfl) ?_
        refine g_sub [(2, ra X (qI b)), (4, ra X (vI b)), (6, .int (nI (ldF (lpF k (g * Q 2 / 100, O, V) m).2.2 (i + 1)).2)), (7, .int (nI (i + 1)))] ⟨rfl, rfl, (congrArg (fun z => some (Value.int z)) (by show _ = nI (ldS i (ldF (lpF k (g * Q 2 / 100, O, V) m).2.2 i)).2; unfold ldS; rw [if_neg c151]; try rfl)), rfl, trivial⟩ ?_
        exact ih (i + 1) (by omega)
  have LOOP1 : ∀ (q i : Nat), i + q = m → G x X (put5 σ b Q (lpF k (g * Q 2 / 100, O, V) i).2.1 T (lpF k (g * Q 2 / 100, O, V) i).2.2 w) [(0, .int (nI k)), (2, ra X (qI b)), (3, ra X (oI b)), (4, ra X (vI b)), (5, .int (lpF k (g * Q 2 / 100, O, V) i).1), (6, .int (nI i))] [] 13 := by
    intro q
    induction q with
    | zero =>
      intro i hi 
      have hie : i = m := by omega
      rw [hie]
      refine g_iload h dL_pays_13 rfl ?_
      refine g_aload_n h dL_pays_15 rfl ?_
      refine g_bipush (v := nI 7) h dL_pays_16 (by decide) ?_
      refine g_ldq h hb (by omega) dL_pays_18 ?_
      refine g_icge h 127 dL_pays_19 (by decide) (fun c19 => ?_) (fun c19 => absurd (by rw [hm]; exact Int32.le_refl _) c19)
      refine g_iconst (v := nI 0) h dL_pays_127 (by decide) ?_
      refine g_istore h dL_pays_128 (by rw [hL]; decide) ?_
      refine g_iconst (v := nI 0) h dL_pays_130 (by decide) ?_
      refine g_istore h dL_pays_131 (by rw [hL]; decide) ?_
      refine g_sub [(2, ra X (qI b)), (4, ra X (vI b)), (6, .int (nI (ldF (lpF k (g * Q 2 / 100, O, V) m).2.2 0).2)), (7, .int (nI 0))] ⟨rfl, rfl, rfl, rfl, trivial⟩ ?_
      exact LOOP2 m 0 (by omega)
    | succ q ih =>
      intro i hi 
      have hlt : i < m := by omega
      obtain ⟨c, hc5, ec⟩ : ∃ c : Nat, c < 5 ∧ (lpF k (g * Q 2 / 100, O, V) i).2.2 (3 * i) = nI c := by
        rw [lpF_V k (g * Q 2 / 100, O, V) (by omega) i]
        exact hcr i hlt
      refine g_iload h dL_pays_13 rfl ?_
      refine g_aload_n h dL_pays_15 rfl ?_
      refine g_bipush (v := nI 7) h dL_pays_16 (by decide) ?_
      refine g_ldq h hb (by omega) dL_pays_18 ?_
      refine g_icge h 127 dL_pays_19 (by decide) (fun c19 => absurd c19 (by rw [hm]; exact nI_ge hlt (by omega))) (fun c19 => ?_)
      refine g_aload h dL_pays_22 rfl ?_
      refine g_iconst (v := nI 3) h dL_pays_24 (by decide) ?_
      refine g_iload h dL_pays_25 rfl ?_
      refine g_imulN h dL_pays_27 ?_
      refine g_iconst (v := nI 1) h dL_pays_28 (by decide) ?_
      refine g_iaddN h dL_pays_29 ?_
      refine g_ldv h hb (by omega) dL_pays_30 ?_
      refine g_iload_n h dL_pays_31 rfl ?_
      refine g_iceq h 38 dL_pays_32 (by decide) (fun c32 => ?_) (fun c32 => ?_)
      · refine g_iload h dL_pays_38 rfl ?_
        refine g_aload h dL_pays_40 rfl ?_
        refine g_iconst (v := nI 3) h dL_pays_42 (by decide) ?_
        refine g_iload h dL_pays_43 rfl ?_
        refine g_imulN h dL_pays_45 ?_
        refine g_iconst (v := nI 2) h dL_pays_46 (by decide) ?_
        refine g_iaddN h dL_pays_47 ?_
        refine g_ldv h hb (by omega) dL_pays_48 ?_
        refine g_icge h 57 dL_pays_49 (by decide) (fun c49 => ?_) (fun c49 => ?_)
        · refine g_aload h dL_pays_57 rfl ?_
          refine g_iconst (v := nI 3) h dL_pays_59 (by decide) ?_
          refine g_iload h dL_pays_60 rfl ?_
          refine g_imulN h dL_pays_62 ?_
          refine g_iconst (v := nI 2) h dL_pays_63 (by decide) ?_
          refine g_iaddN h dL_pays_64 ?_
          refine g_ldv h hb (by omega) dL_pays_65 ?_
          refine g_istore h dL_pays_66 (by rw [hL]; decide) ?_
          refine g_iload h dL_pays_68 rfl ?_
          refine g_iload h dL_pays_70 rfl ?_
          refine g_isub h dL_pays_72 ?_
          refine g_istore h dL_pays_73 (by rw [hL]; decide) ?_
          refine g_aload h dL_pays_75 rfl ?_
          refine g_iconst (v := nI 3) h dL_pays_77 (by decide) ?_
          refine g_iload h dL_pays_78 rfl ?_
          refine g_imulN h dL_pays_80 ?_
          refine g_iconst (v := nI 2) h dL_pays_81 (by decide) ?_
          refine g_iaddN h dL_pays_82 ?_
          refine g_dup2 h dL_pays_83 rfl rfl ?_
          refine g_ldv h hb (by omega) dL_pays_84 ?_
          refine g_iload h dL_pays_85 rfl ?_
          refine g_isub h dL_pays_87 ?_
          refine g_stv h hb (by omega) dL_pays_88 ?_
          refine g_aload_n h dL_pays_89 rfl ?_
          refine g_bipush (v := nI 10) h dL_pays_90 (by decide) ?_
          refine g_iload_n h dL_pays_92 rfl ?_
          refine g_imulN h dL_pays_93 ?_
          refine g_iconst (v := nI 2) h dL_pays_94 (by decide) ?_
          refine g_iaddN h dL_pays_95 ?_
          refine g_dup2 h dL_pays_96 rfl rfl ?_
          refine g_ldo h hb (by omega) dL_pays_97 ?_
          refine g_iload h dL_pays_98 rfl ?_
          refine g_isub h dL_pays_100 ?_
          refine g_sto h hb (by omega) dL_pays_101 ?_
          refine g_aload_n h dL_pays_102 rfl ?_
          refine g_bipush (v := nI 10) h dL_pays_103 (by decide) ?_
          refine g_aload h dL_pays_105 rfl ?_
          refine g_iconst (v := nI 3) h dL_pays_107 (by decide) ?_
          refine g_iload h dL_pays_108 rfl ?_
          refine g_imulN h dL_pays_110 ?_
          refine g_ldv h hb (by omega) dL_pays_111 ?_
          refine g_top (nI c) (by rw [upd_n _ _ _ _ (by omega)]; exact ec) ?_
          refine g_imulN h dL_pays_112 ?_
          refine g_iconst (v := nI 2) h dL_pays_113 (by decide) ?_
          refine g_iaddN h dL_pays_114 ?_
          refine g_dup2 h dL_pays_115 rfl rfl ?_
          refine g_ldo h hb (by omega) dL_pays_116 ?_
          refine g_iload h dL_pays_117 rfl ?_
          refine g_iadd h dL_pays_119 ?_
          refine g_sto h hb (by omega) dL_pays_120 ?_
          refine g_iincN h dL_pays_121 rfl (by rw [hL]; decide) ?_
          refine g_goto h 13 dL_pays_124 (by decide) ?_
          refine g_mem (put5 σ b Q (lpF k (g * Q 2 / 100, O, V) (i + 1)).2.1 T (lpF k (g * Q 2 / 100, O, V) (i + 1)).2.2 w) (by show _ = put5 σ b Q (lpS k i (lpF k (g * Q 2 / 100, O, V) i)).2.1 T (lpS k i (lpF k (g * Q 2 / 100, O, V) i)).2.2 w; unfold lpS lpP; first | (rw [if_neg c32]; done) | (rw [if_pos c32, ec, nI_clamp (by omega)]; first | (rw [if_pos c49]; done) | (rw [if_neg c49]; done))) ?_
          refine g_sub [(0, .int (nI k)), (2, ra X (qI b)), (3, ra X (oI b)), (4, ra X (vI b)), (5, .int (lpF k (g * Q 2 / 100, O, V) (i + 1)).1), (6, .int (nI (i + 1)))] ⟨rfl, rfl, rfl, rfl, (congrArg (fun z => some (Value.int z)) (by show _ = (lpS k i (lpF k (g * Q 2 / 100, O, V) i)).1; unfold lpS lpP; first | (rw [if_neg c32]; done) | (rw [if_pos c32, ec, nI_clamp (by omega)]; first | (rw [if_pos c49]; done) | (rw [if_neg c49]; done)))), rfl, trivial⟩ ?_
          exact ih (i + 1) (by omega)
        · refine g_iload h dL_pays_52 rfl ?_
          refine g_goto h 66 dL_pays_54 (by decide) ?_
          refine g_istore h dL_pays_66 (by rw [hL]; decide) ?_
          refine g_iload h dL_pays_68 rfl ?_
          refine g_iload h dL_pays_70 rfl ?_
          refine g_isub h dL_pays_72 ?_
          refine g_istore h dL_pays_73 (by rw [hL]; decide) ?_
          refine g_aload h dL_pays_75 rfl ?_
          refine g_iconst (v := nI 3) h dL_pays_77 (by decide) ?_
          refine g_iload h dL_pays_78 rfl ?_
          refine g_imulN h dL_pays_80 ?_
          refine g_iconst (v := nI 2) h dL_pays_81 (by decide) ?_
          refine g_iaddN h dL_pays_82 ?_
          refine g_dup2 h dL_pays_83 rfl rfl ?_
          refine g_ldv h hb (by omega) dL_pays_84 ?_
          refine g_iload h dL_pays_85 rfl ?_
          refine g_isub h dL_pays_87 ?_
          refine g_stv h hb (by omega) dL_pays_88 ?_
          refine g_aload_n h dL_pays_89 rfl ?_
          refine g_bipush (v := nI 10) h dL_pays_90 (by decide) ?_
          refine g_iload_n h dL_pays_92 rfl ?_
          refine g_imulN h dL_pays_93 ?_
          refine g_iconst (v := nI 2) h dL_pays_94 (by decide) ?_
          refine g_iaddN h dL_pays_95 ?_
          refine g_dup2 h dL_pays_96 rfl rfl ?_
          refine g_ldo h hb (by omega) dL_pays_97 ?_
          refine g_iload h dL_pays_98 rfl ?_
          refine g_isub h dL_pays_100 ?_
          refine g_sto h hb (by omega) dL_pays_101 ?_
          refine g_aload_n h dL_pays_102 rfl ?_
          refine g_bipush (v := nI 10) h dL_pays_103 (by decide) ?_
          refine g_aload h dL_pays_105 rfl ?_
          refine g_iconst (v := nI 3) h dL_pays_107 (by decide) ?_
          refine g_iload h dL_pays_108 rfl ?_
          refine g_imulN h dL_pays_110 ?_
          refine g_ldv h hb (by omega) dL_pays_111 ?_
          refine g_top (nI c) (by rw [upd_n _ _ _ _ (by omega)]; exact ec) ?_
          refine g_imulN h dL_pays_112 ?_
          refine g_iconst (v := nI 2) h dL_pays_113 (by decide) ?_
          refine g_iaddN h dL_pays_114 ?_
          refine g_dup2 h dL_pays_115 rfl rfl ?_
          refine g_ldo h hb (by omega) dL_pays_116 ?_
          refine g_iload h dL_pays_117 rfl ?_
          refine g_iadd h dL_pays_119 ?_
          refine g_sto h hb (by omega) dL_pays_120 ?_
          refine g_iincN h dL_pays_121 rfl (by rw [hL]; decide) ?_
          refine g_goto h 13 dL_pays_124 (by decide) ?_
          refine g_mem (put5 σ b Q (lpF k (g * Q 2 / 100, O, V) (i + 1)).2.1 T (lpF k (g * Q 2 / 100, O, V) (i + 1)).2.2 w) (by show _ = put5 σ b Q (lpS k i (lpF k (g * Q 2 / 100, O, V) i)).2.1 T (lpS k i (lpF k (g * Q 2 / 100, O, V) i)).2.2 w; unfold lpS lpP; first | (rw [if_neg c32]; done) | (rw [if_pos c32, ec, nI_clamp (by omega)]; first | (rw [if_pos c49]; done) | (rw [if_neg c49]; done))) ?_
          refine g_sub [(0, .int (nI k)), (2, ra X (qI b)), (3, ra X (oI b)), (4, ra X (vI b)), (5, .int (lpF k (g * Q 2 / 100, O, V) (i + 1)).1), (6, .int (nI (i + 1)))] ⟨rfl, rfl, rfl, rfl, (congrArg (fun z => some (Value.int z)) (by show _ = (lpS k i (lpF k (g * Q 2 / 100, O, V) i)).1; unfold lpS lpP; first | (rw [if_neg c32]; done) | (rw [if_pos c32, ec, nI_clamp (by omega)]; first | (rw [if_pos c49]; done) | (rw [if_neg c49]; done)))), rfl, trivial⟩ ?_
          exact ih (i + 1) (by omega)
      · refine g_goto h 121 dL_pays_35 (by decide) ?_
        refine g_iincN h dL_pays_121 rfl (by rw [hL]; decide) ?_
        refine g_goto h 13 dL_pays_124 (by decide) ?_
        refine g_mem (put5 σ b Q (lpF k (g * Q 2 / 100, O, V) (i + 1)).2.1 T (lpF k (g * Q 2 / 100, O, V) (i + 1)).2.2 w) (by show _ = put5 σ b Q (lpS k i (lpF k (g * Q 2 / 100, O, V) i)).2.1 T (lpS k i (lpF k (g * Q 2 / 100, O, V) i)).2.2 w; unfold lpS lpP; first | (rw [if_neg c32]; done) | (rw [if_pos c32, ec, nI_clamp (by omega)]; first | (rw [if_pos c49]; done) | (rw [if_neg c49]; done))) ?_
        refine g_sub [(0, .int (nI k)), (2, ra X (qI b)), (3, ra X (oI b)), (4, ra X (vI b)), (5, .int (lpF k (g * Q 2 / 100, O, V) (i + 1)).1), (6, .int (nI (i + 1)))] ⟨rfl, rfl, rfl, rfl, (congrArg (fun z => some (Value.int z)) (by show _ = (lpS k i (lpF k (g * Q 2 / 100, O, V) i)).1; unfold lpS lpP; first | (rw [if_neg c32]; done) | (rw [if_pos c32, ec, nI_clamp (by omega)]; first | (rw [if_pos c49]; done) | (rw [if_neg c49]; done)))), rfl, trivial⟩ ?_
        exact ih (i + 1) (by omega)
  refine g_iload_n h dL_pays_0 rfl ?_
  refine g_aload_n h dL_pays_1 rfl ?_
  refine g_iconst (v := nI 2) h dL_pays_2 (by decide) ?_
  refine g_ldq h hb (by omega) dL_pays_3 ?_
  refine g_imul h dL_pays_4 ?_
  refine g_bipush (v := 100) h dL_pays_5 (by decide) ?_
  refine g_idiv h dL_pays_7 (by decide) ?_
  refine g_istore h dL_pays_8 (by rw [hL]; decide) ?_
  refine g_iconst (v := nI 0) h dL_pays_10 (by decide) ?_
  refine g_istore h dL_pays_11 (by rw [hL]; decide) ?_
  refine g_sub [(0, .int (nI k)), (2, ra X (qI b)), (3, ra X (oI b)), (4, ra X (vI b)), (5, .int (lpF k (g * Q 2 / 100, O, V) 0).1), (6, .int (nI 0))] ⟨rfl, rfl, rfl, rfl, rfl, rfl, trivial⟩ ?_
  exact LOOP1 m 0 (by omega)