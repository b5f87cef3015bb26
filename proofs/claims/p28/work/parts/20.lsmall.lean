/-! the law's small methods: over its rows Q (settings ..), O (oracles), T (counters), V (loans) -/
def ro (O : Nat → Int32) (k : Nat) : Nat → Int32 := fun p => O (10 * k + p)
def rt (T : Nat → Int32) (k : Nat) : Nat → Int32 := fun q => T (8 * k + q)
theorem ro_0 (O : Nat → Int32) (k : Nat) : ro O k 0 = O (10 * k) := rfl
theorem ro_p (O : Nat → Int32) (k p : Nat) : ro O k p = O (10 * k + p) := rfl
theorem rt_q (T : Nat → Int32) (k q : Nat) : rt T k q = T (8 * k + q) := rfl
/-- kinds, numbers, purses, booths and counters are in range -/
def lH (O T : Nat → Int32) : Prop := ∀ k, k < 5 → (∃ c : Nat, c ≤ 4 ∧ O (10 * k) = nI c) ∧ (∃ n : Nat, n ≤ 3 ∧ O (10 * k + 1) = nI n) ∧ (∃ p : Nat, p < 2 ^ 30 ∧ O (10 * k + 2) = nI p) ∧ (O (10 * k + 3) = -1 ∨ ∃ b : Nat, b < 3 ∧ O (10 * k + 3) = nI b) ∧ ∀ q, q < 8 → ∃ v : Nat, v ≤ 3 ∧ T (8 * k + q) = nI v
theorem tab_k {f : Nat → Int32} {c : Nat} (hc : c ≤ 4) (e : f 0 = nI c) : oTab f = (decide (1 ≤ c) && decide (c ≤ 3)) := by
  unfold oTab
  rw [e]
  rcases (show c = 0 ∨ c = 1 ∨ c = 2 ∨ c = 3 ∨ c = 4 by omega) with rfl | rfl | rfl | rfl | rfl <;> decide
theorem lH_s {O T : Nat → Int32} (h : lH O T) {k : Nat} (hk : k < 5) : (O (10 * k + 3) < 0 ↔ O (10 * k + 3) = -1) ∧ (O (10 * k + 2) ≤ 0 ↔ O (10 * k + 2) = 0) := by
  obtain ⟨-, -, ⟨p, hp, ep⟩, hb, -⟩ := h k hk
  constructor
  · rcases hb with e | ⟨b, hb3, e⟩
    · rw [e]; decide
    · rw [e]
      rcases (show b = 0 ∨ b = 1 ∨ b = 2 by omega) with rfl | rfl | rfl <;> decide
  · rw [ep]
    constructor
    · intro q
      rcases Nat.eq_zero_or_pos p with z | z
      · rw [z]; rfl
      · exact absurd q (nI_nle z (by omega))
    · intro q; rw [q]; decide
/-- kinds and numbers alone -/
def lK (O : Nat → Int32) : Prop := ∀ k, k < 5 → (∃ c : Nat, c ≤ 4 ∧ O (10 * k) = nI c) ∧ ∃ n : Nat, n ≤ 3 ∧ O (10 * k + 1) = nI n
theorem lH.K {O T : Nat → Int32} (h : lH O T) : lK O := fun k hk => ⟨(h k hk).1, (h k hk).2.1⟩
theorem lSlot {O : Nat → Int32} (h : lK O) {k : Nat} (hk : k < 5) (a hi : Int32) : ∃ j : Nat, j < 8 ∧ oSlot (ro O k) a hi = nI j := by
  obtain ⟨-, n, hn, e⟩ := h k hk
  have key : ∀ z : Int32, ∃ j : Nat, j < 8 ∧ z &&& oMask (ro O k) = nI j := fun z => by
    unfold oMask
    rw [ro_p, e]
    obtain ⟨j, hj, ej⟩ := pk_andE z n (oMask_b n (by omega))
    have h8 : 2 ^ n ≤ 2 ^ 3 := Nat.pow_le_pow_right (by decide) hn
    exact ⟨j, by omega, ej⟩
  unfold oSlot
  split
  · exact key _
  · split
    · exact key _
    · exact key _
theorem half_v {c : Int32} (h : ∃ v : Nat, v ≤ 3 ∧ c = nI v) : c / 2 = if c < 2 then 0 else 1 := by
  obtain ⟨v, hv, e⟩ := h
  subst e
  rcases (show v = 0 ∨ v = 1 ∨ v = 2 ∨ v = 3 by omega) with rfl | rfl | rfl | rfl <;> decide
/-- what an oracle that is not contrary says; the coins of such oracles that say 1, or 0; what each says, and stakes -/
def lW (Q O T : Nat → Int32) (a : Int32) (k : Nat) : Int32 := oWord (ro O k) (rt T k) a (Q 3)
def lC1 (Q O T : Nat → Int32) (a : Int32) : Nat → Int32 := sumF 0 (fun i => if ¬ O (10 * i) = 4 ∧ oIn (ro O i) = true ∧ lW Q O T a i = 1 then O (10 * i + 2) else 0)
def lC0 (Q O T : Nat → Int32) (a : Int32) : Nat → Int32 := sumF 0 (fun i => if ¬ O (10 * i) = 4 ∧ oIn (ro O i) = true ∧ ¬ lW Q O T a i = 1 then O (10 * i + 2) else 0)
def lY (Q O T : Nat → Int32) (a : Int32) (k : Nat) : Int32 := if O (10 * k) = 4 then (if lC0 Q O T a 5 ≤ lC1 Q O T a 5 then 0 else 1) else lW Q O T a k
def lS (Q O T : Nat → Int32) (a : Int32) (k : Nat) : Int32 := oStake (ro O k) (rt T k) (Q 0) a (Q 3)
def lowN (v : Int32) (n : Nat) : Nat := v.toBitVec.toNat % 2 ^ 31 % n
theorem lowN_lt (v : Int32) {n : Nat} (h : 0 < n) : lowN v n < n := Nat.mod_lt _ h
def cellV (X : fX) (k : Nat) : Int32 := if k < X.2.2.2.2.2.1 then X.2.2.2.2.2.2 k else 1266294381 * (nI k + 1) + 384901097
theorem m31_b : (2147483647 : Int32).toBitVec.toNat = 2 ^ 31 - 1 := by decide
theorem min_comm (a b : Int32) : (if a < b then a else b) = (if ¬ a ≤ b then b else a) := by
  by_cases h : a < b
  · rw [if_pos h, if_neg (fun q => q (Int32.le_of_lt h))]
  · rw [if_neg h]
    by_cases h2 : a ≤ b
    · rw [if_neg (fun q => q h2)]
      exact (Int32.le_antisymm h2 (Int32.not_lt.mp h)).symm
    · rw [if_pos h2]

set_option maxRecDepth 100000 in
set_option maxHeartbeats 4000000 in
theorem ct_L_low {l : Launch} {X : fX} {σ : fM} {v : Int32} {n : Nat} (h0 : 0 < n) (h31 : n < 2 ^ 31) : Ct l X yL_low cL_low 2 (some .int) 0 [.int v, .int (nI n)] σ (some (.int (nI (lowN v n)))) σ := by
  refine Ct.of RL rfl (by decide) (Nat.le_of_ble_eq_true rfl) ?_
  intro x hL h hr
  refine g_sub [(0, .int v), (1, .int (nI n))] ⟨rfl, rfl, trivial⟩ ?_
  refine g_iload_n h dL_low_0 rfl ?_
  refine g_ldc h (2147483647) (lw_in 389 (by decide +kernel) rfl) dL_low_1 ?_
  refine g_iand h dL_low_3 ?_
  refine g_iload_n h dL_low_4 rfl ?_
  refine g_irem h dL_low_5 (by intro q; exact absurd ((nI_eq (b := 0) h31 (by decide)).mp q) (by omega)) ?_
  exact g_iret h hr dL_low_6 (by unfold lowN; rw [pk_and v 31 m31_b, pk_rem (Nat.lt_of_lt_of_le (Nat.mod_lt _ (by decide)) (Nat.le_refl _)) h0 h31]) rfl

set_option maxRecDepth 100000 in
set_option maxHeartbeats 4000000 in
theorem ct_L_cell {l : Launch} {X : fX} {σ : fM} {k : Nat} (hk : k < 2 ^ 30) (hLn : X.2.2.2.2.2.1 < 2 ^ 30) : Ct l X yL_cell cL_cell 2 (some .int) 0 [.ref (X.2.2.2.1 2), .int (nI k)] σ (some (.int (cellV X k))) σ := by
  refine Ct.of RL rfl (by decide) (Nat.le_of_ble_eq_true rfl) ?_
  intro x hL h hr
  refine g_sub [(0, .ref (X.2.2.2.1 2)), (1, .int (nI k))] ⟨rfl, rfl, trivial⟩ ?_
  refine g_iload_n h dL_cell_0 rfl ?_
  refine g_aload_n h dL_cell_1 rfl ?_
  refine g_slen h dL_cell_2 ?_
  refine g_icge h 12 dL_cell_3 (by decide) (fun c3 => ?_) (fun c3 => ?_)
  · have hge : ¬ k < X.2.2.2.2.2.1 := fun q => nI_ge q (by omega) c3
    refine g_ldc h (1266294381) (lw_in 384 (by decide +kernel) rfl) dL_cell_12 ?_
    refine g_iload_n h dL_cell_14 rfl ?_
    refine g_iconst (v := 1) h dL_cell_15 (by decide) ?_
    refine g_iadd h dL_cell_16 ?_
    refine g_imul h dL_cell_17 ?_
    refine g_ldc h (384901097) (lw_in 385 (by decide +kernel) rfl) dL_cell_18 ?_
    refine g_iadd h dL_cell_20 ?_
    exact g_iret h hr dL_cell_21 (by unfold cellV; first | (rw [if_pos hlt]; done) | (rw [if_neg hge]; done)) rfl
  · have hlt : k < X.2.2.2.2.2.1 := Nat.not_le.mp (fun q => c3 (nI_le q (by omega)))
    refine g_aload_n h dL_cell_6 rfl ?_
    refine g_iload_n h dL_cell_7 rfl ?_
    refine g_sld h hlt (by omega) dL_cell_8 ?_
    refine g_goto h 21 dL_cell_9 (by decide) ?_
    exact g_iret h hr dL_cell_21 (by unfold cellV; first | (rw [if_pos hlt]; done) | (rw [if_neg hge]; done)) rfl

set_option maxRecDepth 100000 in
set_option maxHeartbeats 4000000 in
theorem ct_L_table {l : Launch} {X : fX} {σ : fM} {b : Nat} {Q O T V w : Nat → Int32} (hb : bk X b) (hH : lK O) {k : Nat} (hk : k < 5) : Ct l X yL_table cL_table 2 (some .boolean) 0 [.int (nI k), ra X (oI b)] (put5 σ b Q O T V w) (some (.int (bi (oTab (ro O k))))) (put5 σ b Q O T V w) := by
  refine Ct.of RL rfl (by decide) (Nat.le_of_ble_eq_true rfl) ?_
  intro x hL h hr
  refine g_sub [(0, .int (nI k)), (1, ra X (oI b))] ⟨rfl, rfl, trivial⟩ ?_
  obtain ⟨⟨c, hc, ec⟩, -⟩ := hH k hk
  refine g_aload_n h dL_table_0 rfl ?_
  refine g_bipush (v := nI 10) h dL_table_1 (by decide) ?_
  refine g_iload_n h dL_table_3 rfl ?_
  refine g_imulN h dL_table_4 ?_
  refine g_ldo h hb (by omega) dL_table_5 ?_
  refine g_ifle h 23 dL_table_6 (by decide) (fun c6 => ?_) (fun c6 => ?_)
  · refine g_iconst (v := 0) h dL_table_23 (by decide) ?_
    exact g_zret h hr (by first | rfl | exact bi_n _) dL_table_24 (by first | (revert c6 c16; unfold oTab; rw [ro_0, ec]; rcases (show c = 0 ∨ c = 1 ∨ c = 2 ∨ c = 3 ∨ c = 4 by omega) with rfl | rfl | rfl | rfl | rfl <;> decide; done) | (revert c6; unfold oTab; rw [ro_0, ec]; rcases (show c = 0 ∨ c = 1 ∨ c = 2 ∨ c = 3 ∨ c = 4 by omega) with rfl | rfl | rfl | rfl | rfl <;> decide; done)) rfl
  · refine g_aload_n h dL_table_9 rfl ?_
    refine g_bipush (v := nI 10) h dL_table_10 (by decide) ?_
    refine g_iload_n h dL_table_12 rfl ?_
    refine g_imulN h dL_table_13 ?_
    refine g_ldo h hb (by omega) dL_table_14 ?_
    refine g_iconst (v := 4) h dL_table_15 (by decide) ?_
    refine g_icge h 23 dL_table_16 (by decide) (fun c16 => ?_) (fun c16 => ?_)
    · refine g_iconst (v := 0) h dL_table_23 (by decide) ?_
      exact g_zret h hr (by first | rfl | exact bi_n _) dL_table_24 (by first | (revert c6 c16; unfold oTab; rw [ro_0, ec]; rcases (show c = 0 ∨ c = 1 ∨ c = 2 ∨ c = 3 ∨ c = 4 by omega) with rfl | rfl | rfl | rfl | rfl <;> decide; done) | (revert c6; unfold oTab; rw [ro_0, ec]; rcases (show c = 0 ∨ c = 1 ∨ c = 2 ∨ c = 3 ∨ c = 4 by omega) with rfl | rfl | rfl | rfl | rfl <;> decide; done)) rfl
    · refine g_iconst (v := 1) h dL_table_19 (by decide) ?_
      refine g_goto h 24 dL_table_20 (by decide) ?_
      exact g_zret h hr (by first | rfl | exact bi_n _) dL_table_24 (by first | (revert c6 c16; unfold oTab; rw [ro_0, ec]; rcases (show c = 0 ∨ c = 1 ∨ c = 2 ∨ c = 3 ∨ c = 4 by omega) with rfl | rfl | rfl | rfl | rfl <;> decide; done) | (revert c6; unfold oTab; rw [ro_0, ec]; rcases (show c = 0 ∨ c = 1 ∨ c = 2 ∨ c = 3 ∨ c = 4 by omega) with rfl | rfl | rfl | rfl | rfl <;> decide; done)) rfl

set_option maxRecDepth 100000 in
set_option maxHeartbeats 4000000 in
theorem ct_L_index {l : Launch} {X : fX} {σ : fM} {b : Nat} {Q O T V w : Nat → Int32} (hb : bk X b) {k : Nat} (hk : k < 5) {a : Int32} : Ct l X yL_index cL_index 6 (some .int) 0 [.int (nI k), .int a, ra X (qI b), ra X (oI b)] (put5 σ b Q O T V w) (some (.int (oSlot (ro O k) a (Q 3)))) (put5 σ b Q O T V w) := by
  refine Ct.of RL rfl (by decide) (Nat.le_of_ble_eq_true rfl) ?_
  intro x hL h hr
  refine g_sub [(0, .int (nI k)), (1, .int a), (2, ra X (qI b)), (3, ra X (oI b))] ⟨rfl, rfl, rfl, rfl, trivial⟩ ?_
  refine g_iconst (v := 1) h dL_index_0 (by decide) ?_
  refine g_aload_n h dL_index_1 rfl ?_
  refine g_bipush (v := nI 10) h dL_index_2 (by decide) ?_
  refine g_iload_n h dL_index_4 rfl ?_
  refine g_imulN h dL_index_5 ?_
  refine g_iconst (v := nI 1) h dL_index_6 (by decide) ?_
  refine g_iaddN h dL_index_7 ?_
  refine g_ldo h hb (by omega) dL_index_8 ?_
  refine g_ishl h dL_index_9 ?_
  refine g_istore h dL_index_10 (by rw [hL]; decide) ?_
  refine g_aload_n h dL_index_12 rfl ?_
  refine g_bipush (v := nI 10) h dL_index_13 (by decide) ?_
  refine g_iload_n h dL_index_15 rfl ?_
  refine g_imulN h dL_index_16 ?_
  refine g_ldo h hb (by omega) dL_index_17 ?_
  refine g_iconst (v := 1) h dL_index_18 (by decide) ?_
  refine g_icne h 26 dL_index_19 (by decide) (fun c19 => ?_) (fun c19 => ?_)
  · refine g_aload_n h dL_index_26 rfl ?_
    refine g_bipush (v := nI 10) h dL_index_27 (by decide) ?_
    refine g_iload_n h dL_index_29 rfl ?_
    refine g_imulN h dL_index_30 ?_
    refine g_ldo h hb (by omega) dL_index_31 ?_
    refine g_iconst (v := 2) h dL_index_32 (by decide) ?_
    refine g_icne h 42 dL_index_33 (by decide) (fun c33 => ?_) (fun c33 => ?_)
    · refine g_iload_n h dL_index_42 rfl ?_
      refine g_aload_n h dL_index_43 rfl ?_
      refine g_iconst (v := nI 3) h dL_index_44 (by decide) ?_
      refine g_ldq h hb (by omega) dL_index_45 ?_
      refine g_ixor h dL_index_46 ?_
      refine g_istore h dL_index_47 (by rw [hL]; decide) ?_
      refine g_iload h dL_index_49 rfl ?_
      refine g_iload h dL_index_51 rfl ?_
      refine g_iconst (v := 1) h dL_index_53 (by decide) ?_
      refine g_isub h dL_index_54 ?_
      refine g_iand h dL_index_55 ?_
      exact g_iret h hr dL_index_56 (by first | (simp [oSlot, oMask, ro, c19, c33]; done) | (simp_all [oSlot, oMask, ro]; done)) rfl
    · refine g_aload_n h dL_index_36 rfl ?_
      refine g_iconst (v := nI 3) h dL_index_37 (by decide) ?_
      refine g_ldq h hb (by omega) dL_index_38 ?_
      refine g_goto h 47 dL_index_39 (by decide) ?_
      refine g_istore h dL_index_47 (by rw [hL]; decide) ?_
      refine g_iload h dL_index_49 rfl ?_
      refine g_iload h dL_index_51 rfl ?_
      refine g_iconst (v := 1) h dL_index_53 (by decide) ?_
      refine g_isub h dL_index_54 ?_
      refine g_iand h dL_index_55 ?_
      exact g_iret h hr dL_index_56 (by first | (simp [oSlot, oMask, ro, c19, c33]; done) | (simp_all [oSlot, oMask, ro]; done)) rfl
  · refine g_iload_n h dL_index_22 rfl ?_
    refine g_goto h 47 dL_index_23 (by decide) ?_
    refine g_istore h dL_index_47 (by rw [hL]; decide) ?_
    refine g_iload h dL_index_49 rfl ?_
    refine g_iload h dL_index_51 rfl ?_
    refine g_iconst (v := 1) h dL_index_53 (by decide) ?_
    refine g_isub h dL_index_54 ?_
    refine g_iand h dL_index_55 ?_
    exact g_iret h hr dL_index_56 (by first | (simp [oSlot, oMask, ro, c19]; done) | (simp_all [oSlot, oMask, ro]; done)) rfl

set_option maxRecDepth 100000 in
set_option maxHeartbeats 4000000 in
theorem ct_L_in {l : Launch} {X : fX} {σ : fM} {b : Nat} {Q O T V w : Nat → Int32} (hb : bk X b) (hH : lH O T) {k : Nat} (hk : k < 5) : Ct l X yL_in cL_in 2 (some .boolean) 0 [.int (nI k), ra X (oI b)] (put5 σ b Q O T V w) (some (.int (bi (oIn (ro O k))))) (put5 σ b Q O T V w) := by
  refine Ct.of RL rfl (by decide) (Nat.le_of_ble_eq_true rfl) ?_
  intro x hL h hr
  refine g_sub [(0, .int (nI k)), (1, ra X (oI b))] ⟨rfl, rfl, trivial⟩ ?_
  obtain ⟨e3, e2⟩ := lH_s hH hk
  refine g_aload_n h dL_in_0 rfl ?_
  refine g_bipush (v := nI 10) h dL_in_1 (by decide) ?_
  refine g_iload_n h dL_in_3 rfl ?_
  refine g_imulN h dL_in_4 ?_
  refine g_iconst (v := nI 3) h dL_in_5 (by decide) ?_
  refine g_iaddN h dL_in_6 ?_
  refine g_ldo h hb (by omega) dL_in_7 ?_
  refine g_iflt h 26 dL_in_8 (by decide) (fun c8 => ?_) (fun c8 => ?_)
  · refine g_iconst (v := 0) h dL_in_26 (by decide) ?_
    exact g_zret h hr (by first | rfl | exact bi_n _) dL_in_27 (by unfold oIn oSeat oRuin; rw [ro_p, ro_p]; first | (rw [e3] at c8; rw [e2] at c19; simp [bi, c8, c19]; done) | (rw [e3] at c8; simp [bi, c8]; done)) rfl
  · refine g_aload_n h dL_in_11 rfl ?_
    refine g_bipush (v := nI 10) h dL_in_12 (by decide) ?_
    refine g_iload_n h dL_in_14 rfl ?_
    refine g_imulN h dL_in_15 ?_
    refine g_iconst (v := nI 2) h dL_in_16 (by decide) ?_
    refine g_iaddN h dL_in_17 ?_
    refine g_ldo h hb (by omega) dL_in_18 ?_
    refine g_ifle h 26 dL_in_19 (by decide) (fun c19 => ?_) (fun c19 => ?_)
    · refine g_iconst (v := 0) h dL_in_26 (by decide) ?_
      exact g_zret h hr (by first | rfl | exact bi_n _) dL_in_27 (by unfold oIn oSeat oRuin; rw [ro_p, ro_p]; first | (rw [e3] at c8; rw [e2] at c19; simp [bi, c8, c19]; done) | (rw [e3] at c8; simp [bi, c8]; done)) rfl
    · refine g_iconst (v := 1) h dL_in_22 (by decide) ?_
      refine g_goto h 27 dL_in_23 (by decide) ?_
      exact g_zret h hr (by first | rfl | exact bi_n _) dL_in_27 (by unfold oIn oSeat oRuin; rw [ro_p, ro_p]; first | (rw [e3] at c8; rw [e2] at c19; simp [bi, c8, c19]; done) | (rw [e3] at c8; simp [bi, c8]; done)) rfl


theorem word_0 {O T : Nat → Int32} {k : Nat} (h : O (10 * k) = 0) (t : Nat → Int32) (a hi : Int32) : O (10 * k + 1) = oWord (ro O k) t a hi := by
  unfold oWord
  rw [tab_k (c := 0) (by decide) (show ro O k 0 = nI 0 from h), if_neg (by decide)]
  rfl
theorem word_t {O T : Nat → Int32} (hH : lH O T) {k js : Nat} (hk : k < 5) (h0 : ¬ O (10 * k) = 0) (h4 : ¬ O (10 * k) = 4) {a hi : Int32} (hj : js < 8) (e : oSlot (ro O k) a hi = nI js) : T (8 * k + js) / 2 = oWord (ro O k) (rt T k) a hi ∧ oTab (ro O k) = true := by
  obtain ⟨⟨c, hc, ec⟩, -, -, -, hq⟩ := hH k hk
  have c0 : c ≠ 0 := fun q => h0 (by rw [ec, q]; rfl)
  have c4 : c ≠ 4 := fun q => h4 (by rw [ec, q]; rfl)
  have ht : oTab (ro O k) = true := by
    rw [tab_k hc (show ro O k 0 = nI c from ec), decide_eq_true (by omega), decide_eq_true (by omega)]; rfl
  refine ⟨?_, ht⟩
  unfold oWord
  rw [if_pos ht, e, nI_clamp (by omega), rt_q]
  exact half_v (hq js hj)

set_option maxRecDepth 100000 in
set_option maxHeartbeats 4000000 in
theorem ct_L_says4 {l : Launch} {X : fX} {σ : fM} {b : Nat} {Q O T V w : Nat → Int32} (hb : bk X b) (hH : lH O T) {k : Nat} (hk : k < 5) {a : Int32} (hne : ¬ O (10 * k) = 4) : Ct l X yL_says4 cL_says4 5 (some .int) 1 [.int (nI k), .int a, ra X (qI b), ra X (oI b), ra X (tI b)] (put5 σ b Q O T V w) (some (.int (lW Q O T a k))) (put5 σ b Q O T V w) := by
  refine Ct.of RL rfl (by decide) (Nat.le_of_ble_eq_true rfl) ?_
  intro x hL h hr
  refine g_sub [(0, .int (nI k)), (1, .int a), (2, ra X (qI b)), (3, ra X (oI b)), (4, ra X (tI b))] ⟨rfl, rfl, rfl, rfl, rfl, trivial⟩ ?_
  obtain ⟨js, hjs, ejs⟩ := lSlot hH.K hk a (Q 3)
  refine g_aload_n h dL_says4_0 rfl ?_
  refine g_bipush (v := nI 10) h dL_says4_1 (by decide) ?_
  refine g_iload_n h dL_says4_3 rfl ?_
  refine g_imulN h dL_says4_4 ?_
  refine g_ldo h hb (by omega) dL_says4_5 ?_
  refine g_ifne h 20 dL_says4_6 (by decide) (fun c6 => ?_) (fun c6 => ?_)
  · refine g_aload h dL_says4_20 rfl ?_
    refine g_bipush (v := nI 8) h dL_says4_22 (by decide) ?_
    refine g_iload_n h dL_says4_24 rfl ?_
    refine g_imulN h dL_says4_25 ?_
    refine g_iload_n h dL_says4_26 rfl ?_
    refine g_iload_n h dL_says4_27 rfl ?_
    refine g_aload_n h dL_says4_28 rfl ?_
    refine g_aload_n h dL_says4_29 rfl ?_
    refine clL_10 h (ct_L_index hb hk) rfl dL_says4_30 rfl (Nat.le_of_ble_eq_true rfl) (by decide) ?_
    refine g_top (nI js) ejs ?_
    refine g_iaddN h dL_says4_33 ?_
    refine g_ldt h hb (by omega) dL_says4_34 ?_
    refine g_iconst (v := 2) h dL_says4_35 (by decide) ?_
    refine g_idiv h dL_says4_36 (by decide) ?_
    exact g_iret h hr dL_says4_37 (by unfold lW; first | exact word_0 (T := T) c6 _ _ _ | exact (word_t hH hk c6 hne hjs ejs).1) rfl
  · refine g_aload_n h dL_says4_9 rfl ?_
    refine g_bipush (v := nI 10) h dL_says4_10 (by decide) ?_
    refine g_iload_n h dL_says4_12 rfl ?_
    refine g_imulN h dL_says4_13 ?_
    refine g_iconst (v := nI 1) h dL_says4_14 (by decide) ?_
    refine g_iaddN h dL_says4_15 ?_
    refine g_ldo h hb (by omega) dL_says4_16 ?_
    refine g_goto h 37 dL_says4_17 (by decide) ?_
    exact g_iret h hr dL_says4_37 (by unfold lW; first | exact word_0 (T := T) c6 _ _ _ | exact (word_t hH hk c6 hne hjs ejs).1) rfl

set_option maxRecDepth 100000 in
set_option maxHeartbeats 4000000 in
theorem ct_L_says {l : Launch} {X : fX} {σ : fM} {b : Nat} {Q O T V w : Nat → Int32} (hb : bk X b) (hH : lH O T) {k : Nat} (hk : k < 5) {a : Int32} : Ct l X yL_says cL_says 8 (some .int) 2 [.int (nI k), .int a, ra X (qI b), ra X (oI b), ra X (tI b)] (put5 σ b Q O T V w) (some (.int (lY Q O T a k))) (put5 σ b Q O T V w) := by
  refine Ct.of RL rfl (by decide) (Nat.le_of_ble_eq_true rfl) ?_
  intro x hL h hr
  refine g_sub [(0, .int (nI k)), (1, .int a), (2, ra X (qI b)), (3, ra X (oI b)), (4, ra X (tI b))] ⟨rfl, rfl, rfl, rfl, rfl, trivial⟩ ?_
  obtain ⟨js, hjs, ejs⟩ := lSlot hH.K hk a (Q 3)
  refine g_aload_n h dL_says_0 rfl ?_
  refine g_bipush (v := nI 10) h dL_says_1 (by decide) ?_
  refine g_iload_n h dL_says_3 rfl ?_
  refine g_imulN h dL_says_4 ?_
  refine g_ldo h hb (by omega) dL_says_5 ?_
  refine g_ifne h 18 dL_says_6 (by decide) (fun c6 => ?_) (fun c6 => ?_)
  · refine g_aload_n h dL_says_18 rfl ?_
    refine g_bipush (v := nI 10) h dL_says_19 (by decide) ?_
    refine g_iload_n h dL_says_21 rfl ?_
    refine g_imulN h dL_says_22 ?_
    refine g_ldo h hb (by omega) dL_says_23 ?_
    refine g_iconst (v := 4) h dL_says_24 (by decide) ?_
    refine g_icge h 46 dL_says_25 (by decide) (fun c25 => ?_) (fun c25 => ?_)
    · have e4 : O (10 * k) = 4 := by
        obtain ⟨⟨c, hc, ec⟩, -⟩ := hH k hk
        revert c25
        rw [ec]
        rcases (show c = 0 ∨ c = 1 ∨ c = 2 ∨ c = 3 ∨ c = 4 by omega) with rfl | rfl | rfl | rfl | rfl <;> decide
      have LOOP : ∀ (q i : Nat), i + q = 5 → G x X (put5 σ b Q O T V w) [(0, .int (nI k)), (1, .int a), (2, ra X (qI b)), (3, ra X (oI b)), (4, ra X (tI b)), (5, .int (lC1 Q O T a i)), (6, .int (lC0 Q O T a i)), (7, .int (nI i))] [] 55 := by
        intro q
        induction q with
        | zero =>
          intro i hi 
          have hie : i = 5 := by omega
          rw [hie]
          refine g_iload h dL_says_55 rfl ?_
          refine g_iconst (v := nI 5) h dL_says_57 (by decide) ?_
          refine g_icge h 135 dL_says_58 (by decide) (fun c58 => ?_) (fun c58 => absurd (Int32.le_refl _) c58)
          refine g_iload h dL_says_135 rfl ?_
          refine g_iload h dL_says_137 rfl ?_
          refine g_icle h 146 dL_says_139 (by decide) (fun c139 => ?_) (fun c139 => ?_)
          · refine g_iconst (v := 0) h dL_says_146 (by decide) ?_
            exact g_iret h hr dL_says_147 (by unfold lY; rw [if_pos e4]; first | (rw [if_pos c139]; done) | (rw [if_neg c139]; done)) rfl
          · refine g_iconst (v := 1) h dL_says_142 (by decide) ?_
            refine g_goto h 147 dL_says_143 (by decide) ?_
            exact g_iret h hr dL_says_147 (by unfold lY; rw [if_pos e4]; first | (rw [if_pos c139]; done) | (rw [if_neg c139]; done)) rfl
        | succ q ih =>
          intro i hi 
          have hlt : i < 5 := by omega
          refine g_iload h dL_says_55 rfl ?_
          refine g_iconst (v := nI 5) h dL_says_57 (by decide) ?_
          refine g_icge h 135 dL_says_58 (by decide) (fun c58 => absurd c58 (nI_ge hlt (by decide))) (fun c58 => ?_)
          refine g_aload_n h dL_says_61 rfl ?_
          refine g_bipush (v := nI 10) h dL_says_62 (by decide) ?_
          refine g_iload h dL_says_64 rfl ?_
          refine g_imulN h dL_says_66 ?_
          refine g_ldo h hb (by omega) dL_says_67 ?_
          refine g_iconst (v := 4) h dL_says_68 (by decide) ?_
          refine g_iceq h 129 dL_says_69 (by decide) (fun c69 => ?_) (fun c69 => ?_)
          · refine g_iincN h dL_says_129 rfl (by rw [hL]; decide) ?_
            refine g_goto h 55 dL_says_132 (by decide) ?_
            refine g_sub [(0, .int (nI k)), (1, .int a), (2, ra X (qI b)), (3, ra X (oI b)), (4, ra X (tI b)), (5, .int (lC1 Q O T a (i + 1))), (6, .int (lC0 Q O T a (i + 1))), (7, .int (nI (i + 1)))] ⟨rfl, rfl, rfl, rfl, rfl, (congrArg (fun z => some (Value.int z)) (by show _ = lC1 Q O T a i + (if _ then _ else _); first | (simp [c58, c69]; done) | (simp_all; done))), (congrArg (fun z => some (Value.int z)) (by show _ = lC0 Q O T a i + (if _ then _ else _); first | (simp [c58, c69]; done) | (simp_all; done))), rfl, trivial⟩ ?_
            exact ih (i + 1) (by omega)
          · refine g_iload h dL_says_72 rfl ?_
            refine g_aload_n h dL_says_74 rfl ?_
            refine clL_16 h (ct_L_in hb hH (by omega)) rfl dL_says_75 rfl (Nat.le_of_ble_eq_true rfl) (by decide) ?_
            refine g_ifneB h 84 dL_says_78 (by decide) (fun c78 => ?_) (fun c78 => ?_)
            · refine g_iload h dL_says_84 rfl ?_
              refine g_iload_n h dL_says_86 rfl ?_
              refine g_aload_n h dL_says_87 rfl ?_
              refine g_aload_n h dL_says_88 rfl ?_
              refine g_aload h dL_says_89 rfl ?_
              refine clL_20 h (ct_L_says4 hb hH (by omega) c69) rfl dL_says_91 rfl (Nat.le_of_ble_eq_true rfl) (by decide) ?_
              refine g_iconst (v := 1) h dL_says_94 (by decide) ?_
              refine g_icne h 115 dL_says_95 (by decide) (fun c95 => ?_) (fun c95 => ?_)
              · refine g_iload h dL_says_115 rfl ?_
                refine g_aload_n h dL_says_117 rfl ?_
                refine g_bipush (v := nI 10) h dL_says_118 (by decide) ?_
                refine g_iload h dL_says_120 rfl ?_
                refine g_imulN h dL_says_122 ?_
                refine g_iconst (v := nI 2) h dL_says_123 (by decide) ?_
                refine g_iaddN h dL_says_124 ?_
                refine g_ldo h hb (by omega) dL_says_125 ?_
                refine g_iadd h dL_says_126 ?_
                refine g_istore h dL_says_127 (by rw [hL]; decide) ?_
                refine g_iincN h dL_says_129 rfl (by rw [hL]; decide) ?_
                refine g_goto h 55 dL_says_132 (by decide) ?_
                refine g_sub [(0, .int (nI k)), (1, .int a), (2, ra X (qI b)), (3, ra X (oI b)), (4, ra X (tI b)), (5, .int (lC1 Q O T a (i + 1))), (6, .int (lC0 Q O T a (i + 1))), (7, .int (nI (i + 1)))] ⟨rfl, rfl, rfl, rfl, rfl, (congrArg (fun z => some (Value.int z)) (by show _ = lC1 Q O T a i + (if _ then _ else _); first | (simp [c58, c69, c78, c95]; done) | (simp_all; done))), (congrArg (fun z => some (Value.int z)) (by show _ = lC0 Q O T a i + (if _ then _ else _); first | (simp [c58, c69, c78, c95]; done) | (simp_all; done))), rfl, trivial⟩ ?_
                exact ih (i + 1) (by omega)
              · refine g_iload h dL_says_98 rfl ?_
                refine g_aload_n h dL_says_100 rfl ?_
                refine g_bipush (v := nI 10) h dL_says_101 (by decide) ?_
                refine g_iload h dL_says_103 rfl ?_
                refine g_imulN h dL_says_105 ?_
                refine g_iconst (v := nI 2) h dL_says_106 (by decide) ?_
                refine g_iaddN h dL_says_107 ?_
                refine g_ldo h hb (by omega) dL_says_108 ?_
                refine g_iadd h dL_says_109 ?_
                refine g_istore h dL_says_110 (by rw [hL]; decide) ?_
                refine g_goto h 129 dL_says_112 (by decide) ?_
                refine g_iincN h dL_says_129 rfl (by rw [hL]; decide) ?_
                refine g_goto h 55 dL_says_132 (by decide) ?_
                refine g_sub [(0, .int (nI k)), (1, .int a), (2, ra X (qI b)), (3, ra X (oI b)), (4, ra X (tI b)), (5, .int (lC1 Q O T a (i + 1))), (6, .int (lC0 Q O T a (i + 1))), (7, .int (nI (i + 1)))] ⟨rfl, rfl, rfl, rfl, rfl, (congrArg (fun z => some (Value.int z)) (by show _ = lC1 Q O T a i + (if _ then _ else _); first | (simp [c58, c69, c78, c95]; done) | (simp_all; done))), (congrArg (fun z => some (Value.int z)) (by show _ = lC0 Q O T a i + (if _ then _ else _); first | (simp [c58, c69, c78, c95]; done) | (simp_all; done))), rfl, trivial⟩ ?_
                exact ih (i + 1) (by omega)
            · refine g_goto h 129 dL_says_81 (by decide) ?_
              refine g_iincN h dL_says_129 rfl (by rw [hL]; decide) ?_
              refine g_goto h 55 dL_says_132 (by decide) ?_
              refine g_sub [(0, .int (nI k)), (1, .int a), (2, ra X (qI b)), (3, ra X (oI b)), (4, ra X (tI b)), (5, .int (lC1 Q O T a (i + 1))), (6, .int (lC0 Q O T a (i + 1))), (7, .int (nI (i + 1)))] ⟨rfl, rfl, rfl, rfl, rfl, (congrArg (fun z => some (Value.int z)) (by show _ = lC1 Q O T a i + (if _ then _ else _); first | (simp [c58, c69, c78]; done) | (simp_all; done))), (congrArg (fun z => some (Value.int z)) (by show _ = lC0 Q O T a i + (if _ then _ else _); first | (simp [c58, c69, c78]; done) | (simp_all; done))), rfl, trivial⟩ ?_
              exact ih (i + 1) (by omega)
      refine g_iconst (v := 0) h dL_says_46 (by decide) ?_
      refine g_istore h dL_says_47 (by rw [hL]; decide) ?_
      refine g_iconst (v := 0) h dL_says_49 (by decide) ?_
      refine g_istore h dL_says_50 (by rw [hL]; decide) ?_
      refine g_iconst (v := nI 0) h dL_says_52 (by decide) ?_
      refine g_istore h dL_says_53 (by rw [hL]; decide) ?_
      refine g_sub [(0, .int (nI k)), (1, .int a), (2, ra X (qI b)), (3, ra X (oI b)), (4, ra X (tI b)), (5, .int (lC1 Q O T a 0)), (6, .int (lC0 Q O T a 0)), (7, .int (nI 0))] ⟨rfl, rfl, rfl, rfl, rfl, rfl, rfl, rfl, trivial⟩ ?_
      exact LOOP 5 0 (by omega)
    · have h4 : ¬ O (10 * k) = 4 := fun q => c25 (by rw [q]; exact Int32.le_refl _)
      refine g_aload h dL_says_28 rfl ?_
      refine g_bipush (v := nI 8) h dL_says_30 (by decide) ?_
      refine g_iload_n h dL_says_32 rfl ?_
      refine g_imulN h dL_says_33 ?_
      refine g_iload_n h dL_says_34 rfl ?_
      refine g_iload_n h dL_says_35 rfl ?_
      refine g_aload_n h dL_says_36 rfl ?_
      refine g_aload_n h dL_says_37 rfl ?_
      refine clL_10 h (ct_L_index hb hk) rfl dL_says_38 rfl (Nat.le_of_ble_eq_true rfl) (by decide) ?_
      refine g_top (nI js) ejs ?_
      refine g_iaddN h dL_says_41 ?_
      refine g_ldt h hb (by omega) dL_says_42 ?_
      refine g_iconst (v := 2) h dL_says_43 (by decide) ?_
      refine g_idiv h dL_says_44 (by decide) ?_
      exact g_iret h hr dL_says_45 (by unfold lY; first | (rw [if_neg (show ¬ O (10 * k) = 4 by rw [c6]; decide)]; unfold lW; exact word_0 (T := T) c6 _ _ _) | (rw [if_neg h4]; unfold lW; exact (word_t hH hk c6 h4 hjs ejs).1)) rfl
  · refine g_aload_n h dL_says_9 rfl ?_
    refine g_bipush (v := nI 10) h dL_says_10 (by decide) ?_
    refine g_iload_n h dL_says_12 rfl ?_
    refine g_imulN h dL_says_13 ?_
    refine g_iconst (v := nI 1) h dL_says_14 (by decide) ?_
    refine g_iaddN h dL_says_15 ?_
    refine g_ldo h hb (by omega) dL_says_16 ?_
    exact g_iret h hr dL_says_17 (by unfold lY; first | (rw [if_neg (show ¬ O (10 * k) = 4 by rw [c6]; decide)]; unfold lW; exact word_0 (T := T) c6 _ _ _) | (rw [if_neg h4]; unfold lW; exact (word_t hH hk c6 h4 hjs ejs).1)) rfl

set_option maxRecDepth 100000 in
set_option maxHeartbeats 4000000 in
theorem ct_L_stake {l : Launch} {X : fX} {σ : fM} {b : Nat} {Q O T V w : Nat → Int32} (hb : bk X b) (hH : lH O T) {k : Nat} (hk : k < 5) {a : Int32} : Ct l X yL_stake cL_stake 7 (some .int) 1 [.int (nI k), .int a, ra X (qI b), ra X (oI b), ra X (tI b)] (put5 σ b Q O T V w) (some (.int (lS Q O T a k))) (put5 σ b Q O T V w) := by
  refine Ct.of RL rfl (by decide) (Nat.le_of_ble_eq_true rfl) ?_
  intro x hL h hr
  refine g_sub [(0, .int (nI k)), (1, .int a), (2, ra X (qI b)), (3, ra X (oI b)), (4, ra X (tI b))] ⟨rfl, rfl, rfl, rfl, rfl, trivial⟩ ?_
  obtain ⟨js, hjs, ejs⟩ := lSlot hH.K hk a (Q 3)
  refine g_iload_n h dL_stake_0 rfl ?_
  refine g_aload_n h dL_stake_1 rfl ?_
  refine clL_16 h (ct_L_in hb hH hk) rfl dL_stake_2 rfl (Nat.le_of_ble_eq_true rfl) (by decide) ?_
  refine g_ifneB h 10 dL_stake_5 (by decide) (fun c5 => ?_) (fun c5 => ?_)
  · refine g_aload_n h dL_stake_10 rfl ?_
    refine g_iconst (v := nI 0) h dL_stake_11 (by decide) ?_
    refine g_ldq h hb (by omega) dL_stake_12 ?_
    refine g_istore h dL_stake_13 (by rw [hL]; decide) ?_
    refine g_iload_n h dL_stake_15 rfl ?_
    refine g_aload_n h dL_stake_16 rfl ?_
    refine clL_24 h (ct_L_table hb hH.K hk) rfl dL_stake_17 rfl (Nat.le_of_ble_eq_true rfl) (by decide) ?_
    refine g_ifeqB h 62 dL_stake_20 (by decide) (fun c20 => ?_) (fun c20 => ?_)
    · refine g_iload h dL_stake_62 rfl ?_
      refine g_aload_n h dL_stake_64 rfl ?_
      refine g_bipush (v := nI 10) h dL_stake_65 (by decide) ?_
      refine g_iload_n h dL_stake_67 rfl ?_
      refine g_imulN h dL_stake_68 ?_
      refine g_iconst (v := nI 2) h dL_stake_69 (by decide) ?_
      refine g_iaddN h dL_stake_70 ?_
      refine g_ldo h hb (by omega) dL_stake_71 ?_
      refine g_icle h 86 dL_stake_72 (by decide) (fun c72 => ?_) (fun c72 => ?_)
      · refine g_iload h dL_stake_86 rfl ?_
        exact g_iret h hr dL_stake_88 (by unfold lS oStake oSure; rw [min_comm]; simp only [ejs, nI_clamp (show js < 2 ^ 31 by omega), rt_q, ro_p]; first | (simp [c5, c20, c72]; done) | (simp_all; done)) rfl
      · refine g_aload_n h dL_stake_75 rfl ?_
        refine g_bipush (v := nI 10) h dL_stake_76 (by decide) ?_
        refine g_iload_n h dL_stake_78 rfl ?_
        refine g_imulN h dL_stake_79 ?_
        refine g_iconst (v := nI 2) h dL_stake_80 (by decide) ?_
        refine g_iaddN h dL_stake_81 ?_
        refine g_ldo h hb (by omega) dL_stake_82 ?_
        refine g_goto h 88 dL_stake_83 (by decide) ?_
        exact g_iret h hr dL_stake_88 (by unfold lS oStake oSure; rw [min_comm]; simp only [ejs, nI_clamp (show js < 2 ^ 31 by omega), rt_q, ro_p]; first | (simp [c5, c20, c72]; done) | (simp_all; done)) rfl
    · refine g_aload h dL_stake_23 rfl ?_
      refine g_bipush (v := nI 8) h dL_stake_25 (by decide) ?_
      refine g_iload_n h dL_stake_27 rfl ?_
      refine g_imulN h dL_stake_28 ?_
      refine g_iload_n h dL_stake_29 rfl ?_
      refine g_iload_n h dL_stake_30 rfl ?_
      refine g_aload_n h dL_stake_31 rfl ?_
      refine g_aload_n h dL_stake_32 rfl ?_
      refine clL_10 h (ct_L_index hb hk) rfl dL_stake_33 rfl (Nat.le_of_ble_eq_true rfl) (by decide) ?_
      refine g_top (nI js) ejs ?_
      refine g_iaddN h dL_stake_36 ?_
      refine g_ldt h hb (by omega) dL_stake_37 ?_
      refine g_istore h dL_stake_38 (by rw [hL]; decide) ?_
      refine g_iload h dL_stake_40 rfl ?_
      refine g_ifeq h 51 dL_stake_42 (by decide) (fun c42 => ?_) (fun c42 => ?_)
      · refine g_iconst (v := 2) h dL_stake_51 (by decide) ?_
        refine g_iload h dL_stake_52 rfl ?_
        refine g_imul h dL_stake_54 ?_
        refine g_goto h 60 dL_stake_55 (by decide) ?_
        refine g_istore h dL_stake_60 (by rw [hL]; decide) ?_
        refine g_iload h dL_stake_62 rfl ?_
        refine g_aload_n h dL_stake_64 rfl ?_
        refine g_bipush (v := nI 10) h dL_stake_65 (by decide) ?_
        refine g_iload_n h dL_stake_67 rfl ?_
        refine g_imulN h dL_stake_68 ?_
        refine g_iconst (v := nI 2) h dL_stake_69 (by decide) ?_
        refine g_iaddN h dL_stake_70 ?_
        refine g_ldo h hb (by omega) dL_stake_71 ?_
        refine g_icle h 86 dL_stake_72 (by decide) (fun c72 => ?_) (fun c72 => ?_)
        · refine g_iload h dL_stake_86 rfl ?_
          exact g_iret h hr dL_stake_88 (by unfold lS oStake oSure; rw [min_comm]; simp only [ejs, nI_clamp (show js < 2 ^ 31 by omega), rt_q, ro_p]; first | (simp [c5, c20, c42, c72]; done) | (simp_all; done)) rfl
        · refine g_aload_n h dL_stake_75 rfl ?_
          refine g_bipush (v := nI 10) h dL_stake_76 (by decide) ?_
          refine g_iload_n h dL_stake_78 rfl ?_
          refine g_imulN h dL_stake_79 ?_
          refine g_iconst (v := nI 2) h dL_stake_80 (by decide) ?_
          refine g_iaddN h dL_stake_81 ?_
          refine g_ldo h hb (by omega) dL_stake_82 ?_
          refine g_goto h 88 dL_stake_83 (by decide) ?_
          exact g_iret h hr dL_stake_88 (by unfold lS oStake oSure; rw [min_comm]; simp only [ejs, nI_clamp (show js < 2 ^ 31 by omega), rt_q, ro_p]; first | (simp [c5, c20, c42, c72]; done) | (simp_all; done)) rfl
      · refine g_iload h dL_stake_45 rfl ?_
        refine g_iconst (v := 3) h dL_stake_47 (by decide) ?_
        refine g_icne h 58 dL_stake_48 (by decide) (fun c48 => ?_) (fun c48 => ?_)
        · refine g_iload h dL_stake_58 rfl ?_
          refine g_istore h dL_stake_60 (by rw [hL]; decide) ?_
          refine g_iload h dL_stake_62 rfl ?_
          refine g_aload_n h dL_stake_64 rfl ?_
          refine g_bipush (v := nI 10) h dL_stake_65 (by decide) ?_
          refine g_iload_n h dL_stake_67 rfl ?_
          refine g_imulN h dL_stake_68 ?_
          refine g_iconst (v := nI 2) h dL_stake_69 (by decide) ?_
          refine g_iaddN h dL_stake_70 ?_
          refine g_ldo h hb (by omega) dL_stake_71 ?_
          refine g_icle h 86 dL_stake_72 (by decide) (fun c72 => ?_) (fun c72 => ?_)
          · refine g_iload h dL_stake_86 rfl ?_
            exact g_iret h hr dL_stake_88 (by unfold lS oStake oSure; rw [min_comm]; simp only [ejs, nI_clamp (show js < 2 ^ 31 by omega), rt_q, ro_p]; first | (simp [c5, c20, c42, c48, c72]; done) | (simp_all; done)) rfl
          · refine g_aload_n h dL_stake_75 rfl ?_
            refine g_bipush (v := nI 10) h dL_stake_76 (by decide) ?_
            refine g_iload_n h dL_stake_78 rfl ?_
            refine g_imulN h dL_stake_79 ?_
            refine g_iconst (v := nI 2) h dL_stake_80 (by decide) ?_
            refine g_iaddN h dL_stake_81 ?_
            refine g_ldo h hb (by omega) dL_stake_82 ?_
            refine g_goto h 88 dL_stake_83 (by decide) ?_
            exact g_iret h hr dL_stake_88 (by unfold lS oStake oSure; rw [min_comm]; simp only [ejs, nI_clamp (show js < 2 ^ 31 by omega), rt_q, ro_p]; first | (simp [c5, c20, c42, c48, c72]; done) | (simp_all; done)) rfl
        · refine g_iconst (v := 2) h dL_stake_51 (by decide) ?_
          refine g_iload h dL_stake_52 rfl ?_
          refine g_imul h dL_stake_54 ?_
          refine g_goto h 60 dL_stake_55 (by decide) ?_
          refine g_istore h dL_stake_60 (by rw [hL]; decide) ?_
          refine g_iload h dL_stake_62 rfl ?_
          refine g_aload_n h dL_stake_64 rfl ?_
          refine g_bipush (v := nI 10) h dL_stake_65 (by decide) ?_
          refine g_iload_n h dL_stake_67 rfl ?_
          refine g_imulN h dL_stake_68 ?_
          refine g_iconst (v := nI 2) h dL_stake_69 (by decide) ?_
          refine g_iaddN h dL_stake_70 ?_
          refine g_ldo h hb (by omega) dL_stake_71 ?_
          refine g_icle h 86 dL_stake_72 (by decide) (fun c72 => ?_) (fun c72 => ?_)
          · refine g_iload h dL_stake_86 rfl ?_
            exact g_iret h hr dL_stake_88 (by unfold lS oStake oSure; rw [min_comm]; simp only [ejs, nI_clamp (show js < 2 ^ 31 by omega), rt_q, ro_p]; first | (simp [c5, c20, c42, c48, c72]; done) | (simp_all; done)) rfl
          · refine g_aload_n h dL_stake_75 rfl ?_
            refine g_bipush (v := nI 10) h dL_stake_76 (by decide) ?_
            refine g_iload_n h dL_stake_78 rfl ?_
            refine g_imulN h dL_stake_79 ?_
            refine g_iconst (v := nI 2) h dL_stake_80 (by decide) ?_
            refine g_iaddN h dL_stake_81 ?_
            refine g_ldo h hb (by omega) dL_stake_82 ?_
            refine g_goto h 88 dL_stake_83 (by decide) ?_
            exact g_iret h hr dL_stake_88 (by unfold lS oStake oSure; rw [min_comm]; simp only [ejs, nI_clamp (show js < 2 ^ 31 by omega), rt_q, ro_p]; first | (simp [c5, c20, c42, c48, c72]; done) | (simp_all; done)) rfl
  · refine g_iconst (v := 0) h dL_stake_8 (by decide) ?_
    exact g_iret h hr dL_stake_9 (by unfold lS oStake oSure; rw [min_comm]; simp only [ejs, nI_clamp (show js < 2 ^ 31 by omega), rt_q, ro_p]; first | (simp [c5]; done) | (simp_all; done)) rfl
