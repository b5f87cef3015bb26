/-! the model: r is its row of numbers (cell 151) -/
theorem nI_xor (a b : Nat) : nI a ^^^ nI b = nI (a ^^^ b) := by
  apply Int32.toBitVec_inj.1
  show BitVec.ofNat 32 a ^^^ BitVec.ofNat 32 b = BitVec.ofNat 32 (a ^^^ b)
  apply BitVec.eq_of_getLsbD_eq
  intro i hi
  simp [hi]
def mo (r : Nat → Int32) (i p : Nat) : Int32 := r (73 + 42 * i + p)
def mt (r : Nat → Int32) (i q : Nat) : Int32 := r (73 + 42 * i + (10 + q))
def ml (r : Nat → Int32) (l p : Nat) : Int32 := r (325 + 3 * l + p)
theorem m_ix (i p : Nat) : (73 : Int32) + 42 * nI i + nI p = nI (73 + 42 * i + p) := by
  rw [show (73 : Int32) = nI 73 by decide, show (42 : Int32) = nI 42 by decide, pk_mul, nI_add, nI_add]
theorem m_il (i p : Nat) : (325 : Int32) + 3 * nI i + nI p = nI (325 + 3 * i + p) := by
  rw [show (325 : Int32) = nI 325 by decide, show (3 : Int32) = nI 3 by decide, pk_mul, nI_add, nI_add]
theorem ten_add (j : Nat) : (10 : Int32) + nI j = nI (10 + j) := by rw [show (10 : Int32) = nI 10 by decide, nI_add]
/-- an oracle that is as it should be: its ints, its counters -/
def mor (f t : Nat → Int32) : Prop := (∃ k : Nat, k ≤ 4 ∧ f 0 = nI k) ∧ oGood f ∧ (∃ p : Nat, p < 2 ^ 24 ∧ f 2 = nI p) ∧ (∀ q, q < 32 → ∃ v : Nat, v ≤ 3 ∧ t q = nI v) ∧ (f 0 = 0 → f 1 = 0 ∨ f 1 = 1)
def mhi (r : Nat → Int32) : Prop := ∃ h : Nat, h < 256 ∧ r 3 = nI h
def mcn (r : Nat → Int32) (n m : Nat) : Prop := r 7 = nI n ∧ n ≤ 6 ∧ r 8 = nI m ∧ m ≤ 8
/-- the model as it should be: n oracles, m loans -/
def mgd (r : Nat → Int32) (n m : Nat) : Prop := mcn r n m ∧ mhi r ∧ ∀ i, i < n → mor (mo r i) (mt r i)
theorem m_rem {f : Nat → Int32} (hg : oGood f) (ht : oTab f = true) {v : Nat} (hv : v < 2 ^ 31) : nI v - nI v / oSize f * oSize f = nI v &&& oMask f := by
  obtain ⟨n, hn, e⟩ := hg ht
  have h32 : 2 ^ n ≤ 2 ^ 5 := Nat.pow_le_pow_right (by decide) hn
  unfold oSize oMask
  rw [if_pos ht, e, pk_andN (k := n) (by omega) (oMask_b n hn), shl1 n hn, pk_rem hv (Nat.two_pow_pos n) (by omega)]
theorem m_size0 {f : Nat → Int32} (hg : oGood f) (ht : oTab f = true) : ¬ oSize f = 0 := by
  obtain ⟨n, hn, e⟩ := hg ht
  have h32 : 2 ^ n ≤ 2 ^ 5 := Nat.pow_le_pow_right (by decide) hn
  unfold oSize
  rw [if_pos ht, e, shl1 n hn]
  exact nI_ne0 (Nat.two_pow_pos n) (by omega)
theorem oTab_k {f : Nat → Int32} {k : Nat} (hk : k ≤ 4) (e : f 0 = nI k) : oTab f = (decide (1 ≤ k) && decide (k ≤ 3)) := by
  unfold oTab
  rw [e]
  rcases (show k = 0 ∨ k = 1 ∨ k = 2 ∨ k = 3 ∨ k = 4 by omega) with rfl | rfl | rfl | rfl | rfl <;> decide
theorem oTab_0 {f : Nat → Int32} (h : f 0 = 0) : oTab f = false := oTab_k (k := 0) (by decide) h
theorem oTab_1 {f t : Nat → Int32} (ho : mor f t) (h0 : ¬ f 0 = 0) (h4 : ¬ f 0 = 4) : oTab f = true := by
  obtain ⟨⟨k, hk, e⟩, -⟩ := ho
  rw [oTab_k hk e]
  rcases (show k = 0 ∨ k = 1 ∨ k = 2 ∨ k = 3 ∨ k = 4 by omega) with rfl | rfl | rfl | rfl | rfl
  · exact absurd e h0
  · rfl
  · rfl
  · rfl
  · exact absurd e h4
theorem purse_nn {f t : Nat → Int32} (ho : mor f t) : ¬ f 2 < 0 := by
  obtain ⟨p, hp, e⟩ := ho.2.2.1
  rw [e]; exact nI_pos (by omega)
theorem purse_le {x : Int32} (h : ¬ x < 0) : x ≤ 0 ↔ x = 0 := by
  constructor
  · intro h1
    exact Int32.le_antisymm h1 (Int32.not_lt.mp h)
  · intro h1; rw [h1]; exact Int32.le_refl _
theorem cnt_rem3 {x : Int32} (h : ∃ v : Nat, v ≤ 3 ∧ x = nI v) : (x - x / 3 * 3 = 0) ↔ (x = 0 ∨ x = 3) := by
  obtain ⟨v, hv, e⟩ := h
  subst e
  rcases (show v = 0 ∨ v = 1 ∨ v = 2 ∨ v = 3 by omega) with rfl | rfl | rfl | rfl <;> decide

set_option maxRecDepth 100000 in
set_option maxHeartbeats 4000000 in
theorem ct_X6_within {l : Launch} {X : fX} {σ : fM} {v a b : Int32} : Ct l X yX6_within cX6_within 3 (some .boolean) 0 [.int v, .int a, .int b] σ (some (.int (bi (wi v a b)))) σ := by
  refine Ct.of RX6 rfl (by decide) (Nat.le_of_ble_eq_true rfl) ?_
  intro x hL h hr
  refine g_sub [(0, .int v), (1, .int a), (2, .int b)] ⟨rfl, rfl, rfl, trivial⟩ ?_
  refine g_iload_n h dX6_within_0 rfl ?_
  refine g_iload_n h dX6_within_1 rfl ?_
  refine g_iclt h 14 dX6_within_2 (by decide) (fun c2 => ?_) (fun c2 => ?_)
  · refine g_iconst (v := 0) h dX6_within_14 (by decide) ?_
    exact g_zret h hr (by first | rfl | exact bi_n _) dX6_within_15 (by first | (simp [wi, bi, c2]; done) | (simp_all [wi, bi]; done)) rfl
  · refine g_iload_n h dX6_within_5 rfl ?_
    refine g_iload_n h dX6_within_6 rfl ?_
    refine g_icgt h 14 dX6_within_7 (by decide) (fun c7 => ?_) (fun c7 => ?_)
    · refine g_iconst (v := 0) h dX6_within_14 (by decide) ?_
      exact g_zret h hr (by first | rfl | exact bi_n _) dX6_within_15 (by first | (simp [wi, bi, c2, c7]; done) | (simp_all [wi, bi]; done)) rfl
    · refine g_iconst (v := 1) h dX6_within_10 (by decide) ?_
      refine g_goto h 15 dX6_within_11 (by decide) ?_
      exact g_zret h hr (by first | rfl | exact bi_n _) dX6_within_15 (by first | (simp [wi, bi, c2, c7]; done) | (simp_all [wi, bi]; done)) rfl

set_option maxRecDepth 100000 in
set_option maxHeartbeats 4000000 in
theorem ct_X6_isAddress {l : Launch} {X : fX} {σ : fM} {a : Int32} : Ct l X yX6_isAddress cX6_isAddress 1 (some .boolean) 1 [.int a] σ (some (.int (bi (isA a)))) σ := by
  refine Ct.of RX6 rfl (by decide) (Nat.le_of_ble_eq_true rfl) ?_
  intro x hL h hr
  refine g_sub [(0, .int a)] ⟨rfl, trivial⟩ ?_
  refine g_iload_n h dX6_isAddress_0 rfl ?_
  refine g_iconst (v := 0) h dX6_isAddress_1 (by decide) ?_
  refine g_bipush (v := 63) h dX6_isAddress_2 (by decide) ?_
  refine cl6_42 h (ct_X6_within) rfl dX6_isAddress_4 rfl (Nat.le_of_ble_eq_true rfl) (by decide) ?_
  exact g_zret h hr (by first | rfl | exact bi_n _) dX6_isAddress_7 rfl rfl

set_option maxRecDepth 100000 in
set_option maxHeartbeats 4000000 in
theorem ct_X6_isTaken {l : Launch} {X : fX} {σ : fM} {a : Int32} : Ct l X yX6_isTaken cX6_isTaken 1 (some .boolean) 1 [.int a] σ (some (.int (bi (wi a 0 1)))) σ := by
  refine Ct.of RX6 rfl (by decide) (Nat.le_of_ble_eq_true rfl) ?_
  intro x hL h hr
  refine g_sub [(0, .int a)] ⟨rfl, trivial⟩ ?_
  refine g_iload_n h dX6_isTaken_0 rfl ?_
  refine g_iconst (v := 0) h dX6_isTaken_1 (by decide) ?_
  refine g_iconst (v := 1) h dX6_isTaken_2 (by decide) ?_
  refine cl6_42 h (ct_X6_within) rfl dX6_isTaken_3 rfl (Nat.le_of_ble_eq_true rfl) (by decide) ?_
  exact g_zret h hr (by first | rfl | exact bi_n _) dX6_isTaken_6 rfl rfl

set_option maxRecDepth 100000 in
set_option maxHeartbeats 4000000 in
theorem ct_X6_part {l : Launch} {X : fX} {σ : fM} {i p : Nat} (hi : i < 6) (hp : p < 42) : Ct l X yX6_part cX6_part 3 (some .int) 0 [ra X 150, .int (nI i), .int (nI p)] σ (some (.int (mo (σ.1 151) i p))) σ := by
  refine Ct.of RX6 rfl (by decide) (Nat.le_of_ble_eq_true rfl) ?_
  intro x hL h hr
  refine g_sub [(0, ra X 150), (1, .int (nI i)), (2, .int (nI p))] ⟨rfl, rfl, rfl, trivial⟩ ?_
  refine g_aload_n h dX6_part_0 rfl ?_
  refine gf6_7 h  dX6_part_1 ?_
  refine g_bipush (v := 73) h dX6_part_4 (by decide) ?_
  refine g_bipush (v := 42) h dX6_part_6 (by decide) ?_
  refine g_iload_n h dX6_part_8 rfl ?_
  refine g_imul h dX6_part_9 ?_
  refine g_iadd h dX6_part_10 ?_
  refine g_iload_n h dX6_part_11 rfl ?_
  refine g_iadd h dX6_part_12 ?_
  refine g_ialdN h (k := 151) (by decide) (enc_151 X) (m_ix i p) (by omega) (by decide) dX6_part_13 ?_
  exact g_iret h hr dX6_part_14 rfl rfl

set_option maxRecDepth 100000 in
set_option maxHeartbeats 4000000 in
theorem ct_X6_setPart {l : Launch} {X : fX} {σ : fM} {i p : Nat} (hi : i < 6) (hp : p < 42) {v : Int32} : Ct l X yX6_setPart cX6_setPart 4 none 0 [ra X 150, .int (nI i), .int (nI p), .int v] σ none (pu σ 151 (73 + 42 * i + p) v) := by
  refine Ct.of RX6 rfl (by decide) (Nat.le_of_ble_eq_true rfl) ?_
  intro x hL h hr
  refine g_sub [(0, ra X 150), (1, .int (nI i)), (2, .int (nI p)), (3, .int v)] ⟨rfl, rfl, rfl, rfl, trivial⟩ ?_
  refine g_aload_n h dX6_setPart_0 rfl ?_
  refine gf6_7 h  dX6_setPart_1 ?_
  refine g_bipush (v := 73) h dX6_setPart_4 (by decide) ?_
  refine g_bipush (v := 42) h dX6_setPart_6 (by decide) ?_
  refine g_iload_n h dX6_setPart_8 rfl ?_
  refine g_imul h dX6_setPart_9 ?_
  refine g_iadd h dX6_setPart_10 ?_
  refine g_iload_n h dX6_setPart_11 rfl ?_
  refine g_iadd h dX6_setPart_12 ?_
  refine g_iload_n h dX6_setPart_13 rfl ?_
  refine g_iastN h (k := 151) (by decide) (enc_151 X) (m_ix i p) (by omega) (by decide) dX6_setPart_14 ?_
  exact g_vret h hr dX6_setPart_15 rfl

set_option maxRecDepth 100000 in
set_option maxHeartbeats 4000000 in
theorem ct_X6_addPart {l : Launch} {X : fX} {σ : fM} {i p : Nat} (hi : i < 6) (hp : p < 42) {v : Int32} : Ct l X yX6_addPart cX6_addPart 4 none 0 [ra X 150, .int (nI i), .int (nI p), .int v] σ none (pu σ 151 (73 + 42 * i + p) (mo (σ.1 151) i p + v)) := by
  refine Ct.of RX6 rfl (by decide) (Nat.le_of_ble_eq_true rfl) ?_
  intro x hL h hr
  refine g_sub [(0, ra X 150), (1, .int (nI i)), (2, .int (nI p)), (3, .int v)] ⟨rfl, rfl, rfl, rfl, trivial⟩ ?_
  refine g_aload_n h dX6_addPart_0 rfl ?_
  refine gf6_7 h  dX6_addPart_1 ?_
  refine g_bipush (v := 73) h dX6_addPart_4 (by decide) ?_
  refine g_bipush (v := 42) h dX6_addPart_6 (by decide) ?_
  refine g_iload_n h dX6_addPart_8 rfl ?_
  refine g_imul h dX6_addPart_9 ?_
  refine g_iadd h dX6_addPart_10 ?_
  refine g_iload_n h dX6_addPart_11 rfl ?_
  refine g_iadd h dX6_addPart_12 ?_
  refine g_dup2 h dX6_addPart_13 rfl rfl ?_
  refine g_ialdN h (k := 151) (by decide) (enc_151 X) (m_ix i p) (by omega) (by decide) dX6_addPart_14 ?_
  refine g_iload_n h dX6_addPart_15 rfl ?_
  refine g_iadd h dX6_addPart_16 ?_
  refine g_iastN h (k := 151) (by decide) (enc_151 X) (m_ix i p) (by omega) (by decide) dX6_addPart_17 ?_
  exact g_vret h hr dX6_addPart_18 rfl

set_option maxRecDepth 100000 in
set_option maxHeartbeats 4000000 in
theorem ct_X6_loanPart {l : Launch} {X : fX} {σ : fM} {i p : Nat} (hi : i < 8) (hp : p < 3) : Ct l X yX6_loanPart cX6_loanPart 3 (some .int) 0 [ra X 150, .int (nI i), .int (nI p)] σ (some (.int (ml (σ.1 151) i p))) σ := by
  refine Ct.of RX6 rfl (by decide) (Nat.le_of_ble_eq_true rfl) ?_
  intro x hL h hr
  refine g_sub [(0, ra X 150), (1, .int (nI i)), (2, .int (nI p))] ⟨rfl, rfl, rfl, trivial⟩ ?_
  refine g_aload_n h dX6_loanPart_0 rfl ?_
  refine gf6_7 h  dX6_loanPart_1 ?_
  refine g_sipush (v := 325) h dX6_loanPart_4 (by decide) ?_
  refine g_iconst (v := 3) h dX6_loanPart_7 (by decide) ?_
  refine g_iload_n h dX6_loanPart_8 rfl ?_
  refine g_imul h dX6_loanPart_9 ?_
  refine g_iadd h dX6_loanPart_10 ?_
  refine g_iload_n h dX6_loanPart_11 rfl ?_
  refine g_iadd h dX6_loanPart_12 ?_
  refine g_ialdN h (k := 151) (by decide) (enc_151 X) (m_il i p) (by omega) (by decide) dX6_loanPart_13 ?_
  exact g_iret h hr dX6_loanPart_14 rfl rfl

set_option maxRecDepth 100000 in
set_option maxHeartbeats 4000000 in
theorem ct_X6_isOracle {l : Launch} {X : fX} {σ : fM} {v : Int32} : Ct l X yX6_isOracle cX6_isOracle 2 (some .boolean) 1 [ra X 150, .int v] σ (some (.int (bi (wi v 0 ((σ.1 151) 7 - 1))))) σ := by
  refine Ct.of RX6 rfl (by decide) (Nat.le_of_ble_eq_true rfl) ?_
  intro x hL h hr
  refine g_sub [(0, ra X 150), (1, .int v)] ⟨rfl, rfl, trivial⟩ ?_
  refine g_iload_n h dX6_isOracle_0 rfl ?_
  refine g_iconst (v := 0) h dX6_isOracle_1 (by decide) ?_
  refine g_aload_n h dX6_isOracle_2 rfl ?_
  refine gf6_7 h  dX6_isOracle_3 ?_
  refine g_bipush (v := 7) h dX6_isOracle_6 (by decide) ?_
  refine g_ialdN h (k := 151) (by decide) (enc_151 X) (show (7 : Int32) = nI 7 by decide) (by decide) (by decide) dX6_isOracle_8 ?_
  refine g_iconst (v := 1) h dX6_isOracle_9 (by decide) ?_
  refine g_isub h dX6_isOracle_10 ?_
  refine cl6_42 h (ct_X6_within) rfl dX6_isOracle_11 rfl (Nat.le_of_ble_eq_true rfl) (by decide) ?_
  exact g_zret h hr (by first | rfl | exact bi_n _) dX6_isOracle_14 rfl rfl

set_option maxRecDepth 100000 in
set_option maxHeartbeats 4000000 in
theorem ct_X6_hasTable {l : Launch} {X : fX} {σ : fM} {i : Nat} (hi : i < 6) : Ct l X yX6_hasTable cX6_hasTable 2 (some .boolean) 1 [ra X 150, .int (nI i)] σ (some (.int (bi (oTab (mo (σ.1 151) i))))) σ := by
  refine Ct.of RX6 rfl (by decide) (Nat.le_of_ble_eq_true rfl) ?_
  intro x hL h hr
  refine g_sub [(0, ra X 150), (1, .int (nI i))] ⟨rfl, rfl, trivial⟩ ?_
  refine g_aload_n h dX6_hasTable_0 rfl ?_
  refine g_iload_n h dX6_hasTable_1 rfl ?_
  refine g_iconst (v := 0) h dX6_hasTable_2 (by decide) ?_
  refine cl6_46 h  (ct_X6_part (i := i) (p := 0) hi (by decide)) rfl dX6_hasTable_3 rfl (Nat.le_of_ble_eq_true rfl) (by decide) ?_
  refine g_iconst (v := 1) h dX6_hasTable_6 (by decide) ?_
  refine g_iconst (v := 3) h dX6_hasTable_7 (by decide) ?_
  refine cl6_42 h (ct_X6_within) rfl dX6_hasTable_8 rfl (Nat.le_of_ble_eq_true rfl) (by decide) ?_
  exact g_zret h hr (by first | rfl | exact bi_n _) dX6_hasTable_11 rfl rfl

set_option maxRecDepth 100000 in
set_option maxHeartbeats 4000000 in
theorem ct_X6_hasSeat {l : Launch} {X : fX} {σ : fM} {i : Nat} (hi : i < 6) : Ct l X yX6_hasSeat cX6_hasSeat 2 (some .boolean) 1 [ra X 150, .int (nI i)] σ (some (.int (bi (oSeat (mo (σ.1 151) i))))) σ := by
  refine Ct.of RX6 rfl (by decide) (Nat.le_of_ble_eq_true rfl) ?_
  intro x hL h hr
  refine g_sub [(0, ra X 150), (1, .int (nI i))] ⟨rfl, rfl, trivial⟩ ?_
  refine g_aload_n h dX6_hasSeat_0 rfl ?_
  refine g_iload_n h dX6_hasSeat_1 rfl ?_
  refine g_iconst (v := 3) h dX6_hasSeat_2 (by decide) ?_
  refine cl6_46 h  (ct_X6_part (i := i) (p := 3) hi (by decide)) rfl dX6_hasSeat_3 rfl (Nat.le_of_ble_eq_true rfl) (by decide) ?_
  refine g_iconst (v := (-1)) h dX6_hasSeat_6 (by decide) ?_
  refine g_iceq h 14 dX6_hasSeat_7 (by decide) (fun c7 => ?_) (fun c7 => ?_)
  · refine g_iconst (v := 0) h dX6_hasSeat_14 (by decide) ?_
    exact g_zret h hr (by first | rfl | exact bi_n _) dX6_hasSeat_15 (by first | (simp [oSeat, bi, c7]; done) | (simp_all [oSeat, bi]; done)) rfl
  · refine g_iconst (v := 1) h dX6_hasSeat_10 (by decide) ?_
    refine g_goto h 15 dX6_hasSeat_11 (by decide) ?_
    exact g_zret h hr (by first | rfl | exact bi_n _) dX6_hasSeat_15 (by first | (simp [oSeat, bi, c7]; done) | (simp_all [oSeat, bi]; done)) rfl

set_option maxRecDepth 100000 in
set_option maxHeartbeats 4000000 in
theorem ct_X6_sizeOf {l : Launch} {X : fX} {σ : fM} {i : Nat} (hi : i < 6) : Ct l X yX6_sizeOf cX6_sizeOf 2 (some .int) 2 [ra X 150, .int (nI i)] σ (some (.int (oSize (mo (σ.1 151) i)))) σ := by
  refine Ct.of RX6 rfl (by decide) (Nat.le_of_ble_eq_true rfl) ?_
  intro x hL h hr
  refine g_sub [(0, ra X 150), (1, .int (nI i))] ⟨rfl, rfl, trivial⟩ ?_
  refine g_aload_n h dX6_sizeOf_0 rfl ?_
  refine g_iload_n h dX6_sizeOf_1 rfl ?_
  refine cl6_50 h  (ct_X6_hasTable hi) rfl dX6_sizeOf_2 rfl (Nat.le_of_ble_eq_true rfl) (by decide) ?_
  refine g_ifeqB h 19 dX6_sizeOf_5 (by decide) (fun c5 => ?_) (fun c5 => ?_)
  · refine g_iconst (v := 0) h dX6_sizeOf_19 (by decide) ?_
    exact g_iret h hr dX6_sizeOf_20 (by first | (simp [oSize, c5]; done) | (simp_all [oSize]; done)) rfl
  · refine g_iconst (v := 1) h dX6_sizeOf_8 (by decide) ?_
    refine g_aload_n h dX6_sizeOf_9 rfl ?_
    refine g_iload_n h dX6_sizeOf_10 rfl ?_
    refine g_iconst (v := 1) h dX6_sizeOf_11 (by decide) ?_
    refine cl6_46 h  (ct_X6_part (i := i) (p := 1) hi (by decide)) rfl dX6_sizeOf_12 rfl (Nat.le_of_ble_eq_true rfl) (by decide) ?_
    refine g_ishl h dX6_sizeOf_15 ?_
    refine g_goto h 20 dX6_sizeOf_16 (by decide) ?_
    exact g_iret h hr dX6_sizeOf_20 (by first | (simp [oSize, c5]; done) | (simp_all [oSize]; done)) rfl

set_option maxRecDepth 100000 in
set_option maxHeartbeats 4000000 in
theorem ct_X6_indexOf {l : Launch} {X : fX} {σ : fM} {i a : Nat} (hi : i < 6) (ha : a < 64) (hh : mhi (σ.1 151)) (hg : oGood (mo (σ.1 151) i)) (ht : oTab (mo (σ.1 151) i) = true) : Ct l X yX6_indexOf cX6_indexOf 5 (some .int) 3 [ra X 150, .int (nI i), .int (nI a)] σ (some (.int (oSlot (mo (σ.1 151) i) (nI a) ((σ.1 151) 3)))) σ := by
  refine Ct.of RX6 rfl (by decide) (Nat.le_of_ble_eq_true rfl) ?_
  intro x hL h hr
  refine g_sub [(0, ra X 150), (1, .int (nI i)), (2, .int (nI a))] ⟨rfl, rfl, rfl, trivial⟩ ?_
  obtain ⟨hv, hhv, ehv⟩ := hh
  have hax : a ^^^ hv < 2 ^ 8 := Nat.xor_lt_two_pow (by omega) (by omega)
  refine g_aload_n h dX6_indexOf_0 rfl ?_
  refine g_iload_n h dX6_indexOf_1 rfl ?_
  refine g_iconst (v := 0) h dX6_indexOf_2 (by decide) ?_
  refine cl6_46 h  (ct_X6_part (i := i) (p := 0) hi (by decide)) rfl dX6_indexOf_3 rfl (Nat.le_of_ble_eq_true rfl) (by decide) ?_
  refine g_istore_n h dX6_indexOf_6 (by rw [hL]; decide) ?_
  refine g_iload_n h dX6_indexOf_7 rfl ?_
  refine g_iconst (v := 1) h dX6_indexOf_8 (by decide) ?_
  refine g_icne h 16 dX6_indexOf_9 (by decide) (fun c9 => ?_) (fun c9 => ?_)
  · refine g_iload_n h dX6_indexOf_16 rfl ?_
    refine g_iconst (v := 2) h dX6_indexOf_17 (by decide) ?_
    refine g_icne h 30 dX6_indexOf_18 (by decide) (fun c18 => ?_) (fun c18 => ?_)
    · refine g_iload_n h dX6_indexOf_30 rfl ?_
      refine g_aload_n h dX6_indexOf_31 rfl ?_
      refine gf6_7 h  dX6_indexOf_32 ?_
      refine g_iconst (v := 3) h dX6_indexOf_35 (by decide) ?_
      refine g_ialdN h (k := 151) (by decide) (enc_151 X) (show (3 : Int32) = nI 3 by decide) (by decide) (by decide) dX6_indexOf_36 ?_
      refine g_ixor h dX6_indexOf_37 ?_
      refine g_istore h dX6_indexOf_38 (by rw [hL]; decide) ?_
      refine g_iload h dX6_indexOf_40 rfl ?_
      refine g_aload_n h dX6_indexOf_42 rfl ?_
      refine g_iload_n h dX6_indexOf_43 rfl ?_
      refine cl6_54 h  (ct_X6_sizeOf hi) rfl dX6_indexOf_44 rfl (Nat.le_of_ble_eq_true rfl) (by decide) ?_
      refine g_irem h dX6_indexOf_47 (m_size0 hg ht) ?_
      exact g_iret h hr dX6_indexOf_48 (by unfold oSlot; first | (rw [if_pos c9]; exact m_rem hg ht (by omega)) | (rw [if_neg c9, if_pos c18, ehv]; exact m_rem hg ht (by omega)) | (rw [if_neg c9, if_neg c18, ehv, nI_xor]; exact m_rem hg ht (by omega))) rfl
    · refine g_aload_n h dX6_indexOf_21 rfl ?_
      refine gf6_7 h  dX6_indexOf_22 ?_
      refine g_iconst (v := 3) h dX6_indexOf_25 (by decide) ?_
      refine g_ialdN h (k := 151) (by decide) (enc_151 X) (show (3 : Int32) = nI 3 by decide) (by decide) (by decide) dX6_indexOf_26 ?_
      refine g_goto h 38 dX6_indexOf_27 (by decide) ?_
      refine g_istore h dX6_indexOf_38 (by rw [hL]; decide) ?_
      refine g_iload h dX6_indexOf_40 rfl ?_
      refine g_aload_n h dX6_indexOf_42 rfl ?_
      refine g_iload_n h dX6_indexOf_43 rfl ?_
      refine cl6_54 h  (ct_X6_sizeOf hi) rfl dX6_indexOf_44 rfl (Nat.le_of_ble_eq_true rfl) (by decide) ?_
      refine g_irem h dX6_indexOf_47 (m_size0 hg ht) ?_
      exact g_iret h hr dX6_indexOf_48 (by unfold oSlot; first | (rw [if_pos c9]; exact m_rem hg ht (by omega)) | (rw [if_neg c9, if_pos c18, ehv]; exact m_rem hg ht (by omega)) | (rw [if_neg c9, if_neg c18, ehv, nI_xor]; exact m_rem hg ht (by omega))) rfl
  · refine g_iload_n h dX6_indexOf_12 rfl ?_
    refine g_goto h 38 dX6_indexOf_13 (by decide) ?_
    refine g_istore h dX6_indexOf_38 (by rw [hL]; decide) ?_
    refine g_iload h dX6_indexOf_40 rfl ?_
    refine g_aload_n h dX6_indexOf_42 rfl ?_
    refine g_iload_n h dX6_indexOf_43 rfl ?_
    refine cl6_54 h  (ct_X6_sizeOf hi) rfl dX6_indexOf_44 rfl (Nat.le_of_ble_eq_true rfl) (by decide) ?_
    refine g_irem h dX6_indexOf_47 (m_size0 hg ht) ?_
    exact g_iret h hr dX6_indexOf_48 (by unfold oSlot; first | (rw [if_pos c9]; exact m_rem hg ht (by omega)) | (rw [if_neg c9, if_pos c18, ehv]; exact m_rem hg ht (by omega)) | (rw [if_neg c9, if_neg c18, ehv, nI_xor]; exact m_rem hg ht (by omega))) rfl

set_option maxRecDepth 100000 in
set_option maxHeartbeats 4000000 in
theorem ct_X6_counterOf {l : Launch} {X : fX} {σ : fM} {i a : Nat} (hi : i < 6) (ha : a < 64) (hh : mhi (σ.1 151)) (hg : oGood (mo (σ.1 151) i)) (ht : oTab (mo (σ.1 151) i) = true) : Ct l X yX6_counterOf cX6_counterOf 3 (some .int) 4 [ra X 150, .int (nI i), .int (nI a)] σ (some (.int ((mt (σ.1 151) i) (oSlot (mo (σ.1 151) i) (nI a) ((σ.1 151) 3)).toNatClampNeg))) σ := by
  refine Ct.of RX6 rfl (by decide) (Nat.le_of_ble_eq_true rfl) ?_
  intro x hL h hr
  refine g_sub [(0, ra X 150), (1, .int (nI i)), (2, .int (nI a))] ⟨rfl, rfl, rfl, trivial⟩ ?_
  obtain ⟨j, hj, ej⟩ := vp_in_of (oSlot_in hg ht (nI a) ((σ.1 151) 3)) (by decide)
  refine g_aload_n h dX6_counterOf_0 rfl ?_
  refine g_iload_n h dX6_counterOf_1 rfl ?_
  refine g_bipush (v := 10) h dX6_counterOf_2 (by decide) ?_
  refine g_aload_n h dX6_counterOf_4 rfl ?_
  refine g_iload_n h dX6_counterOf_5 rfl ?_
  refine g_iload_n h dX6_counterOf_6 rfl ?_
  refine cl6_58 h  (ct_X6_indexOf hi ha hh hg ht) rfl dX6_counterOf_7 rfl (Nat.le_of_ble_eq_true rfl) (by decide) ?_
  refine g_iadd h dX6_counterOf_10 ?_
  refine g_top (nI (10 + j)) (by rw [ej]; exact ten_add j) ?_
  refine cl6_46 h  (ct_X6_part (i := i) (p := 10 + j) hi (by omega)) rfl dX6_counterOf_11 rfl (Nat.le_of_ble_eq_true rfl) (by decide) ?_
  exact g_iret h hr dX6_counterOf_14 (by rw [ej, nI_clamp (by omega)]; rfl) rfl

set_option maxRecDepth 100000 in
set_option maxHeartbeats 4000000 in
theorem ct_X6_isIn {l : Launch} {X : fX} {σ : fM} {i : Nat} (hi : i < 6) (hp : ¬ (mo (σ.1 151) i) 2 < 0) : Ct l X yX6_isIn cX6_isIn 2 (some .boolean) 2 [ra X 150, .int (nI i)] σ (some (.int (bi (oIn (mo (σ.1 151) i))))) σ := by
  refine Ct.of RX6 rfl (by decide) (Nat.le_of_ble_eq_true rfl) ?_
  intro x hL h hr
  refine g_sub [(0, ra X 150), (1, .int (nI i))] ⟨rfl, rfl, trivial⟩ ?_
  refine g_aload_n h dX6_isIn_0 rfl ?_
  refine g_iload_n h dX6_isIn_1 rfl ?_
  refine cl6_61 h  (ct_X6_hasSeat hi) rfl dX6_isIn_2 rfl (Nat.le_of_ble_eq_true rfl) (by decide) ?_
  refine g_ifeqB h 21 dX6_isIn_5 (by decide) (fun c5 => ?_) (fun c5 => ?_)
  · refine g_iconst (v := 0) h dX6_isIn_21 (by decide) ?_
    exact g_zret h hr (by first | rfl | exact bi_n _) dX6_isIn_22 (by first | (simp [oIn, oRuin, bi, c5]; done) | (rw [purse_le hp] at c14; simp [oIn, oRuin, bi, c5]; done)) rfl
  · refine g_aload_n h dX6_isIn_8 rfl ?_
    refine g_iload_n h dX6_isIn_9 rfl ?_
    refine g_iconst (v := 2) h dX6_isIn_10 (by decide) ?_
    refine cl6_46 h  (ct_X6_part (i := i) (p := 2) hi (by decide)) rfl dX6_isIn_11 rfl (Nat.le_of_ble_eq_true rfl) (by decide) ?_
    refine g_ifle h 21 dX6_isIn_14 (by decide) (fun c14 => ?_) (fun c14 => ?_)
    · refine g_iconst (v := 0) h dX6_isIn_21 (by decide) ?_
      exact g_zret h hr (by first | rfl | exact bi_n _) dX6_isIn_22 (by first | (simp [oIn, oRuin, bi, c5, c14]; done) | (rw [purse_le hp] at c14; simp [oIn, oRuin, bi, c5, c14]; done)) rfl
    · refine g_iconst (v := 1) h dX6_isIn_17 (by decide) ?_
      refine g_goto h 22 dX6_isIn_18 (by decide) ?_
      exact g_zret h hr (by first | rfl | exact bi_n _) dX6_isIn_22 (by first | (simp [oIn, oRuin, bi, c5, c14]; done) | (rw [purse_le hp] at c14; simp [oIn, oRuin, bi, c5, c14]; done)) rfl

set_option maxRecDepth 100000 in
set_option maxHeartbeats 4000000 in
theorem ct_X6_plainWord {l : Launch} {X : fX} {σ : fM} {i a : Nat} (hi : i < 6) (ha : a < 64) (hh : mhi (σ.1 151)) (ho : mor (mo (σ.1 151) i) (mt (σ.1 151) i)) (h4 : ¬ (mo (σ.1 151) i) 0 = 4) : Ct l X yX6_plainWord cX6_plainWord 3 (some .int) 5 [ra X 150, .int (nI i), .int (nI a)] σ (some (.int (oWord (mo (σ.1 151) i) (mt (σ.1 151) i) (nI a) ((σ.1 151) 3)))) σ := by
  refine Ct.of RX6 rfl (by decide) (Nat.le_of_ble_eq_true rfl) ?_
  intro x hL h hr
  refine g_sub [(0, ra X 150), (1, .int (nI i)), (2, .int (nI a))] ⟨rfl, rfl, rfl, trivial⟩ ?_
  refine g_aload_n h dX6_plainWord_0 rfl ?_
  refine g_iload_n h dX6_plainWord_1 rfl ?_
  refine g_iconst (v := 0) h dX6_plainWord_2 (by decide) ?_
  refine cl6_46 h  (ct_X6_part (i := i) (p := 0) hi (by decide)) rfl dX6_plainWord_3 rfl (Nat.le_of_ble_eq_true rfl) (by decide) ?_
  refine g_ifne h 18 dX6_plainWord_6 (by decide) (fun c6 => ?_) (fun c6 => ?_)
  · refine g_aload_n h dX6_plainWord_18 rfl ?_
    refine g_iload_n h dX6_plainWord_19 rfl ?_
    refine g_iload_n h dX6_plainWord_20 rfl ?_
    have ht := oTab_1 ho c6 h4
    refine cl6_64 h  (ct_X6_counterOf hi ha hh ho.2.1 ht) rfl dX6_plainWord_21 rfl (Nat.le_of_ble_eq_true rfl) (by decide) ?_
    refine g_iconst (v := 2) h dX6_plainWord_24 (by decide) ?_
    refine g_iclt h 32 dX6_plainWord_25 (by decide) (fun c25 => ?_) (fun c25 => ?_)
    · refine g_iconst (v := 0) h dX6_plainWord_32 (by decide) ?_
      exact g_iret h hr dX6_plainWord_33 (by first | (simp [oWord, oTab_0 c6]; done) | (simp [oWord, ht, c6, c25]; done)) rfl
    · refine g_iconst (v := 1) h dX6_plainWord_28 (by decide) ?_
      refine g_goto h 33 dX6_plainWord_29 (by decide) ?_
      exact g_iret h hr dX6_plainWord_33 (by first | (simp [oWord, oTab_0 c6]; done) | (simp [oWord, ht, c6, c25]; done)) rfl
  · refine g_aload_n h dX6_plainWord_9 rfl ?_
    refine g_iload_n h dX6_plainWord_10 rfl ?_
    refine g_iconst (v := 1) h dX6_plainWord_11 (by decide) ?_
    refine cl6_46 h  (ct_X6_part (i := i) (p := 1) hi (by decide)) rfl dX6_plainWord_12 rfl (Nat.le_of_ble_eq_true rfl) (by decide) ?_
    refine g_goto h 33 dX6_plainWord_15 (by decide) ?_
    exact g_iret h hr dX6_plainWord_33 (by first | (simp [oWord, oTab_0 c6]; done) | (simp [oWord, ht, c6]; done)) rfl


def mMore (r : Nat → Int32) (a : Nat) : Nat → Int32 := sumF 0 (fun o => if mo r o 0 = 4 then 0 else if oIn (mo r o) = false then 0 else if oWord (mo r o) (mt r o) (nI a) (r 3) = 1 then mo r o 2 else - mo r o 2)
def mWord (r : Nat → Int32) (n i a : Nat) : Int32 := if mo r i 0 = 4 then (if 0 ≤ mMore r a n then 0 else 1) else oWord (mo r i) (mt r i) (nI a) (r 3)

set_option maxRecDepth 100000 in
set_option maxHeartbeats 4000000 in
theorem ct_X6_wordOf {l : Launch} {X : fX} {σ : fM} {n m j a : Nat} (hg : mgd (σ.1 151) n m) (hj : j < n) (ha : a < 64) : Ct l X yX6_wordOf cX6_wordOf 5 (some .int) 6 [ra X 150, .int (nI j), .int (nI a)] σ (some (.int (mWord (σ.1 151) n j a))) σ := by
  refine Ct.of RX6 rfl (by decide) (Nat.le_of_ble_eq_true rfl) ?_
  intro x hL h hr
  refine g_sub [(0, ra X 150), (1, .int (nI j)), (2, .int (nI a))] ⟨rfl, rfl, rfl, trivial⟩ ?_
  obtain ⟨⟨hn, hn6, hm, hm8⟩, hh, hor⟩ := hg
  refine g_aload_n h dX6_wordOf_0 rfl ?_
  refine g_iload_n h dX6_wordOf_1 rfl ?_
  refine g_iconst (v := 0) h dX6_wordOf_2 (by decide) ?_
  refine cl6_46 h  (ct_X6_part (i := j) (p := 0) (by omega) (by decide)) rfl dX6_wordOf_3 rfl (Nat.le_of_ble_eq_true rfl) (by decide) ?_
  refine g_iconst (v := 4) h dX6_wordOf_6 (by decide) ?_
  refine g_iceq h 17 dX6_wordOf_7 (by decide) (fun c7 => ?_) (fun c7 => ?_)
  · have LOOP : ∀ (q i : Nat), i + q = n → G x X σ [(0, ra X 150), (1, .int (nI j)), (2, .int (nI a)), (3, .int (mMore (σ.1 151) a i)), (4, .int (nI i))] [] 22 := by
      intro q
      induction q with
      | zero =>
        intro i hi 
        have hie : i = n := by omega
        rw [hie]
        refine g_iload h dX6_wordOf_22 rfl ?_
        refine g_aload_n h dX6_wordOf_24 rfl ?_
        refine gf6_7 h  dX6_wordOf_25 ?_
        refine g_bipush (v := 7) h dX6_wordOf_28 (by decide) ?_
        refine g_ialdN h (k := 151) (by decide) (enc_151 X) (show (7 : Int32) = nI 7 by decide) (by decide) (by decide) dX6_wordOf_30 ?_
        refine g_icge h 92 dX6_wordOf_31 (by decide) (fun c31 => ?_) (fun c31 => absurd (by rw [hn]; exact Int32.le_refl _) c31)
        refine g_iload_n h dX6_wordOf_92 rfl ?_
        refine g_ifge h 100 dX6_wordOf_93 (by decide) (fun c93 => ?_) (fun c93 => ?_)
        · refine g_iconst (v := 0) h dX6_wordOf_100 (by decide) ?_
          exact g_iret h hr dX6_wordOf_101 (by unfold mWord; rw [if_pos c7]; simp [c31, c93]) rfl
        · refine g_iconst (v := 1) h dX6_wordOf_96 (by decide) ?_
          refine g_goto h 101 dX6_wordOf_97 (by decide) ?_
          exact g_iret h hr dX6_wordOf_101 (by unfold mWord; rw [if_pos c7]; simp [c31, c93]) rfl
      | succ q ih =>
        intro i hi 
        have hlt : i < n := by omega
        refine g_iload h dX6_wordOf_22 rfl ?_
        refine g_aload_n h dX6_wordOf_24 rfl ?_
        refine gf6_7 h  dX6_wordOf_25 ?_
        refine g_bipush (v := 7) h dX6_wordOf_28 (by decide) ?_
        refine g_ialdN h (k := 151) (by decide) (enc_151 X) (show (7 : Int32) = nI 7 by decide) (by decide) (by decide) dX6_wordOf_30 ?_
        refine g_icge h 92 dX6_wordOf_31 (by decide) (fun c31 => absurd c31 (by rw [hn]; exact nI_ge hlt (by omega))) (fun c31 => ?_)
        refine g_aload_n h dX6_wordOf_34 rfl ?_
        refine g_iload h dX6_wordOf_35 rfl ?_
        refine g_iconst (v := 0) h dX6_wordOf_37 (by decide) ?_
        refine cl6_46 h  (ct_X6_part (i := i) (p := 0) (by omega) (by decide)) rfl dX6_wordOf_38 rfl (Nat.le_of_ble_eq_true rfl) (by decide) ?_
        refine g_iconst (v := 4) h dX6_wordOf_41 (by decide) ?_
        refine g_iceq h 86 dX6_wordOf_42 (by decide) (fun c42 => ?_) (fun c42 => ?_)
        · refine g_iincN h dX6_wordOf_86 rfl (by rw [hL]; decide) ?_
          refine g_goto h 22 dX6_wordOf_89 (by decide) ?_
          refine g_sub [(0, ra X 150), (1, .int (nI j)), (2, .int (nI a)), (3, .int (mMore (σ.1 151) a (i + 1))), (4, .int (nI (i + 1)))] ⟨rfl, rfl, rfl, (congrArg (fun z => some (Value.int z)) (by show _ = mMore (σ.1 151) a i + (if _ then _ else _); first | (simp [c31, c42]; done) | (simp_all; done))), rfl, trivial⟩ ?_
          exact ih (i + 1) (by omega)
        · refine g_aload_n h dX6_wordOf_45 rfl ?_
          refine g_iload h dX6_wordOf_46 rfl ?_
          refine cl6_70 h  (ct_X6_isIn (by omega) (purse_nn (hor i hlt))) rfl dX6_wordOf_48 rfl (Nat.le_of_ble_eq_true rfl) (by decide) ?_
          refine g_ifeqB h 86 dX6_wordOf_51 (by decide) (fun c51 => ?_) (fun c51 => ?_)
          · refine g_iincN h dX6_wordOf_86 rfl (by rw [hL]; decide) ?_
            refine g_goto h 22 dX6_wordOf_89 (by decide) ?_
            refine g_sub [(0, ra X 150), (1, .int (nI j)), (2, .int (nI a)), (3, .int (mMore (σ.1 151) a (i + 1))), (4, .int (nI (i + 1)))] ⟨rfl, rfl, rfl, (congrArg (fun z => some (Value.int z)) (by show _ = mMore (σ.1 151) a i + (if _ then _ else _); first | (simp [c31, c42, c51]; done) | (simp_all; done))), rfl, trivial⟩ ?_
            exact ih (i + 1) (by omega)
          · refine g_iload_n h dX6_wordOf_54 rfl ?_
            refine g_aload_n h dX6_wordOf_55 rfl ?_
            refine g_iload h dX6_wordOf_56 rfl ?_
            refine g_iload_n h dX6_wordOf_58 rfl ?_
            refine cl6_67 h  (ct_X6_plainWord (by omega) ha hh (hor i hlt) c42) rfl dX6_wordOf_59 rfl (Nat.le_of_ble_eq_true rfl) (by decide) ?_
            refine g_iconst (v := 1) h dX6_wordOf_62 (by decide) ?_
            refine g_icne h 76 dX6_wordOf_63 (by decide) (fun c63 => ?_) (fun c63 => ?_)
            · refine g_aload_n h dX6_wordOf_76 rfl ?_
              refine g_iload h dX6_wordOf_77 rfl ?_
              refine g_iconst (v := 2) h dX6_wordOf_79 (by decide) ?_
              refine cl6_46 h  (ct_X6_part (i := i) (p := 2) (by omega) (by decide)) rfl dX6_wordOf_80 rfl (Nat.le_of_ble_eq_true rfl) (by decide) ?_
              refine g_ineg h dX6_wordOf_83 ?_
              refine g_iadd h dX6_wordOf_84 ?_
              refine g_istore_n h dX6_wordOf_85 (by rw [hL]; decide) ?_
              refine g_iincN h dX6_wordOf_86 rfl (by rw [hL]; decide) ?_
              refine g_goto h 22 dX6_wordOf_89 (by decide) ?_
              refine g_sub [(0, ra X 150), (1, .int (nI j)), (2, .int (nI a)), (3, .int (mMore (σ.1 151) a (i + 1))), (4, .int (nI (i + 1)))] ⟨rfl, rfl, rfl, (congrArg (fun z => some (Value.int z)) (by show _ = mMore (σ.1 151) a i + (if _ then _ else _); first | (simp [c31, c42, c51, c63]; done) | (simp_all; done))), rfl, trivial⟩ ?_
              exact ih (i + 1) (by omega)
            · refine g_aload_n h dX6_wordOf_66 rfl ?_
              refine g_iload h dX6_wordOf_67 rfl ?_
              refine g_iconst (v := 2) h dX6_wordOf_69 (by decide) ?_
              refine cl6_46 h  (ct_X6_part (i := i) (p := 2) (by omega) (by decide)) rfl dX6_wordOf_70 rfl (Nat.le_of_ble_eq_true rfl) (by decide) ?_
              refine g_goto h 84 dX6_wordOf_73 (by decide) ?_
              refine g_iadd h dX6_wordOf_84 ?_
              refine g_istore_n h dX6_wordOf_85 (by rw [hL]; decide) ?_
              refine g_iincN h dX6_wordOf_86 rfl (by rw [hL]; decide) ?_
              refine g_goto h 22 dX6_wordOf_89 (by decide) ?_
              refine g_sub [(0, ra X 150), (1, .int (nI j)), (2, .int (nI a)), (3, .int (mMore (σ.1 151) a (i + 1))), (4, .int (nI (i + 1)))] ⟨rfl, rfl, rfl, (congrArg (fun z => some (Value.int z)) (by show _ = mMore (σ.1 151) a i + (if _ then _ else _); first | (simp [c31, c42, c51, c63]; done) | (simp_all; done))), rfl, trivial⟩ ?_
              exact ih (i + 1) (by omega)
    refine g_iconst (v := 0) h dX6_wordOf_17 (by decide) ?_
    refine g_istore_n h dX6_wordOf_18 (by rw [hL]; decide) ?_
    refine g_iconst (v := 0) h dX6_wordOf_19 (by decide) ?_
    refine g_istore h dX6_wordOf_20 (by rw [hL]; decide) ?_
    refine g_sub [(0, ra X 150), (1, .int (nI j)), (2, .int (nI a)), (3, .int (mMore (σ.1 151) a 0)), (4, .int (nI 0))] ⟨rfl, rfl, rfl, rfl, lk_0, trivial⟩ ?_
    exact LOOP n 0 (by omega)
  · refine g_aload_n h dX6_wordOf_10 rfl ?_
    refine g_iload_n h dX6_wordOf_11 rfl ?_
    refine g_iload_n h dX6_wordOf_12 rfl ?_
    refine cl6_67 h  (ct_X6_plainWord (by omega) ha hh (hor j hj) c7) rfl dX6_wordOf_13 rfl (Nat.le_of_ble_eq_true rfl) (by decide) ?_
    exact g_iret h hr dX6_wordOf_16 (by unfold mWord; rw [if_neg c7]) rfl
set_option maxRecDepth 100000 in
set_option maxHeartbeats 4000000 in
theorem ct_X6_stakeOf {l : Launch} {X : fX} {σ : fM} {i a : Nat} (hi : i < 6) (ha : a < 64) (hh : mhi (σ.1 151)) (ho : mor (mo (σ.1 151) i) (mt (σ.1 151) i)) : Ct l X yX6_stakeOf cX6_stakeOf 5 (some .int) 5 [ra X 150, .int (nI i), .int (nI a)] σ (some (.int (oStake (mo (σ.1 151) i) (mt (σ.1 151) i) ((σ.1 151) 0) (nI a) ((σ.1 151) 3)))) σ := by
  refine Ct.of RX6 rfl (by decide) (Nat.le_of_ble_eq_true rfl) ?_
  intro x hL h hr
  refine g_sub [(0, ra X 150), (1, .int (nI i)), (2, .int (nI a))] ⟨rfl, rfl, rfl, trivial⟩ ?_
  refine g_aload_n h dX6_stakeOf_0 rfl ?_
  refine g_iload_n h dX6_stakeOf_1 rfl ?_
  refine cl6_70 h  (ct_X6_isIn hi (purse_nn ho)) rfl dX6_stakeOf_2 rfl (Nat.le_of_ble_eq_true rfl) (by decide) ?_
  refine g_ifneB h 10 dX6_stakeOf_5 (by decide) (fun c5 => ?_) (fun c5 => ?_)
  · refine g_aload_n h dX6_stakeOf_10 rfl ?_
    refine g_iload_n h dX6_stakeOf_11 rfl ?_
    refine cl6_50 h  (ct_X6_hasTable hi) rfl dX6_stakeOf_12 rfl (Nat.le_of_ble_eq_true rfl) (by decide) ?_
    refine g_ifeqB h 33 dX6_stakeOf_15 (by decide) (fun c15 => ?_) (fun c15 => ?_)
    · refine g_iconst (v := 0) h dX6_stakeOf_33 (by decide) ?_
      refine g_istore_n h dX6_stakeOf_34 (by rw [hL]; decide) ?_
      refine g_iload_n h dX6_stakeOf_35 rfl ?_
      refine g_ifeq h 50 dX6_stakeOf_36 (by decide) (fun c36 => ?_) (fun c36 => ?_)
      · refine g_aload_n h dX6_stakeOf_50 rfl ?_
        refine gf6_7 h  dX6_stakeOf_51 ?_
        refine g_iconst (v := 0) h dX6_stakeOf_54 (by decide) ?_
        refine g_ialdN h (k := 151) (by decide) (enc_151 X) (show (0 : Int32) = nI 0 by decide) (by decide) (by decide) dX6_stakeOf_55 ?_
        refine g_istore h dX6_stakeOf_56 (by rw [hL]; decide) ?_
        refine g_iload h dX6_stakeOf_58 rfl ?_
        refine g_aload_n h dX6_stakeOf_60 rfl ?_
        refine g_iload_n h dX6_stakeOf_61 rfl ?_
        refine g_iconst (v := 2) h dX6_stakeOf_62 (by decide) ?_
        refine cl6_46 h  (ct_X6_part (i := i) (p := 2) hi (by decide)) rfl dX6_stakeOf_63 rfl (Nat.le_of_ble_eq_true rfl) (by decide) ?_
        refine g_icge h 74 dX6_stakeOf_66 (by decide) (fun c66 => ?_) (fun c66 => ?_)
        · replace c66 := Int32.not_lt.mpr c66
          refine g_aload_n h dX6_stakeOf_74 rfl ?_
          refine g_iload_n h dX6_stakeOf_75 rfl ?_
          refine g_iconst (v := 2) h dX6_stakeOf_76 (by decide) ?_
          refine cl6_46 h  (ct_X6_part (i := i) (p := 2) hi (by decide)) rfl dX6_stakeOf_77 rfl (Nat.le_of_ble_eq_true rfl) (by decide) ?_
          exact g_iret h hr dX6_stakeOf_80 (by first | (simp [oStake, c5]; done) | (simp [oStake, oSure, c5, c15, c36, c66]; done) | (rw [hc3] at c26; simp [oStake, oSure, c5, c15, c36, c66, c26]; done) | (simp_all [oStake, oSure]; done)) rfl
        · refine g_iload h dX6_stakeOf_69 rfl ?_
          refine g_goto h 80 dX6_stakeOf_71 (by decide) ?_
          exact g_iret h hr dX6_stakeOf_80 (by first | (simp [oStake, c5]; done) | (simp [oStake, oSure, c5, c15, c36, c66]; done) | (rw [hc3] at c26; simp [oStake, oSure, c5, c15, c36, c66, c26]; done) | (simp_all [oStake, oSure]; done)) rfl
      · refine g_iconst (v := 2) h dX6_stakeOf_39 (by decide) ?_
        refine g_aload_n h dX6_stakeOf_40 rfl ?_
        refine gf6_7 h  dX6_stakeOf_41 ?_
        refine g_iconst (v := 0) h dX6_stakeOf_44 (by decide) ?_
        refine g_ialdN h (k := 151) (by decide) (enc_151 X) (show (0 : Int32) = nI 0 by decide) (by decide) (by decide) dX6_stakeOf_45 ?_
        refine g_imul h dX6_stakeOf_46 ?_
        refine g_goto h 56 dX6_stakeOf_47 (by decide) ?_
        refine g_istore h dX6_stakeOf_56 (by rw [hL]; decide) ?_
        refine g_iload h dX6_stakeOf_58 rfl ?_
        refine g_aload_n h dX6_stakeOf_60 rfl ?_
        refine g_iload_n h dX6_stakeOf_61 rfl ?_
        refine g_iconst (v := 2) h dX6_stakeOf_62 (by decide) ?_
        refine cl6_46 h  (ct_X6_part (i := i) (p := 2) hi (by decide)) rfl dX6_stakeOf_63 rfl (Nat.le_of_ble_eq_true rfl) (by decide) ?_
        refine g_icge h 74 dX6_stakeOf_66 (by decide) (fun c66 => ?_) (fun c66 => ?_)
        · replace c66 := Int32.not_lt.mpr c66
          refine g_aload_n h dX6_stakeOf_74 rfl ?_
          refine g_iload_n h dX6_stakeOf_75 rfl ?_
          refine g_iconst (v := 2) h dX6_stakeOf_76 (by decide) ?_
          refine cl6_46 h  (ct_X6_part (i := i) (p := 2) hi (by decide)) rfl dX6_stakeOf_77 rfl (Nat.le_of_ble_eq_true rfl) (by decide) ?_
          exact g_iret h hr dX6_stakeOf_80 (by first | (simp [oStake, c5]; done) | (simp [oStake, oSure, c5, c15, c36, c66]; done) | (rw [hc3] at c26; simp [oStake, oSure, c5, c15, c36, c66, c26]; done) | (simp_all [oStake, oSure]; done)) rfl
        · refine g_iload h dX6_stakeOf_69 rfl ?_
          refine g_goto h 80 dX6_stakeOf_71 (by decide) ?_
          exact g_iret h hr dX6_stakeOf_80 (by first | (simp [oStake, c5]; done) | (simp [oStake, oSure, c5, c15, c36, c66]; done) | (rw [hc3] at c26; simp [oStake, oSure, c5, c15, c36, c66, c26]; done) | (simp_all [oStake, oSure]; done)) rfl
    · refine g_aload_n h dX6_stakeOf_18 rfl ?_
      refine g_iload_n h dX6_stakeOf_19 rfl ?_
      refine g_iload_n h dX6_stakeOf_20 rfl ?_
      have hc3 := cnt_rem3 (ho.2.2.2.1 (oSlot (mo (σ.1 151) i) (nI a) ((σ.1 151) 3)).toNatClampNeg (by obtain ⟨j, hj, ej⟩ := vp_in_of (oSlot_in ho.2.1 c15 (nI a) ((σ.1 151) 3)) (by decide); rw [ej, nI_clamp (by omega)]; exact hj))
      refine cl6_64 h  (ct_X6_counterOf hi ha hh ho.2.1 c15) rfl dX6_stakeOf_21 rfl (Nat.le_of_ble_eq_true rfl) (by decide) ?_
      refine g_iconst (v := 3) h dX6_stakeOf_24 (by decide) ?_
      refine g_irem h dX6_stakeOf_25 (by decide) ?_
      refine g_ifne h 33 dX6_stakeOf_26 (by decide) (fun c26 => ?_) (fun c26 => ?_)
      · refine g_iconst (v := 0) h dX6_stakeOf_33 (by decide) ?_
        refine g_istore_n h dX6_stakeOf_34 (by rw [hL]; decide) ?_
        refine g_iload_n h dX6_stakeOf_35 rfl ?_
        refine g_ifeq h 50 dX6_stakeOf_36 (by decide) (fun c36 => ?_) (fun c36 => ?_)
        · refine g_aload_n h dX6_stakeOf_50 rfl ?_
          refine gf6_7 h  dX6_stakeOf_51 ?_
          refine g_iconst (v := 0) h dX6_stakeOf_54 (by decide) ?_
          refine g_ialdN h (k := 151) (by decide) (enc_151 X) (show (0 : Int32) = nI 0 by decide) (by decide) (by decide) dX6_stakeOf_55 ?_
          refine g_istore h dX6_stakeOf_56 (by rw [hL]; decide) ?_
          refine g_iload h dX6_stakeOf_58 rfl ?_
          refine g_aload_n h dX6_stakeOf_60 rfl ?_
          refine g_iload_n h dX6_stakeOf_61 rfl ?_
          refine g_iconst (v := 2) h dX6_stakeOf_62 (by decide) ?_
          refine cl6_46 h  (ct_X6_part (i := i) (p := 2) hi (by decide)) rfl dX6_stakeOf_63 rfl (Nat.le_of_ble_eq_true rfl) (by decide) ?_
          refine g_icge h 74 dX6_stakeOf_66 (by decide) (fun c66 => ?_) (fun c66 => ?_)
          · replace c66 := Int32.not_lt.mpr c66
            refine g_aload_n h dX6_stakeOf_74 rfl ?_
            refine g_iload_n h dX6_stakeOf_75 rfl ?_
            refine g_iconst (v := 2) h dX6_stakeOf_76 (by decide) ?_
            refine cl6_46 h  (ct_X6_part (i := i) (p := 2) hi (by decide)) rfl dX6_stakeOf_77 rfl (Nat.le_of_ble_eq_true rfl) (by decide) ?_
            exact g_iret h hr dX6_stakeOf_80 (by first | (simp [oStake, c5]; done) | (simp [oStake, oSure, c5, c15, c26, c36, c66]; done) | (rw [hc3] at c26; simp [oStake, oSure, c5, c15, c26, c36, c66, c26]; done) | (simp_all [oStake, oSure]; done)) rfl
          · refine g_iload h dX6_stakeOf_69 rfl ?_
            refine g_goto h 80 dX6_stakeOf_71 (by decide) ?_
            exact g_iret h hr dX6_stakeOf_80 (by first | (simp [oStake, c5]; done) | (simp [oStake, oSure, c5, c15, c26, c36, c66]; done) | (rw [hc3] at c26; simp [oStake, oSure, c5, c15, c26, c36, c66, c26]; done) | (simp_all [oStake, oSure]; done)) rfl
        · refine g_iconst (v := 2) h dX6_stakeOf_39 (by decide) ?_
          refine g_aload_n h dX6_stakeOf_40 rfl ?_
          refine gf6_7 h  dX6_stakeOf_41 ?_
          refine g_iconst (v := 0) h dX6_stakeOf_44 (by decide) ?_
          refine g_ialdN h (k := 151) (by decide) (enc_151 X) (show (0 : Int32) = nI 0 by decide) (by decide) (by decide) dX6_stakeOf_45 ?_
          refine g_imul h dX6_stakeOf_46 ?_
          refine g_goto h 56 dX6_stakeOf_47 (by decide) ?_
          refine g_istore h dX6_stakeOf_56 (by rw [hL]; decide) ?_
          refine g_iload h dX6_stakeOf_58 rfl ?_
          refine g_aload_n h dX6_stakeOf_60 rfl ?_
          refine g_iload_n h dX6_stakeOf_61 rfl ?_
          refine g_iconst (v := 2) h dX6_stakeOf_62 (by decide) ?_
          refine cl6_46 h  (ct_X6_part (i := i) (p := 2) hi (by decide)) rfl dX6_stakeOf_63 rfl (Nat.le_of_ble_eq_true rfl) (by decide) ?_
          refine g_icge h 74 dX6_stakeOf_66 (by decide) (fun c66 => ?_) (fun c66 => ?_)
          · replace c66 := Int32.not_lt.mpr c66
            refine g_aload_n h dX6_stakeOf_74 rfl ?_
            refine g_iload_n h dX6_stakeOf_75 rfl ?_
            refine g_iconst (v := 2) h dX6_stakeOf_76 (by decide) ?_
            refine cl6_46 h  (ct_X6_part (i := i) (p := 2) hi (by decide)) rfl dX6_stakeOf_77 rfl (Nat.le_of_ble_eq_true rfl) (by decide) ?_
            exact g_iret h hr dX6_stakeOf_80 (by first | (simp [oStake, c5]; done) | (simp [oStake, oSure, c5, c15, c26, c36, c66]; done) | (rw [hc3] at c26; simp [oStake, oSure, c5, c15, c26, c36, c66, c26]; done) | (simp_all [oStake, oSure]; done)) rfl
          · refine g_iload h dX6_stakeOf_69 rfl ?_
            refine g_goto h 80 dX6_stakeOf_71 (by decide) ?_
            exact g_iret h hr dX6_stakeOf_80 (by first | (simp [oStake, c5]; done) | (simp [oStake, oSure, c5, c15, c26, c36, c66]; done) | (rw [hc3] at c26; simp [oStake, oSure, c5, c15, c26, c36, c66, c26]; done) | (simp_all [oStake, oSure]; done)) rfl
      · refine g_iconst (v := 1) h dX6_stakeOf_29 (by decide) ?_
        refine g_goto h 34 dX6_stakeOf_30 (by decide) ?_
        refine g_istore_n h dX6_stakeOf_34 (by rw [hL]; decide) ?_
        refine g_iload_n h dX6_stakeOf_35 rfl ?_
        refine g_ifeq h 50 dX6_stakeOf_36 (by decide) (fun c36 => ?_) (fun c36 => ?_)
        · refine g_aload_n h dX6_stakeOf_50 rfl ?_
          refine gf6_7 h  dX6_stakeOf_51 ?_
          refine g_iconst (v := 0) h dX6_stakeOf_54 (by decide) ?_
          refine g_ialdN h (k := 151) (by decide) (enc_151 X) (show (0 : Int32) = nI 0 by decide) (by decide) (by decide) dX6_stakeOf_55 ?_
          refine g_istore h dX6_stakeOf_56 (by rw [hL]; decide) ?_
          refine g_iload h dX6_stakeOf_58 rfl ?_
          refine g_aload_n h dX6_stakeOf_60 rfl ?_
          refine g_iload_n h dX6_stakeOf_61 rfl ?_
          refine g_iconst (v := 2) h dX6_stakeOf_62 (by decide) ?_
          refine cl6_46 h  (ct_X6_part (i := i) (p := 2) hi (by decide)) rfl dX6_stakeOf_63 rfl (Nat.le_of_ble_eq_true rfl) (by decide) ?_
          refine g_icge h 74 dX6_stakeOf_66 (by decide) (fun c66 => ?_) (fun c66 => ?_)
          · replace c66 := Int32.not_lt.mpr c66
            refine g_aload_n h dX6_stakeOf_74 rfl ?_
            refine g_iload_n h dX6_stakeOf_75 rfl ?_
            refine g_iconst (v := 2) h dX6_stakeOf_76 (by decide) ?_
            refine cl6_46 h  (ct_X6_part (i := i) (p := 2) hi (by decide)) rfl dX6_stakeOf_77 rfl (Nat.le_of_ble_eq_true rfl) (by decide) ?_
            exact g_iret h hr dX6_stakeOf_80 (by first | (simp [oStake, c5]; done) | (simp [oStake, oSure, c5, c15, c26, c36, c66]; done) | (rw [hc3] at c26; simp [oStake, oSure, c5, c15, c26, c36, c66, c26]; done) | (simp_all [oStake, oSure]; done)) rfl
          · refine g_iload h dX6_stakeOf_69 rfl ?_
            refine g_goto h 80 dX6_stakeOf_71 (by decide) ?_
            exact g_iret h hr dX6_stakeOf_80 (by first | (simp [oStake, c5]; done) | (simp [oStake, oSure, c5, c15, c26, c36, c66]; done) | (rw [hc3] at c26; simp [oStake, oSure, c5, c15, c26, c36, c66, c26]; done) | (simp_all [oStake, oSure]; done)) rfl
        · refine g_iconst (v := 2) h dX6_stakeOf_39 (by decide) ?_
          refine g_aload_n h dX6_stakeOf_40 rfl ?_
          refine gf6_7 h  dX6_stakeOf_41 ?_
          refine g_iconst (v := 0) h dX6_stakeOf_44 (by decide) ?_
          refine g_ialdN h (k := 151) (by decide) (enc_151 X) (show (0 : Int32) = nI 0 by decide) (by decide) (by decide) dX6_stakeOf_45 ?_
          refine g_imul h dX6_stakeOf_46 ?_
          refine g_goto h 56 dX6_stakeOf_47 (by decide) ?_
          refine g_istore h dX6_stakeOf_56 (by rw [hL]; decide) ?_
          refine g_iload h dX6_stakeOf_58 rfl ?_
          refine g_aload_n h dX6_stakeOf_60 rfl ?_
          refine g_iload_n h dX6_stakeOf_61 rfl ?_
          refine g_iconst (v := 2) h dX6_stakeOf_62 (by decide) ?_
          refine cl6_46 h  (ct_X6_part (i := i) (p := 2) hi (by decide)) rfl dX6_stakeOf_63 rfl (Nat.le_of_ble_eq_true rfl) (by decide) ?_
          refine g_icge h 74 dX6_stakeOf_66 (by decide) (fun c66 => ?_) (fun c66 => ?_)
          · replace c66 := Int32.not_lt.mpr c66
            refine g_aload_n h dX6_stakeOf_74 rfl ?_
            refine g_iload_n h dX6_stakeOf_75 rfl ?_
            refine g_iconst (v := 2) h dX6_stakeOf_76 (by decide) ?_
            refine cl6_46 h  (ct_X6_part (i := i) (p := 2) hi (by decide)) rfl dX6_stakeOf_77 rfl (Nat.le_of_ble_eq_true rfl) (by decide) ?_
            exact g_iret h hr dX6_stakeOf_80 (by first | (simp [oStake, c5]; done) | (simp [oStake, oSure, c5, c15, c26, c36, c66]; done) | (rw [hc3] at c26; simp [oStake, oSure, c5, c15, c26, c36, c66, c26]; done) | (simp_all [oStake, oSure]; done)) rfl
          · refine g_iload h dX6_stakeOf_69 rfl ?_
            refine g_goto h 80 dX6_stakeOf_71 (by decide) ?_
            exact g_iret h hr dX6_stakeOf_80 (by first | (simp [oStake, c5]; done) | (simp [oStake, oSure, c5, c15, c26, c36, c66]; done) | (rw [hc3] at c26; simp [oStake, oSure, c5, c15, c26, c36, c66, c26]; done) | (simp_all [oStake, oSure]; done)) rfl
  · refine g_iconst (v := 0) h dX6_stakeOf_8 (by decide) ?_
    exact g_iret h hr dX6_stakeOf_9 (by first | (simp [oStake, c5]; done) | (simp [oStake, oSure, c5]; done) | (rw [hc3] at c26; simp [oStake, oSure, c5, c26]; done) | (simp_all [oStake, oSure]; done)) rfl


def isS (w v : Int32) : Bool := if w = 0 then wi v 1 50 else if w = 1 then wi v 0 50 else decide (w = 2) && wi v 0 100

set_option maxRecDepth 100000 in
set_option maxHeartbeats 4000000 in
theorem ct_X6_isSetting {l : Launch} {X : fX} {σ : fM} {w v : Int32} : Ct l X yX6_isSetting cX6_isSetting 2 (some .boolean) 1 [.int w, .int v] σ (some (.int (bi (isS w v)))) σ := by
  refine Ct.of RX6 rfl (by decide) (Nat.le_of_ble_eq_true rfl) ?_
  intro x hL h hr
  refine g_sub [(0, .int w), (1, .int v)] ⟨rfl, rfl, trivial⟩ ?_
  refine g_iload_n h dX6_isSetting_0 rfl ?_
  refine g_ifne h 14 dX6_isSetting_1 (by decide) (fun c1 => ?_) (fun c1 => ?_)
  · refine g_iload_n h dX6_isSetting_14 rfl ?_
    refine g_iconst (v := 1) h dX6_isSetting_15 (by decide) ?_
    refine g_icne h 29 dX6_isSetting_16 (by decide) (fun c16 => ?_) (fun c16 => ?_)
    · refine g_iload_n h dX6_isSetting_29 rfl ?_
      refine g_iconst (v := 2) h dX6_isSetting_30 (by decide) ?_
      refine g_icne h 48 dX6_isSetting_31 (by decide) (fun c31 => ?_) (fun c31 => ?_)
      · refine g_iconst (v := 0) h dX6_isSetting_48 (by decide) ?_
        exact g_zret h hr (by first | rfl | exact bi_n _) dX6_isSetting_49 (by first | (simp [isS, bi, c1, c16, c31]; done) | (simp_all [isS, bi]; done)) rfl
      · refine g_iload_n h dX6_isSetting_34 rfl ?_
        refine g_iconst (v := 0) h dX6_isSetting_35 (by decide) ?_
        refine g_bipush (v := 100) h dX6_isSetting_36 (by decide) ?_
        refine cl6_42 h (ct_X6_within) rfl dX6_isSetting_38 rfl (Nat.le_of_ble_eq_true rfl) (by decide) ?_
        refine g_ifeqB h 48 dX6_isSetting_41 (by decide) (fun c41 => ?_) (fun c41 => ?_)
        · refine g_iconst (v := 0) h dX6_isSetting_48 (by decide) ?_
          exact g_zret h hr (by first | rfl | exact bi_n _) dX6_isSetting_49 (by first | (simp [isS, bi, c1, c16, c31, c41]; done) | (simp_all [isS, bi]; done)) rfl
        · refine g_iconst (v := 1) h dX6_isSetting_44 (by decide) ?_
          refine g_goto h 49 dX6_isSetting_45 (by decide) ?_
          exact g_zret h hr (by first | rfl | exact bi_n _) dX6_isSetting_49 (by first | (simp [isS, bi, c1, c16, c31, c41]; done) | (simp_all [isS, bi]; done)) rfl
    · refine g_iload_n h dX6_isSetting_19 rfl ?_
      refine g_iconst (v := 0) h dX6_isSetting_20 (by decide) ?_
      refine g_bipush (v := 50) h dX6_isSetting_21 (by decide) ?_
      refine cl6_42 h (ct_X6_within) rfl dX6_isSetting_23 rfl (Nat.le_of_ble_eq_true rfl) (by decide) ?_
      refine g_goto h 49 dX6_isSetting_26 (by decide) ?_
      exact g_zret h hr (by first | rfl | exact bi_n _) dX6_isSetting_49 (by first | (simp [isS, bi, c1, c16]; done) | (simp_all [isS, bi]; done)) rfl
  · refine g_iload_n h dX6_isSetting_4 rfl ?_
    refine g_iconst (v := 1) h dX6_isSetting_5 (by decide) ?_
    refine g_bipush (v := 50) h dX6_isSetting_6 (by decide) ?_
    refine cl6_42 h (ct_X6_within) rfl dX6_isSetting_8 rfl (Nat.le_of_ble_eq_true rfl) (by decide) ?_
    refine g_goto h 49 dX6_isSetting_11 (by decide) ?_
    exact g_zret h hr (by first | rfl | exact bi_n _) dX6_isSetting_49 (by first | (simp [isS, bi, c1]; done) | (simp_all [isS, bi]; done)) rfl

set_option maxRecDepth 100000 in
set_option maxHeartbeats 4000000 in
theorem ct_X6_sitting {l : Launch} {X : fX} {σ : fM} {n m : Nat} (hc : mcn (σ.1 151) n m) {b : Int32} : Ct l X yX6_sitting cX6_sitting 4 (some .int) 1 [ra X 150, .int b] σ (some (.int (sumF 0 (fun i => if mo (σ.1 151) i 3 = b then 1 else 0) n))) σ := by
  refine Ct.of RX6 rfl (by decide) (Nat.le_of_ble_eq_true rfl) ?_
  intro x hL h hr
  refine g_sub [(0, ra X 150), (1, .int b)] ⟨rfl, rfl, trivial⟩ ?_
  obtain ⟨hn, hn6, hm, hm8⟩ := id hc
  have LOOP : ∀ (q i : Nat), i + q = n → G x X σ [(0, ra X 150), (1, .int b), (2, .int (sumF 0 (fun i => if mo (σ.1 151) i 3 = b then 1 else 0) i)), (3, .int (nI i))] [] 4 := by
    intro q
    induction q with
    | zero =>
      intro i hi 
      have hie : i = n := by omega
      rw [hie]
      refine g_iload_n h dX6_sitting_4 rfl ?_
      refine g_aload_n h dX6_sitting_5 rfl ?_
      refine gf6_7 h  dX6_sitting_6 ?_
      refine g_bipush (v := 7) h dX6_sitting_9 (by decide) ?_
      refine g_ialdN h (k := 151) (by decide) (enc_151 X) (show (7 : Int32) = nI 7 by decide) (by decide) (by decide) dX6_sitting_11 ?_
      refine g_icge h 39 dX6_sitting_12 (by decide) (fun c12 => ?_) (fun c12 => absurd (by rw [hn]; exact Int32.le_refl _) c12)
      refine g_iload_n h dX6_sitting_39 rfl ?_
      exact g_iret h hr dX6_sitting_40 rfl rfl
    | succ q ih =>
      intro i hi 
      have hlt : i < n := by omega
      refine g_iload_n h dX6_sitting_4 rfl ?_
      refine g_aload_n h dX6_sitting_5 rfl ?_
      refine gf6_7 h  dX6_sitting_6 ?_
      refine g_bipush (v := 7) h dX6_sitting_9 (by decide) ?_
      refine g_ialdN h (k := 151) (by decide) (enc_151 X) (show (7 : Int32) = nI 7 by decide) (by decide) (by decide) dX6_sitting_11 ?_
      refine g_icge h 39 dX6_sitting_12 (by decide) (fun c12 => absurd c12 (by rw [hn]; exact nI_ge hlt (by omega))) (fun c12 => ?_)
      refine g_iload_n h dX6_sitting_15 rfl ?_
      refine g_aload_n h dX6_sitting_16 rfl ?_
      refine g_iload_n h dX6_sitting_17 rfl ?_
      refine g_iconst (v := 3) h dX6_sitting_18 (by decide) ?_
      refine cl6_46 h  (ct_X6_part (i := i) (p := 3) (by omega) (by decide)) rfl dX6_sitting_19 rfl (Nat.le_of_ble_eq_true rfl) (by decide) ?_
      refine g_iload_n h dX6_sitting_22 rfl ?_
      refine g_icne h 30 dX6_sitting_23 (by decide) (fun c23 => ?_) (fun c23 => ?_)
      · refine g_iconst (v := 0) h dX6_sitting_30 (by decide) ?_
        refine g_iadd h dX6_sitting_31 ?_
        refine g_istore_n h dX6_sitting_32 (by rw [hL]; decide) ?_
        refine g_iincN h dX6_sitting_33 rfl (by rw [hL]; decide) ?_
        refine g_goto h 4 dX6_sitting_36 (by decide) ?_
        refine g_sub [(0, ra X 150), (1, .int b), (2, .int (sumF 0 (fun i => if mo (σ.1 151) i 3 = b then 1 else 0) (i + 1))), (3, .int (nI (i + 1)))] ⟨rfl, rfl, (congrArg (fun z => some (Value.int z)) (by show _ = sumF _ _ i + _; first | (simp [c12, c23]; done) | (simp_all; done))), rfl, trivial⟩ ?_
        exact ih (i + 1) (by omega)
      · refine g_iconst (v := 1) h dX6_sitting_26 (by decide) ?_
        refine g_goto h 31 dX6_sitting_27 (by decide) ?_
        refine g_iadd h dX6_sitting_31 ?_
        refine g_istore_n h dX6_sitting_32 (by rw [hL]; decide) ?_
        refine g_iincN h dX6_sitting_33 rfl (by rw [hL]; decide) ?_
        refine g_goto h 4 dX6_sitting_36 (by decide) ?_
        refine g_sub [(0, ra X 150), (1, .int b), (2, .int (sumF 0 (fun i => if mo (σ.1 151) i 3 = b then 1 else 0) (i + 1))), (3, .int (nI (i + 1)))] ⟨rfl, rfl, (congrArg (fun z => some (Value.int z)) (by show _ = sumF _ _ i + _; first | (simp [c12, c23]; done) | (simp_all; done))), rfl, trivial⟩ ?_
        exact ih (i + 1) (by omega)
  refine g_iconst (v := 0) h dX6_sitting_0 (by decide) ?_
  refine g_istore_n h dX6_sitting_1 (by rw [hL]; decide) ?_
  refine g_iconst (v := 0) h dX6_sitting_2 (by decide) ?_
  refine g_istore_n h dX6_sitting_3 (by rw [hL]; decide) ?_
  refine g_sub [(0, ra X 150), (1, .int b), (2, .int (sumF 0 (fun i => if mo (σ.1 151) i 3 = b then 1 else 0) 0)), (3, .int (nI 0))] ⟨rfl, rfl, rfl, lk_0, trivial⟩ ?_
  exact LOOP n 0 (by omega)
set_option maxRecDepth 100000 in
set_option maxHeartbeats 4000000 in
theorem ct_X6_owes {l : Launch} {X : fX} {σ : fM} {n m : Nat} (hc : mcn (σ.1 151) n m) {b : Int32} {p : Nat} (hp : p < 3) : Ct l X yX6_owes cX6_owes 5 (some .int) 1 [ra X 150, .int b, .int (nI p)] σ (some (.int (sumF 0 (fun l => if ml (σ.1 151) l p = b then ml (σ.1 151) l 2 else 0) m))) σ := by
  refine Ct.of RX6 rfl (by decide) (Nat.le_of_ble_eq_true rfl) ?_
  intro x hL h hr
  refine g_sub [(0, ra X 150), (1, .int b), (2, .int (nI p))] ⟨rfl, rfl, rfl, trivial⟩ ?_
  obtain ⟨hn, hn6, hm, hm8⟩ := id hc
  have LOOP : ∀ (q i : Nat), i + q = m → G x X σ [(0, ra X 150), (1, .int b), (2, .int (nI p)), (3, .int (sumF 0 (fun l => if ml (σ.1 151) l p = b then ml (σ.1 151) l 2 else 0) i)), (4, .int (nI i))] [] 5 := by
    intro q
    induction q with
    | zero =>
      intro i hi 
      have hie : i = m := by omega
      rw [hie]
      refine g_iload h dX6_owes_5 rfl ?_
      refine g_aload_n h dX6_owes_7 rfl ?_
      refine gf6_7 h  dX6_owes_8 ?_
      refine g_bipush (v := 8) h dX6_owes_11 (by decide) ?_
      refine g_ialdN h (k := 151) (by decide) (enc_151 X) (show (8 : Int32) = nI 8 by decide) (by decide) (by decide) dX6_owes_13 ?_
      refine g_icge h 48 dX6_owes_14 (by decide) (fun c14 => ?_) (fun c14 => absurd (by rw [hm]; exact Int32.le_refl _) c14)
      refine g_iload_n h dX6_owes_48 rfl ?_
      exact g_iret h hr dX6_owes_49 rfl rfl
    | succ q ih =>
      intro i hi 
      have hlt : i < m := by omega
      refine g_iload h dX6_owes_5 rfl ?_
      refine g_aload_n h dX6_owes_7 rfl ?_
      refine gf6_7 h  dX6_owes_8 ?_
      refine g_bipush (v := 8) h dX6_owes_11 (by decide) ?_
      refine g_ialdN h (k := 151) (by decide) (enc_151 X) (show (8 : Int32) = nI 8 by decide) (by decide) (by decide) dX6_owes_13 ?_
      refine g_icge h 48 dX6_owes_14 (by decide) (fun c14 => absurd c14 (by rw [hm]; exact nI_ge hlt (by omega))) (fun c14 => ?_)
      refine g_iload_n h dX6_owes_17 rfl ?_
      refine g_aload_n h dX6_owes_18 rfl ?_
      refine g_iload h dX6_owes_19 rfl ?_
      refine g_iload_n h dX6_owes_21 rfl ?_
      refine cl6_97 h  (ct_X6_loanPart (by omega) hp) rfl dX6_owes_22 rfl (Nat.le_of_ble_eq_true rfl) (by decide) ?_
      refine g_iload_n h dX6_owes_25 rfl ?_
      refine g_icne h 39 dX6_owes_26 (by decide) (fun c26 => ?_) (fun c26 => ?_)
      · refine g_iconst (v := 0) h dX6_owes_39 (by decide) ?_
        refine g_iadd h dX6_owes_40 ?_
        refine g_istore_n h dX6_owes_41 (by rw [hL]; decide) ?_
        refine g_iincN h dX6_owes_42 rfl (by rw [hL]; decide) ?_
        refine g_goto h 5 dX6_owes_45 (by decide) ?_
        refine g_sub [(0, ra X 150), (1, .int b), (2, .int (nI p)), (3, .int (sumF 0 (fun l => if ml (σ.1 151) l p = b then ml (σ.1 151) l 2 else 0) (i + 1))), (4, .int (nI (i + 1)))] ⟨rfl, rfl, rfl, (congrArg (fun z => some (Value.int z)) (by show _ = sumF _ _ i + _; first | (simp [c14, c26]; done) | (simp_all; done))), rfl, trivial⟩ ?_
        exact ih (i + 1) (by omega)
      · refine g_aload_n h dX6_owes_29 rfl ?_
        refine g_iload h dX6_owes_30 rfl ?_
        refine g_iconst (v := 2) h dX6_owes_32 (by decide) ?_
        refine cl6_97 h  (ct_X6_loanPart (by omega) (by decide) (p := 2)) rfl dX6_owes_33 rfl (Nat.le_of_ble_eq_true rfl) (by decide) ?_
        refine g_goto h 40 dX6_owes_36 (by decide) ?_
        refine g_iadd h dX6_owes_40 ?_
        refine g_istore_n h dX6_owes_41 (by rw [hL]; decide) ?_
        refine g_iincN h dX6_owes_42 rfl (by rw [hL]; decide) ?_
        refine g_goto h 5 dX6_owes_45 (by decide) ?_
        refine g_sub [(0, ra X 150), (1, .int b), (2, .int (nI p)), (3, .int (sumF 0 (fun l => if ml (σ.1 151) l p = b then ml (σ.1 151) l 2 else 0) (i + 1))), (4, .int (nI (i + 1)))] ⟨rfl, rfl, rfl, (congrArg (fun z => some (Value.int z)) (by show _ = sumF _ _ i + _; first | (simp [c14, c26]; done) | (simp_all; done))), rfl, trivial⟩ ?_
        exact ih (i + 1) (by omega)
  refine g_iconst (v := 0) h dX6_owes_0 (by decide) ?_
  refine g_istore_n h dX6_owes_1 (by rw [hL]; decide) ?_
  refine g_iconst (v := 0) h dX6_owes_2 (by decide) ?_
  refine g_istore h dX6_owes_3 (by rw [hL]; decide) ?_
  refine g_sub [(0, ra X 150), (1, .int b), (2, .int (nI p)), (3, .int (sumF 0 (fun l => if ml (σ.1 151) l p = b then ml (σ.1 151) l 2 else 0) 0)), (4, .int (nI 0))] ⟨rfl, rfl, rfl, rfl, lk_0, trivial⟩ ?_
  exact LOOP m 0 (by omega)
set_option maxRecDepth 100000 in
set_option maxHeartbeats 4000000 in
theorem ct_X6_richer {l : Launch} {X : fX} {σ : fM} {n m : Nat} (hc : mcn (σ.1 151) n m) {j : Nat} (hj : j < n) : Ct l X yX6_richer cX6_richer 5 (some .int) 1 [ra X 150, .int (nI j)] σ (some (.int (sumF 0 (fun i => if 0 < mo (σ.1 151) i 2 - mo (σ.1 151) j 2 ∨ (mo (σ.1 151) i 2 - mo (σ.1 151) j 2 = 0 ∧ nI i < nI j) then 1 else 0) n))) σ := by
  refine Ct.of RX6 rfl (by decide) (Nat.le_of_ble_eq_true rfl) ?_
  intro x hL h hr
  refine g_sub [(0, ra X 150), (1, .int (nI j))] ⟨rfl, rfl, trivial⟩ ?_
  obtain ⟨hn, hn6, hm, hm8⟩ := id hc
  have LOOP : ∀ (q i : Nat), i + q = n → G x X σ [(0, ra X 150), (1, .int (nI j)), (2, .int (sumF 0 (fun i => if 0 < mo (σ.1 151) i 2 - mo (σ.1 151) j 2 ∨ (mo (σ.1 151) i 2 - mo (σ.1 151) j 2 = 0 ∧ nI i < nI j) then 1 else 0) i)), (3, .int (nI i))] [] 4 := by
    intro q
    induction q with
    | zero =>
      intro i hi 
      have hie : i = n := by omega
      rw [hie]
      refine g_iload_n h dX6_richer_4 rfl ?_
      refine g_aload_n h dX6_richer_5 rfl ?_
      refine gf6_7 h  dX6_richer_6 ?_
      refine g_bipush (v := 7) h dX6_richer_9 (by decide) ?_
      refine g_ialdN h (k := 151) (by decide) (enc_151 X) (show (7 : Int32) = nI 7 by decide) (by decide) (by decide) dX6_richer_11 ?_
      refine g_icge h 59 dX6_richer_12 (by decide) (fun c12 => ?_) (fun c12 => absurd (by rw [hn]; exact Int32.le_refl _) c12)
      refine g_iload_n h dX6_richer_59 rfl ?_
      exact g_iret h hr dX6_richer_60 rfl rfl
    | succ q ih =>
      intro i hi 
      have hlt : i < n := by omega
      refine g_iload_n h dX6_richer_4 rfl ?_
      refine g_aload_n h dX6_richer_5 rfl ?_
      refine gf6_7 h  dX6_richer_6 ?_
      refine g_bipush (v := 7) h dX6_richer_9 (by decide) ?_
      refine g_ialdN h (k := 151) (by decide) (enc_151 X) (show (7 : Int32) = nI 7 by decide) (by decide) (by decide) dX6_richer_11 ?_
      refine g_icge h 59 dX6_richer_12 (by decide) (fun c12 => absurd c12 (by rw [hn]; exact nI_ge hlt (by omega))) (fun c12 => ?_)
      refine g_aload_n h dX6_richer_15 rfl ?_
      refine g_iload_n h dX6_richer_16 rfl ?_
      refine g_iconst (v := 2) h dX6_richer_17 (by decide) ?_
      refine cl6_46 h  (ct_X6_part (i := i) (p := 2) (by omega) (by decide)) rfl dX6_richer_18 rfl (Nat.le_of_ble_eq_true rfl) (by decide) ?_
      refine g_aload_n h dX6_richer_21 rfl ?_
      refine g_iload_n h dX6_richer_22 rfl ?_
      refine g_iconst (v := 2) h dX6_richer_23 (by decide) ?_
      refine cl6_46 h  (ct_X6_part (i := j) (p := 2) (by omega) (by decide)) rfl dX6_richer_24 rfl (Nat.le_of_ble_eq_true rfl) (by decide) ?_
      refine g_isub h dX6_richer_27 ?_
      refine g_istore h dX6_richer_28 (by rw [hL]; decide) ?_
      refine g_iload_n h dX6_richer_30 rfl ?_
      refine g_iload h dX6_richer_31 rfl ?_
      refine g_ifgt h 46 dX6_richer_33 (by decide) (fun c33 => ?_) (fun c33 => ?_)
      · refine g_iconst (v := 1) h dX6_richer_46 (by decide) ?_
        refine g_goto h 51 dX6_richer_47 (by decide) ?_
        refine g_iadd h dX6_richer_51 ?_
        refine g_istore_n h dX6_richer_52 (by rw [hL]; decide) ?_
        refine g_iincN h dX6_richer_53 rfl (by rw [hL]; decide) ?_
        refine g_goto h 4 dX6_richer_56 (by decide) ?_
        refine g_sub [(0, ra X 150), (1, .int (nI j)), (2, .int (sumF 0 (fun i => if 0 < mo (σ.1 151) i 2 - mo (σ.1 151) j 2 ∨ (mo (σ.1 151) i 2 - mo (σ.1 151) j 2 = 0 ∧ nI i < nI j) then 1 else 0) (i + 1))), (3, .int (nI (i + 1)))] ⟨rfl, rfl, (congrArg (fun z => some (Value.int z)) (by show _ = sumF _ _ i + _; first | (simp [c12, c33]; done) | (simp_all; done))), rfl, trivial⟩ ?_
        exact ih (i + 1) (by omega)
      · refine g_iload h dX6_richer_36 rfl ?_
        refine g_ifne h 50 dX6_richer_38 (by decide) (fun c38 => ?_) (fun c38 => ?_)
        · refine g_iconst (v := 0) h dX6_richer_50 (by decide) ?_
          refine g_iadd h dX6_richer_51 ?_
          refine g_istore_n h dX6_richer_52 (by rw [hL]; decide) ?_
          refine g_iincN h dX6_richer_53 rfl (by rw [hL]; decide) ?_
          refine g_goto h 4 dX6_richer_56 (by decide) ?_
          refine g_sub [(0, ra X 150), (1, .int (nI j)), (2, .int (sumF 0 (fun i => if 0 < mo (σ.1 151) i 2 - mo (σ.1 151) j 2 ∨ (mo (σ.1 151) i 2 - mo (σ.1 151) j 2 = 0 ∧ nI i < nI j) then 1 else 0) (i + 1))), (3, .int (nI (i + 1)))] ⟨rfl, rfl, (congrArg (fun z => some (Value.int z)) (by show _ = sumF _ _ i + _; first | (simp [c12, c33, c38]; done) | (simp_all; done))), rfl, trivial⟩ ?_
          exact ih (i + 1) (by omega)
        · refine g_iload_n h dX6_richer_41 rfl ?_
          refine g_iload_n h dX6_richer_42 rfl ?_
          refine g_icge h 50 dX6_richer_43 (by decide) (fun c43 => ?_) (fun c43 => ?_)
          · refine g_iconst (v := 0) h dX6_richer_50 (by decide) ?_
            refine g_iadd h dX6_richer_51 ?_
            refine g_istore_n h dX6_richer_52 (by rw [hL]; decide) ?_
            refine g_iincN h dX6_richer_53 rfl (by rw [hL]; decide) ?_
            refine g_goto h 4 dX6_richer_56 (by decide) ?_
            refine g_sub [(0, ra X 150), (1, .int (nI j)), (2, .int (sumF 0 (fun i => if 0 < mo (σ.1 151) i 2 - mo (σ.1 151) j 2 ∨ (mo (σ.1 151) i 2 - mo (σ.1 151) j 2 = 0 ∧ nI i < nI j) then 1 else 0) (i + 1))), (3, .int (nI (i + 1)))] ⟨rfl, rfl, (congrArg (fun z => some (Value.int z)) (by show _ = sumF _ _ i + _; first | (simp [c12, c33, c38, c43]; done) | (simp_all; done))), rfl, trivial⟩ ?_
            exact ih (i + 1) (by omega)
          · refine g_iconst (v := 1) h dX6_richer_46 (by decide) ?_
            refine g_goto h 51 dX6_richer_47 (by decide) ?_
            refine g_iadd h dX6_richer_51 ?_
            refine g_istore_n h dX6_richer_52 (by rw [hL]; decide) ?_
            refine g_iincN h dX6_richer_53 rfl (by rw [hL]; decide) ?_
            refine g_goto h 4 dX6_richer_56 (by decide) ?_
            refine g_sub [(0, ra X 150), (1, .int (nI j)), (2, .int (sumF 0 (fun i => if 0 < mo (σ.1 151) i 2 - mo (σ.1 151) j 2 ∨ (mo (σ.1 151) i 2 - mo (σ.1 151) j 2 = 0 ∧ nI i < nI j) then 1 else 0) (i + 1))), (3, .int (nI (i + 1)))] ⟨rfl, rfl, (congrArg (fun z => some (Value.int z)) (by show _ = sumF _ _ i + _; first | (simp [c12, c33, c38, c43]; done) | (simp_all; done))), rfl, trivial⟩ ?_
            exact ih (i + 1) (by omega)
  refine g_iconst (v := 0) h dX6_richer_0 (by decide) ?_
  refine g_istore_n h dX6_richer_1 (by rw [hL]; decide) ?_
  refine g_iconst (v := 0) h dX6_richer_2 (by decide) ?_
  refine g_istore_n h dX6_richer_3 (by rw [hL]; decide) ?_
  refine g_sub [(0, ra X 150), (1, .int (nI j)), (2, .int (sumF 0 (fun i => if 0 < mo (σ.1 151) i 2 - mo (σ.1 151) j 2 ∨ (mo (σ.1 151) i 2 - mo (σ.1 151) j 2 = 0 ∧ nI i < nI j) then 1 else 0) 0)), (3, .int (nI 0))] ⟨rfl, rfl, rfl, lk_0, trivial⟩ ?_
  exact LOOP n 0 (by omega)