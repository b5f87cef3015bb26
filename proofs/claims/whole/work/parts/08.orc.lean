/-! the class of oracles: what its methods answer, over the ints f of an oracle, its table t -/
def oSeat (f : Nat → Int32) : Bool := decide (¬ f 3 = -1)
def oRuin (f : Nat → Int32) : Bool := decide (f 2 = 0)
def oIn (f : Nat → Int32) : Bool := oSeat f && !oRuin f
def oTab (f : Nat → Int32) : Bool := decide (1 ≤ f 0) && decide (f 0 ≤ 3)
def oSize (f : Nat → Int32) : Int32 := if oTab f = true then 1 <<< (f 1 &&& 31) else 0
def oMask (f : Nat → Int32) : Int32 := (1 <<< (f 1 &&& 31)) - 1
def oSlot (f : Nat → Int32) (a hi : Int32) : Int32 := if f 0 = 1 then a &&& oMask f else if f 0 = 2 then hi &&& oMask f else (a ^^^ hi) &&& oMask f
def oWord (f t : Nat → Int32) (a hi : Int32) : Int32 := if oTab f = true then (if 2 ≤ t (oSlot f a hi).toNatClampNeg then 1 else 0) else f 1
def oSure (f t : Nat → Int32) (a hi : Int32) : Bool := oTab f && (decide (t (oSlot f a hi).toNatClampNeg = 0) || decide (t (oSlot f a hi).toNatClampNeg = 3))
def oStake (f t : Nat → Int32) (u a hi : Int32) : Int32 := if oIn f = true then (if (if oSure f t a hi = true then 2 * u else u) < f 2 then (if oSure f t a hi = true then 2 * u else u) else f 2) else 0
/-- the number of a table is in range -/
def oGood (f : Nat → Int32) : Prop := oTab f = true → ∃ n : Nat, n ≤ 5 ∧ f 1 = nI n
theorem oMask_b : ∀ n, n ≤ 5 → (((1 : Int32) <<< (nI n &&& 31)) - 1).toBitVec.toNat = 2 ^ n - 1 := by decide +kernel
theorem oSlot_in {f : Nat → Int32} (hg : oGood f) (ht : oTab f = true) (a hi : Int32) : vp_in (oSlot f a hi) 32 := by
  obtain ⟨n, hn, e⟩ := hg ht
  have key : ∀ z : Int32, vp_in (z &&& oMask f) 32 := by
    intro z
    unfold oMask
    rw [e]
    obtain ⟨j, hj, ej⟩ := pk_andE z n (oMask_b n hn)
    rw [ej]
    have h32 : 2 ^ n ≤ 2 ^ 5 := Nat.pow_le_pow_right (by decide) hn
    exact vp_in_nI (by omega) (by decide)
  unfold oSlot
  split
  · exact key _
  · split
    · exact key _
    · exact key _

set_option maxRecDepth 100000 in
set_option maxHeartbeats 4000000 in
theorem ct_X1_hasSeat {l : Launch} {X : fX} {σ : fM} {s i : Nat} (hs : s < 6) (hi : i < 6) : Ct l X yX1_hasSeat cX1_hasSeat 1 (some .boolean) 0 [ra X (iO s i)] σ (some (.int (bi (oSeat (σ.1 (iO s i)))))) σ := by
  refine Ct.of RX1 rfl (by decide) (Nat.le_of_ble_eq_true rfl) ?_
  intro x hL h hr
  refine g_sub [(0, ra X (iO s i))] ⟨rfl, trivial⟩ ?_
  refine g_aload_n h dX1_hasSeat_0 rfl ?_
  refine gf1_25 h (by omega) (by omega) dX1_hasSeat_1 ?_
  refine g_iconst (v := (-1)) h dX1_hasSeat_4 (by decide) ?_
  refine g_iceq h 12 dX1_hasSeat_5 (by decide) (fun c5 => ?_) (fun c5 => ?_)
  · refine g_iconst (v := 0) h dX1_hasSeat_12 (by decide) ?_
    exact g_zret h hr (by first | rfl | exact bi_n _) dX1_hasSeat_13 (by simp_all [oSeat, bi]) rfl
  · refine g_iconst (v := 1) h dX1_hasSeat_8 (by decide) ?_
    refine g_goto h 13 dX1_hasSeat_9 (by decide) ?_
    exact g_zret h hr (by first | rfl | exact bi_n _) dX1_hasSeat_13 (by simp_all [oSeat, bi]) rfl

set_option maxRecDepth 100000 in
set_option maxHeartbeats 4000000 in
theorem ct_X1_isRuined {l : Launch} {X : fX} {σ : fM} {s i : Nat} (hs : s < 6) (hi : i < 6) : Ct l X yX1_isRuined cX1_isRuined 1 (some .boolean) 0 [ra X (iO s i)] σ (some (.int (bi (oRuin (σ.1 (iO s i)))))) σ := by
  refine Ct.of RX1 rfl (by decide) (Nat.le_of_ble_eq_true rfl) ?_
  intro x hL h hr
  refine g_sub [(0, ra X (iO s i))] ⟨rfl, trivial⟩ ?_
  refine g_aload_n h dX1_isRuined_0 rfl ?_
  refine gf1_22 h (by omega) (by omega) dX1_isRuined_1 ?_
  refine g_ifne h 11 dX1_isRuined_4 (by decide) (fun c4 => ?_) (fun c4 => ?_)
  · refine g_iconst (v := 0) h dX1_isRuined_11 (by decide) ?_
    exact g_zret h hr (by first | rfl | exact bi_n _) dX1_isRuined_12 (by simp_all [oRuin, bi]) rfl
  · refine g_iconst (v := 1) h dX1_isRuined_7 (by decide) ?_
    refine g_goto h 12 dX1_isRuined_8 (by decide) ?_
    exact g_zret h hr (by first | rfl | exact bi_n _) dX1_isRuined_12 (by simp_all [oRuin, bi]) rfl

set_option maxRecDepth 100000 in
set_option maxHeartbeats 4000000 in
theorem ct_X1_takesPart {l : Launch} {X : fX} {σ : fM} {s i : Nat} (hs : s < 6) (hi : i < 6) : Ct l X yX1_takesPart cX1_takesPart 1 (some .boolean) 1 [ra X (iO s i)] σ (some (.int (bi (oIn (σ.1 (iO s i)))))) σ := by
  refine Ct.of RX1 rfl (by decide) (Nat.le_of_ble_eq_true rfl) ?_
  intro x hL h hr
  refine g_sub [(0, ra X (iO s i))] ⟨rfl, trivial⟩ ?_
  refine g_aload_n h dX1_takesPart_0 rfl ?_
  refine cl1_49 h (by omega) (by omega) (ct_X1_hasSeat (by omega) (by omega)) rfl dX1_takesPart_1 rfl (Nat.le_of_ble_eq_true rfl) (by decide) ?_
  refine g_ifeqB h 18 dX1_takesPart_4 (by decide) (fun c4 => ?_) (fun c4 => ?_)
  · refine g_iconst (v := 0) h dX1_takesPart_18 (by decide) ?_
    exact g_zret h hr (by first | rfl | exact bi_n _) dX1_takesPart_19 (by simp_all [oIn, bi]) rfl
  · refine g_aload_n h dX1_takesPart_7 rfl ?_
    refine cl1_53 h (by omega) (by omega) (ct_X1_isRuined (by omega) (by omega)) rfl dX1_takesPart_8 rfl (Nat.le_of_ble_eq_true rfl) (by decide) ?_
    refine g_ifneB h 18 dX1_takesPart_11 (by decide) (fun c11 => ?_) (fun c11 => ?_)
    · refine g_iconst (v := 0) h dX1_takesPart_18 (by decide) ?_
      exact g_zret h hr (by first | rfl | exact bi_n _) dX1_takesPart_19 (by simp_all [oIn, bi]) rfl
    · refine g_iconst (v := 1) h dX1_takesPart_14 (by decide) ?_
      refine g_goto h 19 dX1_takesPart_15 (by decide) ?_
      exact g_zret h hr (by first | rfl | exact bi_n _) dX1_takesPart_19 (by simp_all [oIn, bi]) rfl

set_option maxRecDepth 100000 in
set_option maxHeartbeats 4000000 in
theorem ct_X1_hasTable {l : Launch} {X : fX} {σ : fM} {s i : Nat} (hs : s < 6) (hi : i < 6) : Ct l X yX1_hasTable cX1_hasTable 1 (some .boolean) 0 [ra X (iO s i)] σ (some (.int (bi (oTab (σ.1 (iO s i)))))) σ := by
  refine Ct.of RX1 rfl (by decide) (Nat.le_of_ble_eq_true rfl) ?_
  intro x hL h hr
  refine g_sub [(0, ra X (iO s i))] ⟨rfl, trivial⟩ ?_
  refine g_aload_n h dX1_hasTable_0 rfl ?_
  refine gf1_15 h (by omega) (by omega) dX1_hasTable_1 ?_
  refine g_iconst (v := 1) h dX1_hasTable_4 (by decide) ?_
  refine g_iclt h 20 dX1_hasTable_5 (by decide) (fun c5 => ?_) (fun c5 => ?_)
  · refine g_iconst (v := 0) h dX1_hasTable_20 (by decide) ?_
    exact g_zret h hr (by first | rfl | exact bi_n _) dX1_hasTable_21 (by simp_all [oTab, bi]) rfl
  · refine g_aload_n h dX1_hasTable_8 rfl ?_
    refine gf1_15 h (by omega) (by omega) dX1_hasTable_9 ?_
    refine g_iconst (v := 3) h dX1_hasTable_12 (by decide) ?_
    refine g_icgt h 20 dX1_hasTable_13 (by decide) (fun c13 => ?_) (fun c13 => ?_)
    · refine g_iconst (v := 0) h dX1_hasTable_20 (by decide) ?_
      exact g_zret h hr (by first | rfl | exact bi_n _) dX1_hasTable_21 (by simp_all [oTab, bi]) rfl
    · refine g_iconst (v := 1) h dX1_hasTable_16 (by decide) ?_
      refine g_goto h 21 dX1_hasTable_17 (by decide) ?_
      exact g_zret h hr (by first | rfl | exact bi_n _) dX1_hasTable_21 (by simp_all [oTab, bi]) rfl

set_option maxRecDepth 100000 in
set_option maxHeartbeats 4000000 in
theorem ct_X1_tableSize {l : Launch} {X : fX} {σ : fM} {s i : Nat} (hs : s < 6) (hi : i < 6) : Ct l X yX1_tableSize cX1_tableSize 1 (some .int) 1 [ra X (iO s i)] σ (some (.int (oSize (σ.1 (iO s i))))) σ := by
  refine Ct.of RX1 rfl (by decide) (Nat.le_of_ble_eq_true rfl) ?_
  intro x hL h hr
  refine g_sub [(0, ra X (iO s i))] ⟨rfl, trivial⟩ ?_
  refine g_aload_n h dX1_tableSize_0 rfl ?_
  refine cl1_56 h (by omega) (by omega) (ct_X1_hasTable (by omega) (by omega)) rfl dX1_tableSize_1 rfl (Nat.le_of_ble_eq_true rfl) (by decide) ?_
  refine g_ifeqB h 16 dX1_tableSize_4 (by decide) (fun c4 => ?_) (fun c4 => ?_)
  · refine g_iconst (v := 0) h dX1_tableSize_16 (by decide) ?_
    exact g_iret h hr dX1_tableSize_17 (by simp_all [oSize]) rfl
  · refine g_iconst (v := 1) h dX1_tableSize_7 (by decide) ?_
    refine g_aload_n h dX1_tableSize_8 rfl ?_
    refine gf1_19 h (by omega) (by omega) dX1_tableSize_9 ?_
    refine g_ishl h dX1_tableSize_12 ?_
    refine g_goto h 17 dX1_tableSize_13 (by decide) ?_
    exact g_iret h hr dX1_tableSize_17 (by simp_all [oSize]) rfl

set_option maxRecDepth 100000 in
set_option maxHeartbeats 4000000 in
theorem ct_X1_slotOf {l : Launch} {X : fX} {σ : fM} {s i : Nat} (hs : s < 6) (hi : i < 6) {a b : Int32} : Ct l X yX1_slotOf cX1_slotOf 4 (some .int) 0 [ra X (iO s i), .int a, .int b] σ (some (.int (oSlot (σ.1 (iO s i)) a b))) σ := by
  refine Ct.of RX1 rfl (by decide) (Nat.le_of_ble_eq_true rfl) ?_
  intro x hL h hr
  refine g_sub [(0, ra X (iO s i)), (1, .int a), (2, .int b)] ⟨rfl, rfl, rfl, trivial⟩ ?_
  refine g_iconst (v := 1) h dX1_slotOf_0 (by decide) ?_
  refine g_aload_n h dX1_slotOf_1 rfl ?_
  refine gf1_19 h (by omega) (by omega) dX1_slotOf_2 ?_
  refine g_ishl h dX1_slotOf_5 ?_
  refine g_iconst (v := 1) h dX1_slotOf_6 (by decide) ?_
  refine g_isub h dX1_slotOf_7 ?_
  refine g_istore_n h dX1_slotOf_8 (by rw [hL]; decide) ?_
  refine g_aload_n h dX1_slotOf_9 rfl ?_
  refine gf1_15 h (by omega) (by omega) dX1_slotOf_10 ?_
  refine g_iconst (v := 1) h dX1_slotOf_13 (by decide) ?_
  refine g_icne h 21 dX1_slotOf_14 (by decide) (fun c14 => ?_) (fun c14 => ?_)
  · refine g_aload_n h dX1_slotOf_21 rfl ?_
    refine gf1_15 h (by omega) (by omega) dX1_slotOf_22 ?_
    refine g_iconst (v := 2) h dX1_slotOf_25 (by decide) ?_
    refine g_icne h 33 dX1_slotOf_26 (by decide) (fun c26 => ?_) (fun c26 => ?_)
    · refine g_iload_n h dX1_slotOf_33 rfl ?_
      refine g_iload_n h dX1_slotOf_34 rfl ?_
      refine g_ixor h dX1_slotOf_35 ?_
      refine g_iload_n h dX1_slotOf_36 rfl ?_
      refine g_iand h dX1_slotOf_37 ?_
      exact g_iret h hr dX1_slotOf_38 (by first | (simp_all [oSlot, oMask]; done) | (simp only [oSlot, oMask]; rw [if_neg (by assumption), if_pos (by assumption)]; done) | (simp only [oSlot, oMask]; rw [if_neg (by assumption), if_neg (by assumption)])) rfl
    · refine g_iload_n h dX1_slotOf_29 rfl ?_
      refine g_goto h 36 dX1_slotOf_30 (by decide) ?_
      refine g_iload_n h dX1_slotOf_36 rfl ?_
      refine g_iand h dX1_slotOf_37 ?_
      exact g_iret h hr dX1_slotOf_38 (by first | (simp_all [oSlot, oMask]; done) | (simp only [oSlot, oMask]; rw [if_neg (by assumption), if_pos (by assumption)]; done) | (simp only [oSlot, oMask]; rw [if_neg (by assumption), if_neg (by assumption)])) rfl
  · refine g_iload_n h dX1_slotOf_17 rfl ?_
    refine g_iload_n h dX1_slotOf_18 rfl ?_
    refine g_iand h dX1_slotOf_19 ?_
    exact g_iret h hr dX1_slotOf_20 (by first | (simp_all [oSlot, oMask]; done) | (simp only [oSlot, oMask]; rw [if_neg (by assumption), if_pos (by assumption)]; done) | (simp only [oSlot, oMask]; rw [if_neg (by assumption), if_neg (by assumption)])) rfl
