/-! the class of oracles: what its methods answer, over the ints f of an oracle, its table t -/
def oSeat (f : Nat → Int32) : Bool := decide (¬ f 3 = -1)
def oRuin (f : Nat → Int32) : Bool := decide (f 2 = 0)
def oIn (f : Nat → Int32) : Bool := oSeat f && !oRuin f
def oTab (f : Nat → Int32) : Bool := !decide (f 0 < 1) && !decide (3 < f 0)
def oSize (f : Nat → Int32) : Int32 := if oTab f = true then 1 <<< (f 1 &&& 31) else 0
def oMask (f : Nat → Int32) : Int32 := (1 <<< (f 1 &&& 31)) - 1
def oSlot (f : Nat → Int32) (a hi : Int32) : Int32 := if f 0 = 1 then a &&& oMask f else if f 0 = 2 then hi &&& oMask f else (a ^^^ hi) &&& oMask f
def oWord (f t : Nat → Int32) (a hi : Int32) : Int32 := if oTab f = true then (if t (oSlot f a hi).toNatClampNeg < 2 then 0 else 1) else f 1
def oSure (f t : Nat → Int32) (a hi : Int32) : Bool := oTab f && (decide (t (oSlot f a hi).toNatClampNeg = 0) || decide (t (oSlot f a hi).toNatClampNeg = 3))
def oStake (f t : Nat → Int32) (u a hi : Int32) : Int32 := if oIn f = true then (if (if oSure f t a hi = true then 2 * u else u) < f 2 then (if oSure f t a hi = true then 2 * u else u) else f 2) else 0
/-- the number of a table is in range -/
def oGood (f : Nat → Int32) : Prop := oTab f = true → ∃ n : Nat, n ≤ 5 ∧ f 1 = nI n
theorem oMask_b : ∀ n, n ≤ 5 → (((1 : Int32) <<< (nI n &&& 31)) - 1).toBitVec.toNat = 2 ^ n - 1 := by decide +kernel
theorem oSlot_in {f : Nat → Int32} (hg : oGood f) (ht : oTab f = true) (a hi : Int32) : vp_in (oSlot f a hi) 32 := by
  obtain ⟨n, hn, e⟩ := hg ht
  have key : ∀ z : Int32, vp_in (z &&& oMask f) 32 := by
    intro z
    unfold oMask
    rw [e]
    obtain ⟨j, hj, ej⟩ := pk_andE z n (oMask_b n hn)
    rw [ej]
    have h32 : 2 ^ n ≤ 2 ^ 5 := Nat.pow_le_pow_right (by decide) hn
    exact vp_in_nI (by omega) (by decide)
  unfold oSlot
  split
  · exact key _
  · split
    · exact key _
    · exact key _

/-- a counter behind a branch -/
def oLrn (c k : Int32) : Int32 := if k = 1 then (if c + 1 < 3 then c + 1 else 3) else (if 0 < c - 1 then c - 1 else 0)
/-- an oracle's ints behind a branch in which it was right (w not 0) or wrong -/
def oNote (f : Nat → Int32) (w : Int32) : Nat → Int32 :=
  let f1 := if w = 0 then upd f 6 (f 6 + 1) else upd f 5 (f 5 + 1)
  let f2 := upd f1 7 ((2 * f1 7 + (if w = 0 then 0 else 1)) &&& 65535)
  if f2 2 = 0 then upd f2 8 (f2 8 + 1) else f2
def oBegin (f : Nat → Int32) (k n p : Int32) : Nat → Int32 := upd (upd (upd (upd (upd (upd (upd (upd (upd f 0 k) 1 n) 2 p) 3 (-1)) 4 (-1)) 5 0) 6 0) 7 0) 8 0
/-- the ints of an oracle that are copied -/
def oCopy (f g : Nat → Int32) : Nat → Int32 := upd (upd (upd (upd (upd (upd (upd (upd (upd g 0 (f 0)) 1 (f 1)) 2 (f 2)) 3 (f 3)) 4 (f 4)) 5 (f 5)) 6 (f 6)) 7 (f 7)) 8 (f 8)
def lCopy (f g : Nat → Int32) : Nat → Int32 := upd (upd (upd g 0 (f 0)) 1 (f 1)) 2 (f 2)
theorem pu_puR (σ : fM) (k j : Nat) (v : Int32) : pu σ k j v = puR σ k (upd (σ.1 k) j v) := by
  refine Prod.ext ?_ rfl
  funext k' j'
  by_cases hk : k' = k
  · subst hk
    simp [pu, puR, upd]
  · simp [pu, puR, hk]
theorem puR_puR (σ : fM) (k : Nat) (r r' : Nat → Int32) : puR (puR σ k r) k r' = puR σ k r' := by
  refine Prod.ext ?_ rfl
  funext k'
  by_cases hk : k' = k <;> simp [puR, hk]
theorem puR_id (σ : fM) (k : Nat) : puR σ k (σ.1 k) = σ := by
  refine Prod.ext ?_ rfl
  funext k'
  by_cases hk : k' = k
  · subst hk; simp [puR]
  · simp [puR, hk]
theorem puR_comm (σ : fM) {k k' : Nat} (h : k ≠ k') (r r' : Nat → Int32) : puR (puR σ k r) k' r' = puR (puR σ k' r') k r := by
  refine Prod.ext ?_ rfl
  funext q
  by_cases h1 : q = k
  · subst h1
    simp [puR, h]
  · by_cases h2 : q = k'
    · subst h2; simp [puR, h1]
    · simp [puR, h1, h2]
theorem upd_s (f : Nat → Int32) (k : Nat) (x : Int32) : upd f k x k = x := by simp [upd]
theorem upd_n (f : Nat → Int32) (k j : Nat) (x : Int32) (h : ¬ j = k) : upd f k x j = f j := by simp [upd, h]
theorem iO_T (s i s' i' : Nat) : iO s i ≠ iT s' i' := by unfold iO iT; omega

set_option maxRecDepth 100000 in
set_option maxHeartbeats 4000000 in
theorem ct_X1_hasSeat {l : Launch} {X : fX} {σ : fM} {s i : Nat} (hs : s < 6) (hi : i < 6) : Ct l X yX1_hasSeat cX1_hasSeat 1 (some .boolean) 0 [ra X (iO s i)] σ (some (.int (bi (oSeat (σ.1 (iO s i)))))) σ := by
  refine Ct.of RX1 rfl (by decide) (Nat.le_of_ble_eq_true rfl) ?_
  intro x hL h hr
  refine g_sub [(0, ra X (iO s i))] ⟨rfl, trivial⟩ ?_
  refine g_aload_n h dX1_hasSeat_0 rfl ?_
  refine gf1_25 h (by omega) (by omega) dX1_hasSeat_1 ?_
  refine g_iconst (v := (-1)) h dX1_hasSeat_4 (by decide) ?_
  refine g_iceq h 12 dX1_hasSeat_5 (by decide) (fun c5 => ?_) (fun c5 => ?_)
  · refine g_iconst (v := 0) h dX1_hasSeat_12 (by decide) ?_
    exact g_zret h hr (by first | rfl | exact bi_n _) dX1_hasSeat_13 (by first | (simp [oSeat, bi, c5]; done) | (simp_all [oSeat, bi]; done)) rfl
  · refine g_iconst (v := 1) h dX1_hasSeat_8 (by decide) ?_
    refine g_goto h 13 dX1_hasSeat_9 (by decide) ?_
    exact g_zret h hr (by first | rfl | exact bi_n _) dX1_hasSeat_13 (by first | (simp [oSeat, bi, c5]; done) | (simp_all [oSeat, bi]; done)) rfl

set_option maxRecDepth 100000 in
set_option maxHeartbeats 4000000 in
theorem ct_X1_isRuined {l : Launch} {X : fX} {σ : fM} {s i : Nat} (hs : s < 6) (hi : i < 6) : Ct l X yX1_isRuined cX1_isRuined 1 (some .boolean) 0 [ra X (iO s i)] σ (some (.int (bi (oRuin (σ.1 (iO s i)))))) σ := by
  refine Ct.of RX1 rfl (by decide) (Nat.le_of_ble_eq_true rfl) ?_
  intro x hL h hr
  refine g_sub [(0, ra X (iO s i))] ⟨rfl, trivial⟩ ?_
  refine g_aload_n h dX1_isRuined_0 rfl ?_
  refine gf1_22 h (by omega) (by omega) dX1_isRuined_1 ?_
  refine g_ifne h 11 dX1_isRuined_4 (by decide) (fun c4 => ?_) (fun c4 => ?_)
  · refine g_iconst (v := 0) h dX1_isRuined_11 (by decide) ?_
    exact g_zret h hr (by first | rfl | exact bi_n _) dX1_isRuined_12 (by first | (simp [oRuin, bi, c4]; done) | (simp_all [oRuin, bi]; done)) rfl
  · refine g_iconst (v := 1) h dX1_isRuined_7 (by decide) ?_
    refine g_goto h 12 dX1_isRuined_8 (by decide) ?_
    exact g_zret h hr (by first | rfl | exact bi_n _) dX1_isRuined_12 (by first | (simp [oRuin, bi, c4]; done) | (simp_all [oRuin, bi]; done)) rfl

set_option maxRecDepth 100000 in
set_option maxHeartbeats 4000000 in
theorem ct_X1_takesPart {l : Launch} {X : fX} {σ : fM} {s i : Nat} (hs : s < 6) (hi : i < 6) : Ct l X yX1_takesPart cX1_takesPart 1 (some .boolean) 1 [ra X (iO s i)] σ (some (.int (bi (oIn (σ.1 (iO s i)))))) σ := by
  refine Ct.of RX1 rfl (by decide) (Nat.le_of_ble_eq_true rfl) ?_
  intro x hL h hr
  refine g_sub [(0, ra X (iO s i))] ⟨rfl, trivial⟩ ?_
  refine g_aload_n h dX1_takesPart_0 rfl ?_
  refine cl1_49 h (by omega) (by omega) (ct_X1_hasSeat (by omega) (by omega)) rfl dX1_takesPart_1 rfl (Nat.le_of_ble_eq_true rfl) (by decide) ?_
  refine g_ifeqB h 18 dX1_takesPart_4 (by decide) (fun c4 => ?_) (fun c4 => ?_)
  · refine g_iconst (v := 0) h dX1_takesPart_18 (by decide) ?_
    exact g_zret h hr (by first | rfl | exact bi_n _) dX1_takesPart_19 (by first | (simp [oIn, bi, c4]; done) | (simp_all [oIn, bi]; done)) rfl
  · refine g_aload_n h dX1_takesPart_7 rfl ?_
    refine cl1_53 h (by omega) (by omega) (ct_X1_isRuined (by omega) (by omega)) rfl dX1_takesPart_8 rfl (Nat.le_of_ble_eq_true rfl) (by decide) ?_
    refine g_ifneB h 18 dX1_takesPart_11 (by decide) (fun c11 => ?_) (fun c11 => ?_)
    · refine g_iconst (v := 0) h dX1_takesPart_18 (by decide) ?_
      exact g_zret h hr (by first | rfl | exact bi_n _) dX1_takesPart_19 (by first | (simp [oIn, bi, c4, c11]; done) | (simp_all [oIn, bi]; done)) rfl
    · refine g_iconst (v := 1) h dX1_takesPart_14 (by decide) ?_
      refine g_goto h 19 dX1_takesPart_15 (by decide) ?_
      exact g_zret h hr (by first | rfl | exact bi_n _) dX1_takesPart_19 (by first | (simp [oIn, bi, c4, c11]; done) | (simp_all [oIn, bi]; done)) rfl

set_option maxRecDepth 100000 in
set_option maxHeartbeats 4000000 in
theorem ct_X1_hasTable {l : Launch} {X : fX} {σ : fM} {s i : Nat} (hs : s < 6) (hi : i < 6) : Ct l X yX1_hasTable cX1_hasTable 1 (some .boolean) 0 [ra X (iO s i)] σ (some (.int (bi (oTab (σ.1 (iO s i)))))) σ := by
  refine Ct.of RX1 rfl (by decide) (Nat.le_of_ble_eq_true rfl) ?_
  intro x hL h hr
  refine g_sub [(0, ra X (iO s i))] ⟨rfl, trivial⟩ ?_
  refine g_aload_n h dX1_hasTable_0 rfl ?_
  refine gf1_15 h (by omega) (by omega) dX1_hasTable_1 ?_
  refine g_iconst (v := 1) h dX1_hasTable_4 (by decide) ?_
  refine g_iclt h 20 dX1_hasTable_5 (by decide) (fun c5 => ?_) (fun c5 => ?_)
  · refine g_iconst (v := 0) h dX1_hasTable_20 (by decide) ?_
    exact g_zret h hr (by first | rfl | exact bi_n _) dX1_hasTable_21 (by first | (simp [oTab, bi, c5]; done) | (simp_all [oTab, bi]; done)) rfl
  · refine g_aload_n h dX1_hasTable_8 rfl ?_
    refine gf1_15 h (by omega) (by omega) dX1_hasTable_9 ?_
    refine g_iconst (v := 3) h dX1_hasTable_12 (by decide) ?_
    refine g_icgt h 20 dX1_hasTable_13 (by decide) (fun c13 => ?_) (fun c13 => ?_)
    · refine g_iconst (v := 0) h dX1_hasTable_20 (by decide) ?_
      exact g_zret h hr (by first | rfl | exact bi_n _) dX1_hasTable_21 (by first | (simp [oTab, bi, c5, c13]; done) | (simp_all [oTab, bi]; done)) rfl
    · refine g_iconst (v := 1) h dX1_hasTable_16 (by decide) ?_
      refine g_goto h 21 dX1_hasTable_17 (by decide) ?_
      exact g_zret h hr (by first | rfl | exact bi_n _) dX1_hasTable_21 (by first | (simp [oTab, bi, c5, c13]; done) | (simp_all [oTab, bi]; done)) rfl

set_option maxRecDepth 100000 in
set_option maxHeartbeats 4000000 in
theorem ct_X1_tableSize {l : Launch} {X : fX} {σ : fM} {s i : Nat} (hs : s < 6) (hi : i < 6) : Ct l X yX1_tableSize cX1_tableSize 1 (some .int) 1 [ra X (iO s i)] σ (some (.int (oSize (σ.1 (iO s i))))) σ := by
  refine Ct.of RX1 rfl (by decide) (Nat.le_of_ble_eq_true rfl) ?_
  intro x hL h hr
  refine g_sub [(0, ra X (iO s i))] ⟨rfl, trivial⟩ ?_
  refine g_aload_n h dX1_tableSize_0 rfl ?_
  refine cl1_56 h (by omega) (by omega) (ct_X1_hasTable (by omega) (by omega)) rfl dX1_tableSize_1 rfl (Nat.le_of_ble_eq_true rfl) (by decide) ?_
  refine g_ifeqB h 16 dX1_tableSize_4 (by decide) (fun c4 => ?_) (fun c4 => ?_)
  · refine g_iconst (v := 0) h dX1_tableSize_16 (by decide) ?_
    exact g_iret h hr dX1_tableSize_17 (by first | (simp [oSize, c4]; done) | (simp_all [oSize]; done)) rfl
  · refine g_iconst (v := 1) h dX1_tableSize_7 (by decide) ?_
    refine g_aload_n h dX1_tableSize_8 rfl ?_
    refine gf1_19 h (by omega) (by omega) dX1_tableSize_9 ?_
    refine g_ishl h dX1_tableSize_12 ?_
    refine g_goto h 17 dX1_tableSize_13 (by decide) ?_
    exact g_iret h hr dX1_tableSize_17 (by first | (simp [oSize, c4]; done) | (simp_all [oSize]; done)) rfl

set_option maxRecDepth 100000 in
set_option maxHeartbeats 4000000 in
theorem ct_X1_slotOf {l : Launch} {X : fX} {σ : fM} {s i : Nat} (hs : s < 6) (hi : i < 6) {a b : Int32} : Ct l X yX1_slotOf cX1_slotOf 4 (some .int) 0 [ra X (iO s i), .int a, .int b] σ (some (.int (oSlot (σ.1 (iO s i)) a b))) σ := by
  refine Ct.of RX1 rfl (by decide) (Nat.le_of_ble_eq_true rfl) ?_
  intro x hL h hr
  refine g_sub [(0, ra X (iO s i)), (1, .int a), (2, .int b)] ⟨rfl, rfl, rfl, trivial⟩ ?_
  refine g_iconst (v := 1) h dX1_slotOf_0 (by decide) ?_
  refine g_aload_n h dX1_slotOf_1 rfl ?_
  refine gf1_19 h (by omega) (by omega) dX1_slotOf_2 ?_
  refine g_ishl h dX1_slotOf_5 ?_
  refine g_iconst (v := 1) h dX1_slotOf_6 (by decide) ?_
  refine g_isub h dX1_slotOf_7 ?_
  refine g_istore_n h dX1_slotOf_8 (by rw [hL]; decide) ?_
  refine g_aload_n h dX1_slotOf_9 rfl ?_
  refine gf1_15 h (by omega) (by omega) dX1_slotOf_10 ?_
  refine g_iconst (v := 1) h dX1_slotOf_13 (by decide) ?_
  refine g_icne h 21 dX1_slotOf_14 (by decide) (fun c14 => ?_) (fun c14 => ?_)
  · refine g_aload_n h dX1_slotOf_21 rfl ?_
    refine gf1_15 h (by omega) (by omega) dX1_slotOf_22 ?_
    refine g_iconst (v := 2) h dX1_slotOf_25 (by decide) ?_
    refine g_icne h 33 dX1_slotOf_26 (by decide) (fun c26 => ?_) (fun c26 => ?_)
    · refine g_iload_n h dX1_slotOf_33 rfl ?_
      refine g_iload_n h dX1_slotOf_34 rfl ?_
      refine g_ixor h dX1_slotOf_35 ?_
      refine g_iload_n h dX1_slotOf_36 rfl ?_
      refine g_iand h dX1_slotOf_37 ?_
      exact g_iret h hr dX1_slotOf_38 (by first | (simp [oSlot, oMask, c14, c26]; done) | (simp_all [oSlot, oMask]; done)) rfl
    · refine g_iload_n h dX1_slotOf_29 rfl ?_
      refine g_goto h 36 dX1_slotOf_30 (by decide) ?_
      refine g_iload_n h dX1_slotOf_36 rfl ?_
      refine g_iand h dX1_slotOf_37 ?_
      exact g_iret h hr dX1_slotOf_38 (by first | (simp [oSlot, oMask, c14, c26]; done) | (simp_all [oSlot, oMask]; done)) rfl
  · refine g_iload_n h dX1_slotOf_17 rfl ?_
    refine g_iload_n h dX1_slotOf_18 rfl ?_
    refine g_iand h dX1_slotOf_19 ?_
    exact g_iret h hr dX1_slotOf_20 (by first | (simp [oSlot, oMask, c14]; done) | (simp_all [oSlot, oMask]; done)) rfl

set_option maxRecDepth 100000 in
set_option maxHeartbeats 4000000 in
theorem ct_X1_wordOfItsOwn {l : Launch} {X : fX} {σ : fM} {s i : Nat} (hs : s < 6) (hi : i < 6) {a b : Int32} (hg : oGood (σ.1 (iO s i))) : Ct l X yX1_wordOfItsOwn cX1_wordOfItsOwn 3 (some .int) 2 [ra X (iO s i), .int a, .int b] σ (some (.int (oWord (σ.1 (iO s i)) (σ.1 (iT s i)) a b))) σ := by
  refine Ct.of RX1 rfl (by decide) (Nat.le_of_ble_eq_true rfl) ?_
  intro x hL h hr
  refine g_sub [(0, ra X (iO s i)), (1, .int a), (2, .int b)] ⟨rfl, rfl, rfl, trivial⟩ ?_
  refine g_aload_n h dX1_wordOfItsOwn_0 rfl ?_
  refine cl1_56 h (by omega) (by omega) (ct_X1_hasTable (by omega) (by omega)) rfl dX1_wordOfItsOwn_1 rfl (Nat.le_of_ble_eq_true rfl) (by decide) ?_
  refine g_ifneB h 12 dX1_wordOfItsOwn_4 (by decide) (fun c4 => ?_) (fun c4 => ?_)
  · refine g_aload_n h dX1_wordOfItsOwn_12 rfl ?_
    refine gf1_9 h (by omega) (by omega) dX1_wordOfItsOwn_13 ?_
    refine g_aload_n h dX1_wordOfItsOwn_16 rfl ?_
    refine g_iload_n h dX1_wordOfItsOwn_17 rfl ?_
    refine g_iload_n h dX1_wordOfItsOwn_18 rfl ?_
    refine cl1_59 h (by omega) (by omega) (ct_X1_slotOf (by omega) (by omega)) rfl dX1_wordOfItsOwn_19 rfl (Nat.le_of_ble_eq_true rfl) (by decide) ?_
    refine g_ialdT h (by omega) (by omega) (oSlot_in hg c4 _ _) dX1_wordOfItsOwn_22 ?_
    refine g_iconst (v := 2) h dX1_wordOfItsOwn_23 (by decide) ?_
    refine g_iclt h 31 dX1_wordOfItsOwn_24 (by decide) (fun c24 => ?_) (fun c24 => ?_)
    · refine g_iconst (v := 0) h dX1_wordOfItsOwn_31 (by decide) ?_
      exact g_iret h hr dX1_wordOfItsOwn_32 (by first | (simp [oWord, c4, c24]; done) | (simp_all [oWord]; done)) rfl
    · refine g_iconst (v := 1) h dX1_wordOfItsOwn_27 (by decide) ?_
      refine g_goto h 32 dX1_wordOfItsOwn_28 (by decide) ?_
      exact g_iret h hr dX1_wordOfItsOwn_32 (by first | (simp [oWord, c4, c24]; done) | (simp_all [oWord]; done)) rfl
  · refine g_aload_n h dX1_wordOfItsOwn_7 rfl ?_
    refine gf1_19 h (by omega) (by omega) dX1_wordOfItsOwn_8 ?_
    exact g_iret h hr dX1_wordOfItsOwn_11 (by first | (simp [oWord, c4]; done) | (simp_all [oWord]; done)) rfl

set_option maxRecDepth 100000 in
set_option maxHeartbeats 4000000 in
theorem ct_X1_stakeNow {l : Launch} {X : fX} {σ : fM} {s i : Nat} (hs : s < 6) (hi : i < 6) {u a b : Int32} (hg : oGood (σ.1 (iO s i))) : Ct l X yX1_stakeNow cX1_stakeNow 6 (some .int) 2 [ra X (iO s i), .int u, .int a, .int b] σ (some (.int (oStake (σ.1 (iO s i)) (σ.1 (iT s i)) u a b))) σ := by
  refine Ct.of RX1 rfl (by decide) (Nat.le_of_ble_eq_true rfl) ?_
  intro x hL h hr
  refine g_sub [(0, ra X (iO s i)), (1, .int u), (2, .int a), (3, .int b)] ⟨rfl, rfl, rfl, rfl, trivial⟩ ?_
  refine g_aload_n h dX1_stakeNow_0 rfl ?_
  refine cl1_63 h (by omega) (by omega) (ct_X1_takesPart (by omega) (by omega)) rfl dX1_stakeNow_1 rfl (Nat.le_of_ble_eq_true rfl) (by decide) ?_
  refine g_ifneB h 9 dX1_stakeNow_4 (by decide) (fun c4 => ?_) (fun c4 => ?_)
  · refine g_iconst (v := 0) h dX1_stakeNow_9 (by decide) ?_
    refine g_istore h dX1_stakeNow_10 (by rw [hL]; decide) ?_
    refine g_aload_n h dX1_stakeNow_12 rfl ?_
    refine cl1_56 h (by omega) (by omega) (ct_X1_hasTable (by omega) (by omega)) rfl dX1_stakeNow_13 rfl (Nat.le_of_ble_eq_true rfl) (by decide) ?_
    refine g_ifeqB h 50 dX1_stakeNow_16 (by decide) (fun c16 => ?_) (fun c16 => ?_)
    · refine g_aload_n h dX1_stakeNow_50 rfl ?_
      refine gf1_22 h (by omega) (by omega) dX1_stakeNow_51 ?_
      refine g_iload h dX1_stakeNow_54 rfl ?_
      refine g_ifeq h 65 dX1_stakeNow_56 (by decide) (fun c56 => ?_) (fun c56 => ?_)
      · refine g_iload_n h dX1_stakeNow_65 rfl ?_
        refine g_min1_66 h dX1_stakeNow_66 (by decide) (Nat.le_of_ble_eq_true rfl) ?_
        exact g_iret h hr dX1_stakeNow_69 (by first | (simp [oStake, oSure, c4, c16, c56]; done) | (simp_all [oStake, oSure]; done)) rfl
      · refine g_iconst (v := 2) h dX1_stakeNow_59 (by decide) ?_
        refine g_iload_n h dX1_stakeNow_60 rfl ?_
        refine g_imul h dX1_stakeNow_61 ?_
        refine g_goto h 66 dX1_stakeNow_62 (by decide) ?_
        refine g_min1_66 h dX1_stakeNow_66 (by decide) (Nat.le_of_ble_eq_true rfl) ?_
        exact g_iret h hr dX1_stakeNow_69 (by first | (simp [oStake, oSure, c4, c16, c56]; done) | (simp_all [oStake, oSure]; done)) rfl
    · refine g_aload_n h dX1_stakeNow_19 rfl ?_
      refine gf1_9 h (by omega) (by omega) dX1_stakeNow_20 ?_
      refine g_aload_n h dX1_stakeNow_23 rfl ?_
      refine g_iload_n h dX1_stakeNow_24 rfl ?_
      refine g_iload_n h dX1_stakeNow_25 rfl ?_
      refine cl1_59 h (by omega) (by omega) (ct_X1_slotOf (by omega) (by omega)) rfl dX1_stakeNow_26 rfl (Nat.le_of_ble_eq_true rfl) (by decide) ?_
      refine g_ialdT h (by omega) (by omega) (oSlot_in hg c16 _ _) dX1_stakeNow_29 ?_
      refine g_istore h dX1_stakeNow_30 (by rw [hL]; decide) ?_
      refine g_iload h dX1_stakeNow_32 rfl ?_
      refine g_ifeq h 43 dX1_stakeNow_34 (by decide) (fun c34 => ?_) (fun c34 => ?_)
      · refine g_iconst (v := 1) h dX1_stakeNow_43 (by decide) ?_
        refine g_goto h 48 dX1_stakeNow_44 (by decide) ?_
        refine g_istore h dX1_stakeNow_48 (by rw [hL]; decide) ?_
        refine g_aload_n h dX1_stakeNow_50 rfl ?_
        refine gf1_22 h (by omega) (by omega) dX1_stakeNow_51 ?_
        refine g_iload h dX1_stakeNow_54 rfl ?_
        refine g_ifeq h 65 dX1_stakeNow_56 (by decide) (fun c56 => ?_) (fun c56 => ?_)
        · refine g_iload_n h dX1_stakeNow_65 rfl ?_
          refine g_min1_66 h dX1_stakeNow_66 (by decide) (Nat.le_of_ble_eq_true rfl) ?_
          exact g_iret h hr dX1_stakeNow_69 (by first | (simp [oStake, oSure, c4, c16, c34, c56]; done) | (simp_all [oStake, oSure]; done)) rfl
        · refine g_iconst (v := 2) h dX1_stakeNow_59 (by decide) ?_
          refine g_iload_n h dX1_stakeNow_60 rfl ?_
          refine g_imul h dX1_stakeNow_61 ?_
          refine g_goto h 66 dX1_stakeNow_62 (by decide) ?_
          refine g_min1_66 h dX1_stakeNow_66 (by decide) (Nat.le_of_ble_eq_true rfl) ?_
          exact g_iret h hr dX1_stakeNow_69 (by first | (simp [oStake, oSure, c4, c16, c34, c56]; done) | (simp_all [oStake, oSure]; done)) rfl
      · refine g_iload h dX1_stakeNow_37 rfl ?_
        refine g_iconst (v := 3) h dX1_stakeNow_39 (by decide) ?_
        refine g_icne h 47 dX1_stakeNow_40 (by decide) (fun c40 => ?_) (fun c40 => ?_)
        · refine g_iconst (v := 0) h dX1_stakeNow_47 (by decide) ?_
          refine g_istore h dX1_stakeNow_48 (by rw [hL]; decide) ?_
          refine g_aload_n h dX1_stakeNow_50 rfl ?_
          refine gf1_22 h (by omega) (by omega) dX1_stakeNow_51 ?_
          refine g_iload h dX1_stakeNow_54 rfl ?_
          refine g_ifeq h 65 dX1_stakeNow_56 (by decide) (fun c56 => ?_) (fun c56 => ?_)
          · refine g_iload_n h dX1_stakeNow_65 rfl ?_
            refine g_min1_66 h dX1_stakeNow_66 (by decide) (Nat.le_of_ble_eq_true rfl) ?_
            exact g_iret h hr dX1_stakeNow_69 (by first | (simp [oStake, oSure, c4, c16, c34, c40, c56]; done) | (simp_all [oStake, oSure]; done)) rfl
          · refine g_iconst (v := 2) h dX1_stakeNow_59 (by decide) ?_
            refine g_iload_n h dX1_stakeNow_60 rfl ?_
            refine g_imul h dX1_stakeNow_61 ?_
            refine g_goto h 66 dX1_stakeNow_62 (by decide) ?_
            refine g_min1_66 h dX1_stakeNow_66 (by decide) (Nat.le_of_ble_eq_true rfl) ?_
            exact g_iret h hr dX1_stakeNow_69 (by first | (simp [oStake, oSure, c4, c16, c34, c40, c56]; done) | (simp_all [oStake, oSure]; done)) rfl
        · refine g_iconst (v := 1) h dX1_stakeNow_43 (by decide) ?_
          refine g_goto h 48 dX1_stakeNow_44 (by decide) ?_
          refine g_istore h dX1_stakeNow_48 (by rw [hL]; decide) ?_
          refine g_aload_n h dX1_stakeNow_50 rfl ?_
          refine gf1_22 h (by omega) (by omega) dX1_stakeNow_51 ?_
          refine g_iload h dX1_stakeNow_54 rfl ?_
          refine g_ifeq h 65 dX1_stakeNow_56 (by decide) (fun c56 => ?_) (fun c56 => ?_)
          · refine g_iload_n h dX1_stakeNow_65 rfl ?_
            refine g_min1_66 h dX1_stakeNow_66 (by decide) (Nat.le_of_ble_eq_true rfl) ?_
            exact g_iret h hr dX1_stakeNow_69 (by first | (simp [oStake, oSure, c4, c16, c34, c40, c56]; done) | (simp_all [oStake, oSure]; done)) rfl
          · refine g_iconst (v := 2) h dX1_stakeNow_59 (by decide) ?_
            refine g_iload_n h dX1_stakeNow_60 rfl ?_
            refine g_imul h dX1_stakeNow_61 ?_
            refine g_goto h 66 dX1_stakeNow_62 (by decide) ?_
            refine g_min1_66 h dX1_stakeNow_66 (by decide) (Nat.le_of_ble_eq_true rfl) ?_
            exact g_iret h hr dX1_stakeNow_69 (by first | (simp [oStake, oSure, c4, c16, c34, c40, c56]; done) | (simp_all [oStake, oSure]; done)) rfl
  · refine g_iconst (v := 0) h dX1_stakeNow_7 (by decide) ?_
    exact g_iret h hr dX1_stakeNow_8 (by first | (simp [oStake, oSure, c4]; done) | (simp_all [oStake, oSure]; done)) rfl

set_option maxRecDepth 100000 in
set_option maxHeartbeats 4000000 in
theorem ct_X1_learn {l : Launch} {X : fX} {σ : fM} {s i : Nat} (hs : s < 6) (hi : i < 6) {a k b : Int32} (hg : oGood (σ.1 (iO s i))) (ht : oTab (σ.1 (iO s i)) = true) : Ct l X yX1_learn cX1_learn 5 none 2 [ra X (iO s i), .int a, .int k, .int b] σ none (pu σ (iT s i) (oSlot (σ.1 (iO s i)) a b).toNatClampNeg (oLrn (σ.1 (iT s i) (oSlot (σ.1 (iO s i)) a b).toNatClampNeg) k)) := by
  refine Ct.of RX1 rfl (by decide) (Nat.le_of_ble_eq_true rfl) ?_
  intro x hL h hr
  refine g_sub [(0, ra X (iO s i)), (1, .int a), (2, .int k), (3, .int b)] ⟨rfl, rfl, rfl, rfl, trivial⟩ ?_
  refine g_aload_n h dX1_learn_0 rfl ?_
  refine g_iload_n h dX1_learn_1 rfl ?_
  refine g_iload_n h dX1_learn_2 rfl ?_
  refine cl1_59 h (by omega) (by omega) (ct_X1_slotOf (by omega) (by omega)) rfl dX1_learn_3 rfl (Nat.le_of_ble_eq_true rfl) (by decide) ?_
  refine g_istore h dX1_learn_6 (by rw [hL]; decide) ?_
  refine g_aload_n h dX1_learn_8 rfl ?_
  refine gf1_9 h (by omega) (by omega) dX1_learn_9 ?_
  refine g_iload h dX1_learn_12 rfl ?_
  refine g_iload_n h dX1_learn_14 rfl ?_
  refine g_iconst (v := 1) h dX1_learn_15 (by decide) ?_
  refine g_icne h 35 dX1_learn_16 (by decide) (fun c16 => ?_) (fun c16 => ?_)
  · refine g_iconst (v := 0) h dX1_learn_35 (by decide) ?_
    refine g_aload_n h dX1_learn_36 rfl ?_
    refine gf1_9 h (by omega) (by omega) dX1_learn_37 ?_
    refine g_iload h dX1_learn_40 rfl ?_
    refine g_ialdT h (by omega) (by omega) (oSlot_in hg ht _ _) dX1_learn_42 ?_
    refine g_iconst (v := 1) h dX1_learn_43 (by decide) ?_
    refine g_isub h dX1_learn_44 ?_
    refine g_max1_71 h dX1_learn_45 (by decide) (Nat.le_of_ble_eq_true rfl) ?_
    refine g_iastT h (by omega) (by omega) (oSlot_in hg ht _ _) dX1_learn_48 ?_
    exact g_vret h hr dX1_learn_49 (by first | (simp [oLrn, c16]; done) | (simp_all [oLrn]; done))
  · refine g_iconst (v := 3) h dX1_learn_19 (by decide) ?_
    refine g_aload_n h dX1_learn_20 rfl ?_
    refine gf1_9 h (by omega) (by omega) dX1_learn_21 ?_
    refine g_iload h dX1_learn_24 rfl ?_
    refine g_ialdT h (by omega) (by omega) (oSlot_in hg ht _ _) dX1_learn_26 ?_
    refine g_iconst (v := 1) h dX1_learn_27 (by decide) ?_
    refine g_iadd h dX1_learn_28 ?_
    refine g_min1_66 h dX1_learn_29 (by decide) (Nat.le_of_ble_eq_true rfl) ?_
    refine g_goto h 48 dX1_learn_32 (by decide) ?_
    refine g_iastT h (by omega) (by omega) (oSlot_in hg ht _ _) dX1_learn_48 ?_
    exact g_vret h hr dX1_learn_49 (by first | (simp [oLrn, c16]; done) | (simp_all [oLrn]; done))

set_option maxRecDepth 100000 in
set_option maxHeartbeats 4000000 in
theorem ct_X1_note {l : Launch} {X : fX} {σ : fM} {s i : Nat} (hs : s < 6) (hi : i < 6) {w : Int32} : Ct l X yX1_note cX1_note 2 none 1 [ra X (iO s i), .int w] σ none (puR σ (iO s i) (oNote (σ.1 (iO s i)) w)) := by
  refine Ct.of RX1 rfl (by decide) (Nat.le_of_ble_eq_true rfl) ?_
  intro x hL h hr
  refine g_sub [(0, ra X (iO s i)), (1, .int w)] ⟨rfl, rfl, trivial⟩ ?_
  refine g_iload_n h dX1_note_0 rfl ?_
  refine g_ifeq h 17 dX1_note_1 (by decide) (fun c1 => ?_) (fun c1 => ?_)
  · refine g_aload_n h dX1_note_17 rfl ?_
    refine g_dup h dX1_note_18 rfl ?_
    refine gf1_34 h (by omega) (by omega) dX1_note_19 ?_
    refine g_iconst (v := 1) h dX1_note_22 (by decide) ?_
    refine g_iadd h dX1_note_23 ?_
    refine gp1_34 h (by omega) (by omega) dX1_note_24 ?_
    refine g_aload_n h dX1_note_27 rfl ?_
    refine g_iconst (v := 2) h dX1_note_28 (by decide) ?_
    refine g_aload_n h dX1_note_29 rfl ?_
    refine gf1_37 h (by omega) (by omega) dX1_note_30 ?_
    refine g_imul h dX1_note_33 ?_
    refine g_iload_n h dX1_note_34 rfl ?_
    refine g_ifeq h 42 dX1_note_35 (by decide) (fun c35 => ?_) (fun c35 => ?_)
    · refine g_iconst (v := 0) h dX1_note_42 (by decide) ?_
      refine g_iadd h dX1_note_43 ?_
      refine g_ldc h (65535) (lw_in 368 (by decide +kernel) rfl) dX1_note_44 ?_
      refine g_iand h dX1_note_46 ?_
      refine gp1_37 h (by omega) (by omega) dX1_note_47 ?_
      refine g_aload_n h dX1_note_50 rfl ?_
      refine cl1_53 h (by omega) (by omega) (ct_X1_isRuined (by omega) (by omega)) rfl dX1_note_51 rfl (Nat.le_of_ble_eq_true rfl) (by decide) ?_
      refine g_ifeqB h 67 dX1_note_54 (by decide) (fun c54 => ?_) (fun c54 => ?_)
      · exact g_vret h hr dX1_note_67 (by simp_all [pu_puR, puR_puR, puR_self, oNote, oRuin, upd_s, upd_n])
      · refine g_aload_n h dX1_note_57 rfl ?_
        refine g_dup h dX1_note_58 rfl ?_
        refine gf1_40 h (by omega) (by omega) dX1_note_59 ?_
        refine g_iconst (v := 1) h dX1_note_62 (by decide) ?_
        refine g_iadd h dX1_note_63 ?_
        refine gp1_40 h (by omega) (by omega) dX1_note_64 ?_
        exact g_vret h hr dX1_note_67 (by simp_all [pu_puR, puR_puR, puR_self, oNote, oRuin, upd_s, upd_n])
    · refine g_iconst (v := 1) h dX1_note_38 (by decide) ?_
      refine g_goto h 43 dX1_note_39 (by decide) ?_
      refine g_iadd h dX1_note_43 ?_
      refine g_ldc h (65535) (lw_in 368 (by decide +kernel) rfl) dX1_note_44 ?_
      refine g_iand h dX1_note_46 ?_
      refine gp1_37 h (by omega) (by omega) dX1_note_47 ?_
      refine g_aload_n h dX1_note_50 rfl ?_
      refine cl1_53 h (by omega) (by omega) (ct_X1_isRuined (by omega) (by omega)) rfl dX1_note_51 rfl (Nat.le_of_ble_eq_true rfl) (by decide) ?_
      refine g_ifeqB h 67 dX1_note_54 (by decide) (fun c54 => ?_) (fun c54 => ?_)
      · exact g_vret h hr dX1_note_67 (by simp_all [pu_puR, puR_puR, puR_self, oNote, oRuin, upd_s, upd_n])
      · refine g_aload_n h dX1_note_57 rfl ?_
        refine g_dup h dX1_note_58 rfl ?_
        refine gf1_40 h (by omega) (by omega) dX1_note_59 ?_
        refine g_iconst (v := 1) h dX1_note_62 (by decide) ?_
        refine g_iadd h dX1_note_63 ?_
        refine gp1_40 h (by omega) (by omega) dX1_note_64 ?_
        exact g_vret h hr dX1_note_67 (by simp_all [pu_puR, puR_puR, puR_self, oNote, oRuin, upd_s, upd_n])
  · refine g_aload_n h dX1_note_4 rfl ?_
    refine g_dup h dX1_note_5 rfl ?_
    refine gf1_31 h (by omega) (by omega) dX1_note_6 ?_
    refine g_iconst (v := 1) h dX1_note_9 (by decide) ?_
    refine g_iadd h dX1_note_10 ?_
    refine gp1_31 h (by omega) (by omega) dX1_note_11 ?_
    refine g_goto h 27 dX1_note_14 (by decide) ?_
    refine g_aload_n h dX1_note_27 rfl ?_
    refine g_iconst (v := 2) h dX1_note_28 (by decide) ?_
    refine g_aload_n h dX1_note_29 rfl ?_
    refine gf1_37 h (by omega) (by omega) dX1_note_30 ?_
    refine g_imul h dX1_note_33 ?_
    refine g_iload_n h dX1_note_34 rfl ?_
    refine g_ifeq h 42 dX1_note_35 (by decide) (fun c35 => ?_) (fun c35 => ?_)
    · refine g_iconst (v := 0) h dX1_note_42 (by decide) ?_
      refine g_iadd h dX1_note_43 ?_
      refine g_ldc h (65535) (lw_in 368 (by decide +kernel) rfl) dX1_note_44 ?_
      refine g_iand h dX1_note_46 ?_
      refine gp1_37 h (by omega) (by omega) dX1_note_47 ?_
      refine g_aload_n h dX1_note_50 rfl ?_
      refine cl1_53 h (by omega) (by omega) (ct_X1_isRuined (by omega) (by omega)) rfl dX1_note_51 rfl (Nat.le_of_ble_eq_true rfl) (by decide) ?_
      refine g_ifeqB h 67 dX1_note_54 (by decide) (fun c54 => ?_) (fun c54 => ?_)
      · exact g_vret h hr dX1_note_67 (by simp_all [pu_puR, puR_puR, puR_self, oNote, oRuin, upd_s, upd_n])
      · refine g_aload_n h dX1_note_57 rfl ?_
        refine g_dup h dX1_note_58 rfl ?_
        refine gf1_40 h (by omega) (by omega) dX1_note_59 ?_
        refine g_iconst (v := 1) h dX1_note_62 (by decide) ?_
        refine g_iadd h dX1_note_63 ?_
        refine gp1_40 h (by omega) (by omega) dX1_note_64 ?_
        exact g_vret h hr dX1_note_67 (by simp_all [pu_puR, puR_puR, puR_self, oNote, oRuin, upd_s, upd_n])
    · refine g_iconst (v := 1) h dX1_note_38 (by decide) ?_
      refine g_goto h 43 dX1_note_39 (by decide) ?_
      refine g_iadd h dX1_note_43 ?_
      refine g_ldc h (65535) (lw_in 368 (by decide +kernel) rfl) dX1_note_44 ?_
      refine g_iand h dX1_note_46 ?_
      refine gp1_37 h (by omega) (by omega) dX1_note_47 ?_
      refine g_aload_n h dX1_note_50 rfl ?_
      refine cl1_53 h (by omega) (by omega) (ct_X1_isRuined (by omega) (by omega)) rfl dX1_note_51 rfl (Nat.le_of_ble_eq_true rfl) (by decide) ?_
      refine g_ifeqB h 67 dX1_note_54 (by decide) (fun c54 => ?_) (fun c54 => ?_)
      · exact g_vret h hr dX1_note_67 (by simp_all [pu_puR, puR_puR, puR_self, oNote, oRuin, upd_s, upd_n])
      · refine g_aload_n h dX1_note_57 rfl ?_
        refine g_dup h dX1_note_58 rfl ?_
        refine gf1_40 h (by omega) (by omega) dX1_note_59 ?_
        refine g_iconst (v := 1) h dX1_note_62 (by decide) ?_
        refine g_iadd h dX1_note_63 ?_
        refine gp1_40 h (by omega) (by omega) dX1_note_64 ?_
        exact g_vret h hr dX1_note_67 (by simp_all [pu_puR, puR_puR, puR_self, oNote, oRuin, upd_s, upd_n])

theorem oBegin_lp (σ : fM) (s i j : Nat) : pu (puR σ (iT s i) (fun k => if k < j then 1 else σ.1 (iT s i) k)) (iT s i) j 1 = puR σ (iT s i) (fun k => if k < j + 1 then 1 else σ.1 (iT s i) k) := by
  rw [pu_puR, puR_puR, puR_self]
  refine congrArg (puR σ _) ?_
  funext k
  unfold upd
  by_cases h1 : k = j
  · rw [if_pos h1, if_pos (by omega)]
  · rw [if_neg h1]
    show (if k < j then _ else _) = _
    by_cases h2 : k < j
    · rw [if_pos h2, if_pos (by omega)]
    · rw [if_neg h2, if_neg (by omega)]

set_option maxRecDepth 100000 in
set_option maxHeartbeats 4000000 in
theorem ct_X1_begin {l : Launch} {X : fX} {σ : fM} {s i : Nat} (hs : s < 6) (hi : i < 6) {k n p : Int32} : Ct l X yX1_begin cX1_begin 5 none 1 [ra X (iO s i), .int k, .int n, .int p] σ none (puR (puR σ (iO s i) (oBegin (σ.1 (iO s i)) k n p)) (iT s i) (fun q => if q < 32 then 1 else σ.1 (iT s i) q)) := by
  refine Ct.of RX1 rfl (by decide) (Nat.le_of_ble_eq_true rfl) ?_
  intro x hL h hr
  refine g_sub [(0, ra X (iO s i)), (1, .int k), (2, .int n), (3, .int p)] ⟨rfl, rfl, rfl, rfl, trivial⟩ ?_
  have LOOP : ∀ (q j : Nat), j + q = 32 → G x X (puR (puR σ (iO s i) (oBegin (σ.1 (iO s i)) k n p)) (iT s i) (fun q => if q < j then 1 else σ.1 (iT s i) q)) [(0, ra X (iO s i)), (4, .int (nI j))] [] 48 := by
    intro q
    induction q with
    | zero =>
      intro j hi 
      obtain rfl : j = 32 := by omega
      refine g_iload h dX1_begin_48 rfl ?_
      refine g_aload_n h dX1_begin_50 rfl ?_
      refine gf1_9 h (by omega) (by omega) dX1_begin_51 ?_
      refine g_alen h (iT_lt (by omega) (by omega)) (enc_T X (by omega) (by omega)) (t := 0) rfl dX1_begin_54 ?_
      refine g_icge h 72 dX1_begin_55 (by decide) (fun c55 => ?_) (fun c55 => absurd (Int32.le_refl _) c55)
      exact g_vret h hr dX1_begin_72 rfl
    | succ q ih =>
      intro j hi 
      have hlt : j < 32 := by omega
      refine g_iload h dX1_begin_48 rfl ?_
      refine g_aload_n h dX1_begin_50 rfl ?_
      refine gf1_9 h (by omega) (by omega) dX1_begin_51 ?_
      refine g_alen h (iT_lt (by omega) (by omega)) (enc_T X (by omega) (by omega)) (t := 0) rfl dX1_begin_54 ?_
      refine g_icge h 72 dX1_begin_55 (by decide) (fun c55 => absurd c55 (nI_ge hlt (by decide))) (fun c55 => ?_)
      refine g_aload_n h dX1_begin_58 rfl ?_
      refine gf1_9 h (by omega) (by omega) dX1_begin_59 ?_
      refine g_iload h dX1_begin_62 rfl ?_
      refine g_iconst (v := 1) h dX1_begin_64 (by decide) ?_
      refine g_iastN h (iT_lt (by omega) (by omega)) (enc_T X (by omega) (by omega)) rfl hlt (by decide) dX1_begin_65 ?_
      refine g_iincN h dX1_begin_66 rfl (by rw [hL]; decide) ?_
      refine g_goto h 48 dX1_begin_69 (by decide) ?_
      refine g_mem (puR (puR σ (iO s i) (oBegin (σ.1 (iO s i)) k n p)) (iT s i) (fun q => if q < j + 1 then 1 else σ.1 (iT s i) q)) (by have e := oBegin_lp (puR σ (iO s i) (oBegin (σ.1 (iO s i)) k n p)) s i j; rw [puR_ne _ (iO_T s i s i).symm] at e; exact e) ?_
      refine g_sub [(0, ra X (iO s i)), (4, .int (nI (j + 1)))] ⟨rfl, rfl, trivial⟩ ?_
      exact ih (j + 1) (by omega)
  refine g_aload_n h dX1_begin_0 rfl ?_
  refine g_iload_n h dX1_begin_1 rfl ?_
  refine gp1_15 h (by omega) (by omega) dX1_begin_2 ?_
  refine g_aload_n h dX1_begin_5 rfl ?_
  refine g_iload_n h dX1_begin_6 rfl ?_
  refine gp1_19 h (by omega) (by omega) dX1_begin_7 ?_
  refine g_aload_n h dX1_begin_10 rfl ?_
  refine g_iload_n h dX1_begin_11 rfl ?_
  refine gp1_22 h (by omega) (by omega) dX1_begin_12 ?_
  refine g_aload_n h dX1_begin_15 rfl ?_
  refine g_iconst (v := (-1)) h dX1_begin_16 (by decide) ?_
  refine gp1_25 h (by omega) (by omega) dX1_begin_17 ?_
  refine g_aload_n h dX1_begin_20 rfl ?_
  refine g_iconst (v := (-1)) h dX1_begin_21 (by decide) ?_
  refine gp1_28 h (by omega) (by omega) dX1_begin_22 ?_
  refine g_aload_n h dX1_begin_25 rfl ?_
  refine g_iconst (v := 0) h dX1_begin_26 (by decide) ?_
  refine gp1_31 h (by omega) (by omega) dX1_begin_27 ?_
  refine g_aload_n h dX1_begin_30 rfl ?_
  refine g_iconst (v := 0) h dX1_begin_31 (by decide) ?_
  refine gp1_34 h (by omega) (by omega) dX1_begin_32 ?_
  refine g_aload_n h dX1_begin_35 rfl ?_
  refine g_iconst (v := 0) h dX1_begin_36 (by decide) ?_
  refine gp1_37 h (by omega) (by omega) dX1_begin_37 ?_
  refine g_aload_n h dX1_begin_40 rfl ?_
  refine g_iconst (v := 0) h dX1_begin_41 (by decide) ?_
  refine gp1_40 h (by omega) (by omega) dX1_begin_42 ?_
  refine g_iconst (v := 0) h dX1_begin_45 (by decide) ?_
  refine g_istore h dX1_begin_46 (by rw [hL]; decide) ?_
  refine g_mem (puR (puR σ (iO s i) (oBegin (σ.1 (iO s i)) k n p)) (iT s i) (fun q => if q < 0 then 1 else σ.1 (iT s i) q)) ?_ ?_
  · simp only [pu_puR, puR_puR, puR_self, oBegin]; exact (puR_id _ _).symm.trans (congrArg (puR _ _) (by funext q; simp [puR_ne _ (iO_T s i s i).symm]))
  refine g_sub [(0, ra X (iO s i)), (4, .int (nI 0))] ⟨rfl, lk_0, trivial⟩ ?_
  exact LOOP 32 0 (by omega)
set_option maxRecDepth 100000 in
set_option maxHeartbeats 4000000 in
theorem ct_X1_copyFrom {l : Launch} {X : fX} {σ : fM} {s i s2 i2 : Nat} (hs : s < 6) (hi : i < 6) (hs2 : s2 < 6) (hi2 : i2 < 6) (hne : iO s2 i2 ≠ iO s i) : Ct l X yX1_copyFrom cX1_copyFrom 2 none 1 [ra X (iO s i), ra X (iO s2 i2)] σ none (puR (puR σ (iO s i) (oCopy (σ.1 (iO s2 i2)) (σ.1 (iO s i)))) (iT s i) (cpy (σ.1 (iT s2 i2)) (σ.1 (iT s i)) 32)) := by
  refine Ct.of RX1 rfl (by decide) (Nat.le_of_ble_eq_true rfl) ?_
  intro x hL h hr
  refine g_sub [(0, ra X (iO s i)), (1, ra X (iO s2 i2))] ⟨rfl, rfl, trivial⟩ ?_
  refine g_aload_n h dX1_copyFrom_0 rfl ?_
  refine g_aload_n h dX1_copyFrom_1 rfl ?_
  refine gf1_15 h (by omega) (by omega) dX1_copyFrom_2 ?_
  refine gp1_15 h (by omega) (by omega) dX1_copyFrom_5 ?_
  refine g_aload_n h dX1_copyFrom_8 rfl ?_
  refine g_aload_n h dX1_copyFrom_9 rfl ?_
  refine gf1_19 h (by omega) (by omega) dX1_copyFrom_10 ?_
  refine gp1_19 h (by omega) (by omega) dX1_copyFrom_13 ?_
  refine g_aload_n h dX1_copyFrom_16 rfl ?_
  refine g_aload_n h dX1_copyFrom_17 rfl ?_
  refine gf1_22 h (by omega) (by omega) dX1_copyFrom_18 ?_
  refine gp1_22 h (by omega) (by omega) dX1_copyFrom_21 ?_
  refine g_aload_n h dX1_copyFrom_24 rfl ?_
  refine g_aload_n h dX1_copyFrom_25 rfl ?_
  refine gf1_25 h (by omega) (by omega) dX1_copyFrom_26 ?_
  refine gp1_25 h (by omega) (by omega) dX1_copyFrom_29 ?_
  refine g_aload_n h dX1_copyFrom_32 rfl ?_
  refine g_aload_n h dX1_copyFrom_33 rfl ?_
  refine gf1_28 h (by omega) (by omega) dX1_copyFrom_34 ?_
  refine gp1_28 h (by omega) (by omega) dX1_copyFrom_37 ?_
  refine g_aload_n h dX1_copyFrom_40 rfl ?_
  refine g_aload_n h dX1_copyFrom_41 rfl ?_
  refine gf1_31 h (by omega) (by omega) dX1_copyFrom_42 ?_
  refine gp1_31 h (by omega) (by omega) dX1_copyFrom_45 ?_
  refine g_aload_n h dX1_copyFrom_48 rfl ?_
  refine g_aload_n h dX1_copyFrom_49 rfl ?_
  refine gf1_34 h (by omega) (by omega) dX1_copyFrom_50 ?_
  refine gp1_34 h (by omega) (by omega) dX1_copyFrom_53 ?_
  refine g_aload_n h dX1_copyFrom_56 rfl ?_
  refine g_aload_n h dX1_copyFrom_57 rfl ?_
  refine gf1_37 h (by omega) (by omega) dX1_copyFrom_58 ?_
  refine gp1_37 h (by omega) (by omega) dX1_copyFrom_61 ?_
  refine g_aload_n h dX1_copyFrom_64 rfl ?_
  refine g_aload_n h dX1_copyFrom_65 rfl ?_
  refine gf1_40 h (by omega) (by omega) dX1_copyFrom_66 ?_
  refine gp1_40 h (by omega) (by omega) dX1_copyFrom_69 ?_
  refine g_aload_n h dX1_copyFrom_72 rfl ?_
  refine gf1_9 h (by omega) (by omega) dX1_copyFrom_73 ?_
  refine g_iconst (v := 0) h dX1_copyFrom_76 (by decide) ?_
  refine g_aload_n h dX1_copyFrom_77 rfl ?_
  refine gf1_9 h (by omega) (by omega) dX1_copyFrom_78 ?_
  refine g_iconst (v := 0) h dX1_copyFrom_81 (by decide) ?_
  refine g_bipush (v := 32) h dX1_copyFrom_82 (by decide) ?_
  refine g_copy h (k0 := iT s2 i2) (k1 := iT s i) (n := 32) (lw_in 233 (by decide +kernel) rfl) (iT_lt hs2 hi2) (iT_lt hs hi) (enc_T X hs2 hi2) (enc_T X hs hi) nI_0.symm nI_0.symm (by decide) (Nat.le_refl _) (Nat.le_refl _) (by decide) dX1_copyFrom_84 (by decide) (Nat.le_of_ble_eq_true rfl) ?_
  exact g_vret h hr dX1_copyFrom_87 (by simp only [pu_puR, puR_puR, puR_self, puR_ne _ hne, puR_ne _ (iO_T s i s2 i2).symm, puR_ne _ (iO_T s i s i).symm, oCopy])

set_option maxRecDepth 100000 in
set_option maxHeartbeats 4000000 in
theorem ct_X0_copyFrom {l : Launch} {X : fX} {σ : fM} {s i s2 i2 : Nat} (hs : s < 6) (hi : i < 8) (hs2 : s2 < 6) (hi2 : i2 < 8) (hne : iL s2 i2 ≠ iL s i) : Ct l X yX0_copyFrom cX0_copyFrom 2 none 0 [ra X (iL s i), ra X (iL s2 i2)] σ none (puR σ (iL s i) (lCopy (σ.1 (iL s2 i2)) (σ.1 (iL s i)))) := by
  refine Ct.of RX0 rfl (by decide) (Nat.le_of_ble_eq_true rfl) ?_
  intro x hL h hr
  refine g_sub [(0, ra X (iL s i)), (1, ra X (iL s2 i2))] ⟨rfl, rfl, trivial⟩ ?_
  refine g_aload_n h dX0_copyFrom_0 rfl ?_
  refine g_aload_n h dX0_copyFrom_1 rfl ?_
  refine gf0_7 h (by omega) (by omega) dX0_copyFrom_2 ?_
  refine gp0_7 h (by omega) (by omega) dX0_copyFrom_5 ?_
  refine g_aload_n h dX0_copyFrom_8 rfl ?_
  refine g_aload_n h dX0_copyFrom_9 rfl ?_
  refine gf0_13 h (by omega) (by omega) dX0_copyFrom_10 ?_
  refine gp0_13 h (by omega) (by omega) dX0_copyFrom_13 ?_
  refine g_aload_n h dX0_copyFrom_16 rfl ?_
  refine g_aload_n h dX0_copyFrom_17 rfl ?_
  refine gf0_16 h (by omega) (by omega) dX0_copyFrom_18 ?_
  refine gp0_16 h (by omega) (by omega) dX0_copyFrom_21 ?_
  exact g_vret h hr dX0_copyFrom_24 (by simp only [pu_puR, puR_puR, puR_self, puR_ne _ hne, lCopy])
