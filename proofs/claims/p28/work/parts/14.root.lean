/-! the root's calls -/
section ST
variable {l : Launch} {x : fC} {X : fX} {σ : fM} {L : List (Nat × Value)} {st : List Value} {pc : Nat} {cc : ByteArray} {own : String} {d : Nat}
theorem g_tiL (h : Ok l x X cc own d) {i : Int32} {j : Nat} (hi : i = nI j) (hj : j < 3) (hd : decode cc pc = .ok (.iaload, 1)) (k : G x X σ L (.int (if j = 0 then 1 else 0) :: st) (pc + 1)) : G x X σ L (.int i :: .ref (X.2.2.2.1 0) :: st) pc := fun H locs ls hP hS hl => by
  subst hi
  exact va_ti h.hx h.hb h.hZ.1.2 hS (vp_in_nI hj (by decide)) (by rw [nI_clamp (by omega)]) hd (k H locs ls hP hS hl)
theorem g_tiM (h : Ok l x X cc own d) {i : Int32} {j : Nat} (hi : i = nI j) (hj : j < 3) (hd : decode cc pc = .ok (.iaload, 1)) (k : G x X σ L (.int (if j = 2 then 100 else 50) :: st) (pc + 1)) : G x X σ L (.int i :: .ref (X.2.2.2.1 1) :: st) pc := fun H locs ls hP hS hl => by
  subst hi
  exact va_ti h.hx h.hb h.hZ.2.1.2 hS (vp_in_nI hj (by decide)) (by rw [nI_clamp (by omega)]) hd (k H locs ls hP hS hl)
theorem g_s5_37 (h : Ok l x X cc RX5 d) (hd : decode cc pc = .ok (.getstatic 37, 3)) (k : G x X σ L (.ref (X.2.2.2.1 0) :: st) (pc + 3)) : G x X σ L st pc := fun H locs ls hP hS hl =>
  va_gets h.hx h.hb h.hZ.1.1 hS h.ho (h.hts (.fieldLink RX5 37 "BranchBets" "SETTING_LEAST" "[I") (lw_in 216 (by decide +kernel) rfl)) (fun _ h9 => h9) hd (k H locs ls hP hS hl)
theorem g_s5_41 (h : Ok l x X cc RX5 d) (hd : decode cc pc = .ok (.getstatic 41, 3)) (k : G x X σ L (.ref (X.2.2.2.1 1) :: st) (pc + 3)) : G x X σ L st pc := fun H locs ls hP hS hl =>
  va_gets h.hx h.hb h.hZ.2.1.1 hS h.ho (h.hts (.fieldLink RX5 41 "BranchBets" "SETTING_MOST" "[I") (lw_in 218 (by decide +kernel) rfl)) (fun _ h9 => h9) hd (k H locs ls hP hS hl)
theorem g_lsw (h : Ok l x X cc own d) {dflt : Int} {ps : Array (Int × Int)} {len : Nat} {a : Int32} {off : Int} (tgt : Nat) (hd : decode cc pc = .ok (.lookupswitch dflt ps, len)) (hp : (ps.toList.zip (ps.toList.drop 1)).all (fun (a, next) => a.1 < next.1) = true) (ho : Op.lookupswitch.offset ps.toList dflt a.toInt = off) (ht : (pc : Int) + off = (tgt : Int)) (k : G x X σ L st tgt) : G x X σ L (.int a :: st) pc := fun H locs ls hP hS hl => lv_lookup h.hx h.hb hd hp ho ht (k H locs ls hP hS hl)
end ST
def wi (v a b : Int32) : Bool := !decide (v < a) && !decide (b < v)
def isA (a : Int32) : Bool := wi a 0 63
def mostN (k : Int32) : Int32 := if k = 0 then 1 else if k = 4 then 0 else 5
def tks (b : Int32) (f : Nat → Int32) : Bool := if b = 0 then decide (f 0 = 0) else !decide (b = 1) || oTab f
theorem wi_of {v a b : Int32} : wi v a b = true ↔ ¬ v < a ∧ ¬ b < v := by simp [wi]
theorem wi_ix {v b : Int32} {n : Nat} (hn : n < 2 ^ 31) (hb : b = nI n) (h : wi v 0 b = true) : ∃ j : Nat, j ≤ n ∧ v = nI j := by
  obtain ⟨h1, h2⟩ := wi_of.mp h
  obtain ⟨j, hj, e⟩ := nI_of h1
  refine ⟨j, ?_, e⟩
  rw [e, hb] at h2
  exact Nat.not_lt.mp (fun q => h2 (nI_lt q hj))
theorem wi_or {v c : Int32} {n : Nat} (hn : n < 2 ^ 30) (hc : c = nI n) (h : wi v 0 (c - 1) = true) : ∃ j : Nat, j < n ∧ v = nI j := by
  subst hc
  cases n with
  | zero =>
    obtain ⟨h1, h2⟩ := wi_of.mp h
    exact absurd (Int32.lt_of_lt_of_le (by decide) (Int32.not_lt.mp h1) : nI 0 - 1 < v) h2
  | succ n =>
    rw [nI_pred] at h
    obtain ⟨j, hj, e⟩ := wi_ix (by omega) rfl h
    exact ⟨j, by omega, e⟩

set_option maxRecDepth 100000 in
set_option maxHeartbeats 4000000 in
theorem ct_X5_isWithin {l : Launch} {X : fX} {σ : fM} {v a b : Int32} : Ct l X yX5_isWithin cX5_isWithin 3 (some .boolean) 0 [.int v, .int a, .int b] σ (some (.int (bi (wi v a b)))) σ := by
  refine Ct.of RX5 rfl (by decide) (Nat.le_of_ble_eq_true rfl) ?_
  intro x hL h hr
  refine g_sub [(0, .int v), (1, .int a), (2, .int b)] ⟨rfl, rfl, rfl, trivial⟩ ?_
  refine g_iload_n h dX5_isWithin_0 rfl ?_
  refine g_iload_n h dX5_isWithin_1 rfl ?_
  refine g_iclt h 14 dX5_isWithin_2 (by decide) (fun c2 => ?_) (fun c2 => ?_)
  · refine g_iconst (v := 0) h dX5_isWithin_14 (by decide) ?_
    exact g_zret h hr (by first | rfl | exact bi_n _) dX5_isWithin_15 (by first | (simp [wi, bi, c2]; done) | (simp_all [wi, bi]; done)) rfl
  · refine g_iload_n h dX5_isWithin_5 rfl ?_
    refine g_iload_n h dX5_isWithin_6 rfl ?_
    refine g_icgt h 14 dX5_isWithin_7 (by decide) (fun c7 => ?_) (fun c7 => ?_)
    · refine g_iconst (v := 0) h dX5_isWithin_14 (by decide) ?_
      exact g_zret h hr (by first | rfl | exact bi_n _) dX5_isWithin_15 (by first | (simp [wi, bi, c2, c7]; done) | (simp_all [wi, bi]; done)) rfl
    · refine g_iconst (v := 1) h dX5_isWithin_10 (by decide) ?_
      refine g_goto h 15 dX5_isWithin_11 (by decide) ?_
      exact g_zret h hr (by first | rfl | exact bi_n _) dX5_isWithin_15 (by first | (simp [wi, bi, c2, c7]; done) | (simp_all [wi, bi]; done)) rfl

set_option maxRecDepth 100000 in
set_option maxHeartbeats 4000000 in
theorem ct_X5_isAddress {l : Launch} {X : fX} {σ : fM} {a : Int32} : Ct l X yX5_isAddress cX5_isAddress 1 (some .boolean) 1 [.int a] σ (some (.int (bi (isA a)))) σ := by
  refine Ct.of RX5 rfl (by decide) (Nat.le_of_ble_eq_true rfl) ?_
  intro x hL h hr
  refine g_sub [(0, .int a)] ⟨rfl, trivial⟩ ?_
  refine g_iload_n h dX5_isAddress_0 rfl ?_
  refine g_iconst (v := 0) h dX5_isAddress_1 (by decide) ?_
  refine g_bipush (v := 63) h dX5_isAddress_2 (by decide) ?_
  refine cl5_33 h (ct_X5_isWithin) rfl dX5_isAddress_4 rfl (Nat.le_of_ble_eq_true rfl) (by decide) ?_
  exact g_zret h hr (by first | rfl | exact bi_n _) dX5_isAddress_7 rfl rfl

set_option maxRecDepth 100000 in
set_option maxHeartbeats 4000000 in
theorem ct_X5_isOracle {l : Launch} {X : fX} {σ : fM} {v : Int32} : Ct l X yX5_isOracle cX5_isOracle 2 (some .boolean) 1 [ra X 0, .int v] σ (some (.int (bi (wi v 0 (σ.1 (iS 0) 3 - 1))))) σ := by
  refine Ct.of RX5 rfl (by decide) (Nat.le_of_ble_eq_true rfl) ?_
  intro x hL h hr
  refine g_sub [(0, ra X 0), (1, .int v)] ⟨rfl, rfl, trivial⟩ ?_
  refine g_iload_n h dX5_isOracle_0 rfl ?_
  refine g_iconst (v := 0) h dX5_isOracle_1 (by decide) ?_
  refine g_aload_n h dX5_isOracle_2 rfl ?_
  refine gf5_10 h  dX5_isOracle_3 ?_
  refine gf5_56 h (by decide) dX5_isOracle_6 ?_
  refine g_iconst (v := 1) h dX5_isOracle_9 (by decide) ?_
  refine g_isub h dX5_isOracle_10 ?_
  refine cl5_33 h (ct_X5_isWithin) rfl dX5_isOracle_11 rfl (Nat.le_of_ble_eq_true rfl) (by decide) ?_
  exact g_zret h hr (by first | rfl | exact bi_n _) dX5_isOracle_14 rfl rfl

set_option maxRecDepth 100000 in
set_option maxHeartbeats 4000000 in
theorem ct_X5_mostNumberOf {l : Launch} {X : fX} {σ : fM} {k : Int32} : Ct l X yX5_mostNumberOf cX5_mostNumberOf 1 (some .int) 0 [.int k] σ (some (.int (mostN k))) σ := by
  refine Ct.of RX5 rfl (by decide) (Nat.le_of_ble_eq_true rfl) ?_
  intro x hL h hr
  refine g_sub [(0, .int k)] ⟨rfl, trivial⟩ ?_
  refine g_iload_n h dX5_mostNumberOf_0 rfl ?_
  refine g_ifne h 6 dX5_mostNumberOf_1 (by decide) (fun c1 => ?_) (fun c1 => ?_)
  · refine g_iload_n h dX5_mostNumberOf_6 rfl ?_
    refine g_iconst (v := 4) h dX5_mostNumberOf_7 (by decide) ?_
    refine g_icne h 15 dX5_mostNumberOf_8 (by decide) (fun c8 => ?_) (fun c8 => ?_)
    · refine g_iconst (v := 5) h dX5_mostNumberOf_15 (by decide) ?_
      exact g_iret h hr dX5_mostNumberOf_16 (by first | (simp [mostN, c1, c8]; done) | (simp_all [mostN]; done)) rfl
    · refine g_iconst (v := 0) h dX5_mostNumberOf_11 (by decide) ?_
      refine g_goto h 16 dX5_mostNumberOf_12 (by decide) ?_
      exact g_iret h hr dX5_mostNumberOf_16 (by first | (simp [mostN, c1, c8]; done) | (simp_all [mostN]; done)) rfl
  · refine g_iconst (v := 1) h dX5_mostNumberOf_4 (by decide) ?_
    exact g_iret h hr dX5_mostNumberOf_5 (by first | (simp [mostN, c1]; done) | (simp_all [mostN]; done)) rfl

set_option maxRecDepth 100000 in
set_option maxHeartbeats 4000000 in
theorem ct_X5_takes {l : Launch} {X : fX} {σ : fM} {s i : Nat} (hs : s < 6) (hi : i < 6) {b : Int32} : Ct l X yX5_takes cX5_takes 2 (some .boolean) 1 [.int b, ra X (iO s i)] σ (some (.int (bi (tks b (σ.1 (iO s i)))))) σ := by
  refine Ct.of RX5 rfl (by decide) (Nat.le_of_ble_eq_true rfl) ?_
  intro x hL h hr
  refine g_sub [(0, .int b), (1, ra X (iO s i))] ⟨rfl, rfl, trivial⟩ ?_
  refine g_iload_n h dX5_takes_0 rfl ?_
  refine g_ifne h 17 dX5_takes_1 (by decide) (fun c1 => ?_) (fun c1 => ?_)
  · refine g_iload_n h dX5_takes_17 rfl ?_
    refine g_iconst (v := 1) h dX5_takes_18 (by decide) ?_
    refine g_icne h 29 dX5_takes_19 (by decide) (fun c19 => ?_) (fun c19 => ?_)
    · refine g_iconst (v := 1) h dX5_takes_29 (by decide) ?_
      refine g_goto h 34 dX5_takes_30 (by decide) ?_
      exact g_zret h hr (by first | rfl | exact bi_n _) dX5_takes_34 (by first | (simp [tks, bi, c1, c19]; done) | (simp_all [tks, bi]; done)) rfl
    · refine g_aload_n h dX5_takes_22 rfl ?_
      refine cl5_161 h (by omega) (by omega) (ct_X1_hasTable (by omega) (by omega)) rfl dX5_takes_23 rfl (Nat.le_of_ble_eq_true rfl) (by decide) ?_
      refine g_ifeqB h 33 dX5_takes_26 (by decide) (fun c26 => ?_) (fun c26 => ?_)
      · refine g_iconst (v := 0) h dX5_takes_33 (by decide) ?_
        exact g_zret h hr (by first | rfl | exact bi_n _) dX5_takes_34 (by first | (simp [tks, bi, c1, c19, c26]; done) | (simp_all [tks, bi]; done)) rfl
      · refine g_iconst (v := 1) h dX5_takes_29 (by decide) ?_
        refine g_goto h 34 dX5_takes_30 (by decide) ?_
        exact g_zret h hr (by first | rfl | exact bi_n _) dX5_takes_34 (by first | (simp [tks, bi, c1, c19, c26]; done) | (simp_all [tks, bi]; done)) rfl
  · refine g_aload_n h dX5_takes_4 rfl ?_
    refine gf5_114 h (by omega) (by omega) dX5_takes_5 ?_
    refine g_ifne h 15 dX5_takes_8 (by decide) (fun c8 => ?_) (fun c8 => ?_)
    · refine g_iconst (v := 0) h dX5_takes_15 (by decide) ?_
      exact g_zret h hr (by first | rfl | exact bi_n _) dX5_takes_16 (by first | (simp [tks, bi, c1, c8]; done) | (simp_all [tks, bi]; done)) rfl
    · refine g_iconst (v := 1) h dX5_takes_11 (by decide) ?_
      refine g_goto h 16 dX5_takes_12 (by decide) ?_
      exact g_zret h hr (by first | rfl | exact bi_n _) dX5_takes_16 (by first | (simp [tks, bi, c1, c8]; done) | (simp_all [tks, bi]; done)) rfl


theorem keepM_ne {σ : fM} {f z n m k : Nat} (hn : n ≤ 6) (hm : m ≤ 8) (h1 : k ≠ 1) (h : k < 54 ∨ 150 ≤ k) : (keepM σ f z n m).1 k = σ.1 k := by
  have h4 : (f + z) % 4 < 4 := Nat.mod_lt _ (by decide)
  unfold keepM
  dsimp only
  split
  · rw [pu_ne _ h1, copyM_ne hn hm (by omega)]
  · rw [pu_ne _ h1, copyM_ne hn hm (by omega)]
theorem gst_keep {σ : fM} {f z n m : Nat} (hg : gst σ 0 n m) : gst (keepM σ f z n m) 0 n m := by
  obtain ⟨⟨hn, hm, hn6, hm8⟩, hr, hgd⟩ := hg
  refine ⟨⟨?_, ?_, hn6, hm8⟩, fun l hl => ?_, fun i hi => ?_⟩
  · rw [keepM_ne hn6 hm8 (iS_1 0) (by decide)]; exact hn
  · rw [keepM_ne hn6 hm8 (iS_1 0) (by decide)]; exact hm
  · rw [keepM_ne hn6 hm8 (by unfold iL; omega) (by unfold iL; omega)]; exact hr l hl
  · rw [keepM_ne hn6 hm8 (by unfold iO; omega) (by unfold iO; omega)]; exact hgd i hi
def ix (v : Int32) : Nat := v.toNatClampNeg
def kBad : Int32 := -1000001
def kNot : Int32 := -1000002
def kLim : Int32 := -1000003
def kNone : Int32 := -1000004
def cStand (σ : fM) (f z n m : Nat) (o : Int32) : Int32 × fM :=
  if wi o 0 (σ.1 (iS 0) 3 - 1) = false then (kBad, σ) else if oSeat (σ.1 (iO 0 (ix o))) = false then (kNot, σ)
  else ((keepM σ f z n m).1 (iO 0 (ix o)) 3, pu (pu (keepM σ f z n m) (iO 0 (ix o)) 3 (-1)) (iO 0 (ix o)) 4 (-1))
def cGive (σ : fM) (f z n m : Nat) (o v : Int32) : Int32 × fM :=
  if wi o 0 (σ.1 (iS 0) 3 - 1) = false then (kBad, σ) else if wi v 1 9999 = false then (kBad, σ)
  else if ¬ σ.1 (iO 0 (ix o)) 2 + v ≤ 100000 then (kLim, σ)
  else ((keepM σ f z n m).1 (iO 0 (ix o)) 2 + v, pu (keepM σ f z n m) (iO 0 (ix o)) 2 ((keepM σ f z n m).1 (iO 0 (ix o)) 2 + v))
def cSeat (σ : fM) (f z n m : Nat) (o b : Int32) : Int32 × fM :=
  if wi o 0 (σ.1 (iS 0) 3 - 1) = false then (kBad, σ) else if wi b 0 2 = false then (kBad, σ)
  else if oSeat (σ.1 (iO 0 (ix o))) = true then (kNot, σ) else if tks b (σ.1 (iO 0 (ix o))) = false then (kNot, σ)
  else let p := if tak σ 0 n b 0 = true then (if tak σ 0 n b 1 = true then -1 else 1) else 0
    if p = -1 then (kLim, σ) else
    let τ := pu (pu (keepM σ f z n m) (iO 0 (ix o)) 3 b) (iO 0 (ix o)) 4 p
    (sumF 0 (fun i => if τ.1 (iO 0 i) 3 = b then 1 else 0) n, τ)
def cLend (σ : fM) (f z n m : Nat) (c e v : Int32) : Int32 × fM :=
  if wi c 0 (σ.1 (iS 0) 3 - 1) = false then (kBad, σ) else if wi e 0 (σ.1 (iS 0) 3 - 1) = false then (kBad, σ)
  else if c = e then (kBad, σ) else if wi v 1 9999 = false then (kBad, σ)
  else if ¬ v ≤ σ.1 (iO 0 (ix c)) 2 then (kNot, σ) else if ¬ σ.1 (iS 0) 4 < 8 then (kLim, σ)
  else (nI m, addM (keepM σ f z n m) 0 (ix c) (ix e) m v)
def cOracle (σ : fM) (f z n m : Nat) (k u p : Int32) : Int32 × fM :=
  if wi k 0 4 = false then (kBad, σ) else if wi u 0 (mostN k) = false then (kBad, σ) else if wi p 0 9999 = false then (kBad, σ)
  else if ¬ σ.1 (iS 0) 3 < 6 then (kLim, σ)
  else let τ := keepM σ f z n m
    (nI n, pu (puR (puR τ (iO 0 n) (oBegin (τ.1 (iO 0 n)) k u p)) (iT 0 n) (fun q => if q < 32 then 1 else τ.1 (iT 0 n) q)) (iS 0) 3 (nI (n + 1)))
def cBranch (σ : fM) (f z n m : Nat) (a k : Int32) : Int32 × fM :=
  if isA a = false then (kBad, σ) else if wi k 0 1 = false then (kBad, σ)
  else (runV (keepM σ f z n m) 0 n a k, runM (keepM σ f z n m) 0 n m a k)
def sLo (w : Nat) : Int32 := if w = 0 then 1 else 0
def sHi (w : Nat) : Int32 := if w = 2 then 100 else 50
def cSet (σ : fM) (f z n m : Nat) (w v : Int32) : Int32 × fM :=
  if wi w 0 2 = false then (kBad, σ) else if wi v (sLo (ix w)) (sHi (ix w)) = false then (kBad, σ)
  else ((keepM σ f z n m).1 (iSet 0) (ix w), pu (keepM σ f z n m) (iSet 0) (ix w) v)

set_option maxRecDepth 100000 in
set_option maxHeartbeats 4000000 in
theorem ct_X5_stand {l : Launch} {X : fX} {σ : fM} {f z n m : Nat} (hg : gst σ 0 n m) (hp : pst σ f z) {o : Int32} : Ct l X yX5_stand cX5_stand 4 (some .int) 5 [ra X 0, .int o] σ (some (.int (cStand σ f z n m o).1)) (cStand σ f z n m o).2 := by
  refine Ct.of RX5 rfl (by decide) (Nat.le_of_ble_eq_true rfl) ?_
  intro x hL h hr
  refine g_sub [(0, ra X 0), (1, .int o)] ⟨rfl, rfl, trivial⟩ ?_
  obtain ⟨hc, hcr, hgd⟩ := id hg
  obtain ⟨hn, hm, hn6, hm8⟩ := id hc
  refine g_aload_n h dX5_stand_0 rfl ?_
  refine g_iload_n h dX5_stand_1 rfl ?_
  refine cl5_71 h  (ct_X5_isOracle ) rfl dX5_stand_2 rfl (Nat.le_of_ble_eq_true rfl) (by decide) ?_
  refine g_ifneB h 11 dX5_stand_5 (by decide) (fun c5 => ?_) (fun c5 => ?_)
  · obtain ⟨j, hj, rfl⟩ := wi_or (by omega) hn c5
    have hij : (nI j).toNatClampNeg = j := nI_clamp (by omega)
    refine g_aload_n h dX5_stand_11 rfl ?_
    refine gf5_10 h  dX5_stand_12 ?_
    refine gf5_61 h (by omega) dX5_stand_15 ?_
    refine g_iload_n h dX5_stand_18 rfl ?_
    refine g_aaldO h (by omega) rfl (by omega) dX5_stand_19 ?_
    refine g_astore_n h dX5_stand_20 (by rw [hL]; decide) ?_
    refine g_aload_n h dX5_stand_21 rfl ?_
    refine cl5_75 h (by omega) (by omega) (ct_X1_hasSeat (by omega) (by omega)) rfl dX5_stand_22 rfl (Nat.le_of_ble_eq_true rfl) (by decide) ?_
    refine g_ifneB h 31 dX5_stand_25 (by decide) (fun c25 => ?_) (fun c25 => ?_)
    · refine g_aload_n h dX5_stand_31 rfl ?_
      refine gf5_22 h  dX5_stand_32 ?_
      refine g_aload_n h dX5_stand_35 rfl ?_
      refine gf5_10 h  dX5_stand_36 ?_
      refine cl5_45 h  (ct_X2_keep hp hc) rfl dX5_stand_39 rfl (Nat.le_of_ble_eq_true rfl) (by decide) ?_
      refine g_aload_n h dX5_stand_42 rfl ?_
      refine gf5_87 h (by omega) (by omega) dX5_stand_43 ?_
      refine g_istore_n h dX5_stand_46 (by rw [hL]; decide) ?_
      refine g_aload_n h dX5_stand_47 rfl ?_
      refine g_iconst (v := (-1)) h dX5_stand_48 (by decide) ?_
      refine gp5_87 h (by omega) (by omega) dX5_stand_49 ?_
      refine g_aload_n h dX5_stand_52 rfl ?_
      refine g_iconst (v := (-1)) h dX5_stand_53 (by decide) ?_
      refine gp5_90 h (by omega) (by omega) dX5_stand_54 ?_
      refine g_iload_n h dX5_stand_57 rfl ?_
      exact g_iret h hr dX5_stand_58 (by first | (simp [cStand, kBad, kNot, kLim, kNone, ix, hij, c5, c25]; done) | (simp [cStand, kBad, kNot, kLim, kNone, ix, c5, c25]; done) | (simp_all [cStand, kBad, kNot, kLim, kNone, ix]; done)) (by first | (simp [cStand, kBad, kNot, kLim, kNone, ix, hij, c5, c25]; done) | (simp [cStand, kBad, kNot, kLim, kNone, ix, c5, c25]; done) | (simp_all [cStand, kBad, kNot, kLim, kNone, ix]; done))
    · refine g_ldc h (-1000002) (lw_in 272 (by decide +kernel) rfl) dX5_stand_28 ?_
      exact g_iret h hr dX5_stand_30 (by first | (simp [cStand, kBad, kNot, kLim, kNone, ix, hij, c5, c25]; done) | (simp [cStand, kBad, kNot, kLim, kNone, ix, c5, c25]; done) | (simp_all [cStand, kBad, kNot, kLim, kNone, ix]; done)) (by first | (simp [cStand, kBad, kNot, kLim, kNone, ix, hij, c5, c25]; done) | (simp [cStand, kBad, kNot, kLim, kNone, ix, c5, c25]; done) | (simp_all [cStand, kBad, kNot, kLim, kNone, ix]; done))
  · refine g_ldc h (-1000001) (lw_in 220 (by decide +kernel) rfl) dX5_stand_8 ?_
    exact g_iret h hr dX5_stand_10 (by first | (simp [cStand, kBad, kNot, kLim, kNone, ix, hij, c5]; done) | (simp [cStand, kBad, kNot, kLim, kNone, ix, c5]; done) | (simp_all [cStand, kBad, kNot, kLim, kNone, ix]; done)) (by first | (simp [cStand, kBad, kNot, kLim, kNone, ix, hij, c5]; done) | (simp [cStand, kBad, kNot, kLim, kNone, ix, c5]; done) | (simp_all [cStand, kBad, kNot, kLim, kNone, ix]; done))
set_option maxRecDepth 100000 in
set_option maxHeartbeats 4000000 in
theorem ct_X5_give {l : Launch} {X : fX} {σ : fM} {f z n m : Nat} (hg : gst σ 0 n m) (hp : pst σ f z) {o v : Int32} : Ct l X yX5_give cX5_give 4 (some .int) 5 [ra X 0, .int o, .int v] σ (some (.int (cGive σ f z n m o v).1)) (cGive σ f z n m o v).2 := by
  refine Ct.of RX5 rfl (by decide) (Nat.le_of_ble_eq_true rfl) ?_
  intro x hL h hr
  refine g_sub [(0, ra X 0), (1, .int o), (2, .int v)] ⟨rfl, rfl, rfl, trivial⟩ ?_
  obtain ⟨hc, hcr, hgd⟩ := id hg
  obtain ⟨hn, hm, hn6, hm8⟩ := id hc
  refine g_aload_n h dX5_give_0 rfl ?_
  refine g_iload_n h dX5_give_1 rfl ?_
  refine cl5_71 h  (ct_X5_isOracle ) rfl dX5_give_2 rfl (Nat.le_of_ble_eq_true rfl) (by decide) ?_
  refine g_ifeqB h 19 dX5_give_5 (by decide) (fun c5 => ?_) (fun c5 => ?_)
  · refine g_ldc h (-1000001) (lw_in 220 (by decide +kernel) rfl) dX5_give_19 ?_
    exact g_iret h hr dX5_give_21 (by first | (simp [cGive, kBad, kNot, kLim, kNone, ix, hij, c5, pu_puR, puR_self, upd_s]; done) | (simp [cGive, kBad, kNot, kLim, kNone, ix, c5, pu_puR, puR_self, upd_s]; done) | (simp_all [cGive, kBad, kNot, kLim, kNone, ix]; done)) (by first | (simp [cGive, kBad, kNot, kLim, kNone, ix, hij, c5, pu_puR, puR_self, upd_s]; done) | (simp [cGive, kBad, kNot, kLim, kNone, ix, c5, pu_puR, puR_self, upd_s]; done) | (simp_all [cGive, kBad, kNot, kLim, kNone, ix]; done))
  · obtain ⟨j, hj, rfl⟩ := wi_or (by omega) hn c5
    have hij : (nI j).toNatClampNeg = j := nI_clamp (by omega)
    refine g_iload_n h dX5_give_8 rfl ?_
    refine g_iconst (v := 1) h dX5_give_9 (by decide) ?_
    refine g_sipush (v := 9999) h dX5_give_10 (by decide) ?_
    refine cl5_33 h (ct_X5_isWithin) rfl dX5_give_13 rfl (Nat.le_of_ble_eq_true rfl) (by decide) ?_
    refine g_ifneB h 22 dX5_give_16 (by decide) (fun c16 => ?_) (fun c16 => ?_)
    · refine g_aload_n h dX5_give_22 rfl ?_
      refine gf5_10 h  dX5_give_23 ?_
      refine gf5_61 h (by omega) dX5_give_26 ?_
      refine g_iload_n h dX5_give_29 rfl ?_
      refine g_aaldO h (by omega) rfl (by omega) dX5_give_30 ?_
      refine g_astore_n h dX5_give_31 (by rw [hL]; decide) ?_
      refine g_aload_n h dX5_give_32 rfl ?_
      refine gf5_96 h (by omega) (by omega) dX5_give_33 ?_
      refine g_iload_n h dX5_give_36 rfl ?_
      refine g_iadd h dX5_give_37 ?_
      refine g_ldc h (100000) (lw_in 293 (by decide +kernel) rfl) dX5_give_38 ?_
      refine g_icle h 46 dX5_give_40 (by decide) (fun c40 => ?_) (fun c40 => ?_)
      · refine g_aload_n h dX5_give_46 rfl ?_
        refine gf5_22 h  dX5_give_47 ?_
        refine g_aload_n h dX5_give_50 rfl ?_
        refine gf5_10 h  dX5_give_51 ?_
        refine cl5_45 h  (ct_X2_keep hp hc) rfl dX5_give_54 rfl (Nat.le_of_ble_eq_true rfl) (by decide) ?_
        refine g_aload_n h dX5_give_57 rfl ?_
        refine g_dup h dX5_give_58 rfl ?_
        refine gf5_96 h (by omega) (by omega) dX5_give_59 ?_
        refine g_iload_n h dX5_give_62 rfl ?_
        refine g_iadd h dX5_give_63 ?_
        refine gp5_96 h (by omega) (by omega) dX5_give_64 ?_
        refine g_aload_n h dX5_give_67 rfl ?_
        refine gf5_96 h (by omega) (by omega) dX5_give_68 ?_
        exact g_iret h hr dX5_give_71 (by first | (simp [cGive, kBad, kNot, kLim, kNone, ix, hij, c5, c16, c40, pu_puR, puR_self, upd_s]; done) | (simp [cGive, kBad, kNot, kLim, kNone, ix, c5, c16, c40, pu_puR, puR_self, upd_s]; done) | (simp_all [cGive, kBad, kNot, kLim, kNone, ix]; done)) (by first | (simp [cGive, kBad, kNot, kLim, kNone, ix, hij, c5, c16, c40, pu_puR, puR_self, upd_s]; done) | (simp [cGive, kBad, kNot, kLim, kNone, ix, c5, c16, c40, pu_puR, puR_self, upd_s]; done) | (simp_all [cGive, kBad, kNot, kLim, kNone, ix]; done))
      · refine g_ldc h (-1000003) (lw_in 248 (by decide +kernel) rfl) dX5_give_43 ?_
        exact g_iret h hr dX5_give_45 (by first | (simp [cGive, kBad, kNot, kLim, kNone, ix, hij, c5, c16, c40, pu_puR, puR_self, upd_s]; done) | (simp [cGive, kBad, kNot, kLim, kNone, ix, c5, c16, c40, pu_puR, puR_self, upd_s]; done) | (simp_all [cGive, kBad, kNot, kLim, kNone, ix]; done)) (by first | (simp [cGive, kBad, kNot, kLim, kNone, ix, hij, c5, c16, c40, pu_puR, puR_self, upd_s]; done) | (simp [cGive, kBad, kNot, kLim, kNone, ix, c5, c16, c40, pu_puR, puR_self, upd_s]; done) | (simp_all [cGive, kBad, kNot, kLim, kNone, ix]; done))
    · refine g_ldc h (-1000001) (lw_in 220 (by decide +kernel) rfl) dX5_give_19 ?_
      exact g_iret h hr dX5_give_21 (by first | (simp [cGive, kBad, kNot, kLim, kNone, ix, hij, c5, c16, pu_puR, puR_self, upd_s]; done) | (simp [cGive, kBad, kNot, kLim, kNone, ix, c5, c16, pu_puR, puR_self, upd_s]; done) | (simp_all [cGive, kBad, kNot, kLim, kNone, ix]; done)) (by first | (simp [cGive, kBad, kNot, kLim, kNone, ix, hij, c5, c16, pu_puR, puR_self, upd_s]; done) | (simp [cGive, kBad, kNot, kLim, kNone, ix, c5, c16, pu_puR, puR_self, upd_s]; done) | (simp_all [cGive, kBad, kNot, kLim, kNone, ix]; done))
set_option maxRecDepth 100000 in
set_option maxHeartbeats 4000000 in
theorem ct_X5_seat {l : Launch} {X : fX} {σ : fM} {f z n m : Nat} (hg : gst σ 0 n m) (hp : pst σ f z) {o b : Int32} : Ct l X yX5_seat cX5_seat 5 (some .int) 5 [ra X 0, .int o, .int b] σ (some (.int (cSeat σ f z n m o b).1)) (cSeat σ f z n m o b).2 := by
  refine Ct.of RX5 rfl (by decide) (Nat.le_of_ble_eq_true rfl) ?_
  intro x hL h hr
  refine g_sub [(0, ra X 0), (1, .int o), (2, .int b)] ⟨rfl, rfl, rfl, trivial⟩ ?_
  obtain ⟨hc, hcr, hgd⟩ := id hg
  obtain ⟨hn, hm, hn6, hm8⟩ := id hc
  refine g_aload_n h dX5_seat_0 rfl ?_
  refine g_iload_n h dX5_seat_1 rfl ?_
  refine cl5_71 h  (ct_X5_isOracle ) rfl dX5_seat_2 rfl (Nat.le_of_ble_eq_true rfl) (by decide) ?_
  refine g_ifeqB h 17 dX5_seat_5 (by decide) (fun c5 => ?_) (fun c5 => ?_)
  · refine g_ldc h (-1000001) (lw_in 220 (by decide +kernel) rfl) dX5_seat_17 ?_
    exact g_iret h hr dX5_seat_19 (by first | (simp [cSeat, kBad, kNot, kLim, kNone, ix, hij, c5]; done) | (simp [cSeat, kBad, kNot, kLim, kNone, ix, c5]; done) | (simp_all [cSeat, kBad, kNot, kLim, kNone, ix]; done)) (by first | (simp [cSeat, kBad, kNot, kLim, kNone, ix, hij, c5]; done) | (simp [cSeat, kBad, kNot, kLim, kNone, ix, c5]; done) | (simp_all [cSeat, kBad, kNot, kLim, kNone, ix]; done))
  · obtain ⟨j, hj, rfl⟩ := wi_or (by omega) hn c5
    have hij : (nI j).toNatClampNeg = j := nI_clamp (by omega)
    refine g_iload_n h dX5_seat_8 rfl ?_
    refine g_iconst (v := 0) h dX5_seat_9 (by decide) ?_
    refine g_iconst (v := 2) h dX5_seat_10 (by decide) ?_
    refine cl5_33 h (ct_X5_isWithin) rfl dX5_seat_11 rfl (Nat.le_of_ble_eq_true rfl) (by decide) ?_
    refine g_ifneB h 20 dX5_seat_14 (by decide) (fun c14 => ?_) (fun c14 => ?_)
    · refine g_aload_n h dX5_seat_20 rfl ?_
      refine gf5_10 h  dX5_seat_21 ?_
      refine gf5_61 h (by omega) dX5_seat_24 ?_
      refine g_iload_n h dX5_seat_27 rfl ?_
      refine g_aaldO h (by omega) rfl (by omega) dX5_seat_28 ?_
      refine g_astore_n h dX5_seat_29 (by rw [hL]; decide) ?_
      refine g_aload_n h dX5_seat_30 rfl ?_
      refine cl5_75 h (by omega) (by omega) (ct_X1_hasSeat (by omega) (by omega)) rfl dX5_seat_31 rfl (Nat.le_of_ble_eq_true rfl) (by decide) ?_
      refine g_ifneB h 45 dX5_seat_34 (by decide) (fun c34 => ?_) (fun c34 => ?_)
      · refine g_ldc h (-1000002) (lw_in 272 (by decide +kernel) rfl) dX5_seat_45 ?_
        exact g_iret h hr dX5_seat_47 (by first | (simp [cSeat, kBad, kNot, kLim, kNone, ix, hij, c5, c14, c34]; done) | (simp [cSeat, kBad, kNot, kLim, kNone, ix, c5, c14, c34]; done) | (simp_all [cSeat, kBad, kNot, kLim, kNone, ix]; done)) (by first | (simp [cSeat, kBad, kNot, kLim, kNone, ix, hij, c5, c14, c34]; done) | (simp [cSeat, kBad, kNot, kLim, kNone, ix, c5, c14, c34]; done) | (simp_all [cSeat, kBad, kNot, kLim, kNone, ix]; done))
      · refine g_iload_n h dX5_seat_37 rfl ?_
        refine g_aload_n h dX5_seat_38 rfl ?_
        refine cl5_79 h (ct_X5_takes (s := 0) (i := j) (by decide) (by omega)) rfl dX5_seat_39 rfl (Nat.le_of_ble_eq_true rfl) (by decide) ?_
        refine g_ifneB h 48 dX5_seat_42 (by decide) (fun c42 => ?_) (fun c42 => ?_)
        · refine g_aload_n h dX5_seat_48 rfl ?_
          refine gf5_10 h  dX5_seat_49 ?_
          refine g_iload_n h dX5_seat_52 rfl ?_
          refine cl5_84 h (by omega) (ct_X3_lowestFreeSeat (by decide) hc) rfl dX5_seat_53 rfl (Nat.le_of_ble_eq_true rfl) (by decide) ?_
          refine g_istore h dX5_seat_56 (by rw [hL]; decide) ?_
          refine g_iload h dX5_seat_58 rfl ?_
          refine g_iconst (v := (-1)) h dX5_seat_60 (by decide) ?_
          refine g_icne h 67 dX5_seat_61 (by decide) (fun c61 => ?_) (fun c61 => ?_)
          · refine g_aload_n h dX5_seat_67 rfl ?_
            refine gf5_22 h  dX5_seat_68 ?_
            refine g_aload_n h dX5_seat_71 rfl ?_
            refine gf5_10 h  dX5_seat_72 ?_
            refine cl5_45 h  (ct_X2_keep hp hc) rfl dX5_seat_75 rfl (Nat.le_of_ble_eq_true rfl) (by decide) ?_
            refine g_aload_n h dX5_seat_78 rfl ?_
            refine g_iload_n h dX5_seat_79 rfl ?_
            refine gp5_87 h (by omega) (by omega) dX5_seat_80 ?_
            refine g_aload_n h dX5_seat_83 rfl ?_
            refine g_iload h dX5_seat_84 rfl ?_
            refine gp5_90 h (by omega) (by omega) dX5_seat_86 ?_
            refine g_aload_n h dX5_seat_89 rfl ?_
            refine gf5_10 h  dX5_seat_90 ?_
            refine g_iload_n h dX5_seat_93 rfl ?_
            refine cl5_93 h (by omega) (ct_X3_sittersOf (m := m) (by decide) ⟨by rw [pu_ne _ (iO_S 0 j 0 (by omega)).symm, pu_ne _ (iO_S 0 j 0 (by omega)).symm]; exact (gst_keep hg).1.1, by rw [pu_ne _ (iO_S 0 j 0 (by omega)).symm, pu_ne _ (iO_S 0 j 0 (by omega)).symm]; exact (gst_keep hg).1.2.1, hn6, hm8⟩) rfl dX5_seat_94 rfl (Nat.le_of_ble_eq_true rfl) (by decide) ?_
            exact g_iret h hr dX5_seat_97 (by first | (simp [cSeat, kBad, kNot, kLim, kNone, ix, hij, c5, c14, c34, c42, c61]; done) | (simp [cSeat, kBad, kNot, kLim, kNone, ix, c5, c14, c34, c42, c61]; done) | (simp_all [cSeat, kBad, kNot, kLim, kNone, ix]; done)) (by first | (simp [cSeat, kBad, kNot, kLim, kNone, ix, hij, c5, c14, c34, c42, c61]; done) | (simp [cSeat, kBad, kNot, kLim, kNone, ix, c5, c14, c34, c42, c61]; done) | (simp_all [cSeat, kBad, kNot, kLim, kNone, ix]; done))
          · refine g_ldc h (-1000003) (lw_in 248 (by decide +kernel) rfl) dX5_seat_64 ?_
            exact g_iret h hr dX5_seat_66 (by first | (simp [cSeat, kBad, kNot, kLim, kNone, ix, hij, c5, c14, c34, c42, c61]; done) | (simp [cSeat, kBad, kNot, kLim, kNone, ix, c5, c14, c34, c42, c61]; done) | (simp_all [cSeat, kBad, kNot, kLim, kNone, ix]; done)) (by first | (simp [cSeat, kBad, kNot, kLim, kNone, ix, hij, c5, c14, c34, c42, c61]; done) | (simp [cSeat, kBad, kNot, kLim, kNone, ix, c5, c14, c34, c42, c61]; done) | (simp_all [cSeat, kBad, kNot, kLim, kNone, ix]; done))
        · refine g_ldc h (-1000002) (lw_in 272 (by decide +kernel) rfl) dX5_seat_45 ?_
          exact g_iret h hr dX5_seat_47 (by first | (simp [cSeat, kBad, kNot, kLim, kNone, ix, hij, c5, c14, c34, c42]; done) | (simp [cSeat, kBad, kNot, kLim, kNone, ix, c5, c14, c34, c42]; done) | (simp_all [cSeat, kBad, kNot, kLim, kNone, ix]; done)) (by first | (simp [cSeat, kBad, kNot, kLim, kNone, ix, hij, c5, c14, c34, c42]; done) | (simp [cSeat, kBad, kNot, kLim, kNone, ix, c5, c14, c34, c42]; done) | (simp_all [cSeat, kBad, kNot, kLim, kNone, ix]; done))
    · refine g_ldc h (-1000001) (lw_in 220 (by decide +kernel) rfl) dX5_seat_17 ?_
      exact g_iret h hr dX5_seat_19 (by first | (simp [cSeat, kBad, kNot, kLim, kNone, ix, hij, c5, c14]; done) | (simp [cSeat, kBad, kNot, kLim, kNone, ix, c5, c14]; done) | (simp_all [cSeat, kBad, kNot, kLim, kNone, ix]; done)) (by first | (simp [cSeat, kBad, kNot, kLim, kNone, ix, hij, c5, c14]; done) | (simp [cSeat, kBad, kNot, kLim, kNone, ix, c5, c14]; done) | (simp_all [cSeat, kBad, kNot, kLim, kNone, ix]; done))
set_option maxRecDepth 100000 in
set_option maxHeartbeats 4000000 in
theorem ct_X5_lend {l : Launch} {X : fX} {σ : fM} {f z n m : Nat} (hg : gst σ 0 n m) (hp : pst σ f z) {o e v : Int32} : Ct l X yX5_lend cX5_lend 4 (some .int) 5 [ra X 0, .int o, .int e, .int v] σ (some (.int (cLend σ f z n m o e v).1)) (cLend σ f z n m o e v).2 := by
  refine Ct.of RX5 rfl (by decide) (Nat.le_of_ble_eq_true rfl) ?_
  intro x hL h hr
  refine g_sub [(0, ra X 0), (1, .int o), (2, .int e), (3, .int v)] ⟨rfl, rfl, rfl, rfl, trivial⟩ ?_
  obtain ⟨hc, hcr, hgd⟩ := id hg
  obtain ⟨hn, hm, hn6, hm8⟩ := id hc
  refine g_aload_n h dX5_lend_0 rfl ?_
  refine g_iload_n h dX5_lend_1 rfl ?_
  refine cl5_71 h  (ct_X5_isOracle ) rfl dX5_lend_2 rfl (Nat.le_of_ble_eq_true rfl) (by decide) ?_
  refine g_ifeqB h 32 dX5_lend_5 (by decide) (fun c5 => ?_) (fun c5 => ?_)
  · refine g_ldc h (-1000001) (lw_in 220 (by decide +kernel) rfl) dX5_lend_32 ?_
    exact g_iret h hr dX5_lend_34 (by first | (simp [cLend, kBad, kNot, kLim, kNone, ix, hij, c5, hij2]; done) | (simp [cLend, kBad, kNot, kLim, kNone, ix, c5, hij2]; done) | (simp_all [cLend, kBad, kNot, kLim, kNone, ix]; done)) (by first | (simp [cLend, kBad, kNot, kLim, kNone, ix, hij, c5, hij2]; done) | (simp [cLend, kBad, kNot, kLim, kNone, ix, c5, hij2]; done) | (simp_all [cLend, kBad, kNot, kLim, kNone, ix]; done))
  · obtain ⟨j, hj, rfl⟩ := wi_or (by omega) hn c5
    have hij : (nI j).toNatClampNeg = j := nI_clamp (by omega)
    refine g_aload_n h dX5_lend_8 rfl ?_
    refine g_iload_n h dX5_lend_9 rfl ?_
    refine cl5_71 h  (ct_X5_isOracle ) rfl dX5_lend_10 rfl (Nat.le_of_ble_eq_true rfl) (by decide) ?_
    refine g_ifeqB h 32 dX5_lend_13 (by decide) (fun c13 => ?_) (fun c13 => ?_)
    · refine g_ldc h (-1000001) (lw_in 220 (by decide +kernel) rfl) dX5_lend_32 ?_
      exact g_iret h hr dX5_lend_34 (by first | (simp [cLend, kBad, kNot, kLim, kNone, ix, hij, c5, c13, hij2]; done) | (simp [cLend, kBad, kNot, kLim, kNone, ix, c5, c13, hij2]; done) | (simp_all [cLend, kBad, kNot, kLim, kNone, ix]; done)) (by first | (simp [cLend, kBad, kNot, kLim, kNone, ix, hij, c5, c13, hij2]; done) | (simp [cLend, kBad, kNot, kLim, kNone, ix, c5, c13, hij2]; done) | (simp_all [cLend, kBad, kNot, kLim, kNone, ix]; done))
    · obtain ⟨j2, hj2, rfl⟩ := wi_or (by omega) hn c13
      have hij2 : (nI j2).toNatClampNeg = j2 := nI_clamp (by omega)
      refine g_iload_n h dX5_lend_16 rfl ?_
      refine g_iload_n h dX5_lend_17 rfl ?_
      refine g_iceq h 32 dX5_lend_18 (by decide) (fun c18 => ?_) (fun c18 => ?_)
      · refine g_ldc h (-1000001) (lw_in 220 (by decide +kernel) rfl) dX5_lend_32 ?_
        exact g_iret h hr dX5_lend_34 (by first | (simp [cLend, kBad, kNot, kLim, kNone, ix, hij, c5, c13, c18, hij2]; done) | (simp [cLend, kBad, kNot, kLim, kNone, ix, c5, c13, c18, hij2]; done) | (simp_all [cLend, kBad, kNot, kLim, kNone, ix]; done)) (by first | (simp [cLend, kBad, kNot, kLim, kNone, ix, hij, c5, c13, c18, hij2]; done) | (simp [cLend, kBad, kNot, kLim, kNone, ix, c5, c13, c18, hij2]; done) | (simp_all [cLend, kBad, kNot, kLim, kNone, ix]; done))
      · refine g_iload_n h dX5_lend_21 rfl ?_
        refine g_iconst (v := 1) h dX5_lend_22 (by decide) ?_
        refine g_sipush (v := 9999) h dX5_lend_23 (by decide) ?_
        refine cl5_33 h (ct_X5_isWithin) rfl dX5_lend_26 rfl (Nat.le_of_ble_eq_true rfl) (by decide) ?_
        refine g_ifneB h 35 dX5_lend_29 (by decide) (fun c29 => ?_) (fun c29 => ?_)
        · refine g_aload_n h dX5_lend_35 rfl ?_
          refine gf5_10 h  dX5_lend_36 ?_
          refine gf5_61 h (by omega) dX5_lend_39 ?_
          refine g_iload_n h dX5_lend_42 rfl ?_
          refine g_aaldO h (by omega) rfl (by omega) dX5_lend_43 ?_
          refine gf5_96 h (by omega) (by omega) dX5_lend_44 ?_
          refine g_iload_n h dX5_lend_47 rfl ?_
          refine g_icge h 54 dX5_lend_48 (by decide) (fun c48 => ?_) (fun c48 => ?_)
          · refine g_aload_n h dX5_lend_54 rfl ?_
            refine gf5_10 h  dX5_lend_55 ?_
            refine gf5_100 h (by omega) dX5_lend_58 ?_
            refine g_bipush (v := 8) h dX5_lend_61 (by decide) ?_
            refine g_iclt h 69 dX5_lend_63 (by decide) (fun c63 => ?_) (fun c63 => ?_)
            · have hm7 : m < 8 := by rw [hm] at c63; exact Nat.not_le.mp (fun q => absurd c63 (nI_nlt (b := 8) q (by omega)))
              refine g_aload_n h dX5_lend_69 rfl ?_
              refine gf5_22 h  dX5_lend_70 ?_
              refine g_aload_n h dX5_lend_73 rfl ?_
              refine gf5_10 h  dX5_lend_74 ?_
              refine cl5_45 h  (ct_X2_keep hp hc) rfl dX5_lend_77 rfl (Nat.le_of_ble_eq_true rfl) (by decide) ?_
              refine g_aload_n h dX5_lend_80 rfl ?_
              refine gf5_10 h  dX5_lend_81 ?_
              refine g_iload_n h dX5_lend_84 rfl ?_
              refine g_iload_n h dX5_lend_85 rfl ?_
              refine g_iload_n h dX5_lend_86 rfl ?_
              refine cl5_103 h (by omega) (ct_X3_addLoan (by decide) (gst_keep hg).1 (by omega) (by omega) hm7) rfl dX5_lend_87 rfl (Nat.le_of_ble_eq_true rfl) (by decide) ?_
              exact g_iret h hr dX5_lend_90 (by first | (simp [cLend, kBad, kNot, kLim, kNone, ix, hij, c5, c13, c18, c29, c48, c63, hij2]; done) | (simp [cLend, kBad, kNot, kLim, kNone, ix, c5, c13, c18, c29, c48, c63, hij2]; done) | (simp_all [cLend, kBad, kNot, kLim, kNone, ix]; done)) (by first | (simp [cLend, kBad, kNot, kLim, kNone, ix, hij, c5, c13, c18, c29, c48, c63, hij2]; done) | (simp [cLend, kBad, kNot, kLim, kNone, ix, c5, c13, c18, c29, c48, c63, hij2]; done) | (simp_all [cLend, kBad, kNot, kLim, kNone, ix]; done))
            · refine g_ldc h (-1000003) (lw_in 248 (by decide +kernel) rfl) dX5_lend_66 ?_
              exact g_iret h hr dX5_lend_68 (by first | (simp [cLend, kBad, kNot, kLim, kNone, ix, hij, c5, c13, c18, c29, c48, c63, hij2]; done) | (simp [cLend, kBad, kNot, kLim, kNone, ix, c5, c13, c18, c29, c48, c63, hij2]; done) | (simp_all [cLend, kBad, kNot, kLim, kNone, ix]; done)) (by first | (simp [cLend, kBad, kNot, kLim, kNone, ix, hij, c5, c13, c18, c29, c48, c63, hij2]; done) | (simp [cLend, kBad, kNot, kLim, kNone, ix, c5, c13, c18, c29, c48, c63, hij2]; done) | (simp_all [cLend, kBad, kNot, kLim, kNone, ix]; done))
          · refine g_ldc h (-1000002) (lw_in 272 (by decide +kernel) rfl) dX5_lend_51 ?_
            exact g_iret h hr dX5_lend_53 (by first | (simp [cLend, kBad, kNot, kLim, kNone, ix, hij, c5, c13, c18, c29, c48, hij2]; done) | (simp [cLend, kBad, kNot, kLim, kNone, ix, c5, c13, c18, c29, c48, hij2]; done) | (simp_all [cLend, kBad, kNot, kLim, kNone, ix]; done)) (by first | (simp [cLend, kBad, kNot, kLim, kNone, ix, hij, c5, c13, c18, c29, c48, hij2]; done) | (simp [cLend, kBad, kNot, kLim, kNone, ix, c5, c13, c18, c29, c48, hij2]; done) | (simp_all [cLend, kBad, kNot, kLim, kNone, ix]; done))
        · refine g_ldc h (-1000001) (lw_in 220 (by decide +kernel) rfl) dX5_lend_32 ?_
          exact g_iret h hr dX5_lend_34 (by first | (simp [cLend, kBad, kNot, kLim, kNone, ix, hij, c5, c13, c18, c29, hij2]; done) | (simp [cLend, kBad, kNot, kLim, kNone, ix, c5, c13, c18, c29, hij2]; done) | (simp_all [cLend, kBad, kNot, kLim, kNone, ix]; done)) (by first | (simp [cLend, kBad, kNot, kLim, kNone, ix, hij, c5, c13, c18, c29, hij2]; done) | (simp [cLend, kBad, kNot, kLim, kNone, ix, c5, c13, c18, c29, hij2]; done) | (simp_all [cLend, kBad, kNot, kLim, kNone, ix]; done))
set_option maxRecDepth 100000 in
set_option maxHeartbeats 4000000 in
theorem ct_X5_branch {l : Launch} {X : fX} {σ : fM} {f z n m : Nat} (hg : gst σ 0 n m) (hp : pst σ f z) {a k : Int32} : Ct l X yX5_branch cX5_branch 3 (some .int) 5 [ra X 0, .int a, .int k] σ (some (.int (cBranch σ f z n m a k).1)) (cBranch σ f z n m a k).2 := by
  refine Ct.of RX5 rfl (by decide) (Nat.le_of_ble_eq_true rfl) ?_
  intro x hL h hr
  refine g_sub [(0, ra X 0), (1, .int a), (2, .int k)] ⟨rfl, rfl, rfl, trivial⟩ ?_
  obtain ⟨hc, hcr, hgd⟩ := id hg
  obtain ⟨hn, hm, hn6, hm8⟩ := id hc
  refine g_iload_n h dX5_branch_0 rfl ?_
  refine cl5_107 h (ct_X5_isAddress) rfl dX5_branch_1 rfl (Nat.le_of_ble_eq_true rfl) (by decide) ?_
  refine g_ifeqB h 16 dX5_branch_4 (by decide) (fun c4 => ?_) (fun c4 => ?_)
  · refine g_ldc h (-1000001) (lw_in 220 (by decide +kernel) rfl) dX5_branch_16 ?_
    exact g_iret h hr dX5_branch_18 (by first | (simp [cBranch, kBad, kNot, kLim, kNone, ix, hij, c4]; done) | (simp [cBranch, kBad, kNot, kLim, kNone, ix, c4]; done) | (simp_all [cBranch, kBad, kNot, kLim, kNone, ix]; done)) (by first | (simp [cBranch, kBad, kNot, kLim, kNone, ix, hij, c4]; done) | (simp [cBranch, kBad, kNot, kLim, kNone, ix, c4]; done) | (simp_all [cBranch, kBad, kNot, kLim, kNone, ix]; done))
  · refine g_iload_n h dX5_branch_7 rfl ?_
    refine g_iconst (v := 0) h dX5_branch_8 (by decide) ?_
    refine g_iconst (v := 1) h dX5_branch_9 (by decide) ?_
    refine cl5_33 h (ct_X5_isWithin) rfl dX5_branch_10 rfl (Nat.le_of_ble_eq_true rfl) (by decide) ?_
    refine g_ifneB h 19 dX5_branch_13 (by decide) (fun c13 => ?_) (fun c13 => ?_)
    · refine g_aload_n h dX5_branch_19 rfl ?_
      refine gf5_22 h  dX5_branch_20 ?_
      refine g_aload_n h dX5_branch_23 rfl ?_
      refine gf5_10 h  dX5_branch_24 ?_
      refine cl5_45 h  (ct_X2_keep hp hc) rfl dX5_branch_27 rfl (Nat.le_of_ble_eq_true rfl) (by decide) ?_
      refine g_aload_n h dX5_branch_30 rfl ?_
      refine gf5_10 h  dX5_branch_31 ?_
      refine g_iload_n h dX5_branch_34 rfl ?_
      refine g_iload_n h dX5_branch_35 rfl ?_
      refine cl5_110 h (by omega) (ct_X3_runBranch (by decide) (gst_keep hg).1 (gst_keep hg).2.1 (gst_keep hg).2.2) rfl dX5_branch_36 rfl (Nat.le_of_ble_eq_true rfl) (by decide) ?_
      exact g_iret h hr dX5_branch_39 (by first | (simp [cBranch, kBad, kNot, kLim, kNone, ix, hij, c4, c13]; done) | (simp [cBranch, kBad, kNot, kLim, kNone, ix, c4, c13]; done) | (simp_all [cBranch, kBad, kNot, kLim, kNone, ix]; done)) (by first | (simp [cBranch, kBad, kNot, kLim, kNone, ix, hij, c4, c13]; done) | (simp [cBranch, kBad, kNot, kLim, kNone, ix, c4, c13]; done) | (simp_all [cBranch, kBad, kNot, kLim, kNone, ix]; done))
    · refine g_ldc h (-1000001) (lw_in 220 (by decide +kernel) rfl) dX5_branch_16 ?_
      exact g_iret h hr dX5_branch_18 (by first | (simp [cBranch, kBad, kNot, kLim, kNone, ix, hij, c4, c13]; done) | (simp [cBranch, kBad, kNot, kLim, kNone, ix, c4, c13]; done) | (simp_all [cBranch, kBad, kNot, kLim, kNone, ix]; done)) (by first | (simp [cBranch, kBad, kNot, kLim, kNone, ix, hij, c4, c13]; done) | (simp [cBranch, kBad, kNot, kLim, kNone, ix, c4, c13]; done) | (simp_all [cBranch, kBad, kNot, kLim, kNone, ix]; done))
set_option maxRecDepth 100000 in
set_option maxHeartbeats 4000000 in
theorem ct_X5_oracle {l : Launch} {X : fX} {σ : fM} {f z n m : Nat} (hg : gst σ 0 n m) (hp : pst σ f z) {k u p : Int32} : Ct l X yX5_oracle cX5_oracle 5 (some .int) 5 [ra X 0, .int k, .int u, .int p] σ (some (.int (cOracle σ f z n m k u p).1)) (cOracle σ f z n m k u p).2 := by
  refine Ct.of RX5 rfl (by decide) (Nat.le_of_ble_eq_true rfl) ?_
  intro x hL h hr
  refine g_sub [(0, ra X 0), (1, .int k), (2, .int u), (3, .int p)] ⟨rfl, rfl, rfl, rfl, trivial⟩ ?_
  obtain ⟨hc, hcr, hgd⟩ := id hg
  obtain ⟨hn, hm, hn6, hm8⟩ := id hc
  refine g_iload_n h dX5_oracle_0 rfl ?_
  refine g_iconst (v := 0) h dX5_oracle_1 (by decide) ?_
  refine g_iconst (v := 4) h dX5_oracle_2 (by decide) ?_
  refine cl5_33 h (ct_X5_isWithin) rfl dX5_oracle_3 rfl (Nat.le_of_ble_eq_true rfl) (by decide) ?_
  refine g_ifeqB h 32 dX5_oracle_6 (by decide) (fun c6 => ?_) (fun c6 => ?_)
  · refine g_ldc h (-1000001) (lw_in 220 (by decide +kernel) rfl) dX5_oracle_32 ?_
    exact g_iret h hr dX5_oracle_34 (by first | (simp [cOracle, kBad, kNot, kLim, kNone, ix, hij, c6, hnk, nI_succ]; done) | (simp [cOracle, kBad, kNot, kLim, kNone, ix, c6, hnk, nI_succ]; done) | (simp_all [cOracle, kBad, kNot, kLim, kNone, ix]; done)) (by first | (simp [cOracle, kBad, kNot, kLim, kNone, ix, hij, c6, hnk, nI_succ]; done) | (simp [cOracle, kBad, kNot, kLim, kNone, ix, c6, hnk, nI_succ]; done) | (simp_all [cOracle, kBad, kNot, kLim, kNone, ix]; done))
  · refine g_iload_n h dX5_oracle_9 rfl ?_
    refine g_iconst (v := 0) h dX5_oracle_10 (by decide) ?_
    refine g_iload_n h dX5_oracle_11 rfl ?_
    refine cl5_52 h (ct_X5_mostNumberOf) rfl dX5_oracle_12 rfl (Nat.le_of_ble_eq_true rfl) (by decide) ?_
    refine cl5_33 h (ct_X5_isWithin) rfl dX5_oracle_15 rfl (Nat.le_of_ble_eq_true rfl) (by decide) ?_
    refine g_ifeqB h 32 dX5_oracle_18 (by decide) (fun c18 => ?_) (fun c18 => ?_)
    · refine g_ldc h (-1000001) (lw_in 220 (by decide +kernel) rfl) dX5_oracle_32 ?_
      exact g_iret h hr dX5_oracle_34 (by first | (simp [cOracle, kBad, kNot, kLim, kNone, ix, hij, c6, c18, hnk, nI_succ]; done) | (simp [cOracle, kBad, kNot, kLim, kNone, ix, c6, c18, hnk, nI_succ]; done) | (simp_all [cOracle, kBad, kNot, kLim, kNone, ix]; done)) (by first | (simp [cOracle, kBad, kNot, kLim, kNone, ix, hij, c6, c18, hnk, nI_succ]; done) | (simp [cOracle, kBad, kNot, kLim, kNone, ix, c6, c18, hnk, nI_succ]; done) | (simp_all [cOracle, kBad, kNot, kLim, kNone, ix]; done))
    · refine g_iload_n h dX5_oracle_21 rfl ?_
      refine g_iconst (v := 0) h dX5_oracle_22 (by decide) ?_
      refine g_sipush (v := 9999) h dX5_oracle_23 (by decide) ?_
      refine cl5_33 h (ct_X5_isWithin) rfl dX5_oracle_26 rfl (Nat.le_of_ble_eq_true rfl) (by decide) ?_
      refine g_ifneB h 35 dX5_oracle_29 (by decide) (fun c29 => ?_) (fun c29 => ?_)
      · refine g_aload_n h dX5_oracle_35 rfl ?_
        refine gf5_10 h  dX5_oracle_36 ?_
        refine gf5_56 h (by omega) dX5_oracle_39 ?_
        refine g_bipush (v := 6) h dX5_oracle_42 (by decide) ?_
        refine g_iclt h 50 dX5_oracle_44 (by decide) (fun c44 => ?_) (fun c44 => ?_)
        · have hn5 : n < 6 := by rw [hn] at c44; exact Nat.not_le.mp (fun q => absurd c44 (nI_nlt (b := 6) q (by omega)))
          have hnk : (keepM σ f z n m).1 (iS 0) 3 = nI n := (gst_keep hg).1.1
          refine g_aload_n h dX5_oracle_50 rfl ?_
          refine gf5_22 h  dX5_oracle_51 ?_
          refine g_aload_n h dX5_oracle_54 rfl ?_
          refine gf5_10 h  dX5_oracle_55 ?_
          refine cl5_45 h  (ct_X2_keep hp hc) rfl dX5_oracle_58 rfl (Nat.le_of_ble_eq_true rfl) (by decide) ?_
          refine g_aload_n h dX5_oracle_61 rfl ?_
          refine gf5_10 h  dX5_oracle_62 ?_
          refine gf5_56 h (by omega) dX5_oracle_65 ?_
          refine g_istore h dX5_oracle_68 (by rw [hL]; decide) ?_
          refine g_aload_n h dX5_oracle_70 rfl ?_
          refine gf5_10 h  dX5_oracle_71 ?_
          refine gf5_61 h (by omega) dX5_oracle_74 ?_
          refine g_iload h dX5_oracle_77 rfl ?_
          refine g_aaldO h (by omega) hnk (by omega) dX5_oracle_79 ?_
          refine g_iload_n h dX5_oracle_80 rfl ?_
          refine g_iload_n h dX5_oracle_81 rfl ?_
          refine g_iload_n h dX5_oracle_82 rfl ?_
          refine cl5_65 h (by omega) (by omega) (ct_X1_begin (by decide) (by omega)) rfl dX5_oracle_83 rfl (Nat.le_of_ble_eq_true rfl) (by decide) ?_
          refine g_aload_n h dX5_oracle_86 rfl ?_
          refine gf5_10 h  dX5_oracle_87 ?_
          refine g_iload h dX5_oracle_90 rfl ?_
          refine g_iconst (v := 1) h dX5_oracle_92 (by decide) ?_
          refine g_iadd h dX5_oracle_93 ?_
          refine gp5_56 h (by omega) dX5_oracle_94 ?_
          refine g_iload h dX5_oracle_97 rfl ?_
          exact g_iret h hr dX5_oracle_99 (by first | (simp [cOracle, kBad, kNot, kLim, kNone, ix, hij, c6, c18, c29, c44, hnk, nI_succ]; done) | (simp [cOracle, kBad, kNot, kLim, kNone, ix, c6, c18, c29, c44, hnk, nI_succ]; done) | (simp_all [cOracle, kBad, kNot, kLim, kNone, ix]; done)) (by first | (simp [cOracle, kBad, kNot, kLim, kNone, ix, hij, c6, c18, c29, c44, hnk, nI_succ]; done) | (simp [cOracle, kBad, kNot, kLim, kNone, ix, c6, c18, c29, c44, hnk, nI_succ]; done) | (simp_all [cOracle, kBad, kNot, kLim, kNone, ix]; done))
        · refine g_ldc h (-1000003) (lw_in 248 (by decide +kernel) rfl) dX5_oracle_47 ?_
          exact g_iret h hr dX5_oracle_49 (by first | (simp [cOracle, kBad, kNot, kLim, kNone, ix, hij, c6, c18, c29, c44, hnk, nI_succ]; done) | (simp [cOracle, kBad, kNot, kLim, kNone, ix, c6, c18, c29, c44, hnk, nI_succ]; done) | (simp_all [cOracle, kBad, kNot, kLim, kNone, ix]; done)) (by first | (simp [cOracle, kBad, kNot, kLim, kNone, ix, hij, c6, c18, c29, c44, hnk, nI_succ]; done) | (simp [cOracle, kBad, kNot, kLim, kNone, ix, c6, c18, c29, c44, hnk, nI_succ]; done) | (simp_all [cOracle, kBad, kNot, kLim, kNone, ix]; done))
      · refine g_ldc h (-1000001) (lw_in 220 (by decide +kernel) rfl) dX5_oracle_32 ?_
        exact g_iret h hr dX5_oracle_34 (by first | (simp [cOracle, kBad, kNot, kLim, kNone, ix, hij, c6, c18, c29, hnk, nI_succ]; done) | (simp [cOracle, kBad, kNot, kLim, kNone, ix, c6, c18, c29, hnk, nI_succ]; done) | (simp_all [cOracle, kBad, kNot, kLim, kNone, ix]; done)) (by first | (simp [cOracle, kBad, kNot, kLim, kNone, ix, hij, c6, c18, c29, hnk, nI_succ]; done) | (simp [cOracle, kBad, kNot, kLim, kNone, ix, c6, c18, c29, hnk, nI_succ]; done) | (simp_all [cOracle, kBad, kNot, kLim, kNone, ix]; done))
set_option maxRecDepth 100000 in
set_option maxHeartbeats 4000000 in
theorem ct_X5_set {l : Launch} {X : fX} {σ : fM} {f z n m : Nat} (hg : gst σ 0 n m) (hp : pst σ f z) {w v : Int32} : Ct l X yX5_set cX5_set 4 (some .int) 5 [ra X 0, .int w, .int v] σ (some (.int (cSet σ f z n m w v).1)) (cSet σ f z n m w v).2 := by
  refine Ct.of RX5 rfl (by decide) (Nat.le_of_ble_eq_true rfl) ?_
  intro x hL h hr
  refine g_sub [(0, ra X 0), (1, .int w), (2, .int v)] ⟨rfl, rfl, rfl, trivial⟩ ?_
  obtain ⟨hc, hcr, hgd⟩ := id hg
  obtain ⟨hn, hm, hn6, hm8⟩ := id hc
  refine g_iload_n h dX5_set_0 rfl ?_
  refine g_iconst (v := 0) h dX5_set_1 (by decide) ?_
  refine g_iconst (v := 2) h dX5_set_2 (by decide) ?_
  refine cl5_33 h (ct_X5_isWithin) rfl dX5_set_3 rfl (Nat.le_of_ble_eq_true rfl) (by decide) ?_
  refine g_ifeqB h 26 dX5_set_6 (by decide) (fun c6 => ?_) (fun c6 => ?_)
  · refine g_ldc h (-1000001) (lw_in 220 (by decide +kernel) rfl) dX5_set_26 ?_
    exact g_iret h hr dX5_set_28 (by first | (simp [cSet, kBad, kNot, kLim, kNone, ix, hij, c6, sLo, sHi]; done) | (simp [cSet, kBad, kNot, kLim, kNone, ix, c6, sLo, sHi]; done) | (simp_all [cSet, kBad, kNot, kLim, kNone, ix]; done)) (by first | (simp [cSet, kBad, kNot, kLim, kNone, ix, hij, c6, sLo, sHi]; done) | (simp [cSet, kBad, kNot, kLim, kNone, ix, c6, sLo, sHi]; done) | (simp_all [cSet, kBad, kNot, kLim, kNone, ix]; done))
  · obtain ⟨j, hj, rfl⟩ := wi_ix (n := 2) (by decide) (by decide) c6
    have hij : (nI j).toNatClampNeg = j := nI_clamp (by omega)
    refine g_iload_n h dX5_set_9 rfl ?_
    refine g_s5_37 h dX5_set_10 ?_
    refine g_iload_n h dX5_set_13 rfl ?_
    refine g_tiL h rfl (by omega) dX5_set_14 ?_
    refine g_s5_41 h dX5_set_15 ?_
    refine g_iload_n h dX5_set_18 rfl ?_
    refine g_tiM h rfl (by omega) dX5_set_19 ?_
    refine cl5_33 h (ct_X5_isWithin) rfl dX5_set_20 rfl (Nat.le_of_ble_eq_true rfl) (by decide) ?_
    refine g_ifneB h 29 dX5_set_23 (by decide) (fun c23 => ?_) (fun c23 => ?_)
    · refine g_aload_n h dX5_set_29 rfl ?_
      refine gf5_22 h  dX5_set_30 ?_
      refine g_aload_n h dX5_set_33 rfl ?_
      refine gf5_10 h  dX5_set_34 ?_
      refine cl5_45 h  (ct_X2_keep hp hc) rfl dX5_set_37 rfl (Nat.le_of_ble_eq_true rfl) (by decide) ?_
      refine g_aload_n h dX5_set_40 rfl ?_
      refine gf5_10 h  dX5_set_41 ?_
      refine gf5_49 h (by omega) dX5_set_44 ?_
      refine g_iload_n h dX5_set_47 rfl ?_
      refine g_ialdSet h (by omega) rfl (by omega) dX5_set_48 ?_
      refine g_istore_n h dX5_set_49 (by rw [hL]; decide) ?_
      refine g_aload_n h dX5_set_50 rfl ?_
      refine gf5_10 h  dX5_set_51 ?_
      refine gf5_49 h (by omega) dX5_set_54 ?_
      refine g_iload_n h dX5_set_57 rfl ?_
      refine g_iload_n h dX5_set_58 rfl ?_
      refine g_iastN h (iSet_lt (by omega)) (enc_Set X (by omega)) rfl (by omega) (by decide) dX5_set_59 ?_
      refine g_iload_n h dX5_set_60 rfl ?_
      exact g_iret h hr dX5_set_61 (by first | (simp [cSet, kBad, kNot, kLim, kNone, ix, hij, c6, c23, sLo, sHi]; done) | (simp [cSet, kBad, kNot, kLim, kNone, ix, c6, c23, sLo, sHi]; done) | (simp_all [cSet, kBad, kNot, kLim, kNone, ix]; done)) (by first | (simp [cSet, kBad, kNot, kLim, kNone, ix, hij, c6, c23, sLo, sHi]; done) | (simp [cSet, kBad, kNot, kLim, kNone, ix, c6, c23, sLo, sHi]; done) | (simp_all [cSet, kBad, kNot, kLim, kNone, ix]; done))
    · refine g_ldc h (-1000001) (lw_in 220 (by decide +kernel) rfl) dX5_set_26 ?_
      exact g_iret h hr dX5_set_28 (by first | (simp [cSet, kBad, kNot, kLim, kNone, ix, hij, c6, c23, sLo, sHi]; done) | (simp [cSet, kBad, kNot, kLim, kNone, ix, c6, c23, sLo, sHi]; done) | (simp_all [cSet, kBad, kNot, kLim, kNone, ix]; done)) (by first | (simp [cSet, kBad, kNot, kLim, kNone, ix, hij, c6, c23, sLo, sHi]; done) | (simp [cSet, kBad, kNot, kLim, kNone, ix, c6, c23, sLo, sHi]; done) | (simp_all [cSet, kBad, kNot, kLim, kNone, ix]; done))