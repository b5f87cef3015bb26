/-! the root: what is asked -/
theorem ofI0 : Int32.ofInt 0 = 0 := by decide
def cCounter (σ : fM) (o i : Int32) : Int32 × fM :=
  if wi o 0 (σ.1 (iS 0) 3 - 1) = false then (kBad, σ) else if ¬ 0 ≤ i then (kBad, σ)
  else if oSize (σ.1 (iO 0 (ix o))) ≤ i then (kNone, σ) else (σ.1 (iT 0 (ix o)) (ix i), σ)
theorem oSize_le {f : Nat → Int32} (hg : oGood f) {i : Int32} (h0 : 0 ≤ i) (h : ¬ oSize f ≤ i) : vp_in i 32 := by
  obtain ⟨j, hj, rfl⟩ := nI_of (Int32.not_lt.mpr h0)
  have h1 := Int32.not_le.mp h
  by_cases ht : oTab f = true
  · obtain ⟨n, hn, e⟩ := hg ht
    unfold oSize at h1
    rw [if_pos ht, e] at h1
    have key : ∀ n, n ≤ 5 → (1 : Int32) <<< (nI n &&& 31) = nI (2 ^ n) := by decide +kernel
    rw [key n hn] at h1
    have h32 : 2 ^ n ≤ 2 ^ 5 := Nat.pow_le_pow_right (by decide) hn
    have := (nI_ltI hj (by omega)).mp h1
    exact vp_in_nI (by omega) (by decide)
  · unfold oSize at h1
    rw [if_neg ht] at h1
    exact absurd h1 (nI_pos hj)
def cOracleOf (σ : fM) (n m : Nat) (o w : Int32) : Int32 × fM :=
  if wi o 0 (σ.1 (iS 0) 3 - 1) = false then (kBad, σ) else if wi w 0 10 = false then (kBad, σ)
  else let f := σ.1 (iO 0 (ix o))
    (if ix w = 3 then (if oSeat f = true then f 3 else kNone) else if ix w = 4 then (if oSeat f = true then f 4 else kNone)
    else if ix w = 9 then sumF 0 (fun l => if σ.1 (iL 0 l) 1 = o then σ.1 (iL 0 l) 2 else 0) m
    else if ix w = 10 then sumF 0 (fun l => if σ.1 (iL 0 l) 0 = o then σ.1 (iL 0 l) 2 else 0) m
    else f (ix w), σ)
def cLoanOf (σ : fM) (i w : Int32) : Int32 × fM :=
  if wi i 0 (σ.1 (iS 0) 4 - 1) = false then (kBad, σ) else if wi w 0 2 = false then (kBad, σ)
  else (σ.1 (iL 0 (ix i)) (ix w), σ)
/-- the first one, or how many were looked at -/
def fstF (p : Nat → Bool) : Nat → Nat
  | 0 => 0
  | n + 1 => if fstF p n < n then fstF p n else if p n = true then n else n + 1
theorem fstF_le (p : Nat → Bool) : ∀ n, fstF p n ≤ n
  | 0 => Nat.le_refl 0
  | n + 1 => by
    have := fstF_le p n
    unfold fstF
    split
    · omega
    · split <;> omega
theorem fstF_at {p : Nat → Bool} {i : Nat} (h : fstF p i = i) (hp : p i = true) : ∀ {n : Nat}, i < n → fstF p n = i
  | 0, hn => absurd hn (Nat.not_lt_zero i)
  | n + 1, hn => by
    unfold fstF
    by_cases hi : i = n
    · subst hi
      rw [if_neg (by omega), if_pos hp]
    · have ih := fstF_at h hp (n := n) (by omega)
      rw [if_pos (by omega), ih]
theorem fstF_no {p : Nat → Bool} {i : Nat} (h : fstF p i = i) (hp : ¬ p i = true) : fstF p (i + 1) = i + 1 := by
  unfold fstF
  rw [if_neg (by omega), if_neg hp]
def rcF (σ : fM) (n j : Nat) : Int32 := sumF 0 (fun i => if σ.1 (iO 0 j) 2 < σ.1 (iO 0 i) 2 ∨ (σ.1 (iO 0 i) 2 = σ.1 (iO 0 j) 2 ∧ nI i < nI j) then 1 else 0) n
def cRich (σ : fM) (n : Nat) (p : Int32) : Int32 × fM :=
  if ¬ 0 ≤ p then (kBad, σ) else if fstF (fun j => decide (rcF σ n j = p)) n < n then (nI (fstF (fun j => decide (rcF σ n j = p)) n), σ) else (kNone, σ)
def cSays (σ : fM) (n : Nat) (o a : Int32) : Int32 × fM :=
  if wi o 0 (σ.1 (iS 0) 3 - 1) = false then (kBad, σ) else if isA a = false then (kBad, σ)
  else ((fore σ 0 n a).1 (iO 0 (ix o)) 9, fore σ 0 n a)
def cStake (σ : fM) (n : Nat) (o a : Int32) : Int32 × fM :=
  if wi o 0 (σ.1 (iS 0) 3 - 1) = false then (kBad, σ) else if isA a = false then (kBad, σ)
  else ((fore σ 0 n a).1 (iO 0 (ix o)) 10, fore σ 0 n a)
def cGain (σ : fM) (n m : Nat) (o a k : Int32) : Int32 × fM :=
  if wi o 0 (σ.1 (iS 0) 3 - 1) = false then (kBad, σ) else if isA a = false then (kBad, σ) else if wi k 0 1 = false then (kBad, σ)
  else let τ := runM (copyM σ 1 0 n m) 1 n m a k
    (τ.1 (iO 1 (ix o)) 2 - τ.1 (iO 0 (ix o)) 2, τ)
def dmZ (σ : fM) (n m : Nat) (a k : Int32) : Nat → fM × Nat
  | 0 => (copyM σ 1 0 n m, m)
  | i + 1 => (runM (dmZ σ n m a k i).1 1 n (dmZ σ n m a k i).2 a k, runN (dmZ σ n m a k i).1 1 n (dmZ σ n m a k i).2 a k)
def dmP (σ : fM) (n m : Nat) (j : Nat) (a k : Int32) (i : Nat) : Bool := oRuin ((dmZ σ n m a k i).1.1 (iO 1 j))
def cDoom (σ : fM) (n m : Nat) (o a k : Int32) : Int32 × fM :=
  if wi o 0 (σ.1 (iS 0) 3 - 1) = false then (kBad, σ) else if isA a = false then (kBad, σ) else if wi k 0 1 = false then (kBad, σ)
  else if fstF (dmP σ n m (ix o) a k) 101 < 101 then (nI (fstF (dmP σ n m (ix o) a k) 101), (dmZ σ n m a k (fstF (dmP σ n m (ix o) a k) 101)).1) else (kNone, (dmZ σ n m a k 100).1)
theorem dmZ_gst {σ : fM} {n m : Nat} (a k : Int32) (hg : gst σ 0 n m) : ∀ i, gst (dmZ σ n m a k i).1 1 n (dmZ σ n m a k i).2
  | 0 => gst_copy (by decide) hg
  | i + 1 => gst_run a k (dmZ_gst a k hg i)
/-- a row of branches, tried -/
def pbZ (σ : fM) (n m t : Nat) (r a : Int32) : Nat → fM × Nat
  | 0 => (copyM σ 1 0 n m, m)
  | i + 1 => (runM (pbZ σ n m t r a i).1 1 n (pbZ σ n m t r a i).2 a ((r >>> (nI (t - 1 - i) &&& 31)) &&& 1), runN (pbZ σ n m t r a i).1 1 n (pbZ σ n m t r a i).2 a ((r >>> (nI (t - 1 - i) &&& 31)) &&& 1))
theorem pbZ_gst {σ : fM} {n m t : Nat} (r a : Int32) (hg : gst σ 0 n m) : ∀ i, gst (pbZ σ n m t r a i).1 1 n (pbZ σ n m t r a i).2
  | 0 => gst_copy (by decide) hg
  | i + 1 => gst_run a _ (pbZ_gst r a hg i)


/-- a branch tried in one state changes nothing outside it -/
theorem frm2_out {s : Nat} {σ τ : fM} (h : frm2 s σ τ) {k : Nat} (hk : k < 6 + 24 * s ∨ 30 + 24 * s ≤ k) : τ.1 k = σ.1 k := by
  funext j
  exact h.2 k j (fun _ => ⟨fun i hi => by unfold iO; omega, fun l hl => by unfold iL; omega⟩)
theorem fore_out {σ : fM} {s n k : Nat} (a : Int32) (hn : n ≤ 6) (hk : k < 6 + 24 * s ∨ 30 + 24 * s ≤ k) : (fore σ s n a).1 k = σ.1 k := fore_ne a (fun i hi => by unfold iO; omega)
theorem setl_out {σ : fM} {s n m q : Nat} (k : Int32) (hc : cnt σ s n m) (hcr : crd σ s m) (hq : q < 6 + 24 * s ∨ 30 + 24 * s ≤ q) : (setlM σ s n m k).1 q = σ.1 q := by
  have e1 : q ≠ iS s := by unfold iS; omega
  unfold setlM
  split
  · rfl
  · split
    · unfold dropM
      rw [pu_ne _ e1, dropF_ne (fun l hl => by unfold iL; omega) m hc.2.2.2, pu_ne _ e1, frm2_out (setlZ_frm k hc hcr) hq, pu_ne _ e1]
    · rfl
theorem run_out {σ : fM} {s n m q : Nat} (a k : Int32) (hg : gst σ s n m) (hq : q < 6 + 24 * s ∨ 30 + 24 * s ≤ q) : (runM σ s n m a k).1 q = σ.1 q := by
  obtain ⟨hc, hr, -⟩ := hg
  have hn := hc.2.2.1
  have hm := hc.2.2.2
  unfold runM
  rw [learn_ne (fun i hi => by unfold iT; omega) (by unfold iS; omega), setF_ne (fun i hi => by unfold iO; omega), setl_out k (fore_cnt a hc) (fore_crd a hn hm hr) hq, fore_out a hn hq]
theorem dmZ_out {σ : fM} {n m q : Nat} (a k : Int32) (hg : gst σ 0 n m) (hq : q < 30 ∨ 54 ≤ q) : ∀ i, (dmZ σ n m a k i).1.1 q = σ.1 q
  | 0 => copyM_ne hg.1.2.2.1 hg.1.2.2.2 (by omega)
  | i + 1 => by
    show (runM _ 1 n _ a k).1 q = _
    rw [run_out a k (dmZ_gst a k hg i) (by omega), dmZ_out a k hg hq i]
theorem pbZ_out {σ : fM} {n m t q : Nat} (r a : Int32) (hg : gst σ 0 n m) (hq : q < 30 ∨ 54 ≤ q) : ∀ i, (pbZ σ n m t r a i).1.1 q = σ.1 q
  | 0 => copyM_ne hg.1.2.2.1 hg.1.2.2.2 (by omega)
  | i + 1 => by
    show (runM _ 1 n _ a _).1 q = _
    rw [run_out a _ (pbZ_gst r a hg i) (by omega), pbZ_out r a hg hq i]
theorem gst_out {σ τ : fM} {n m : Nat} (hg : gst σ 0 n m) (h : ∀ q, q < 30 → τ.1 q = σ.1 q) : gst τ 0 n m := by
  obtain ⟨⟨hn, hm, hn6, hm8⟩, hr, hd⟩ := hg
  refine ⟨⟨by rw [h _ (by decide)]; exact hn, by rw [h _ (by decide)]; exact hm, hn6, hm8⟩, fun l hl => ?_, fun i hi => ?_⟩
  · rw [h _ (by unfold iL; omega)]; exact hr l hl
  · rw [h _ (by unfold iO; omega)]; exact hd i hi

set_option maxRecDepth 100000 in
set_option maxHeartbeats 4000000 in
theorem ct_X5_counter {l : Launch} {X : fX} {σ : fM} {n m : Nat} (hg : gst σ 0 n m) {o i : Int32} : Ct l X yX5_counter cX5_counter 4 (some .int) 2 [ra X 0, .int o, .int i] σ (some (.int (cCounter σ o i).1)) (cCounter σ o i).2 := by
  refine Ct.of RX5 rfl (by decide) (Nat.le_of_ble_eq_true rfl) ?_
  intro x hL h hr
  refine g_sub [(0, ra X 0), (1, .int o), (2, .int i)] ⟨rfl, rfl, rfl, trivial⟩ ?_
  obtain ⟨hc, hcr, hgd⟩ := id hg
  obtain ⟨hn, hm, hn6, hm8⟩ := id hc
  refine g_aload_n h dX5_counter_0 rfl ?_
  refine g_iload_n h dX5_counter_1 rfl ?_
  refine cl5_71 h  (ct_X5_isOracle ) rfl dX5_counter_2 rfl (Nat.le_of_ble_eq_true rfl) (by decide) ?_
  refine g_ifeqB h 12 dX5_counter_5 (by decide) (fun c5 => ?_) (fun c5 => ?_)
  · refine g_ldc h (-1000001) (lw_in 220 (by decide +kernel) rfl) dX5_counter_12 ?_
    exact g_iret h hr dX5_counter_14 (by first | (simp [cCounter, kBad, kNot, kLim, kNone, ix, hij, c5]; done) | (simp [cCounter, kBad, kNot, kLim, kNone, ix, c5]; done) | (simp_all [cCounter, kBad, kNot, kLim, kNone, ix]; done)) (by first | (simp [cCounter, kBad, kNot, kLim, kNone, ix, hij, c5]; done) | (simp [cCounter, kBad, kNot, kLim, kNone, ix, c5]; done) | (simp_all [cCounter, kBad, kNot, kLim, kNone, ix]; done))
  · obtain ⟨j, hj, rfl⟩ := wi_or (by omega) hn c5
    have hij : (nI j).toNatClampNeg = j := nI_clamp (by omega)
    refine g_iload_n h dX5_counter_8 rfl ?_
    refine g_ifge h 15 dX5_counter_9 (by decide) (fun c9 => ?_) (fun c9 => ?_)
    · refine g_aload_n h dX5_counter_15 rfl ?_
      refine gf5_10 h  dX5_counter_16 ?_
      refine gf5_61 h (by omega) dX5_counter_19 ?_
      refine g_iload_n h dX5_counter_22 rfl ?_
      refine g_aaldO h (by omega) rfl (by omega) dX5_counter_23 ?_
      refine g_astore_n h dX5_counter_24 (by rw [hL]; decide) ?_
      refine g_iload_n h dX5_counter_25 rfl ?_
      refine g_aload_n h dX5_counter_26 rfl ?_
      refine cl5_139 h (by omega) (by omega) (ct_X1_tableSize (by omega) (by omega)) rfl dX5_counter_27 rfl (Nat.le_of_ble_eq_true rfl) (by decide) ?_
      refine g_icge h 42 dX5_counter_30 (by decide) (fun c30 => ?_) (fun c30 => ?_)
      · refine g_ldc h (-1000004) (lw_in 422 (by decide +kernel) rfl) dX5_counter_42 ?_
        exact g_iret h hr dX5_counter_44 (by first | (simp [cCounter, kBad, kNot, kLim, kNone, ix, hij, c5, c9, c30]; done) | (simp [cCounter, kBad, kNot, kLim, kNone, ix, c5, c9, c30]; done) | (simp_all [cCounter, kBad, kNot, kLim, kNone, ix]; done)) (by first | (simp [cCounter, kBad, kNot, kLim, kNone, ix, hij, c5, c9, c30]; done) | (simp [cCounter, kBad, kNot, kLim, kNone, ix, c5, c9, c30]; done) | (simp_all [cCounter, kBad, kNot, kLim, kNone, ix]; done))
      · refine g_aload_n h dX5_counter_33 rfl ?_
        refine gf5_143 h (by omega) (by omega) dX5_counter_34 ?_
        refine g_iload_n h dX5_counter_37 rfl ?_
        refine g_ialdT h (by omega) (by omega) (oSize_le (hgd j (by omega)) c9 c30) dX5_counter_38 ?_
        refine g_goto h 44 dX5_counter_39 (by decide) ?_
        exact g_iret h hr dX5_counter_44 (by first | (simp [cCounter, kBad, kNot, kLim, kNone, ix, hij, c5, c9, c30]; done) | (simp [cCounter, kBad, kNot, kLim, kNone, ix, c5, c9, c30]; done) | (simp_all [cCounter, kBad, kNot, kLim, kNone, ix]; done)) (by first | (simp [cCounter, kBad, kNot, kLim, kNone, ix, hij, c5, c9, c30]; done) | (simp [cCounter, kBad, kNot, kLim, kNone, ix, c5, c9, c30]; done) | (simp_all [cCounter, kBad, kNot, kLim, kNone, ix]; done))
    · refine g_ldc h (-1000001) (lw_in 220 (by decide +kernel) rfl) dX5_counter_12 ?_
      exact g_iret h hr dX5_counter_14 (by first | (simp [cCounter, kBad, kNot, kLim, kNone, ix, hij, c5, c9]; done) | (simp [cCounter, kBad, kNot, kLim, kNone, ix, c5, c9]; done) | (simp_all [cCounter, kBad, kNot, kLim, kNone, ix]; done)) (by first | (simp [cCounter, kBad, kNot, kLim, kNone, ix, hij, c5, c9]; done) | (simp [cCounter, kBad, kNot, kLim, kNone, ix, c5, c9]; done) | (simp_all [cCounter, kBad, kNot, kLim, kNone, ix]; done))
set_option maxRecDepth 100000 in
set_option maxHeartbeats 4000000 in
theorem ct_X5_oracleOf {l : Launch} {X : fX} {σ : fM} {n m : Nat} (hg : gst σ 0 n m) {o w : Int32} : Ct l X yX5_oracleOf cX5_oracleOf 4 (some .int) 2 [ra X 0, .int o, .int w] σ (some (.int (cOracleOf σ n m o w).1)) (cOracleOf σ n m o w).2 := by
  refine Ct.of RX5 rfl (by decide) (Nat.le_of_ble_eq_true rfl) ?_
  intro x hL h hr
  refine g_sub [(0, ra X 0), (1, .int o), (2, .int w)] ⟨rfl, rfl, rfl, trivial⟩ ?_
  obtain ⟨hc, hcr, hgd⟩ := id hg
  obtain ⟨hn, hm, hn6, hm8⟩ := id hc
  refine g_aload_n h dX5_oracleOf_0 rfl ?_
  refine g_iload_n h dX5_oracleOf_1 rfl ?_
  refine cl5_71 h  (ct_X5_isOracle ) rfl dX5_oracleOf_2 rfl (Nat.le_of_ble_eq_true rfl) (by decide) ?_
  refine g_ifeqB h 18 dX5_oracleOf_5 (by decide) (fun c5 => ?_) (fun c5 => ?_)
  · refine g_ldc h (-1000001) (lw_in 220 (by decide +kernel) rfl) dX5_oracleOf_18 ?_
    exact g_iret h hr dX5_oracleOf_20 (by first | (simp [cOracleOf, kBad, kNot, kLim, kNone, ix, hij, c5]; done) | (simp [cOracleOf, kBad, kNot, kLim, kNone, ix, c5]; done) | (simp_all [cOracleOf, kBad, kNot, kLim, kNone, ix]; done)) (by first | (simp [cOracleOf, kBad, kNot, kLim, kNone, ix, hij, c5]; done) | (simp [cOracleOf, kBad, kNot, kLim, kNone, ix, c5]; done) | (simp_all [cOracleOf, kBad, kNot, kLim, kNone, ix]; done))
  · obtain ⟨j, hj, rfl⟩ := wi_or (by omega) hn c5
    have hij : (nI j).toNatClampNeg = j := nI_clamp (by omega)
    refine g_iload_n h dX5_oracleOf_8 rfl ?_
    refine g_iconst (v := 0) h dX5_oracleOf_9 (by decide) ?_
    refine g_bipush (v := 10) h dX5_oracleOf_10 (by decide) ?_
    refine cl5_33 h (ct_X5_isWithin) rfl dX5_oracleOf_12 rfl (Nat.le_of_ble_eq_true rfl) (by decide) ?_
    refine g_ifneB h 21 dX5_oracleOf_15 (by decide) (fun c15 => ?_) (fun c15 => ?_)
    · obtain ⟨w, hw, rfl⟩ := wi_ix (n := 10) (by decide) (by decide) c15
      have hiw : (nI w).toNatClampNeg = w := nI_clamp (by omega)
      refine g_aload_n h dX5_oracleOf_21 rfl ?_
      refine gf5_10 h  dX5_oracleOf_22 ?_
      refine gf5_61 h (by omega) dX5_oracleOf_25 ?_
      refine g_iload_n h dX5_oracleOf_28 rfl ?_
      refine g_aaldO h (by omega) rfl (by omega) dX5_oracleOf_29 ?_
      refine g_astore_n h dX5_oracleOf_30 (by rw [hL]; decide) ?_
      refine g_iload_n h dX5_oracleOf_31 rfl ?_
      rcases (show w = 0 ∨ w = 1 ∨ w = 2 ∨ w = 3 ∨ w = 4 ∨ w = 5 ∨ w = 6 ∨ w = 7 ∨ w = 8 ∨ w = 9 ∨ w = 10 by omega) with rfl | rfl | rfl | rfl | rfl | rfl | rfl | rfl | rfl | rfl | rfl
      · refine g_tsIn h 88 dX5_oracleOf_32 (by decide) (by decide) (by rfl) (by decide) ?_
        refine g_aload_n h dX5_oracleOf_88 rfl ?_
        refine gf5_114 h (by omega) (by omega) dX5_oracleOf_89 ?_
        exact g_iret h hr dX5_oracleOf_92 (by simp [cOracleOf, kBad, kNot, kLim, kNone, ix, hij, hiw, c5, c15]) (by simp [cOracleOf, kBad, kNot, kLim, kNone, ix, hij, hiw, c5, c15])
      · refine g_tsIn h 93 dX5_oracleOf_32 (by decide) (by decide) (by rfl) (by decide) ?_
        refine g_aload_n h dX5_oracleOf_93 rfl ?_
        refine gf5_117 h (by omega) (by omega) dX5_oracleOf_94 ?_
        exact g_iret h hr dX5_oracleOf_97 (by simp [cOracleOf, kBad, kNot, kLim, kNone, ix, hij, hiw, c5, c15]) (by simp [cOracleOf, kBad, kNot, kLim, kNone, ix, hij, hiw, c5, c15])
      · refine g_tsIn h 98 dX5_oracleOf_32 (by decide) (by decide) (by rfl) (by decide) ?_
        refine g_aload_n h dX5_oracleOf_98 rfl ?_
        refine gf5_96 h (by omega) (by omega) dX5_oracleOf_99 ?_
        exact g_iret h hr dX5_oracleOf_102 (by simp [cOracleOf, kBad, kNot, kLim, kNone, ix, hij, hiw, c5, c15]) (by simp [cOracleOf, kBad, kNot, kLim, kNone, ix, hij, hiw, c5, c15])
      · refine g_tsIn h 103 dX5_oracleOf_32 (by decide) (by decide) (by rfl) (by decide) ?_
        refine g_aload_n h dX5_oracleOf_103 rfl ?_
        refine cl5_75 h (by omega) (by omega) (ct_X1_hasSeat (by omega) (by omega)) rfl dX5_oracleOf_104 rfl (Nat.le_of_ble_eq_true rfl) (by decide) ?_
        refine g_ifeqB h 117 dX5_oracleOf_107 (by decide) (fun c107 => ?_) (fun c107 => ?_)
        · refine g_ldc h (-1000004) (lw_in 422 (by decide +kernel) rfl) dX5_oracleOf_117 ?_
          exact g_iret h hr dX5_oracleOf_119 (by simp [cOracleOf, kBad, kNot, kLim, kNone, ix, hij, hiw, c5, c15, c107]) (by simp [cOracleOf, kBad, kNot, kLim, kNone, ix, hij, hiw, c5, c15, c107])
        · refine g_aload_n h dX5_oracleOf_110 rfl ?_
          refine gf5_87 h (by omega) (by omega) dX5_oracleOf_111 ?_
          refine g_goto h 119 dX5_oracleOf_114 (by decide) ?_
          exact g_iret h hr dX5_oracleOf_119 (by simp [cOracleOf, kBad, kNot, kLim, kNone, ix, hij, hiw, c5, c15, c107]) (by simp [cOracleOf, kBad, kNot, kLim, kNone, ix, hij, hiw, c5, c15, c107])
      · refine g_tsIn h 120 dX5_oracleOf_32 (by decide) (by decide) (by rfl) (by decide) ?_
        refine g_aload_n h dX5_oracleOf_120 rfl ?_
        refine cl5_75 h (by omega) (by omega) (ct_X1_hasSeat (by omega) (by omega)) rfl dX5_oracleOf_121 rfl (Nat.le_of_ble_eq_true rfl) (by decide) ?_
        refine g_ifeqB h 134 dX5_oracleOf_124 (by decide) (fun c124 => ?_) (fun c124 => ?_)
        · refine g_ldc h (-1000004) (lw_in 422 (by decide +kernel) rfl) dX5_oracleOf_134 ?_
          exact g_iret h hr dX5_oracleOf_136 (by simp [cOracleOf, kBad, kNot, kLim, kNone, ix, hij, hiw, c5, c15, c124]) (by simp [cOracleOf, kBad, kNot, kLim, kNone, ix, hij, hiw, c5, c15, c124])
        · refine g_aload_n h dX5_oracleOf_127 rfl ?_
          refine gf5_90 h (by omega) (by omega) dX5_oracleOf_128 ?_
          refine g_goto h 136 dX5_oracleOf_131 (by decide) ?_
          exact g_iret h hr dX5_oracleOf_136 (by simp [cOracleOf, kBad, kNot, kLim, kNone, ix, hij, hiw, c5, c15, c124]) (by simp [cOracleOf, kBad, kNot, kLim, kNone, ix, hij, hiw, c5, c15, c124])
      · refine g_tsIn h 137 dX5_oracleOf_32 (by decide) (by decide) (by rfl) (by decide) ?_
        refine g_aload_n h dX5_oracleOf_137 rfl ?_
        refine gf5_121 h (by omega) (by omega) dX5_oracleOf_138 ?_
        exact g_iret h hr dX5_oracleOf_141 (by simp [cOracleOf, kBad, kNot, kLim, kNone, ix, hij, hiw, c5, c15]) (by simp [cOracleOf, kBad, kNot, kLim, kNone, ix, hij, hiw, c5, c15])
      · refine g_tsIn h 142 dX5_oracleOf_32 (by decide) (by decide) (by rfl) (by decide) ?_
        refine g_aload_n h dX5_oracleOf_142 rfl ?_
        refine gf5_124 h (by omega) (by omega) dX5_oracleOf_143 ?_
        exact g_iret h hr dX5_oracleOf_146 (by simp [cOracleOf, kBad, kNot, kLim, kNone, ix, hij, hiw, c5, c15]) (by simp [cOracleOf, kBad, kNot, kLim, kNone, ix, hij, hiw, c5, c15])
      · refine g_tsIn h 147 dX5_oracleOf_32 (by decide) (by decide) (by rfl) (by decide) ?_
        refine g_aload_n h dX5_oracleOf_147 rfl ?_
        refine gf5_127 h (by omega) (by omega) dX5_oracleOf_148 ?_
        exact g_iret h hr dX5_oracleOf_151 (by simp [cOracleOf, kBad, kNot, kLim, kNone, ix, hij, hiw, c5, c15]) (by simp [cOracleOf, kBad, kNot, kLim, kNone, ix, hij, hiw, c5, c15])
      · refine g_tsIn h 152 dX5_oracleOf_32 (by decide) (by decide) (by rfl) (by decide) ?_
        refine g_aload_n h dX5_oracleOf_152 rfl ?_
        refine gf5_130 h (by omega) (by omega) dX5_oracleOf_153 ?_
        exact g_iret h hr dX5_oracleOf_156 (by simp [cOracleOf, kBad, kNot, kLim, kNone, ix, hij, hiw, c5, c15]) (by simp [cOracleOf, kBad, kNot, kLim, kNone, ix, hij, hiw, c5, c15])
      · refine g_tsIn h 157 dX5_oracleOf_32 (by decide) (by decide) (by rfl) (by decide) ?_
        refine g_aload_n h dX5_oracleOf_157 rfl ?_
        refine gf5_10 h  dX5_oracleOf_158 ?_
        refine g_iload_n h dX5_oracleOf_161 rfl ?_
        refine cl5_133 h (by omega) (ct_X3_debtsOf (by decide) hc) rfl dX5_oracleOf_162 rfl (Nat.le_of_ble_eq_true rfl) (by decide) ?_
        exact g_iret h hr dX5_oracleOf_165 (by simp [cOracleOf, kBad, kNot, kLim, kNone, ix, hij, hiw, c5, c15]) (by simp [cOracleOf, kBad, kNot, kLim, kNone, ix, hij, hiw, c5, c15])
      · refine g_tsOut h 166 dX5_oracleOf_32 (Or.inr (by decide)) (by decide) ?_
        refine g_aload_n h dX5_oracleOf_166 rfl ?_
        refine gf5_10 h  dX5_oracleOf_167 ?_
        refine g_iload_n h dX5_oracleOf_170 rfl ?_
        refine cl5_136 h (by omega) (ct_X3_claimsOf (by decide) hc) rfl dX5_oracleOf_171 rfl (Nat.le_of_ble_eq_true rfl) (by decide) ?_
        exact g_iret h hr dX5_oracleOf_174 (by simp [cOracleOf, kBad, kNot, kLim, kNone, ix, hij, hiw, c5, c15]) (by simp [cOracleOf, kBad, kNot, kLim, kNone, ix, hij, hiw, c5, c15])
    · refine g_ldc h (-1000001) (lw_in 220 (by decide +kernel) rfl) dX5_oracleOf_18 ?_
      exact g_iret h hr dX5_oracleOf_20 (by first | (simp [cOracleOf, kBad, kNot, kLim, kNone, ix, hij, c5, c15]; done) | (simp [cOracleOf, kBad, kNot, kLim, kNone, ix, c5, c15]; done) | (simp_all [cOracleOf, kBad, kNot, kLim, kNone, ix]; done)) (by first | (simp [cOracleOf, kBad, kNot, kLim, kNone, ix, hij, c5, c15]; done) | (simp [cOracleOf, kBad, kNot, kLim, kNone, ix, c5, c15]; done) | (simp_all [cOracleOf, kBad, kNot, kLim, kNone, ix]; done))
set_option maxRecDepth 100000 in
set_option maxHeartbeats 4000000 in
theorem ct_X5_loanOf {l : Launch} {X : fX} {σ : fM} {n m : Nat} (hg : gst σ 0 n m) {i w : Int32} : Ct l X yX5_loanOf cX5_loanOf 4 (some .int) 1 [ra X 0, .int i, .int w] σ (some (.int (cLoanOf σ i w).1)) (cLoanOf σ i w).2 := by
  refine Ct.of RX5 rfl (by decide) (Nat.le_of_ble_eq_true rfl) ?_
  intro x hL h hr
  refine g_sub [(0, ra X 0), (1, .int i), (2, .int w)] ⟨rfl, rfl, rfl, trivial⟩ ?_
  obtain ⟨hc, hcr, hgd⟩ := id hg
  obtain ⟨hn, hm, hn6, hm8⟩ := id hc
  refine g_iload_n h dX5_loanOf_0 rfl ?_
  refine g_iconst (v := 0) h dX5_loanOf_1 (by decide) ?_
  refine g_aload_n h dX5_loanOf_2 rfl ?_
  refine gf5_10 h  dX5_loanOf_3 ?_
  refine gf5_100 h (by omega) dX5_loanOf_6 ?_
  refine g_iconst (v := 1) h dX5_loanOf_9 (by decide) ?_
  refine g_isub h dX5_loanOf_10 ?_
  refine cl5_33 h (ct_X5_isWithin) rfl dX5_loanOf_11 rfl (Nat.le_of_ble_eq_true rfl) (by decide) ?_
  refine g_ifeqB h 26 dX5_loanOf_14 (by decide) (fun c14 => ?_) (fun c14 => ?_)
  · refine g_ldc h (-1000001) (lw_in 220 (by decide +kernel) rfl) dX5_loanOf_26 ?_
    exact g_iret h hr dX5_loanOf_28 (by first | (simp [cLoanOf, kBad, kNot, kLim, kNone, ix, hij, c14]; done) | (simp [cLoanOf, kBad, kNot, kLim, kNone, ix, c14]; done) | (simp_all [cLoanOf, kBad, kNot, kLim, kNone, ix]; done)) (by first | (simp [cLoanOf, kBad, kNot, kLim, kNone, ix, hij, c14]; done) | (simp [cLoanOf, kBad, kNot, kLim, kNone, ix, c14]; done) | (simp_all [cLoanOf, kBad, kNot, kLim, kNone, ix]; done))
  · obtain ⟨j, hj, rfl⟩ := wi_or (by omega) hm c14
    have hij : (nI j).toNatClampNeg = j := nI_clamp (by omega)
    refine g_iload_n h dX5_loanOf_17 rfl ?_
    refine g_iconst (v := 0) h dX5_loanOf_18 (by decide) ?_
    refine g_iconst (v := 2) h dX5_loanOf_19 (by decide) ?_
    refine cl5_33 h (ct_X5_isWithin) rfl dX5_loanOf_20 rfl (Nat.le_of_ble_eq_true rfl) (by decide) ?_
    refine g_ifneB h 29 dX5_loanOf_23 (by decide) (fun c23 => ?_) (fun c23 => ?_)
    · obtain ⟨w, hw, rfl⟩ := wi_ix (n := 2) (by decide) (by decide) c23
      have hiw : (nI w).toNatClampNeg = w := nI_clamp (by omega)
      refine g_aload_n h dX5_loanOf_29 rfl ?_
      refine gf5_10 h  dX5_loanOf_30 ?_
      refine gf5_146 h (by omega) dX5_loanOf_33 ?_
      refine g_iload_n h dX5_loanOf_36 rfl ?_
      refine g_aaldL h (by omega) rfl (by omega) dX5_loanOf_37 ?_
      refine g_astore_n h dX5_loanOf_38 (by rw [hL]; decide) ?_
      refine g_iload_n h dX5_loanOf_39 rfl ?_
      rcases (show w = 0 ∨ w = 1 ∨ w = 2 by omega) with rfl | rfl | rfl
      · refine g_lsw h 68 dX5_loanOf_40 (by decide) (off := 28) (by decide) (by decide) ?_
        refine g_aload_n h dX5_loanOf_68 rfl ?_
        refine gf5_150 h (by omega) (by omega) dX5_loanOf_69 ?_
        exact g_iret h hr dX5_loanOf_72 (by simp [cLoanOf, ix, hij, hiw, c14, c23]) (by simp [cLoanOf, ix, hij, hiw, c14, c23])
      · refine g_lsw h 73 dX5_loanOf_40 (by decide) (off := 33) (by decide) (by decide) ?_
        refine g_aload_n h dX5_loanOf_73 rfl ?_
        refine gf5_155 h (by omega) (by omega) dX5_loanOf_74 ?_
        exact g_iret h hr dX5_loanOf_77 (by simp [cLoanOf, ix, hij, hiw, c14, c23]) (by simp [cLoanOf, ix, hij, hiw, c14, c23])
      · refine g_lsw h 78 dX5_loanOf_40 (by decide) (off := 38) (by decide) (by decide) ?_
        refine g_aload_n h dX5_loanOf_78 rfl ?_
        refine gf5_158 h (by omega) (by omega) dX5_loanOf_79 ?_
        exact g_iret h hr dX5_loanOf_82 (by simp [cLoanOf, ix, hij, hiw, c14, c23]) (by simp [cLoanOf, ix, hij, hiw, c14, c23])
    · refine g_ldc h (-1000001) (lw_in 220 (by decide +kernel) rfl) dX5_loanOf_26 ?_
      exact g_iret h hr dX5_loanOf_28 (by first | (simp [cLoanOf, kBad, kNot, kLim, kNone, ix, hij, c14, c23]; done) | (simp [cLoanOf, kBad, kNot, kLim, kNone, ix, c14, c23]; done) | (simp_all [cLoanOf, kBad, kNot, kLim, kNone, ix]; done)) (by first | (simp [cLoanOf, kBad, kNot, kLim, kNone, ix, hij, c14, c23]; done) | (simp [cLoanOf, kBad, kNot, kLim, kNone, ix, c14, c23]; done) | (simp_all [cLoanOf, kBad, kNot, kLim, kNone, ix]; done))
set_option maxRecDepth 100000 in
set_option maxHeartbeats 4000000 in
theorem ct_X5_rich {l : Launch} {X : fX} {σ : fM} {n m : Nat} (hg : gst σ 0 n m) {p : Int32} : Ct l X yX5_rich cX5_rich 3 (some .int) 2 [ra X 0, .int p] σ (some (.int (cRich σ n p).1)) (cRich σ n p).2 := by
  refine Ct.of RX5 rfl (by decide) (Nat.le_of_ble_eq_true rfl) ?_
  intro x hL h hr
  refine g_sub [(0, ra X 0), (1, .int p)] ⟨rfl, rfl, trivial⟩ ?_
  obtain ⟨hc, hcr, hgd⟩ := id hg
  obtain ⟨hn, hm, hn6, hm8⟩ := id hc
  refine g_iload_n h dX5_rich_0 rfl ?_
  refine g_ifge h 7 dX5_rich_1 (by decide) (fun c1 => ?_) (fun c1 => ?_)
  · have LOOP : ∀ (q i : Nat), i + q = n → fstF (fun j => decide (rcF σ n j = p)) i = i → G x X σ [(0, ra X 0), (1, .int p), (2, .int (nI i))] [] 9 := by
      intro q
      induction q with
      | zero =>
        intro i hi hfi
        have hie : i = n := by omega
        rw [hie] at hfi ⊢
        refine g_iload_n h dX5_rich_9 rfl ?_
        refine g_aload_n h dX5_rich_10 rfl ?_
        refine gf5_10 h  dX5_rich_11 ?_
        refine gf5_56 h (by omega) dX5_rich_14 ?_
        refine g_icge h 40 dX5_rich_17 (by decide) (fun c17 => ?_) (fun c17 => absurd (by rw [hn]; exact Int32.le_refl _) c17)
        refine g_ldc h (-1000004) (lw_in 422 (by decide +kernel) rfl) dX5_rich_40 ?_
        exact g_iret h hr dX5_rich_42 (by simp [cRich, c1, hfi, kNone]) (by simp [cRich, c1, hfi, kNone])
      | succ q ih =>
        intro i hi hfi
        have hlt : i < n := by omega
        refine g_iload_n h dX5_rich_9 rfl ?_
        refine g_aload_n h dX5_rich_10 rfl ?_
        refine gf5_10 h  dX5_rich_11 ?_
        refine gf5_56 h (by omega) dX5_rich_14 ?_
        refine g_icge h 40 dX5_rich_17 (by decide) (fun c17 => absurd c17 (by rw [hn]; exact nI_ge hlt (by omega))) (fun c17 => ?_)
        refine g_aload_n h dX5_rich_20 rfl ?_
        refine gf5_10 h  dX5_rich_21 ?_
        refine g_iload_n h dX5_rich_24 rfl ?_
        refine cl5_176 h (by omega) (ct_X3_richerThan (by decide) hc hlt) rfl dX5_rich_25 rfl (Nat.le_of_ble_eq_true rfl) (by decide) ?_
        refine g_iload_n h dX5_rich_28 rfl ?_
        refine g_icne h 34 dX5_rich_29 (by decide) (fun c29 => ?_) (fun c29 => ?_)
        · refine g_iincN h dX5_rich_34 rfl (by rw [hL]; decide) ?_
          refine g_goto h 9 dX5_rich_37 (by decide) ?_
          refine g_sub [(0, ra X 0), (1, .int p), (2, .int (nI (i + 1)))] ⟨rfl, rfl, rfl, trivial⟩ ?_
          exact ih (i + 1) (by omega) (fstF_no hfi (by simp only [decide_eq_true_eq]; exact c29))
        · refine g_iload_n h dX5_rich_32 rfl ?_
          exact g_iret h hr dX5_rich_33 (by have e := fstF_at (p := (fun j => decide (rcF σ n j = p))) hfi (by simp only [decide_eq_true_eq]; exact c29) hlt; simp [cRich, c1, e, hlt]) (by have e := fstF_at (p := (fun j => decide (rcF σ n j = p))) hfi (by simp only [decide_eq_true_eq]; exact c29) hlt; simp [cRich, c1, e, hlt])
    refine g_iconst (v := 0) h dX5_rich_7 (by decide) ?_
    refine g_istore_n h dX5_rich_8 (by rw [hL]; decide) ?_
    refine g_sub [(0, ra X 0), (1, .int p), (2, .int (nI 0))] ⟨rfl, rfl, lk_0, trivial⟩ ?_
    exact LOOP n 0 (by omega) rfl
  · refine g_ldc h (-1000001) (lw_in 220 (by decide +kernel) rfl) dX5_rich_4 ?_
    exact g_iret h hr dX5_rich_6 (by first | (simp [cRich, kBad, kNot, kLim, kNone, ix, hij, c1]; done) | (simp [cRich, kBad, kNot, kLim, kNone, ix, c1]; done) | (simp_all [cRich, kBad, kNot, kLim, kNone, ix]; done)) (by first | (simp [cRich, kBad, kNot, kLim, kNone, ix, hij, c1]; done) | (simp [cRich, kBad, kNot, kLim, kNone, ix, c1]; done) | (simp_all [cRich, kBad, kNot, kLim, kNone, ix]; done))
set_option maxRecDepth 100000 in
set_option maxHeartbeats 4000000 in
theorem ct_X5_says {l : Launch} {X : fX} {σ : fM} {n m : Nat} (hg : gst σ 0 n m) {o a : Int32} : Ct l X yX5_says cX5_says 3 (some .int) 4 [ra X 0, .int o, .int a] σ (some (.int (cSays σ n o a).1)) (cSays σ n o a).2 := by
  refine Ct.of RX5 rfl (by decide) (Nat.le_of_ble_eq_true rfl) ?_
  intro x hL h hr
  refine g_sub [(0, ra X 0), (1, .int o), (2, .int a)] ⟨rfl, rfl, rfl, trivial⟩ ?_
  obtain ⟨hc, hcr, hgd⟩ := id hg
  obtain ⟨hn, hm, hn6, hm8⟩ := id hc
  refine g_aload_n h dX5_says_0 rfl ?_
  refine g_iload_n h dX5_says_1 rfl ?_
  refine cl5_71 h  (ct_X5_isOracle ) rfl dX5_says_2 rfl (Nat.le_of_ble_eq_true rfl) (by decide) ?_
  refine g_ifeqB h 15 dX5_says_5 (by decide) (fun c5 => ?_) (fun c5 => ?_)
  · refine g_ldc h (-1000001) (lw_in 220 (by decide +kernel) rfl) dX5_says_15 ?_
    exact g_iret h hr dX5_says_17 (by first | (simp [cSays, kBad, kNot, kLim, kNone, ix, hij, c5]; done) | (simp [cSays, kBad, kNot, kLim, kNone, ix, c5]; done) | (simp_all [cSays, kBad, kNot, kLim, kNone, ix]; done)) (by first | (simp [cSays, kBad, kNot, kLim, kNone, ix, hij, c5]; done) | (simp [cSays, kBad, kNot, kLim, kNone, ix, c5]; done) | (simp_all [cSays, kBad, kNot, kLim, kNone, ix]; done))
  · obtain ⟨j, hj, rfl⟩ := wi_or (by omega) hn c5
    have hij : (nI j).toNatClampNeg = j := nI_clamp (by omega)
    refine g_iload_n h dX5_says_8 rfl ?_
    refine cl5_107 h (ct_X5_isAddress) rfl dX5_says_9 rfl (Nat.le_of_ble_eq_true rfl) (by decide) ?_
    refine g_ifneB h 18 dX5_says_12 (by decide) (fun c12 => ?_) (fun c12 => ?_)
    · refine g_aload_n h dX5_says_18 rfl ?_
      refine gf5_10 h  dX5_says_19 ?_
      refine g_iload_n h dX5_says_22 rfl ?_
      refine cl5_179 h (by omega) (ct_X3_foretell (by decide) hc hgd) rfl dX5_says_23 rfl (Nat.le_of_ble_eq_true rfl) (by decide) ?_
      refine g_aload_n h dX5_says_26 rfl ?_
      refine gf5_10 h  dX5_says_27 ?_
      refine gf5_61 h (by omega) dX5_says_30 ?_
      refine g_iload_n h dX5_says_33 rfl ?_
      refine g_aaldO h (by omega) rfl (by omega) dX5_says_34 ?_
      refine gf5_183 h (by omega) (by omega) dX5_says_35 ?_
      exact g_iret h hr dX5_says_38 (by first | (simp [cSays, kBad, kNot, kLim, kNone, ix, hij, c5, c12]; done) | (simp [cSays, kBad, kNot, kLim, kNone, ix, c5, c12]; done) | (simp_all [cSays, kBad, kNot, kLim, kNone, ix]; done)) (by first | (simp [cSays, kBad, kNot, kLim, kNone, ix, hij, c5, c12]; done) | (simp [cSays, kBad, kNot, kLim, kNone, ix, c5, c12]; done) | (simp_all [cSays, kBad, kNot, kLim, kNone, ix]; done))
    · refine g_ldc h (-1000001) (lw_in 220 (by decide +kernel) rfl) dX5_says_15 ?_
      exact g_iret h hr dX5_says_17 (by first | (simp [cSays, kBad, kNot, kLim, kNone, ix, hij, c5, c12]; done) | (simp [cSays, kBad, kNot, kLim, kNone, ix, c5, c12]; done) | (simp_all [cSays, kBad, kNot, kLim, kNone, ix]; done)) (by first | (simp [cSays, kBad, kNot, kLim, kNone, ix, hij, c5, c12]; done) | (simp [cSays, kBad, kNot, kLim, kNone, ix, c5, c12]; done) | (simp_all [cSays, kBad, kNot, kLim, kNone, ix]; done))
set_option maxRecDepth 100000 in
set_option maxHeartbeats 4000000 in
theorem ct_X5_stake {l : Launch} {X : fX} {σ : fM} {n m : Nat} (hg : gst σ 0 n m) {o a : Int32} : Ct l X yX5_stake cX5_stake 3 (some .int) 4 [ra X 0, .int o, .int a] σ (some (.int (cStake σ n o a).1)) (cStake σ n o a).2 := by
  refine Ct.of RX5 rfl (by decide) (Nat.le_of_ble_eq_true rfl) ?_
  intro x hL h hr
  refine g_sub [(0, ra X 0), (1, .int o), (2, .int a)] ⟨rfl, rfl, rfl, trivial⟩ ?_
  obtain ⟨hc, hcr, hgd⟩ := id hg
  obtain ⟨hn, hm, hn6, hm8⟩ := id hc
  refine g_aload_n h dX5_stake_0 rfl ?_
  refine g_iload_n h dX5_stake_1 rfl ?_
  refine cl5_71 h  (ct_X5_isOracle ) rfl dX5_stake_2 rfl (Nat.le_of_ble_eq_true rfl) (by decide) ?_
  refine g_ifeqB h 15 dX5_stake_5 (by decide) (fun c5 => ?_) (fun c5 => ?_)
  · refine g_ldc h (-1000001) (lw_in 220 (by decide +kernel) rfl) dX5_stake_15 ?_
    exact g_iret h hr dX5_stake_17 (by first | (simp [cStake, kBad, kNot, kLim, kNone, ix, hij, c5]; done) | (simp [cStake, kBad, kNot, kLim, kNone, ix, c5]; done) | (simp_all [cStake, kBad, kNot, kLim, kNone, ix]; done)) (by first | (simp [cStake, kBad, kNot, kLim, kNone, ix, hij, c5]; done) | (simp [cStake, kBad, kNot, kLim, kNone, ix, c5]; done) | (simp_all [cStake, kBad, kNot, kLim, kNone, ix]; done))
  · obtain ⟨j, hj, rfl⟩ := wi_or (by omega) hn c5
    have hij : (nI j).toNatClampNeg = j := nI_clamp (by omega)
    refine g_iload_n h dX5_stake_8 rfl ?_
    refine cl5_107 h (ct_X5_isAddress) rfl dX5_stake_9 rfl (Nat.le_of_ble_eq_true rfl) (by decide) ?_
    refine g_ifneB h 18 dX5_stake_12 (by decide) (fun c12 => ?_) (fun c12 => ?_)
    · refine g_aload_n h dX5_stake_18 rfl ?_
      refine gf5_10 h  dX5_stake_19 ?_
      refine g_iload_n h dX5_stake_22 rfl ?_
      refine cl5_179 h (by omega) (ct_X3_foretell (by decide) hc hgd) rfl dX5_stake_23 rfl (Nat.le_of_ble_eq_true rfl) (by decide) ?_
      refine g_aload_n h dX5_stake_26 rfl ?_
      refine gf5_10 h  dX5_stake_27 ?_
      refine gf5_61 h (by omega) dX5_stake_30 ?_
      refine g_iload_n h dX5_stake_33 rfl ?_
      refine g_aaldO h (by omega) rfl (by omega) dX5_stake_34 ?_
      refine gf5_186 h (by omega) (by omega) dX5_stake_35 ?_
      exact g_iret h hr dX5_stake_38 (by first | (simp [cStake, kBad, kNot, kLim, kNone, ix, hij, c5, c12]; done) | (simp [cStake, kBad, kNot, kLim, kNone, ix, c5, c12]; done) | (simp_all [cStake, kBad, kNot, kLim, kNone, ix]; done)) (by first | (simp [cStake, kBad, kNot, kLim, kNone, ix, hij, c5, c12]; done) | (simp [cStake, kBad, kNot, kLim, kNone, ix, c5, c12]; done) | (simp_all [cStake, kBad, kNot, kLim, kNone, ix]; done))
    · refine g_ldc h (-1000001) (lw_in 220 (by decide +kernel) rfl) dX5_stake_15 ?_
      exact g_iret h hr dX5_stake_17 (by first | (simp [cStake, kBad, kNot, kLim, kNone, ix, hij, c5, c12]; done) | (simp [cStake, kBad, kNot, kLim, kNone, ix, c5, c12]; done) | (simp_all [cStake, kBad, kNot, kLim, kNone, ix]; done)) (by first | (simp [cStake, kBad, kNot, kLim, kNone, ix, hij, c5, c12]; done) | (simp [cStake, kBad, kNot, kLim, kNone, ix, c5, c12]; done) | (simp_all [cStake, kBad, kNot, kLim, kNone, ix]; done))
set_option maxRecDepth 100000 in
set_option maxHeartbeats 4000000 in
theorem ct_X5_gain {l : Launch} {X : fX} {σ : fM} {n m : Nat} (hg : gst σ 0 n m) {o a k : Int32} : Ct l X yX5_gain cX5_gain 4 (some .int) 5 [ra X 0, .int o, .int a, .int k] σ (some (.int (cGain σ n m o a k).1)) (cGain σ n m o a k).2 := by
  refine Ct.of RX5 rfl (by decide) (Nat.le_of_ble_eq_true rfl) ?_
  intro x hL h hr
  refine g_sub [(0, ra X 0), (1, .int o), (2, .int a), (3, .int k)] ⟨rfl, rfl, rfl, rfl, trivial⟩ ?_
  obtain ⟨hc, hcr, hgd⟩ := id hg
  obtain ⟨hn, hm, hn6, hm8⟩ := id hc
  refine g_aload_n h dX5_gain_0 rfl ?_
  refine g_iload_n h dX5_gain_1 rfl ?_
  refine cl5_71 h  (ct_X5_isOracle ) rfl dX5_gain_2 rfl (Nat.le_of_ble_eq_true rfl) (by decide) ?_
  refine g_ifeqB h 24 dX5_gain_5 (by decide) (fun c5 => ?_) (fun c5 => ?_)
  · refine g_ldc h (-1000001) (lw_in 220 (by decide +kernel) rfl) dX5_gain_24 ?_
    exact g_iret h hr dX5_gain_26 (by first | (simp [cGain, kBad, kNot, kLim, kNone, ix, hij, c5]; done) | (simp [cGain, kBad, kNot, kLim, kNone, ix, c5]; done) | (simp_all [cGain, kBad, kNot, kLim, kNone, ix]; done)) (by first | (simp [cGain, kBad, kNot, kLim, kNone, ix, hij, c5]; done) | (simp [cGain, kBad, kNot, kLim, kNone, ix, c5]; done) | (simp_all [cGain, kBad, kNot, kLim, kNone, ix]; done))
  · obtain ⟨j, hj, rfl⟩ := wi_or (by omega) hn c5
    have hij : (nI j).toNatClampNeg = j := nI_clamp (by omega)
    refine g_iload_n h dX5_gain_8 rfl ?_
    refine cl5_107 h (ct_X5_isAddress) rfl dX5_gain_9 rfl (Nat.le_of_ble_eq_true rfl) (by decide) ?_
    refine g_ifeqB h 24 dX5_gain_12 (by decide) (fun c12 => ?_) (fun c12 => ?_)
    · refine g_ldc h (-1000001) (lw_in 220 (by decide +kernel) rfl) dX5_gain_24 ?_
      exact g_iret h hr dX5_gain_26 (by first | (simp [cGain, kBad, kNot, kLim, kNone, ix, hij, c5, c12]; done) | (simp [cGain, kBad, kNot, kLim, kNone, ix, c5, c12]; done) | (simp_all [cGain, kBad, kNot, kLim, kNone, ix]; done)) (by first | (simp [cGain, kBad, kNot, kLim, kNone, ix, hij, c5, c12]; done) | (simp [cGain, kBad, kNot, kLim, kNone, ix, c5, c12]; done) | (simp_all [cGain, kBad, kNot, kLim, kNone, ix]; done))
    · refine g_iload_n h dX5_gain_15 rfl ?_
      refine g_iconst (v := 0) h dX5_gain_16 (by decide) ?_
      refine g_iconst (v := 1) h dX5_gain_17 (by decide) ?_
      refine cl5_33 h (ct_X5_isWithin) rfl dX5_gain_18 rfl (Nat.le_of_ble_eq_true rfl) (by decide) ?_
      refine g_ifneB h 27 dX5_gain_21 (by decide) (fun c21 => ?_) (fun c21 => ?_)
      · have hgc := gst_copy (s := 1) (s2 := 0) (by decide) hg
        refine g_aload_n h dX5_gain_27 rfl ?_
        refine gf5_16 h  dX5_gain_28 ?_
        refine g_aload_n h dX5_gain_31 rfl ?_
        refine gf5_10 h  dX5_gain_32 ?_
        refine cl5_192 h (by omega) (ct_X3_copyFrom (by decide) (by decide) (by decide) hc) rfl dX5_gain_35 rfl (Nat.le_of_ble_eq_true rfl) (by decide) ?_
        refine g_aload_n h dX5_gain_38 rfl ?_
        refine gf5_16 h  dX5_gain_39 ?_
        refine g_iload_n h dX5_gain_42 rfl ?_
        refine g_iload_n h dX5_gain_43 rfl ?_
        refine cl5_110 h (by omega) (ct_X3_runBranch (by decide) hgc.1 hgc.2.1 hgc.2.2) rfl dX5_gain_44 rfl (Nat.le_of_ble_eq_true rfl) (by decide) ?_
        refine g_pop h dX5_gain_47 rfl ?_
        refine g_aload_n h dX5_gain_48 rfl ?_
        refine gf5_16 h  dX5_gain_49 ?_
        refine gf5_61 h (by omega) dX5_gain_52 ?_
        refine g_iload_n h dX5_gain_55 rfl ?_
        refine g_aaldO h (by omega) rfl (by omega) dX5_gain_56 ?_
        refine gf5_96 h (by omega) (by omega) dX5_gain_57 ?_
        refine g_aload_n h dX5_gain_60 rfl ?_
        refine gf5_10 h  dX5_gain_61 ?_
        refine gf5_61 h (by omega) dX5_gain_64 ?_
        refine g_iload_n h dX5_gain_67 rfl ?_
        refine g_aaldO h (by omega) rfl (by omega) dX5_gain_68 ?_
        refine gf5_96 h (by omega) (by omega) dX5_gain_69 ?_
        refine g_isub h dX5_gain_72 ?_
        exact g_iret h hr dX5_gain_73 (by first | (simp [cGain, kBad, kNot, kLim, kNone, ix, hij, c5, c12, c21]; done) | (simp [cGain, kBad, kNot, kLim, kNone, ix, c5, c12, c21]; done) | (simp_all [cGain, kBad, kNot, kLim, kNone, ix]; done)) (by first | (simp [cGain, kBad, kNot, kLim, kNone, ix, hij, c5, c12, c21]; done) | (simp [cGain, kBad, kNot, kLim, kNone, ix, c5, c12, c21]; done) | (simp_all [cGain, kBad, kNot, kLim, kNone, ix]; done))
      · refine g_ldc h (-1000001) (lw_in 220 (by decide +kernel) rfl) dX5_gain_24 ?_
        exact g_iret h hr dX5_gain_26 (by first | (simp [cGain, kBad, kNot, kLim, kNone, ix, hij, c5, c12, c21]; done) | (simp [cGain, kBad, kNot, kLim, kNone, ix, c5, c12, c21]; done) | (simp_all [cGain, kBad, kNot, kLim, kNone, ix]; done)) (by first | (simp [cGain, kBad, kNot, kLim, kNone, ix, hij, c5, c12, c21]; done) | (simp [cGain, kBad, kNot, kLim, kNone, ix, c5, c12, c21]; done) | (simp_all [cGain, kBad, kNot, kLim, kNone, ix]; done))
set_option maxRecDepth 100000 in
set_option maxHeartbeats 4000000 in
theorem ct_X5_doom {l : Launch} {X : fX} {σ : fM} {n m : Nat} (hg : gst σ 0 n m) {o a k : Int32} : Ct l X yX5_doom cX5_doom 6 (some .int) 5 [ra X 0, .int o, .int a, .int k] σ (some (.int (cDoom σ n m o a k).1)) (cDoom σ n m o a k).2 := by
  refine Ct.of RX5 rfl (by decide) (Nat.le_of_ble_eq_true rfl) ?_
  intro x hL h hr
  refine g_sub [(0, ra X 0), (1, .int o), (2, .int a), (3, .int k)] ⟨rfl, rfl, rfl, rfl, trivial⟩ ?_
  obtain ⟨hc, hcr, hgd⟩ := id hg
  obtain ⟨hn, hm, hn6, hm8⟩ := id hc
  refine g_aload_n h dX5_doom_0 rfl ?_
  refine g_iload_n h dX5_doom_1 rfl ?_
  refine cl5_71 h  (ct_X5_isOracle ) rfl dX5_doom_2 rfl (Nat.le_of_ble_eq_true rfl) (by decide) ?_
  refine g_ifeqB h 24 dX5_doom_5 (by decide) (fun c5 => ?_) (fun c5 => ?_)
  · refine g_ldc h (-1000001) (lw_in 220 (by decide +kernel) rfl) dX5_doom_24 ?_
    exact g_iret h hr dX5_doom_26 (by first | (simp [cDoom, kBad, kNot, kLim, kNone, ix, hij, c5]; done) | (simp [cDoom, kBad, kNot, kLim, kNone, ix, c5]; done) | (simp_all [cDoom, kBad, kNot, kLim, kNone, ix]; done)) (by first | (simp [cDoom, kBad, kNot, kLim, kNone, ix, hij, c5]; done) | (simp [cDoom, kBad, kNot, kLim, kNone, ix, c5]; done) | (simp_all [cDoom, kBad, kNot, kLim, kNone, ix]; done))
  · obtain ⟨j, hj, rfl⟩ := wi_or (by omega) hn c5
    have hij : (nI j).toNatClampNeg = j := nI_clamp (by omega)
    refine g_iload_n h dX5_doom_8 rfl ?_
    refine cl5_107 h (ct_X5_isAddress) rfl dX5_doom_9 rfl (Nat.le_of_ble_eq_true rfl) (by decide) ?_
    refine g_ifeqB h 24 dX5_doom_12 (by decide) (fun c12 => ?_) (fun c12 => ?_)
    · refine g_ldc h (-1000001) (lw_in 220 (by decide +kernel) rfl) dX5_doom_24 ?_
      exact g_iret h hr dX5_doom_26 (by first | (simp [cDoom, kBad, kNot, kLim, kNone, ix, hij, c5, c12]; done) | (simp [cDoom, kBad, kNot, kLim, kNone, ix, c5, c12]; done) | (simp_all [cDoom, kBad, kNot, kLim, kNone, ix]; done)) (by first | (simp [cDoom, kBad, kNot, kLim, kNone, ix, hij, c5, c12]; done) | (simp [cDoom, kBad, kNot, kLim, kNone, ix, c5, c12]; done) | (simp_all [cDoom, kBad, kNot, kLim, kNone, ix]; done))
    · refine g_iload_n h dX5_doom_15 rfl ?_
      refine g_iconst (v := 0) h dX5_doom_16 (by decide) ?_
      refine g_iconst (v := 1) h dX5_doom_17 (by decide) ?_
      refine cl5_33 h (ct_X5_isWithin) rfl dX5_doom_18 rfl (Nat.le_of_ble_eq_true rfl) (by decide) ?_
      refine g_ifneB h 27 dX5_doom_21 (by decide) (fun c21 => ?_) (fun c21 => ?_)
      · have LOOP : ∀ (q i : Nat), i + q = 100 → fstF (dmP σ n m j a k) i = i → G x X (dmZ σ n m a k i).1 [(0, ra X 0), (2, .int a), (3, .int k), (4, ra X (iO 1 j)), (5, .int (nI i))] [] 52 := by
          intro q
          induction q with
          | zero =>
            intro i hi hfi
            have hie : i = 100 := by omega
            rw [hie] at hfi ⊢
            refine g_iload h dX5_doom_52 rfl ?_
            refine g_bipush (v := 100) h dX5_doom_54 (by decide) ?_
            refine g_icge h 86 dX5_doom_56 (by decide) (fun c56 => ?_) (fun c56 => absurd (Int32.le_refl _) c56)
            refine g_aload h dX5_doom_86 rfl ?_
            refine cl5_195 h (by omega) (by omega) (ct_X1_isRuined (by omega) (by omega)) rfl dX5_doom_88 rfl (Nat.le_of_ble_eq_true rfl) (by decide) ?_
            refine g_ifeqB h 99 dX5_doom_91 (by decide) (fun c91 => ?_) (fun c91 => ?_)
            · refine g_ldc h (-1000004) (lw_in 422 (by decide +kernel) rfl) dX5_doom_99 ?_
              exact g_iret h hr dX5_doom_101 (by first | (have e := fstF_at (p := (dmP σ n m j a k)) hfi c91 (show 100 < 101 by decide); simp [cDoom, c5, c12, c21, ix, hij, e]; try decide) | (have e := fstF_no (p := (dmP σ n m j a k)) hfi (by unfold dmP; rw [c91]; decide); simp [cDoom, c5, c12, c21, ix, hij, e, kNone])) (by first | (have e := fstF_at (p := (dmP σ n m j a k)) hfi c91 (show 100 < 101 by decide); simp [cDoom, c5, c12, c21, ix, hij, e]; try decide) | (have e := fstF_no (p := (dmP σ n m j a k)) hfi (by unfold dmP; rw [c91]; decide); simp [cDoom, c5, c12, c21, ix, hij, e, kNone]))
            · refine g_bipush (v := 100) h dX5_doom_94 (by decide) ?_
              refine g_goto h 101 dX5_doom_96 (by decide) ?_
              exact g_iret h hr dX5_doom_101 (by first | (have e := fstF_at (p := (dmP σ n m j a k)) hfi c91 (show 100 < 101 by decide); simp [cDoom, c5, c12, c21, ix, hij, e]; try decide) | (have e := fstF_no (p := (dmP σ n m j a k)) hfi (by unfold dmP; rw [c91]; decide); simp [cDoom, c5, c12, c21, ix, hij, e, kNone])) (by first | (have e := fstF_at (p := (dmP σ n m j a k)) hfi c91 (show 100 < 101 by decide); simp [cDoom, c5, c12, c21, ix, hij, e]; try decide) | (have e := fstF_no (p := (dmP σ n m j a k)) hfi (by unfold dmP; rw [c91]; decide); simp [cDoom, c5, c12, c21, ix, hij, e, kNone]))
          | succ q ih =>
            intro i hi hfi
            have hlt : i < 100 := by omega
            have hgi := dmZ_gst a k hg i
            refine g_iload h dX5_doom_52 rfl ?_
            refine g_bipush (v := 100) h dX5_doom_54 (by decide) ?_
            refine g_icge h 86 dX5_doom_56 (by decide) (fun c56 => absurd c56 (nI_ge (b := 100) hlt (by decide))) (fun c56 => ?_)
            refine g_aload h dX5_doom_59 rfl ?_
            refine cl5_195 h (by omega) (by omega) (ct_X1_isRuined (by omega) (by omega)) rfl dX5_doom_61 rfl (Nat.le_of_ble_eq_true rfl) (by decide) ?_
            refine g_ifeqB h 70 dX5_doom_64 (by decide) (fun c64 => ?_) (fun c64 => ?_)
            · refine g_aload_n h dX5_doom_70 rfl ?_
              refine gf5_16 h  dX5_doom_71 ?_
              refine g_iload_n h dX5_doom_74 rfl ?_
              refine g_iload_n h dX5_doom_75 rfl ?_
              refine cl5_110 h (by omega) (ct_X3_runBranch (by decide) hgi.1 hgi.2.1 hgi.2.2) rfl dX5_doom_76 rfl (Nat.le_of_ble_eq_true rfl) (by decide) ?_
              refine g_pop h dX5_doom_79 rfl ?_
              refine g_iincN h dX5_doom_80 rfl (by rw [hL]; decide) ?_
              refine g_goto h 52 dX5_doom_83 (by decide) ?_
              refine g_mem (dmZ σ n m a k (i + 1)).1 rfl ?_
              refine g_sub [(0, ra X 0), (2, .int a), (3, .int k), (4, ra X (iO 1 j)), (5, .int (nI (i + 1)))] ⟨rfl, rfl, rfl, rfl, rfl, trivial⟩ ?_
              exact ih (i + 1) (by omega) (fstF_no hfi (by unfold dmP; rw [c64]; decide))
            · refine g_iload h dX5_doom_67 rfl ?_
              exact g_iret h hr dX5_doom_69 (by have e := fstF_at (p := (dmP σ n m j a k)) hfi c64 (show i < 101 by omega); simp [cDoom, c5, c12, c21, ix, hij, e, show i < 101 by omega]) (by have e := fstF_at (p := (dmP σ n m j a k)) hfi c64 (show i < 101 by omega); simp [cDoom, c5, c12, c21, ix, hij, e, show i < 101 by omega])
        refine g_aload_n h dX5_doom_27 rfl ?_
        refine gf5_16 h  dX5_doom_28 ?_
        refine g_aload_n h dX5_doom_31 rfl ?_
        refine gf5_10 h  dX5_doom_32 ?_
        refine cl5_192 h (by omega) (ct_X3_copyFrom (by decide) (by decide) (by decide) hc) rfl dX5_doom_35 rfl (Nat.le_of_ble_eq_true rfl) (by decide) ?_
        refine g_aload_n h dX5_doom_38 rfl ?_
        refine gf5_16 h  dX5_doom_39 ?_
        refine gf5_61 h (by omega) dX5_doom_42 ?_
        refine g_iload_n h dX5_doom_45 rfl ?_
        refine g_aaldO h (by omega) rfl (by omega) dX5_doom_46 ?_
        refine g_astore h dX5_doom_47 (by rw [hL]; decide) ?_
        refine g_iconst (v := 0) h dX5_doom_49 (by decide) ?_
        refine g_istore h dX5_doom_50 (by rw [hL]; decide) ?_
        refine g_mem (dmZ σ n m a k 0).1 rfl ?_
        refine g_sub [(0, ra X 0), (2, .int a), (3, .int k), (4, ra X (iO 1 j)), (5, .int (nI 0))] ⟨rfl, rfl, rfl, rfl, lk_0, trivial⟩ ?_
        exact LOOP 100 0 (by omega) rfl
      · refine g_ldc h (-1000001) (lw_in 220 (by decide +kernel) rfl) dX5_doom_24 ?_
        exact g_iret h hr dX5_doom_26 (by first | (simp [cDoom, kBad, kNot, kLim, kNone, ix, hij, c5, c12, c21]; done) | (simp [cDoom, kBad, kNot, kLim, kNone, ix, c5, c12, c21]; done) | (simp_all [cDoom, kBad, kNot, kLim, kNone, ix]; done)) (by first | (simp [cDoom, kBad, kNot, kLim, kNone, ix, hij, c5, c12, c21]; done) | (simp [cDoom, kBad, kNot, kLim, kNone, ix, c5, c12, c21]; done) | (simp_all [cDoom, kBad, kNot, kLim, kNone, ix]; done))