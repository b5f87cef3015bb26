/-! the model: what is asked -/
def owF (r : Nat → Int32) (p : Nat) (b : Int32) : Nat → Int32 := sumF 0 (fun l => if ml r l p = b then ml r l 2 else 0)
def mOracleOf (σ : fM) (m : Nat) (v w : Int32) : Int32 × fM := if wi v 0 (σ.1 151 7 - 1) = false then (kBad, σ) else if wi w 0 10 = false then (kBad, σ)
  else (if ix w = 9 then owF (σ.1 151) 1 v m else if ix w = 10 then owF (σ.1 151) 0 v m else if (ix w = 3 ∨ ix w = 4) ∧ oSeat (mo (σ.1 151) (ix v)) = false then kNone else mo (σ.1 151) (ix v) (ix w), σ)
def mCounter (σ : fM) (v i : Int32) : Int32 × fM := if wi v 0 (σ.1 151 7 - 1) = false then (kBad, σ) else if ¬ 0 ≤ i then (kBad, σ)
  else if oSize (mo (σ.1 151) (ix v)) ≤ i then (kNone, σ) else (mt (σ.1 151) (ix v) (ix i), σ)
def mLoanOf (σ : fM) (i w : Int32) : Int32 × fM := if wi i 0 (σ.1 151 8 - 1) = false then (kBad, σ) else if wi w 0 2 = false then (kBad, σ) else (ml (σ.1 151) (ix i) (ix w), σ)
def maF (r : Nat → Int32) (j a : Nat) : Nat → Int32 := sumF 0 (fun b => if r (9 + b) = 1 then (if nI b = nI a then 0 else if oSlot (mo r j) (nI b) (r 3) = oSlot (mo r j) (nI a) (r 3) then 1 else 0) else 0)
def mAliases (σ : fM) (v a : Int32) : Int32 × fM := if wi v 0 (σ.1 151 7 - 1) = false then (kBad, σ) else if isA a = false then (kBad, σ)
  else if oTab (mo (σ.1 151) (ix v)) = false then (kNone, σ) else (maF (σ.1 151) (ix v) (ix a) 64, σ)
def mRi (r : Nat → Int32) (n j : Nat) : Int32 := sumF 0 (fun i => if 0 < mo r i 2 - mo r j 2 ∨ (mo r i 2 - mo r j 2 = 0 ∧ nI i < nI j) then 1 else 0) n
def mrF (r : Nat → Int32) (n : Nat) (p : Int32) : Nat → Int32
  | 0 => kNone
  | i + 1 => if mRi r n i = p then nI i else mrF r n p i
def mRich (σ : fM) (n : Nat) (p : Int32) : Int32 × fM := if ¬ 0 ≤ p then (kBad, σ) else (mrF (σ.1 151) n p n, σ)
def mSays (σ : fM) (n : Nat) (v a : Int32) : Int32 × fM := if wi v 0 (σ.1 151 7 - 1) = false then (kBad, σ) else if isA a = false then (kBad, σ) else (mWord (σ.1 151) n (ix v) (ix a), σ)
def mStake (σ : fM) (v a : Int32) : Int32 × fM := if wi v 0 (σ.1 151 7 - 1) = false then (kBad, σ) else if isA a = false then (kBad, σ) else (oStake (mo (σ.1 151) (ix v)) (mt (σ.1 151) (ix v)) (σ.1 151 0) a (σ.1 151 3), σ)
/-- the state is kept, put back -/
def kM (σ : fM) : fM := puR σ 152 (mcp (σ.1 151) (σ.1 152) 0 0 349)
def restM (σ : fM) : fM := puR σ 151 (mcp (σ.1 152) (σ.1 151) 0 0 349)
theorem kM_151 (σ : fM) : (kM σ).1 151 = σ.1 151 := puR_ne _ (by decide)
def mGain (σ : fM) (n m : Nat) (v a k : Int32) : Int32 × fM := if wi v 0 (σ.1 151 7 - 1) = false then (kBad, σ) else if isA a = false then (kBad, σ) else if wi k 0 1 = false then (kBad, σ)
  else (mo ((mcM (kM σ) n m (ix a) k).1 151) (ix v) 2 - mo ((mcM (kM σ) n m (ix a) k).1 152) (ix v) 2, restM (mcM (kM σ) n m (ix a) k))
def mdZ (σ : fM) (n m a : Nat) (k : Int32) : Nat → fM × Nat
  | 0 => (σ, m)
  | i + 1 => (mcM (mdZ σ n m a k i).1 n (mdZ σ n m a k i).2 a k, mcC (mdZ σ n m a k i).1 n (mdZ σ n m a k i).2 a k)
def mdP (σ : fM) (n m a j : Nat) (k : Int32) (i : Nat) : Bool := decide (mo ((mdZ σ n m a k i).1.1 151) j 2 ≤ 0)
def mDoomV (σ : fM) (n m a j : Nat) (k : Int32) : Int32 := if mo ((mdZ σ n m a k (fstF (mdP σ n m a j k) 100)).1.1 151) j 2 = 0 then nI (fstF (mdP σ n m a j k) 100) else kNone
def mDoom (σ : fM) (n m : Nat) (v a k : Int32) : Int32 × fM := if wi v 0 (σ.1 151 7 - 1) = false then (kBad, σ) else if isA a = false then (kBad, σ) else if wi k 0 1 = false then (kBad, σ)
  else (mDoomV (kM σ) n m (ix a) (ix v) k, restM (mdZ (kM σ) n m (ix a) k (fstF (mdP (kM σ) n m (ix a) (ix v) k) 100)).1)
theorem mcM_151 {σ : fM} {n m a : Nat} {k : Int32} : (mcM σ n m a k).1 151 = mcR σ n m a k := puR_self _ _ _
theorem mcM_ne {σ : fM} {n m a q : Nat} {k : Int32} (h1 : q ≠ 151) (h2 : q < 155 ∨ 158 < q) : (mcM σ n m a k).1 q = σ.1 q := (puR_ne _ h1).trans (csM_ne h2)
theorem mdZ_G {σ : fM} {n m B h a : Nat} {k : Int32} (g : mG (σ.1 151) n m B h) (hB : B < 2 ^ 24 - 2 ^ 12) (ha : a < 64) (hk : k = 0 ∨ k = 1) (hh : h + 100 < 2 ^ 24) : ∀ i, i ≤ 100 → mG ((mdZ σ n m a k i).1.1 151) n (mdZ σ n m a k i).2 B (h + i)
  | 0, _ => g
  | i + 1, hi => by
    have ih := mdZ_G g hB ha hk hh i (by omega)
    show mG ((mcM _ n _ a k).1 151) n (mcC _ n _ a k) B (h + (i + 1))
    rw [mcM_151]
    exact mG_mc ih hB ha hk (show h + i < 2 ^ 24 by omega)
/-- a row of branches -/
def mpbK (t : Nat) (r : Int32) (i : Nat) : Int32 := (r >>> (nI (t - 1 - i) &&& 31)) &&& 1
def mpbZ (σ : fM) (n m t a : Nat) (r : Int32) : Nat → fM × Nat
  | 0 => (σ, m)
  | i + 1 => (mcM (mpbZ σ n m t a r i).1 n (mpbZ σ n m t a r i).2 a (mpbK t r i), mcC (mpbZ σ n m t a r i).1 n (mpbZ σ n m t a r i).2 a (mpbK t r i))
theorem mpbK_01 (t : Nat) (r : Int32) (i : Nat) : mpbK t r i = 0 ∨ mpbK t r i = 1 := by
  unfold mpbK
  obtain ⟨j, hj, e⟩ := pk_andE (r >>> (nI (t - 1 - i) &&& 31)) (m := 1) 1 (by decide)
  rw [e]
  rcases (show j = 0 ∨ j = 1 by omega) with rfl | rfl
  · exact Or.inl rfl
  · exact Or.inr rfl
theorem mpbZ_G {σ : fM} {n m B h t a : Nat} {r : Int32} (g : mG (σ.1 151) n m B h) (hB : B < 2 ^ 24 - 2 ^ 12) (ha : a < 64) (hh : h + 100 < 2 ^ 24) : ∀ i, i ≤ 100 → mG ((mpbZ σ n m t a r i).1.1 151) n (mpbZ σ n m t a r i).2 B (h + i)
  | 0, _ => g
  | i + 1, hi => by
    have ih := mpbZ_G (t := t) (r := r) g hB ha hh i (by omega)
    show mG ((mcM _ n _ a _).1 151) n (mcC _ n _ a _) B (h + (i + 1))
    rw [mcM_151]
    exact mG_mc ih hB ha (mpbK_01 t r i) (show h + i < 2 ^ 24 by omega)
theorem mpbZ_ne {σ : fM} {n m t a q : Nat} {r : Int32} (h1 : q ≠ 151) (h2 : q < 155 ∨ 158 < q) : ∀ i, (mpbZ σ n m t a r i).1.1 q = σ.1 q
  | 0 => rfl
  | i + 1 => (mcM_ne h1 h2).trans (mpbZ_ne h1 h2 i)
theorem mdZ_ne {σ : fM} {n m a q : Nat} {k : Int32} (h1 : q ≠ 151) (h2 : q < 155 ∨ 158 < q) : ∀ i, (mdZ σ n m a k i).1.1 q = σ.1 q
  | 0 => rfl
  | i + 1 => (mcM_ne h1 h2).trans (mdZ_ne h1 h2 i)
theorem mG_cg {r r' : Nat → Int32} {n m B h : Nat} (g : mG r n m B h) (e : ∀ q, q < 349 → r' q = r q) : mG r' n m B h := by
  obtain ⟨⟨hn, hn6, hm, hm8⟩, ⟨hv, h1, h2⟩, ⟨⟨u, u1, u2, u3⟩, ⟨c, c1, c2⟩, s, s1, s2⟩, hor, ⟨p, p1, p2⟩, hl⟩ := g
  have em : ∀ i, i < n → ∀ p, p < 42 → mo r' i p = mo r i p := fun i hi p hp => e _ (by omega)
  refine ⟨⟨(e 7 (by decide)).trans hn, hn6, (e 8 (by decide)).trans hm, hm8⟩, ⟨hv, h1, (e 3 (by decide)).trans h2⟩, ⟨⟨u, u1, u2, (e 0 (by decide)).trans u3⟩, ⟨c, c1, (e 1 (by decide)).trans c2⟩, s, s1, (e 2 (by decide)).trans s2⟩, fun i hi => ?_, ⟨p, fun i hi => (em i hi 2 (by decide)).trans (p1 i hi), p2⟩, lgo_cg hl (fun l j hl hj => e _ (by omega))⟩
  obtain ⟨⟨k0, k1, k2, k3⟩, ⟨v, v1, v2⟩, x, y, q1, q2, q3⟩ := hor i hi
  exact ⟨⟨by rw [em i hi 0 (by decide)]; exact k0, oGood_cg (em i hi 0 (by decide)) (em i hi 1 (by decide)) k1, fun q hq => by rw [show mt r' i q = mt r i q from em i hi (10 + q) (by omega)]; exact k2 q hq, by rw [em i hi 0 (by decide), em i hi 1 (by decide)]; exact k3⟩, ⟨v, v1, (em i hi 7 (by decide)).trans v2⟩, x, y, q1, (em i hi 5 (by decide)).trans q2, (em i hi 6 (by decide)).trans q3⟩
def mbrS (j r : Nat) (y : fM) (z : Int32 × Int32) : fM × Int32 × Int32 := (restM y, if mo (y.1 151) j 2 ≤ z.2 then z.1 else nI r, if mo (y.1 151) j 2 ≤ z.2 then z.2 else mo (y.1 151) j 2)
def mbrZ (σ : fM) (n m t a j : Nat) : Nat → fM × Int32 × Int32
  | 0 => (σ, 0, -1)
  | r + 1 => mbrS j r (mpbZ (mbrZ σ n m t a j r).1 n m t a (nI r) t).1 (mbrZ σ n m t a j r).2
theorem mbrZ_s {σ : fM} {n m t a j r : Nat} : mbrZ σ n m t a j (r + 1) = mbrS j r (mpbZ (mbrZ σ n m t a j r).1 n m t a (nI r) t).1 (mbrZ σ n m t a j r).2 := by rw [mbrZ]
theorem restM_q {σ : fM} {q : Nat} (hq : q < 349) : (restM σ).1 151 q = σ.1 152 q := by
  unfold restM
  rw [puR_self]
  unfold mcp
  rw [if_pos (by omega)]
  exact congrArg _ (by omega)
theorem mbrZ_ok {σ : fM} {n m t a j : Nat} (hk : ∀ q, q < 349 → σ.1 152 q = σ.1 151 q) : ∀ r, (∀ q, q < 349 → (mbrZ σ n m t a j r).1.1 151 q = σ.1 151 q) ∧ ∀ q, q ≠ 151 → (q < 155 ∨ 158 < q) → (mbrZ σ n m t a j r).1.1 q = σ.1 q
  | 0 => ⟨fun _ _ => rfl, fun _ _ _ => rfl⟩
  | r + 1 => by
    obtain ⟨h1, h2⟩ := mbrZ_ok (n := n) (m := m) (t := t) (a := a) (j := j) hk r
    rw [mbrZ_s]
    generalize mbrZ σ n m t a j r = z at h1 h2
    refine ⟨fun q hq => ?_, fun q hq hq2 => ?_⟩
    · show (restM _).1 151 q = _
      rw [restM_q hq, mpbZ_ne (by decide) (by decide), h2 152 (by decide) (by decide)]
      exact hk q hq
    · show (restM _).1 q = _
      unfold restM
      rw [puR_ne _ hq, mpbZ_ne hq hq2]
      exact h2 q hq hq2
def mBest (σ : fM) (n m : Nat) (v a t w : Int32) : Int32 × fM := if wi v 0 (σ.1 151 7 - 1) = false then (kBad, σ) else if isA a = false then (kBad, σ) else if wi t 1 5 = false then (kBad, σ) else if wi w 0 1 = false then (kBad, σ)
  else (if w = 0 then (mbrZ (kM σ) n m (ix t) (ix a) (ix v) (2 ^ ix t)).2.1 else (mbrZ (kM σ) n m (ix t) (ix a) (ix v) (2 ^ ix t)).2.2, (mbrZ (kM σ) n m (ix t) (ix a) (ix v) (2 ^ ix t)).1)
def mseF (r : Nat → Int32) : Nat → Int32 := sumF 0 (fun i => if oSeat (mo r i) = true then 1 else 0)
def mruF (r : Nat → Int32) : Nat → Int32 := sumF 0 (fun i => if mo r i 2 = 0 then 1 else 0)
def mcoF (r : Nat → Int32) : Nat → Int32 := sumF (r 4) (fun i => mo r i 2)
def mCount (σ : fM) (n : Nat) (w : Int32) : Int32 × fM := (if wi w 0 22 = false then kBad else
  if ix w = 0 then σ.1 151 7 else if ix w = 1 then mseF (σ.1 151) n else if ix w = 2 then mruF (σ.1 151) n else if ix w = 3 then σ.1 151 4 else if ix w = 4 then mcoF (σ.1 151) n
  else if ix w = 5 then σ.1 151 3 else if ix w = 6 then σ.1 151 5 else if ix w = 7 then σ.1 151 6 else if ix w = 8 then σ.1 151 8 else if ix w = 9 then σ.1 150 3 else if ix w = 10 then σ.1 150 5
  else if ix w < 20 then kBad else σ.1 151 (ix w - 20), σ)
def mType (σ : fM) (t : Nat) (c : Int32) : Int32 × fM := if wi c 32 126 = false then (kBad, σ) else if t = 80 then (kLim, σ) else (nI (t + 1), pu (pu σ 154 t c) 150 5 (nI (t + 1)))
def mClear (σ : fM) : Int32 × fM := (σ.1 150 5, pu σ 150 5 0)
theorem wi_out22 {w : Int32} (h : wi w 0 22 = false) : w.toInt < 0 ∨ 22 < w.toInt := by
  by_cases h1 : w < 0
  · exact Or.inl (by have := Int32.lt_iff_toInt_lt.mp h1; simpa using this)
  · by_cases h2 : 22 < w
    · exact Or.inr (by have := Int32.lt_iff_toInt_lt.mp h2; simpa using this)
    · exact absurd (wi_of.mpr ⟨h1, h2⟩) (by rw [h]; decide)
theorem wi01 {k : Int32} (h : wi k 0 1 = true) : k = 0 ∨ k = 1 := by
  obtain ⟨j, hj, e⟩ := wi_ix (n := 1) (by decide) (by decide) h
  rcases (show j = 0 ∨ j = 1 by omega) with rfl | rfl
  · exact Or.inl e
  · exact Or.inr e
theorem wi_A {a : Int32} (h : isA a = true) : ∃ j : Nat, j ≤ 63 ∧ a = nI j := wi_ix (n := 63) (by decide) (by decide) h

set_option maxRecDepth 100000 in
set_option maxHeartbeats 4000000 in
theorem ct_X6_oracleOf {l : Launch} {X : fX} {σ : fM} {n m : Nat} (hc : mcn (σ.1 151) n m) {v w : Int32} : Ct l X yX6_oracleOf cX6_oracleOf 3 (some .int) 2 [ra X 150, .int v, .int w] σ (some (.int (mOracleOf σ m v w).1)) (mOracleOf σ m v w).2 := by
  refine Ct.of RX6 rfl (by decide) (Nat.le_of_ble_eq_true rfl) ?_
  intro x hL h hr
  refine g_sub [(0, ra X 150), (1, .int v), (2, .int w)] ⟨rfl, rfl, rfl, trivial⟩ ?_
  obtain ⟨hn, hn6, hm, hm8⟩ := id hc
  refine g_aload_n h dX6_oracleOf_0 rfl ?_
  refine g_iload_n h dX6_oracleOf_1 rfl ?_
  refine cl6_86 h  (ct_X6_isOracle ) rfl dX6_oracleOf_2 rfl (Nat.le_of_ble_eq_true rfl) (by decide) ?_
  refine g_ifeqB h 18 dX6_oracleOf_5 (by decide) (fun c5 => ?_) (fun c5 => ?_)
  · refine g_ldc h (-1000001) (lw_in 696 (by decide +kernel) rfl) dX6_oracleOf_18 ?_
    exact g_iret h hr dX6_oracleOf_20 (by first | (simp [mOracleOf, kBad, kNot, kLim, kNone, ix, hij, c5]; done) | (simp [mOracleOf, kBad, kNot, kLim, kNone, ix, c5]; done) | (simp_all [mOracleOf, kBad, kNot, kLim, kNone, ix]; done)) (by first | (simp [mOracleOf, kBad, kNot, kLim, kNone, ix, hij, c5]; done) | (simp [mOracleOf, kBad, kNot, kLim, kNone, ix, c5]; done) | (simp_all [mOracleOf, kBad, kNot, kLim, kNone, ix]; done))
  · obtain ⟨j, hj, rfl⟩ := wi_or (by omega) hn c5
    have hij : (nI j).toNatClampNeg = j := nI_clamp (by omega)
    refine g_iload_n h dX6_oracleOf_8 rfl ?_
    refine g_iconst (v := 0) h dX6_oracleOf_9 (by decide) ?_
    refine g_bipush (v := 10) h dX6_oracleOf_10 (by decide) ?_
    refine cl6_42 h (ct_X6_within) rfl dX6_oracleOf_12 rfl (Nat.le_of_ble_eq_true rfl) (by decide) ?_
    refine g_ifneB h 21 dX6_oracleOf_15 (by decide) (fun c15 => ?_) (fun c15 => ?_)
    · obtain ⟨w, hw, rfl⟩ := wi_ix (n := 10) (by decide) (by decide) c15
      have hiw : (nI w).toNatClampNeg = w := nI_clamp (by omega)
      rcases (show w = 0 ∨ w = 1 ∨ w = 2 ∨ w = 3 ∨ w = 4 ∨ w = 5 ∨ w = 6 ∨ w = 7 ∨ w = 8 ∨ w = 9 ∨ w = 10 by omega) with rfl | rfl | rfl | rfl | rfl | rfl | rfl | rfl | rfl | rfl | rfl
      · refine g_iload_n h dX6_oracleOf_21 rfl ?_
        refine g_bipush (v := 9) h dX6_oracleOf_22 (by decide) ?_
        refine g_iceq h 33 dX6_oracleOf_24 (by decide) (fun c24 => absurd c24 (by decide)) (fun c24 => ?_)
        refine g_iload_n h dX6_oracleOf_27 rfl ?_
        refine g_bipush (v := 10) h dX6_oracleOf_28 (by decide) ?_
        refine g_icne h 50 dX6_oracleOf_30 (by decide) (fun c30 => ?_) (fun c30 => absurd c30 (by decide))
        refine g_iload_n h dX6_oracleOf_50 rfl ?_
        refine g_iconst (v := 3) h dX6_oracleOf_51 (by decide) ?_
        refine g_iceq h 60 dX6_oracleOf_52 (by decide) (fun c52 => absurd c52 (by decide)) (fun c52 => ?_)
        refine g_iload_n h dX6_oracleOf_55 rfl ?_
        refine g_iconst (v := 4) h dX6_oracleOf_56 (by decide) ?_
        refine g_icne h 73 dX6_oracleOf_57 (by decide) (fun c57 => ?_) (fun c57 => absurd c57 (by decide))
        refine g_aload_n h dX6_oracleOf_73 rfl ?_
        refine g_iload_n h dX6_oracleOf_74 rfl ?_
        refine g_iload_n h dX6_oracleOf_75 rfl ?_
        refine cl6_46 h  (ct_X6_part (i := j) (p := 0) (by omega) (by decide)) rfl dX6_oracleOf_76 rfl (Nat.le_of_ble_eq_true rfl) (by decide) ?_
        exact g_iret h hr dX6_oracleOf_79 (by first | (simp [mOracleOf, owF, kBad, kNot, kLim, kNone, ix, hij, hiw, c5, c15]; done) | (simp [mOracleOf, owF, kBad, kNot, kLim, kNone, ix, hij, hiw, c5, c15, c65]; done)) (by first | (simp [mOracleOf, owF, kBad, kNot, kLim, kNone, ix, hij, hiw, c5, c15]; done) | (simp [mOracleOf, owF, kBad, kNot, kLim, kNone, ix, hij, hiw, c5, c15, c65]; done))
      · refine g_iload_n h dX6_oracleOf_21 rfl ?_
        refine g_bipush (v := 9) h dX6_oracleOf_22 (by decide) ?_
        refine g_iceq h 33 dX6_oracleOf_24 (by decide) (fun c24 => absurd c24 (by decide)) (fun c24 => ?_)
        refine g_iload_n h dX6_oracleOf_27 rfl ?_
        refine g_bipush (v := 10) h dX6_oracleOf_28 (by decide) ?_
        refine g_icne h 50 dX6_oracleOf_30 (by decide) (fun c30 => ?_) (fun c30 => absurd c30 (by decide))
        refine g_iload_n h dX6_oracleOf_50 rfl ?_
        refine g_iconst (v := 3) h dX6_oracleOf_51 (by decide) ?_
        refine g_iceq h 60 dX6_oracleOf_52 (by decide) (fun c52 => absurd c52 (by decide)) (fun c52 => ?_)
        refine g_iload_n h dX6_oracleOf_55 rfl ?_
        refine g_iconst (v := 4) h dX6_oracleOf_56 (by decide) ?_
        refine g_icne h 73 dX6_oracleOf_57 (by decide) (fun c57 => ?_) (fun c57 => absurd c57 (by decide))
        refine g_aload_n h dX6_oracleOf_73 rfl ?_
        refine g_iload_n h dX6_oracleOf_74 rfl ?_
        refine g_iload_n h dX6_oracleOf_75 rfl ?_
        refine cl6_46 h  (ct_X6_part (i := j) (p := 1) (by omega) (by decide)) rfl dX6_oracleOf_76 rfl (Nat.le_of_ble_eq_true rfl) (by decide) ?_
        exact g_iret h hr dX6_oracleOf_79 (by first | (simp [mOracleOf, owF, kBad, kNot, kLim, kNone, ix, hij, hiw, c5, c15]; done) | (simp [mOracleOf, owF, kBad, kNot, kLim, kNone, ix, hij, hiw, c5, c15, c65]; done)) (by first | (simp [mOracleOf, owF, kBad, kNot, kLim, kNone, ix, hij, hiw, c5, c15]; done) | (simp [mOracleOf, owF, kBad, kNot, kLim, kNone, ix, hij, hiw, c5, c15, c65]; done))
      · refine g_iload_n h dX6_oracleOf_21 rfl ?_
        refine g_bipush (v := 9) h dX6_oracleOf_22 (by decide) ?_
        refine g_iceq h 33 dX6_oracleOf_24 (by decide) (fun c24 => absurd c24 (by decide)) (fun c24 => ?_)
        refine g_iload_n h dX6_oracleOf_27 rfl ?_
        refine g_bipush (v := 10) h dX6_oracleOf_28 (by decide) ?_
        refine g_icne h 50 dX6_oracleOf_30 (by decide) (fun c30 => ?_) (fun c30 => absurd c30 (by decide))
        refine g_iload_n h dX6_oracleOf_50 rfl ?_
        refine g_iconst (v := 3) h dX6_oracleOf_51 (by decide) ?_
        refine g_iceq h 60 dX6_oracleOf_52 (by decide) (fun c52 => absurd c52 (by decide)) (fun c52 => ?_)
        refine g_iload_n h dX6_oracleOf_55 rfl ?_
        refine g_iconst (v := 4) h dX6_oracleOf_56 (by decide) ?_
        refine g_icne h 73 dX6_oracleOf_57 (by decide) (fun c57 => ?_) (fun c57 => absurd c57 (by decide))
        refine g_aload_n h dX6_oracleOf_73 rfl ?_
        refine g_iload_n h dX6_oracleOf_74 rfl ?_
        refine g_iload_n h dX6_oracleOf_75 rfl ?_
        refine cl6_46 h  (ct_X6_part (i := j) (p := 2) (by omega) (by decide)) rfl dX6_oracleOf_76 rfl (Nat.le_of_ble_eq_true rfl) (by decide) ?_
        exact g_iret h hr dX6_oracleOf_79 (by first | (simp [mOracleOf, owF, kBad, kNot, kLim, kNone, ix, hij, hiw, c5, c15]; done) | (simp [mOracleOf, owF, kBad, kNot, kLim, kNone, ix, hij, hiw, c5, c15, c65]; done)) (by first | (simp [mOracleOf, owF, kBad, kNot, kLim, kNone, ix, hij, hiw, c5, c15]; done) | (simp [mOracleOf, owF, kBad, kNot, kLim, kNone, ix, hij, hiw, c5, c15, c65]; done))
      · refine g_iload_n h dX6_oracleOf_21 rfl ?_
        refine g_bipush (v := 9) h dX6_oracleOf_22 (by decide) ?_
        refine g_iceq h 33 dX6_oracleOf_24 (by decide) (fun c24 => absurd c24 (by decide)) (fun c24 => ?_)
        refine g_iload_n h dX6_oracleOf_27 rfl ?_
        refine g_bipush (v := 10) h dX6_oracleOf_28 (by decide) ?_
        refine g_icne h 50 dX6_oracleOf_30 (by decide) (fun c30 => ?_) (fun c30 => absurd c30 (by decide))
        refine g_iload_n h dX6_oracleOf_50 rfl ?_
        refine g_iconst (v := 3) h dX6_oracleOf_51 (by decide) ?_
        refine g_iceq h 60 dX6_oracleOf_52 (by decide) (fun c52 => ?_) (fun c52 => absurd (by decide) c52)
        refine g_aload_n h dX6_oracleOf_60 rfl ?_
        refine g_iload_n h dX6_oracleOf_61 rfl ?_
        refine cl6_61 h  (ct_X6_hasSeat (i := j) (by omega)) rfl dX6_oracleOf_62 rfl (Nat.le_of_ble_eq_true rfl) (by decide) ?_
        refine g_ifneB h 73 dX6_oracleOf_65 (by decide) (fun c65 => ?_) (fun c65 => ?_)
        · refine g_aload_n h dX6_oracleOf_73 rfl ?_
          refine g_iload_n h dX6_oracleOf_74 rfl ?_
          refine g_iload_n h dX6_oracleOf_75 rfl ?_
          refine cl6_46 h  (ct_X6_part (i := j) (p := 3) (by omega) (by decide)) rfl dX6_oracleOf_76 rfl (Nat.le_of_ble_eq_true rfl) (by decide) ?_
          exact g_iret h hr dX6_oracleOf_79 (by first | (simp [mOracleOf, owF, kBad, kNot, kLim, kNone, ix, hij, hiw, c5, c15]; done) | (simp [mOracleOf, owF, kBad, kNot, kLim, kNone, ix, hij, hiw, c5, c15, c65]; done)) (by first | (simp [mOracleOf, owF, kBad, kNot, kLim, kNone, ix, hij, hiw, c5, c15]; done) | (simp [mOracleOf, owF, kBad, kNot, kLim, kNone, ix, hij, hiw, c5, c15, c65]; done))
        · refine g_ldc h (-1000004) (lw_in 822 (by decide +kernel) rfl) dX6_oracleOf_68 ?_
          refine g_goto h 79 dX6_oracleOf_70 (by decide) ?_
          exact g_iret h hr dX6_oracleOf_79 (by first | (simp [mOracleOf, owF, kBad, kNot, kLim, kNone, ix, hij, hiw, c5, c15]; done) | (simp [mOracleOf, owF, kBad, kNot, kLim, kNone, ix, hij, hiw, c5, c15, c65]; done)) (by first | (simp [mOracleOf, owF, kBad, kNot, kLim, kNone, ix, hij, hiw, c5, c15]; done) | (simp [mOracleOf, owF, kBad, kNot, kLim, kNone, ix, hij, hiw, c5, c15, c65]; done))
      · refine g_iload_n h dX6_oracleOf_21 rfl ?_
        refine g_bipush (v := 9) h dX6_oracleOf_22 (by decide) ?_
        refine g_iceq h 33 dX6_oracleOf_24 (by decide) (fun c24 => absurd c24 (by decide)) (fun c24 => ?_)
        refine g_iload_n h dX6_oracleOf_27 rfl ?_
        refine g_bipush (v := 10) h dX6_oracleOf_28 (by decide) ?_
        refine g_icne h 50 dX6_oracleOf_30 (by decide) (fun c30 => ?_) (fun c30 => absurd c30 (by decide))
        refine g_iload_n h dX6_oracleOf_50 rfl ?_
        refine g_iconst (v := 3) h dX6_oracleOf_51 (by decide) ?_
        refine g_iceq h 60 dX6_oracleOf_52 (by decide) (fun c52 => absurd c52 (by decide)) (fun c52 => ?_)
        refine g_iload_n h dX6_oracleOf_55 rfl ?_
        refine g_iconst (v := 4) h dX6_oracleOf_56 (by decide) ?_
        refine g_icne h 73 dX6_oracleOf_57 (by decide) (fun c57 => absurd (by decide) c57) (fun c57 => ?_)
        refine g_aload_n h dX6_oracleOf_60 rfl ?_
        refine g_iload_n h dX6_oracleOf_61 rfl ?_
        refine cl6_61 h  (ct_X6_hasSeat (i := j) (by omega)) rfl dX6_oracleOf_62 rfl (Nat.le_of_ble_eq_true rfl) (by decide) ?_
        refine g_ifneB h 73 dX6_oracleOf_65 (by decide) (fun c65 => ?_) (fun c65 => ?_)
        · refine g_aload_n h dX6_oracleOf_73 rfl ?_
          refine g_iload_n h dX6_oracleOf_74 rfl ?_
          refine g_iload_n h dX6_oracleOf_75 rfl ?_
          refine cl6_46 h  (ct_X6_part (i := j) (p := 4) (by omega) (by decide)) rfl dX6_oracleOf_76 rfl (Nat.le_of_ble_eq_true rfl) (by decide) ?_
          exact g_iret h hr dX6_oracleOf_79 (by first | (simp [mOracleOf, owF, kBad, kNot, kLim, kNone, ix, hij, hiw, c5, c15]; done) | (simp [mOracleOf, owF, kBad, kNot, kLim, kNone, ix, hij, hiw, c5, c15, c65]; done)) (by first | (simp [mOracleOf, owF, kBad, kNot, kLim, kNone, ix, hij, hiw, c5, c15]; done) | (simp [mOracleOf, owF, kBad, kNot, kLim, kNone, ix, hij, hiw, c5, c15, c65]; done))
        · refine g_ldc h (-1000004) (lw_in 822 (by decide +kernel) rfl) dX6_oracleOf_68 ?_
          refine g_goto h 79 dX6_oracleOf_70 (by decide) ?_
          exact g_iret h hr dX6_oracleOf_79 (by first | (simp [mOracleOf, owF, kBad, kNot, kLim, kNone, ix, hij, hiw, c5, c15]; done) | (simp [mOracleOf, owF, kBad, kNot, kLim, kNone, ix, hij, hiw, c5, c15, c65]; done)) (by first | (simp [mOracleOf, owF, kBad, kNot, kLim, kNone, ix, hij, hiw, c5, c15]; done) | (simp [mOracleOf, owF, kBad, kNot, kLim, kNone, ix, hij, hiw, c5, c15, c65]; done))
      · refine g_iload_n h dX6_oracleOf_21 rfl ?_
        refine g_bipush (v := 9) h dX6_oracleOf_22 (by decide) ?_
        refine g_iceq h 33 dX6_oracleOf_24 (by decide) (fun c24 => absurd c24 (by decide)) (fun c24 => ?_)
        refine g_iload_n h dX6_oracleOf_27 rfl ?_
        refine g_bipush (v := 10) h dX6_oracleOf_28 (by decide) ?_
        refine g_icne h 50 dX6_oracleOf_30 (by decide) (fun c30 => ?_) (fun c30 => absurd c30 (by decide))
        refine g_iload_n h dX6_oracleOf_50 rfl ?_
        refine g_iconst (v := 3) h dX6_oracleOf_51 (by decide) ?_
        refine g_iceq h 60 dX6_oracleOf_52 (by decide) (fun c52 => absurd c52 (by decide)) (fun c52 => ?_)
        refine g_iload_n h dX6_oracleOf_55 rfl ?_
        refine g_iconst (v := 4) h dX6_oracleOf_56 (by decide) ?_
        refine g_icne h 73 dX6_oracleOf_57 (by decide) (fun c57 => ?_) (fun c57 => absurd c57 (by decide))
        refine g_aload_n h dX6_oracleOf_73 rfl ?_
        refine g_iload_n h dX6_oracleOf_74 rfl ?_
        refine g_iload_n h dX6_oracleOf_75 rfl ?_
        refine cl6_46 h  (ct_X6_part (i := j) (p := 5) (by omega) (by decide)) rfl dX6_oracleOf_76 rfl (Nat.le_of_ble_eq_true rfl) (by decide) ?_
        exact g_iret h hr dX6_oracleOf_79 (by first | (simp [mOracleOf, owF, kBad, kNot, kLim, kNone, ix, hij, hiw, c5, c15]; done) | (simp [mOracleOf, owF, kBad, kNot, kLim, kNone, ix, hij, hiw, c5, c15, c65]; done)) (by first | (simp [mOracleOf, owF, kBad, kNot, kLim, kNone, ix, hij, hiw, c5, c15]; done) | (simp [mOracleOf, owF, kBad, kNot, kLim, kNone, ix, hij, hiw, c5, c15, c65]; done))
      · refine g_iload_n h dX6_oracleOf_21 rfl ?_
        refine g_bipush (v := 9) h dX6_oracleOf_22 (by decide) ?_
        refine g_iceq h 33 dX6_oracleOf_24 (by decide) (fun c24 => absurd c24 (by decide)) (fun c24 => ?_)
        refine g_iload_n h dX6_oracleOf_27 rfl ?_
        refine g_bipush (v := 10) h dX6_oracleOf_28 (by decide) ?_
        refine g_icne h 50 dX6_oracleOf_30 (by decide) (fun c30 => ?_) (fun c30 => absurd c30 (by decide))
        refine g_iload_n h dX6_oracleOf_50 rfl ?_
        refine g_iconst (v := 3) h dX6_oracleOf_51 (by decide) ?_
        refine g_iceq h 60 dX6_oracleOf_52 (by decide) (fun c52 => absurd c52 (by decide)) (fun c52 => ?_)
        refine g_iload_n h dX6_oracleOf_55 rfl ?_
        refine g_iconst (v := 4) h dX6_oracleOf_56 (by decide) ?_
        refine g_icne h 73 dX6_oracleOf_57 (by decide) (fun c57 => ?_) (fun c57 => absurd c57 (by decide))
        refine g_aload_n h dX6_oracleOf_73 rfl ?_
        refine g_iload_n h dX6_oracleOf_74 rfl ?_
        refine g_iload_n h dX6_oracleOf_75 rfl ?_
        refine cl6_46 h  (ct_X6_part (i := j) (p := 6) (by omega) (by decide)) rfl dX6_oracleOf_76 rfl (Nat.le_of_ble_eq_true rfl) (by decide) ?_
        exact g_iret h hr dX6_oracleOf_79 (by first | (simp [mOracleOf, owF, kBad, kNot, kLim, kNone, ix, hij, hiw, c5, c15]; done) | (simp [mOracleOf, owF, kBad, kNot, kLim, kNone, ix, hij, hiw, c5, c15, c65]; done)) (by first | (simp [mOracleOf, owF, kBad, kNot, kLim, kNone, ix, hij, hiw, c5, c15]; done) | (simp [mOracleOf, owF, kBad, kNot, kLim, kNone, ix, hij, hiw, c5, c15, c65]; done))
      · refine g_iload_n h dX6_oracleOf_21 rfl ?_
        refine g_bipush (v := 9) h dX6_oracleOf_22 (by decide) ?_
        refine g_iceq h 33 dX6_oracleOf_24 (by decide) (fun c24 => absurd c24 (by decide)) (fun c24 => ?_)
        refine g_iload_n h dX6_oracleOf_27 rfl ?_
        refine g_bipush (v := 10) h dX6_oracleOf_28 (by decide) ?_
        refine g_icne h 50 dX6_oracleOf_30 (by decide) (fun c30 => ?_) (fun c30 => absurd c30 (by decide))
        refine g_iload_n h dX6_oracleOf_50 rfl ?_
        refine g_iconst (v := 3) h dX6_oracleOf_51 (by decide) ?_
        refine g_iceq h 60 dX6_oracleOf_52 (by decide) (fun c52 => absurd c52 (by decide)) (fun c52 => ?_)
        refine g_iload_n h dX6_oracleOf_55 rfl ?_
        refine g_iconst (v := 4) h dX6_oracleOf_56 (by decide) ?_
        refine g_icne h 73 dX6_oracleOf_57 (by decide) (fun c57 => ?_) (fun c57 => absurd c57 (by decide))
        refine g_aload_n h dX6_oracleOf_73 rfl ?_
        refine g_iload_n h dX6_oracleOf_74 rfl ?_
        refine g_iload_n h dX6_oracleOf_75 rfl ?_
        refine cl6_46 h  (ct_X6_part (i := j) (p := 7) (by omega) (by decide)) rfl dX6_oracleOf_76 rfl (Nat.le_of_ble_eq_true rfl) (by decide) ?_
        exact g_iret h hr dX6_oracleOf_79 (by first | (simp [mOracleOf, owF, kBad, kNot, kLim, kNone, ix, hij, hiw, c5, c15]; done) | (simp [mOracleOf, owF, kBad, kNot, kLim, kNone, ix, hij, hiw, c5, c15, c65]; done)) (by first | (simp [mOracleOf, owF, kBad, kNot, kLim, kNone, ix, hij, hiw, c5, c15]; done) | (simp [mOracleOf, owF, kBad, kNot, kLim, kNone, ix, hij, hiw, c5, c15, c65]; done))
      · refine g_iload_n h dX6_oracleOf_21 rfl ?_
        refine g_bipush (v := 9) h dX6_oracleOf_22 (by decide) ?_
        refine g_iceq h 33 dX6_oracleOf_24 (by decide) (fun c24 => absurd c24 (by decide)) (fun c24 => ?_)
        refine g_iload_n h dX6_oracleOf_27 rfl ?_
        refine g_bipush (v := 10) h dX6_oracleOf_28 (by decide) ?_
        refine g_icne h 50 dX6_oracleOf_30 (by decide) (fun c30 => ?_) (fun c30 => absurd c30 (by decide))
        refine g_iload_n h dX6_oracleOf_50 rfl ?_
        refine g_iconst (v := 3) h dX6_oracleOf_51 (by decide) ?_
        refine g_iceq h 60 dX6_oracleOf_52 (by decide) (fun c52 => absurd c52 (by decide)) (fun c52 => ?_)
        refine g_iload_n h dX6_oracleOf_55 rfl ?_
        refine g_iconst (v := 4) h dX6_oracleOf_56 (by decide) ?_
        refine g_icne h 73 dX6_oracleOf_57 (by decide) (fun c57 => ?_) (fun c57 => absurd c57 (by decide))
        refine g_aload_n h dX6_oracleOf_73 rfl ?_
        refine g_iload_n h dX6_oracleOf_74 rfl ?_
        refine g_iload_n h dX6_oracleOf_75 rfl ?_
        refine cl6_46 h  (ct_X6_part (i := j) (p := 8) (by omega) (by decide)) rfl dX6_oracleOf_76 rfl (Nat.le_of_ble_eq_true rfl) (by decide) ?_
        exact g_iret h hr dX6_oracleOf_79 (by first | (simp [mOracleOf, owF, kBad, kNot, kLim, kNone, ix, hij, hiw, c5, c15]; done) | (simp [mOracleOf, owF, kBad, kNot, kLim, kNone, ix, hij, hiw, c5, c15, c65]; done)) (by first | (simp [mOracleOf, owF, kBad, kNot, kLim, kNone, ix, hij, hiw, c5, c15]; done) | (simp [mOracleOf, owF, kBad, kNot, kLim, kNone, ix, hij, hiw, c5, c15, c65]; done))
      · refine g_iload_n h dX6_oracleOf_21 rfl ?_
        refine g_bipush (v := 9) h dX6_oracleOf_22 (by decide) ?_
        refine g_iceq h 33 dX6_oracleOf_24 (by decide) (fun c24 => ?_) (fun c24 => absurd (by decide) c24)
        refine g_aload_n h dX6_oracleOf_33 rfl ?_
        refine g_iload_n h dX6_oracleOf_34 rfl ?_
        refine g_iload_n h dX6_oracleOf_35 rfl ?_
        refine g_bipush (v := 9) h dX6_oracleOf_36 (by decide) ?_
        refine g_icne h 45 dX6_oracleOf_38 (by decide) (fun c38 => absurd (by decide) c38) (fun c38 => ?_)
        refine g_iconst (v := 1) h dX6_oracleOf_41 (by decide) ?_
        refine g_goto h 46 dX6_oracleOf_42 (by decide) ?_
        refine cl6_126 h  (ct_X6_owes hc (p := 1) (by decide)) rfl dX6_oracleOf_46 rfl (Nat.le_of_ble_eq_true rfl) (by decide) ?_
        exact g_iret h hr dX6_oracleOf_49 (by first | (simp [mOracleOf, owF, kBad, kNot, kLim, kNone, ix, hij, hiw, c5, c15]; done) | (simp [mOracleOf, owF, kBad, kNot, kLim, kNone, ix, hij, hiw, c5, c15, c65]; done)) (by first | (simp [mOracleOf, owF, kBad, kNot, kLim, kNone, ix, hij, hiw, c5, c15]; done) | (simp [mOracleOf, owF, kBad, kNot, kLim, kNone, ix, hij, hiw, c5, c15, c65]; done))
      · refine g_iload_n h dX6_oracleOf_21 rfl ?_
        refine g_bipush (v := 9) h dX6_oracleOf_22 (by decide) ?_
        refine g_iceq h 33 dX6_oracleOf_24 (by decide) (fun c24 => absurd c24 (by decide)) (fun c24 => ?_)
        refine g_iload_n h dX6_oracleOf_27 rfl ?_
        refine g_bipush (v := 10) h dX6_oracleOf_28 (by decide) ?_
        refine g_icne h 50 dX6_oracleOf_30 (by decide) (fun c30 => absurd (by decide) c30) (fun c30 => ?_)
        refine g_aload_n h dX6_oracleOf_33 rfl ?_
        refine g_iload_n h dX6_oracleOf_34 rfl ?_
        refine g_iload_n h dX6_oracleOf_35 rfl ?_
        refine g_bipush (v := 9) h dX6_oracleOf_36 (by decide) ?_
        refine g_icne h 45 dX6_oracleOf_38 (by decide) (fun c38 => ?_) (fun c38 => absurd c38 (by decide))
        refine g_iconst (v := 0) h dX6_oracleOf_45 (by decide) ?_
        refine cl6_126 h  (ct_X6_owes hc (p := 0) (by decide)) rfl dX6_oracleOf_46 rfl (Nat.le_of_ble_eq_true rfl) (by decide) ?_
        exact g_iret h hr dX6_oracleOf_49 (by first | (simp [mOracleOf, owF, kBad, kNot, kLim, kNone, ix, hij, hiw, c5, c15]; done) | (simp [mOracleOf, owF, kBad, kNot, kLim, kNone, ix, hij, hiw, c5, c15, c65]; done)) (by first | (simp [mOracleOf, owF, kBad, kNot, kLim, kNone, ix, hij, hiw, c5, c15]; done) | (simp [mOracleOf, owF, kBad, kNot, kLim, kNone, ix, hij, hiw, c5, c15, c65]; done))
    · refine g_ldc h (-1000001) (lw_in 696 (by decide +kernel) rfl) dX6_oracleOf_18 ?_
      exact g_iret h hr dX6_oracleOf_20 (by first | (simp [mOracleOf, kBad, kNot, kLim, kNone, ix, hij, c5, c15]; done) | (simp [mOracleOf, kBad, kNot, kLim, kNone, ix, c5, c15]; done) | (simp_all [mOracleOf, kBad, kNot, kLim, kNone, ix]; done)) (by first | (simp [mOracleOf, kBad, kNot, kLim, kNone, ix, hij, c5, c15]; done) | (simp [mOracleOf, kBad, kNot, kLim, kNone, ix, c5, c15]; done) | (simp_all [mOracleOf, kBad, kNot, kLim, kNone, ix]; done))
set_option maxRecDepth 100000 in
set_option maxHeartbeats 4000000 in
theorem ct_X6_counter {l : Launch} {X : fX} {σ : fM} {n m B y : Nat} (g : mG (σ.1 151) n m B y) {v i : Int32} : Ct l X yX6_counter cX6_counter 3 (some .int) 3 [ra X 150, .int v, .int i] σ (some (.int (mCounter σ v i).1)) (mCounter σ v i).2 := by
  refine Ct.of RX6 rfl (by decide) (Nat.le_of_ble_eq_true rfl) ?_
  intro x hL h hr
  refine g_sub [(0, ra X 150), (1, .int v), (2, .int i)] ⟨rfl, rfl, rfl, trivial⟩ ?_
  obtain ⟨hn, hn6, hm, hm8⟩ := id g.1
  refine g_aload_n h dX6_counter_0 rfl ?_
  refine g_iload_n h dX6_counter_1 rfl ?_
  refine cl6_86 h  (ct_X6_isOracle ) rfl dX6_counter_2 rfl (Nat.le_of_ble_eq_true rfl) (by decide) ?_
  refine g_ifeqB h 12 dX6_counter_5 (by decide) (fun c5 => ?_) (fun c5 => ?_)
  · refine g_ldc h (-1000001) (lw_in 696 (by decide +kernel) rfl) dX6_counter_12 ?_
    exact g_iret h hr dX6_counter_14 (by first | (simp [mCounter, kBad, kNone, ix, hij, hiq, c5]; done) | (simp [mCounter, kBad, kNone, ix, hij, c5]; done) | (simp [mCounter, kBad, kNone, ix, c5]; done) | (simp_all [mCounter, kBad, kNone, ix]; done)) (by first | (simp [mCounter, ix, hij, hiq, c5]; done) | (simp [mCounter, ix, hij, c5]; done) | (simp [mCounter, ix, c5]; done) | (simp_all [mCounter, ix]; done))
  · obtain ⟨j, hj, rfl⟩ := wi_or (by omega) hn c5
    have hij : (nI j).toNatClampNeg = j := nI_clamp (by omega)
    refine g_iload_n h dX6_counter_8 rfl ?_
    refine g_ifge h 15 dX6_counter_9 (by decide) (fun c9 => ?_) (fun c9 => ?_)
    · refine g_iload_n h dX6_counter_15 rfl ?_
      refine g_aload_n h dX6_counter_16 rfl ?_
      refine g_iload_n h dX6_counter_17 rfl ?_
      refine cl6_54 h  (ct_X6_sizeOf (i := j) (by omega)) rfl dX6_counter_18 rfl (Nat.le_of_ble_eq_true rfl) (by decide) ?_
      refine g_icge h 36 dX6_counter_21 (by decide) (fun c21 => ?_) (fun c21 => ?_)
      · refine g_ldc h (-1000004) (lw_in 822 (by decide +kernel) rfl) dX6_counter_36 ?_
        exact g_iret h hr dX6_counter_38 (by first | (simp [mCounter, kBad, kNone, ix, hij, hiq, c5, c9, c21]; done) | (simp [mCounter, kBad, kNone, ix, hij, c5, c9, c21]; done) | (simp [mCounter, kBad, kNone, ix, c5, c9, c21]; done) | (simp_all [mCounter, kBad, kNone, ix]; done)) (by first | (simp [mCounter, ix, hij, hiq, c5, c9, c21]; done) | (simp [mCounter, ix, hij, c5, c9, c21]; done) | (simp [mCounter, ix, c5, c9, c21]; done) | (simp_all [mCounter, ix]; done))
      · obtain ⟨q, hq, rfl⟩ := vp_in_of (oSize_le (g.2.2.2.1 j hj).1.2.1 c9 c21) (by decide)
        have hiq : (nI q).toNatClampNeg = q := nI_clamp (by omega)
        refine g_aload_n h dX6_counter_24 rfl ?_
        refine g_iload_n h dX6_counter_25 rfl ?_
        refine g_bipush (v := 10) h dX6_counter_26 (by decide) ?_
        refine g_iload_n h dX6_counter_28 rfl ?_
        refine g_iadd h dX6_counter_29 ?_
        refine g_top (nI (10 + q)) (ten_add q) ?_
        refine cl6_46 h  (ct_X6_part (i := j) (p := 10 + q) (by omega) (by omega)) rfl dX6_counter_30 rfl (Nat.le_of_ble_eq_true rfl) (by decide) ?_
        refine g_top (mt (σ.1 151) j q) rfl ?_
        refine g_goto h 38 dX6_counter_33 (by decide) ?_
        exact g_iret h hr dX6_counter_38 (by first | (simp [mCounter, kBad, kNone, ix, hij, hiq, c5, c9, c21]; done) | (simp [mCounter, kBad, kNone, ix, hij, c5, c9, c21]; done) | (simp [mCounter, kBad, kNone, ix, c5, c9, c21]; done) | (simp_all [mCounter, kBad, kNone, ix]; done)) (by first | (simp [mCounter, ix, hij, hiq, c5, c9, c21]; done) | (simp [mCounter, ix, hij, c5, c9, c21]; done) | (simp [mCounter, ix, c5, c9, c21]; done) | (simp_all [mCounter, ix]; done))
    · refine g_ldc h (-1000001) (lw_in 696 (by decide +kernel) rfl) dX6_counter_12 ?_
      exact g_iret h hr dX6_counter_14 (by first | (simp [mCounter, kBad, kNone, ix, hij, hiq, c5, c9]; done) | (simp [mCounter, kBad, kNone, ix, hij, c5, c9]; done) | (simp [mCounter, kBad, kNone, ix, c5, c9]; done) | (simp_all [mCounter, kBad, kNone, ix]; done)) (by first | (simp [mCounter, ix, hij, hiq, c5, c9]; done) | (simp [mCounter, ix, hij, c5, c9]; done) | (simp [mCounter, ix, c5, c9]; done) | (simp_all [mCounter, ix]; done))
set_option maxRecDepth 100000 in
set_option maxHeartbeats 4000000 in
theorem ct_X6_loanOf {l : Launch} {X : fX} {σ : fM} {n m : Nat} (hc : mcn (σ.1 151) n m) {i w : Int32} : Ct l X yX6_loanOf cX6_loanOf 3 (some .int) 1 [ra X 150, .int i, .int w] σ (some (.int (mLoanOf σ i w).1)) (mLoanOf σ i w).2 := by
  refine Ct.of RX6 rfl (by decide) (Nat.le_of_ble_eq_true rfl) ?_
  intro x hL h hr
  refine g_sub [(0, ra X 150), (1, .int i), (2, .int w)] ⟨rfl, rfl, rfl, trivial⟩ ?_
  obtain ⟨hn, hn6, hm, hm8⟩ := id hc
  refine g_iload_n h dX6_loanOf_0 rfl ?_
  refine g_iconst (v := 0) h dX6_loanOf_1 (by decide) ?_
  refine g_aload_n h dX6_loanOf_2 rfl ?_
  refine gf6_7 h  dX6_loanOf_3 ?_
  refine g_bipush (v := 8) h dX6_loanOf_6 (by decide) ?_
  refine g_ialdN h (k := 151) (by decide) (enc_151 X) (show (8 : Int32) = nI 8 by decide) (by decide) (by decide) dX6_loanOf_8 ?_
  refine g_iconst (v := 1) h dX6_loanOf_9 (by decide) ?_
  refine g_isub h dX6_loanOf_10 ?_
  refine cl6_42 h (ct_X6_within) rfl dX6_loanOf_11 rfl (Nat.le_of_ble_eq_true rfl) (by decide) ?_
  refine g_ifeqB h 35 dX6_loanOf_14 (by decide) (fun c14 => ?_) (fun c14 => ?_)
  · refine g_ldc h (-1000001) (lw_in 696 (by decide +kernel) rfl) dX6_loanOf_35 ?_
    exact g_iret h hr dX6_loanOf_37 (by first | (simp [mLoanOf, kBad, ix, hij, hiw, c14]; done) | (simp [mLoanOf, kBad, ix, c14]; done) | (simp [mLoanOf, kBad, ix, hij, c14]; done) | (simp_all [mLoanOf, kBad, ix]; done)) (by first | (simp [mLoanOf, ix, hij, hiw, c14]; done) | (simp [mLoanOf, ix, c14]; done) | (simp [mLoanOf, ix, hij, c14]; done) | (simp_all [mLoanOf, ix]; done))
  · obtain ⟨j, hj, rfl⟩ := wi_or (by omega) hm c14
    have hij : (nI j).toNatClampNeg = j := nI_clamp (by omega)
    refine g_iload_n h dX6_loanOf_17 rfl ?_
    refine g_iconst (v := 0) h dX6_loanOf_18 (by decide) ?_
    refine g_iconst (v := 2) h dX6_loanOf_19 (by decide) ?_
    refine cl6_42 h (ct_X6_within) rfl dX6_loanOf_20 rfl (Nat.le_of_ble_eq_true rfl) (by decide) ?_
    refine g_ifeqB h 35 dX6_loanOf_23 (by decide) (fun c23 => ?_) (fun c23 => ?_)
    · refine g_ldc h (-1000001) (lw_in 696 (by decide +kernel) rfl) dX6_loanOf_35 ?_
      exact g_iret h hr dX6_loanOf_37 (by first | (simp [mLoanOf, kBad, ix, hij, hiw, c14, c23]; done) | (simp [mLoanOf, kBad, ix, c14, c23]; done) | (simp [mLoanOf, kBad, ix, hij, c14, c23]; done) | (simp_all [mLoanOf, kBad, ix]; done)) (by first | (simp [mLoanOf, ix, hij, hiw, c14, c23]; done) | (simp [mLoanOf, ix, c14, c23]; done) | (simp [mLoanOf, ix, hij, c14, c23]; done) | (simp_all [mLoanOf, ix]; done))
    · obtain ⟨w, hw, rfl⟩ := wi_ix (n := 2) (by decide) (by decide) c23
      have hiw : (nI w).toNatClampNeg = w := nI_clamp (by omega)
      refine g_aload_n h dX6_loanOf_26 rfl ?_
      refine g_iload_n h dX6_loanOf_27 rfl ?_
      refine g_iload_n h dX6_loanOf_28 rfl ?_
      refine cl6_97 h  (ct_X6_loanPart (i := j) (p := w) (by omega) (by omega)) rfl dX6_loanOf_29 rfl (Nat.le_of_ble_eq_true rfl) (by decide) ?_
      refine g_goto h 37 dX6_loanOf_32 (by decide) ?_
      exact g_iret h hr dX6_loanOf_37 (by first | (simp [mLoanOf, kBad, ix, hij, hiw, c14, c23]; done) | (simp [mLoanOf, kBad, ix, c14, c23]; done) | (simp [mLoanOf, kBad, ix, hij, c14, c23]; done) | (simp_all [mLoanOf, kBad, ix]; done)) (by first | (simp [mLoanOf, ix, hij, hiw, c14, c23]; done) | (simp [mLoanOf, ix, c14, c23]; done) | (simp [mLoanOf, ix, hij, c14, c23]; done) | (simp_all [mLoanOf, ix]; done))
set_option maxRecDepth 100000 in
set_option maxHeartbeats 4000000 in
theorem ct_X6_aliases {l : Launch} {X : fX} {σ : fM} {n m B y : Nat} (g : mG (σ.1 151) n m B y) {v a : Int32} : Ct l X yX6_aliases cX6_aliases 5 (some .int) 4 [ra X 150, .int v, .int a] σ (some (.int (mAliases σ v a).1)) (mAliases σ v a).2 := by
  refine Ct.of RX6 rfl (by decide) (Nat.le_of_ble_eq_true rfl) ?_
  intro x hL h hr
  refine g_sub [(0, ra X 150), (1, .int v), (2, .int a)] ⟨rfl, rfl, rfl, trivial⟩ ?_
  obtain ⟨hn, hn6, hm, hm8⟩ := id g.1
  refine g_aload_n h dX6_aliases_0 rfl ?_
  refine g_iload_n h dX6_aliases_1 rfl ?_
  refine cl6_86 h  (ct_X6_isOracle ) rfl dX6_aliases_2 rfl (Nat.le_of_ble_eq_true rfl) (by decide) ?_
  refine g_ifeqB h 15 dX6_aliases_5 (by decide) (fun c5 => ?_) (fun c5 => ?_)
  · refine g_ldc h (-1000001) (lw_in 696 (by decide +kernel) rfl) dX6_aliases_15 ?_
    exact g_iret h hr dX6_aliases_17 (by first | (simp [mAliases, kBad, kNot, kLim, kNone, ix, hij, c5]; done) | (simp [mAliases, kBad, kNot, kLim, kNone, ix, c5]; done) | (simp_all [mAliases, kBad, kNot, kLim, kNone, ix]; done)) (by first | (simp [mAliases, kBad, kNot, kLim, kNone, ix, hij, c5]; done) | (simp [mAliases, kBad, kNot, kLim, kNone, ix, c5]; done) | (simp_all [mAliases, kBad, kNot, kLim, kNone, ix]; done))
  · obtain ⟨j, hj, rfl⟩ := wi_or (by omega) hn c5
    have hij : (nI j).toNatClampNeg = j := nI_clamp (by omega)
    refine g_iload_n h dX6_aliases_8 rfl ?_
    refine cl6_117 h (ct_X6_isAddress) rfl dX6_aliases_9 rfl (Nat.le_of_ble_eq_true rfl) (by decide) ?_
    refine g_ifneB h 18 dX6_aliases_12 (by decide) (fun c12 => ?_) (fun c12 => ?_)
    · obtain ⟨a, ha63, rfl⟩ := wi_A c12
      have hia : (nI a).toNatClampNeg = a := nI_clamp (by omega)
      refine g_aload_n h dX6_aliases_18 rfl ?_
      refine g_iload_n h dX6_aliases_19 rfl ?_
      refine cl6_50 h  (ct_X6_hasTable (i := j) (by omega)) rfl dX6_aliases_20 rfl (Nat.le_of_ble_eq_true rfl) (by decide) ?_
      refine g_ifneB h 29 dX6_aliases_23 (by decide) (fun c23 => ?_) (fun c23 => ?_)
      · have hT : oTab (mo (σ.1 151) j) = true := c23
        have LOOP : ∀ (q i : Nat), i + q = 64 → G x X σ [(0, ra X 150), (1, .int (nI j)), (2, .int (nI a)), (3, .int (maF (σ.1 151) j a i)), (4, .int (nI i))] [] 34 := by
          intro q
          induction q with
          | zero =>
            intro i hi 
            have hie : i = 64 := by omega
            rw [hie]
            refine g_iload h dX6_aliases_34 rfl ?_
            refine g_bipush (v := 64) h dX6_aliases_36 (by decide) ?_
            refine g_icge h 91 dX6_aliases_38 (by decide) (fun c38 => ?_) (fun c38 => absurd (Int32.le_refl _) c38)
            refine g_iload_n h dX6_aliases_91 rfl ?_
            exact g_iret h hr dX6_aliases_92 (by simp [mAliases, ix, hij, hia, c5, c12, c23]) (by simp [mAliases, ix, hij, hia, c5, c12, c23])
          | succ q ih =>
            intro i hi 
            have hlt : i < 64 := by omega
            refine g_iload h dX6_aliases_34 rfl ?_
            refine g_bipush (v := 64) h dX6_aliases_36 (by decide) ?_
            refine g_icge h 91 dX6_aliases_38 (by decide) (fun c38 => absurd c38 (nI_ge (b := 64) hlt (by decide))) (fun c38 => ?_)
            refine g_iload_n h dX6_aliases_41 rfl ?_
            refine g_aload_n h dX6_aliases_42 rfl ?_
            refine gf6_7 h  dX6_aliases_43 ?_
            refine g_bipush (v := 9) h dX6_aliases_46 (by decide) ?_
            refine g_iload h dX6_aliases_48 rfl ?_
            refine g_iadd h dX6_aliases_50 ?_
            refine g_ialdN h (k := 151) (by decide) (enc_151 X) (nine_add i) (by omega) (by decide) dX6_aliases_51 ?_
            refine g_iconst (v := 1) h dX6_aliases_52 (by decide) ?_
            refine g_icne h 82 dX6_aliases_53 (by decide) (fun c53 => ?_) (fun c53 => ?_)
            · refine g_iconst (v := 0) h dX6_aliases_82 (by decide) ?_
              refine g_iadd h dX6_aliases_83 ?_
              refine g_istore_n h dX6_aliases_84 (by rw [hL]; decide) ?_
              refine g_iincN h dX6_aliases_85 rfl (by rw [hL]; decide) ?_
              refine g_goto h 34 dX6_aliases_88 (by decide) ?_
              refine g_sub [(0, ra X 150), (1, .int (nI j)), (2, .int (nI a)), (3, .int (maF (σ.1 151) j a (i + 1))), (4, .int (nI (i + 1)))] ⟨rfl, rfl, rfl, (congrArg (fun z => some (Value.int z)) (by show _ = sumF _ _ i + _; first | (simp [maF, c38, c53]; done) | (simp_all [maF]; done))), rfl, trivial⟩ ?_
              exact ih (i + 1) (by omega)
            · refine g_iload h dX6_aliases_56 rfl ?_
              refine g_iload_n h dX6_aliases_58 rfl ?_
              refine g_iceq h 82 dX6_aliases_59 (by decide) (fun c59 => ?_) (fun c59 => ?_)
              · refine g_iconst (v := 0) h dX6_aliases_82 (by decide) ?_
                refine g_iadd h dX6_aliases_83 ?_
                refine g_istore_n h dX6_aliases_84 (by rw [hL]; decide) ?_
                refine g_iincN h dX6_aliases_85 rfl (by rw [hL]; decide) ?_
                refine g_goto h 34 dX6_aliases_88 (by decide) ?_
                refine g_sub [(0, ra X 150), (1, .int (nI j)), (2, .int (nI a)), (3, .int (maF (σ.1 151) j a (i + 1))), (4, .int (nI (i + 1)))] ⟨rfl, rfl, rfl, (congrArg (fun z => some (Value.int z)) (by show _ = sumF _ _ i + _; first | (simp [maF, c38, c53, c59]; done) | (simp_all [maF]; done))), rfl, trivial⟩ ?_
                exact ih (i + 1) (by omega)
              · refine g_aload_n h dX6_aliases_62 rfl ?_
                refine g_iload_n h dX6_aliases_63 rfl ?_
                refine g_iload h dX6_aliases_64 rfl ?_
                refine cl6_58 h  (ct_X6_indexOf (i := j) (a := i) (by omega) (by omega) g.2.1 (g.2.2.2.1 j hj).1.2.1 hT) rfl dX6_aliases_66 rfl (Nat.le_of_ble_eq_true rfl) (by decide) ?_
                refine g_aload_n h dX6_aliases_69 rfl ?_
                refine g_iload_n h dX6_aliases_70 rfl ?_
                refine g_iload_n h dX6_aliases_71 rfl ?_
                refine cl6_58 h  (ct_X6_indexOf (i := j) (a := a) (by omega) (by omega) g.2.1 (g.2.2.2.1 j hj).1.2.1 hT) rfl dX6_aliases_72 rfl (Nat.le_of_ble_eq_true rfl) (by decide) ?_
                refine g_icne h 82 dX6_aliases_75 (by decide) (fun c75 => ?_) (fun c75 => ?_)
                · refine g_iconst (v := 0) h dX6_aliases_82 (by decide) ?_
                  refine g_iadd h dX6_aliases_83 ?_
                  refine g_istore_n h dX6_aliases_84 (by rw [hL]; decide) ?_
                  refine g_iincN h dX6_aliases_85 rfl (by rw [hL]; decide) ?_
                  refine g_goto h 34 dX6_aliases_88 (by decide) ?_
                  refine g_sub [(0, ra X 150), (1, .int (nI j)), (2, .int (nI a)), (3, .int (maF (σ.1 151) j a (i + 1))), (4, .int (nI (i + 1)))] ⟨rfl, rfl, rfl, (congrArg (fun z => some (Value.int z)) (by show _ = sumF _ _ i + _; first | (simp [maF, c38, c53, c59, c75]; done) | (simp_all [maF]; done))), rfl, trivial⟩ ?_
                  exact ih (i + 1) (by omega)
                · refine g_iconst (v := 1) h dX6_aliases_78 (by decide) ?_
                  refine g_goto h 83 dX6_aliases_79 (by decide) ?_
                  refine g_iadd h dX6_aliases_83 ?_
                  refine g_istore_n h dX6_aliases_84 (by rw [hL]; decide) ?_
                  refine g_iincN h dX6_aliases_85 rfl (by rw [hL]; decide) ?_
                  refine g_goto h 34 dX6_aliases_88 (by decide) ?_
                  refine g_sub [(0, ra X 150), (1, .int (nI j)), (2, .int (nI a)), (3, .int (maF (σ.1 151) j a (i + 1))), (4, .int (nI (i + 1)))] ⟨rfl, rfl, rfl, (congrArg (fun z => some (Value.int z)) (by show _ = sumF _ _ i + _; first | (simp [maF, c38, c53, c59, c75]; done) | (simp_all [maF]; done))), rfl, trivial⟩ ?_
                  exact ih (i + 1) (by omega)
        refine g_iconst (v := 0) h dX6_aliases_29 (by decide) ?_
        refine g_istore_n h dX6_aliases_30 (by rw [hL]; decide) ?_
        refine g_iconst (v := 0) h dX6_aliases_31 (by decide) ?_
        refine g_istore h dX6_aliases_32 (by rw [hL]; decide) ?_
        refine g_sub [(0, ra X 150), (1, .int (nI j)), (2, .int (nI a)), (3, .int (maF (σ.1 151) j a 0)), (4, .int (nI 0))] ⟨rfl, rfl, rfl, rfl, lk_0, trivial⟩ ?_
        exact LOOP 64 0 (by omega)
      · refine g_ldc h (-1000004) (lw_in 822 (by decide +kernel) rfl) dX6_aliases_26 ?_
        exact g_iret h hr dX6_aliases_28 (by first | (simp [mAliases, kBad, kNot, kLim, kNone, ix, hij, c5, c12, c23]; done) | (simp [mAliases, kBad, kNot, kLim, kNone, ix, c5, c12, c23]; done) | (simp_all [mAliases, kBad, kNot, kLim, kNone, ix]; done)) (by first | (simp [mAliases, kBad, kNot, kLim, kNone, ix, hij, c5, c12, c23]; done) | (simp [mAliases, kBad, kNot, kLim, kNone, ix, c5, c12, c23]; done) | (simp_all [mAliases, kBad, kNot, kLim, kNone, ix]; done))
    · refine g_ldc h (-1000001) (lw_in 696 (by decide +kernel) rfl) dX6_aliases_15 ?_
      exact g_iret h hr dX6_aliases_17 (by first | (simp [mAliases, kBad, kNot, kLim, kNone, ix, hij, c5, c12]; done) | (simp [mAliases, kBad, kNot, kLim, kNone, ix, c5, c12]; done) | (simp_all [mAliases, kBad, kNot, kLim, kNone, ix]; done)) (by first | (simp [mAliases, kBad, kNot, kLim, kNone, ix, hij, c5, c12]; done) | (simp [mAliases, kBad, kNot, kLim, kNone, ix, c5, c12]; done) | (simp_all [mAliases, kBad, kNot, kLim, kNone, ix]; done))
set_option maxRecDepth 100000 in
set_option maxHeartbeats 4000000 in
theorem ct_X6_rich {l : Launch} {X : fX} {σ : fM} {n m : Nat} (hc : mcn (σ.1 151) n m) {p : Int32} : Ct l X yX6_rich cX6_rich 4 (some .int) 2 [ra X 150, .int p] σ (some (.int (mRich σ n p).1)) (mRich σ n p).2 := by
  refine Ct.of RX6 rfl (by decide) (Nat.le_of_ble_eq_true rfl) ?_
  intro x hL h hr
  refine g_sub [(0, ra X 150), (1, .int p)] ⟨rfl, rfl, trivial⟩ ?_
  obtain ⟨hn, hn6, hm, hm8⟩ := id hc
  refine g_iload_n h dX6_rich_0 rfl ?_
  refine g_ifge h 7 dX6_rich_1 (by decide) (fun c1 => ?_) (fun c1 => ?_)
  · have LOOP : ∀ (q i : Nat), i + q = n → G x X σ [(0, ra X 150), (1, .int p), (2, .int (mrF (σ.1 151) n p i)), (3, .int (nI i))] [] 12 := by
      intro q
      induction q with
      | zero =>
        intro i hi 
        have hie : i = n := by omega
        rw [hie]
        refine g_iload_n h dX6_rich_12 rfl ?_
        refine g_aload_n h dX6_rich_13 rfl ?_
        refine gf6_7 h  dX6_rich_14 ?_
        refine g_bipush (v := 7) h dX6_rich_17 (by decide) ?_
        refine g_ialdN h (k := 151) (by decide) (enc_151 X) (show (7 : Int32) = nI 7 by decide) (by decide) (by decide) dX6_rich_19 ?_
        refine g_icge h 44 dX6_rich_20 (by decide) (fun c20 => ?_) (fun c20 => absurd (by rw [hn]; exact Int32.le_refl _) c20)
        refine g_iload_n h dX6_rich_44 rfl ?_
        exact g_iret h hr dX6_rich_45 (by simp [mRich, c1]) (by simp [mRich, c1])
      | succ q ih =>
        intro i hi 
        have hlt : i < n := by omega
        refine g_iload_n h dX6_rich_12 rfl ?_
        refine g_aload_n h dX6_rich_13 rfl ?_
        refine gf6_7 h  dX6_rich_14 ?_
        refine g_bipush (v := 7) h dX6_rich_17 (by decide) ?_
        refine g_ialdN h (k := 151) (by decide) (enc_151 X) (show (7 : Int32) = nI 7 by decide) (by decide) (by decide) dX6_rich_19 ?_
        refine g_icge h 44 dX6_rich_20 (by decide) (fun c20 => absurd c20 (by rw [hn]; exact nI_ge hlt (by omega))) (fun c20 => ?_)
        refine g_aload_n h dX6_rich_23 rfl ?_
        refine g_iload_n h dX6_rich_24 rfl ?_
        refine cl6_137 h  (ct_X6_richer hc hlt) rfl dX6_rich_25 rfl (Nat.le_of_ble_eq_true rfl) (by decide) ?_
        refine g_top (mRi (σ.1 151) n i) rfl ?_
        refine g_iload_n h dX6_rich_28 rfl ?_
        refine g_icne h 36 dX6_rich_29 (by decide) (fun c29 => ?_) (fun c29 => ?_)
        · refine g_iload_n h dX6_rich_36 rfl ?_
          refine g_istore_n h dX6_rich_37 (by rw [hL]; decide) ?_
          refine g_iincN h dX6_rich_38 rfl (by rw [hL]; decide) ?_
          refine g_goto h 12 dX6_rich_41 (by decide) ?_
          refine g_sub [(0, ra X 150), (1, .int p), (2, .int (mrF (σ.1 151) n p (i + 1))), (3, .int (nI (i + 1)))] ⟨rfl, rfl, (congrArg (fun z => some (Value.int z)) (by show _ = (if _ then _ else _); simp [c20, c29])), rfl, trivial⟩ ?_
          exact ih (i + 1) (by omega)
        · refine g_iload_n h dX6_rich_32 rfl ?_
          refine g_goto h 37 dX6_rich_33 (by decide) ?_
          refine g_istore_n h dX6_rich_37 (by rw [hL]; decide) ?_
          refine g_iincN h dX6_rich_38 rfl (by rw [hL]; decide) ?_
          refine g_goto h 12 dX6_rich_41 (by decide) ?_
          refine g_sub [(0, ra X 150), (1, .int p), (2, .int (mrF (σ.1 151) n p (i + 1))), (3, .int (nI (i + 1)))] ⟨rfl, rfl, (congrArg (fun z => some (Value.int z)) (by show _ = (if _ then _ else _); simp [c20, c29])), rfl, trivial⟩ ?_
          exact ih (i + 1) (by omega)
    refine g_ldc h (-1000004) (lw_in 822 (by decide +kernel) rfl) dX6_rich_7 ?_
    refine g_istore_n h dX6_rich_9 (by rw [hL]; decide) ?_
    refine g_iconst (v := 0) h dX6_rich_10 (by decide) ?_
    refine g_istore_n h dX6_rich_11 (by rw [hL]; decide) ?_
    refine g_sub [(0, ra X 150), (1, .int p), (2, .int (mrF (σ.1 151) n p 0)), (3, .int (nI 0))] ⟨rfl, rfl, rfl, lk_0, trivial⟩ ?_
    exact LOOP n 0 (by omega)
  · refine g_ldc h (-1000001) (lw_in 696 (by decide +kernel) rfl) dX6_rich_4 ?_
    exact g_iret h hr dX6_rich_6 (by first | (simp [mRich, kBad, kNot, kLim, kNone, ix, hij, c1]; done) | (simp [mRich, kBad, kNot, kLim, kNone, ix, c1]; done) | (simp_all [mRich, kBad, kNot, kLim, kNone, ix]; done)) (by first | (simp [mRich, kBad, kNot, kLim, kNone, ix, hij, c1]; done) | (simp [mRich, kBad, kNot, kLim, kNone, ix, c1]; done) | (simp_all [mRich, kBad, kNot, kLim, kNone, ix]; done))
set_option maxRecDepth 100000 in
set_option maxHeartbeats 4000000 in
theorem ct_X6_says {l : Launch} {X : fX} {σ : fM} {n m B y : Nat} (g : mG (σ.1 151) n m B y) (hB : B < 2 ^ 24 - 2 ^ 12) (hh : y + 100 < 2 ^ 24) {v a : Int32} : Ct l X yX6_says cX6_says 3 (some .int) 7 [ra X 150, .int v, .int a] σ (some (.int (mSays σ n v a).1)) (mSays σ n v a).2 := by
  refine Ct.of RX6 rfl (by decide) (Nat.le_of_ble_eq_true rfl) ?_
  intro x hL h hr
  refine g_sub [(0, ra X 150), (1, .int v), (2, .int a)] ⟨rfl, rfl, rfl, trivial⟩ ?_
  obtain ⟨hn, hn6, hm, hm8⟩ := id g.1
  refine g_aload_n h dX6_says_0 rfl ?_
  refine g_iload_n h dX6_says_1 rfl ?_
  refine cl6_86 h  (ct_X6_isOracle ) rfl dX6_says_2 rfl (Nat.le_of_ble_eq_true rfl) (by decide) ?_
  refine g_ifeqB h 24 dX6_says_5 (by decide) (fun c5 => ?_) (fun c5 => ?_)
  · refine g_ldc h (-1000001) (lw_in 696 (by decide +kernel) rfl) dX6_says_24 ?_
    exact g_iret h hr dX6_says_26 (by first | (simp [mSays, kBad, ix, hij, hia, c5]; done) | (simp [mSays, kBad, ix, c5]; done) | (simp_all [mSays, kBad, ix]; done)) (by first | (simp [mSays, ix, hij, hia, c5]; done) | (simp [mSays, ix, c5]; done) | (simp_all [mSays, ix]; done))
  · obtain ⟨j, hj, rfl⟩ := wi_or (by omega) hn c5
    have hij : (nI j).toNatClampNeg = j := nI_clamp (by omega)
    refine g_iload_n h dX6_says_8 rfl ?_
    refine cl6_117 h (ct_X6_isAddress) rfl dX6_says_9 rfl (Nat.le_of_ble_eq_true rfl) (by decide) ?_
    refine g_ifeqB h 24 dX6_says_12 (by decide) (fun c12 => ?_) (fun c12 => ?_)
    · refine g_ldc h (-1000001) (lw_in 696 (by decide +kernel) rfl) dX6_says_24 ?_
      exact g_iret h hr dX6_says_26 (by first | (simp [mSays, kBad, ix, hij, hia, c5, c12]; done) | (simp [mSays, kBad, ix, c5, c12]; done) | (simp_all [mSays, kBad, ix]; done)) (by first | (simp [mSays, ix, hij, hia, c5, c12]; done) | (simp [mSays, ix, c5, c12]; done) | (simp_all [mSays, ix]; done))
    · obtain ⟨a, ha63, rfl⟩ := wi_A c12
      have hia : (nI a).toNatClampNeg = a := nI_clamp (by omega)
      refine g_aload_n h dX6_says_15 rfl ?_
      refine g_iload_n h dX6_says_16 rfl ?_
      refine g_iload_n h dX6_says_17 rfl ?_
      refine cl6_104 h  (ct_X6_wordOf (n := n) (m := m) (j := j) (a := a) (g.gd (by omega)) hj (by omega)) rfl dX6_says_18 rfl (Nat.le_of_ble_eq_true rfl) (by decide) ?_
      refine g_goto h 26 dX6_says_21 (by decide) ?_
      exact g_iret h hr dX6_says_26 (by first | (simp [mSays, kBad, ix, hij, hia, c5, c12]; done) | (simp [mSays, kBad, ix, c5, c12]; done) | (simp_all [mSays, kBad, ix]; done)) (by first | (simp [mSays, ix, hij, hia, c5, c12]; done) | (simp [mSays, ix, c5, c12]; done) | (simp_all [mSays, ix]; done))
set_option maxRecDepth 100000 in
set_option maxHeartbeats 4000000 in
theorem ct_X6_stake {l : Launch} {X : fX} {σ : fM} {n m B y : Nat} (g : mG (σ.1 151) n m B y) (hB : B < 2 ^ 24 - 2 ^ 12) (hh : y + 100 < 2 ^ 24) {v a : Int32} : Ct l X yX6_stake cX6_stake 3 (some .int) 7 [ra X 150, .int v, .int a] σ (some (.int (mStake σ v a).1)) (mStake σ v a).2 := by
  refine Ct.of RX6 rfl (by decide) (Nat.le_of_ble_eq_true rfl) ?_
  intro x hL h hr
  refine g_sub [(0, ra X 150), (1, .int v), (2, .int a)] ⟨rfl, rfl, rfl, trivial⟩ ?_
  obtain ⟨hn, hn6, hm, hm8⟩ := id g.1
  refine g_aload_n h dX6_stake_0 rfl ?_
  refine g_iload_n h dX6_stake_1 rfl ?_
  refine cl6_86 h  (ct_X6_isOracle ) rfl dX6_stake_2 rfl (Nat.le_of_ble_eq_true rfl) (by decide) ?_
  refine g_ifeqB h 24 dX6_stake_5 (by decide) (fun c5 => ?_) (fun c5 => ?_)
  · refine g_ldc h (-1000001) (lw_in 696 (by decide +kernel) rfl) dX6_stake_24 ?_
    exact g_iret h hr dX6_stake_26 (by first | (simp [mStake, kBad, ix, hij, hia, c5]; done) | (simp [mStake, kBad, ix, c5]; done) | (simp_all [mStake, kBad, ix]; done)) (by first | (simp [mStake, ix, hij, hia, c5]; done) | (simp [mStake, ix, c5]; done) | (simp_all [mStake, ix]; done))
  · obtain ⟨j, hj, rfl⟩ := wi_or (by omega) hn c5
    have hij : (nI j).toNatClampNeg = j := nI_clamp (by omega)
    refine g_iload_n h dX6_stake_8 rfl ?_
    refine cl6_117 h (ct_X6_isAddress) rfl dX6_stake_9 rfl (Nat.le_of_ble_eq_true rfl) (by decide) ?_
    refine g_ifeqB h 24 dX6_stake_12 (by decide) (fun c12 => ?_) (fun c12 => ?_)
    · refine g_ldc h (-1000001) (lw_in 696 (by decide +kernel) rfl) dX6_stake_24 ?_
      exact g_iret h hr dX6_stake_26 (by first | (simp [mStake, kBad, ix, hij, hia, c5, c12]; done) | (simp [mStake, kBad, ix, c5, c12]; done) | (simp_all [mStake, kBad, ix]; done)) (by first | (simp [mStake, ix, hij, hia, c5, c12]; done) | (simp [mStake, ix, c5, c12]; done) | (simp_all [mStake, ix]; done))
    · obtain ⟨a, ha63, rfl⟩ := wi_A c12
      have hia : (nI a).toNatClampNeg = a := nI_clamp (by omega)
      refine g_aload_n h dX6_stake_15 rfl ?_
      refine g_iload_n h dX6_stake_16 rfl ?_
      refine g_iload_n h dX6_stake_17 rfl ?_
      refine cl6_107 h  (ct_X6_stakeOf (i := j) (a := a) (by omega) (by omega) g.2.1 ((g.gd (by omega)).2.2 j hj)) rfl dX6_stake_18 rfl (Nat.le_of_ble_eq_true rfl) (by decide) ?_
      refine g_goto h 26 dX6_stake_21 (by decide) ?_
      exact g_iret h hr dX6_stake_26 (by first | (simp [mStake, kBad, ix, hij, hia, c5, c12]; done) | (simp [mStake, kBad, ix, c5, c12]; done) | (simp_all [mStake, kBad, ix]; done)) (by first | (simp [mStake, ix, hij, hia, c5, c12]; done) | (simp [mStake, ix, c5, c12]; done) | (simp_all [mStake, ix]; done))
set_option maxRecDepth 100000 in
set_option maxHeartbeats 4000000 in
theorem ct_X6_gain {l : Launch} {X : fX} {σ : fM} {n m B y : Nat} (g : mG (σ.1 151) n m B y) (hB : B < 2 ^ 24 - 2 ^ 12) (hh : y + 100 < 2 ^ 24) {v a k : Int32} : Ct l X yX6_gain cX6_gain 5 (some .int) 8 [ra X 150, .int v, .int a, .int k] σ (some (.int (mGain σ n m v a k).1)) (mGain σ n m v a k).2 := by
  refine Ct.of RX6 rfl (by decide) (Nat.le_of_ble_eq_true rfl) ?_
  intro x hL h hr
  refine g_sub [(0, ra X 150), (1, .int v), (2, .int a), (3, .int k)] ⟨rfl, rfl, rfl, rfl, trivial⟩ ?_
  obtain ⟨hn, hn6, hm, hm8⟩ := id g.1
  refine g_aload_n h dX6_gain_0 rfl ?_
  refine g_iload_n h dX6_gain_1 rfl ?_
  refine cl6_86 h  (ct_X6_isOracle ) rfl dX6_gain_2 rfl (Nat.le_of_ble_eq_true rfl) (by decide) ?_
  refine g_ifeqB h 22 dX6_gain_5 (by decide) (fun c5 => ?_) (fun c5 => ?_)
  · refine g_ldc h (-1000001) (lw_in 696 (by decide +kernel) rfl) dX6_gain_22 ?_
    exact g_iret h hr dX6_gain_24 (by first | (simp [mGain, kBad, ix, hij, hia, c5]; first | done | rfl) | (simp [mGain, kBad, ix, c5]; done) | (simp_all [mGain, kBad, ix]; done)) (by first | (simp [mGain, ix, hij, hia, c5]; first | done | rfl) | (simp [mGain, ix, c5]; done) | (simp_all [mGain, ix]; done))
  · obtain ⟨j, hj, rfl⟩ := wi_or (by omega) hn c5
    have hij : (nI j).toNatClampNeg = j := nI_clamp (by omega)
    refine g_iload_n h dX6_gain_8 rfl ?_
    refine cl6_117 h (ct_X6_isAddress) rfl dX6_gain_9 rfl (Nat.le_of_ble_eq_true rfl) (by decide) ?_
    refine g_ifeqB h 22 dX6_gain_12 (by decide) (fun c12 => ?_) (fun c12 => ?_)
    · refine g_ldc h (-1000001) (lw_in 696 (by decide +kernel) rfl) dX6_gain_22 ?_
      exact g_iret h hr dX6_gain_24 (by first | (simp [mGain, kBad, ix, hij, hia, c5, c12]; first | done | rfl) | (simp [mGain, kBad, ix, c5, c12]; done) | (simp_all [mGain, kBad, ix]; done)) (by first | (simp [mGain, ix, hij, hia, c5, c12]; first | done | rfl) | (simp [mGain, ix, c5, c12]; done) | (simp_all [mGain, ix]; done))
    · obtain ⟨a, ha63, rfl⟩ := wi_A c12
      have hia : (nI a).toNatClampNeg = a := nI_clamp (by omega)
      refine g_iload_n h dX6_gain_15 rfl ?_
      refine cl6_120 h (ct_X6_isTaken) rfl dX6_gain_16 rfl (Nat.le_of_ble_eq_true rfl) (by decide) ?_
      refine g_ifneB h 25 dX6_gain_19 (by decide) (fun c19 => ?_) (fun c19 => ?_)
      · have gk : mG ((kM σ).1 151) n m B y := by rw [kM_151]; exact g
        refine g_aload_n h dX6_gain_25 rfl ?_
        refine gf6_7 h  dX6_gain_26 ?_
        refine g_iconst (v := 0) h dX6_gain_29 (by decide) ?_
        refine g_aload_n h dX6_gain_30 rfl ?_
        refine gf6_13 h  dX6_gain_31 ?_
        refine g_iconst (v := 0) h dX6_gain_34 (by decide) ?_
        refine cl6_38 h (ct_X6_copy (k0 := 151) (k1 := 152) (f := 0) (t := 0) (by decide) (by decide) (enc_151 X) (enc_152 X) (by decide) (by omega) (by omega) (by decide) (by decide)) rfl dX6_gain_35 rfl (Nat.le_of_ble_eq_true rfl) (by decide) ?_
        refine g_mem (kM σ) rfl ?_
        refine g_aload_n h dX6_gain_38 rfl ?_
        refine g_iload_n h dX6_gain_39 rfl ?_
        refine g_iload_n h dX6_gain_40 rfl ?_
        refine cl6_123 h  (ct_X6_comes (n := n) (m := m) (a := a) (gk.gd (by omega)) gk.cr (by omega)) rfl dX6_gain_41 rfl (Nat.le_of_ble_eq_true rfl) (by decide) ?_
        refine g_pop h dX6_gain_44 rfl ?_
        refine g_aload_n h dX6_gain_45 rfl ?_
        refine g_iload_n h dX6_gain_46 rfl ?_
        refine g_iconst (v := 2) h dX6_gain_47 (by decide) ?_
        refine cl6_46 h  (ct_X6_part (i := j) (p := 2) (by omega) (by decide)) rfl dX6_gain_48 rfl (Nat.le_of_ble_eq_true rfl) (by decide) ?_
        refine g_aload_n h dX6_gain_51 rfl ?_
        refine gf6_13 h  dX6_gain_52 ?_
        refine g_bipush (v := 73) h dX6_gain_55 (by decide) ?_
        refine g_bipush (v := 42) h dX6_gain_57 (by decide) ?_
        refine g_iload_n h dX6_gain_59 rfl ?_
        refine g_imul h dX6_gain_60 ?_
        refine g_iadd h dX6_gain_61 ?_
        refine g_iconst (v := 2) h dX6_gain_62 (by decide) ?_
        refine g_iadd h dX6_gain_63 ?_
        refine g_ialdN h (k := 152) (by decide) (enc_152 X) (m_ix j 2) (by omega) (by decide) dX6_gain_64 ?_
        refine g_isub h dX6_gain_65 ?_
        refine g_istore h dX6_gain_66 (by rw [hL]; decide) ?_
        refine g_aload_n h dX6_gain_68 rfl ?_
        refine gf6_13 h  dX6_gain_69 ?_
        refine g_iconst (v := 0) h dX6_gain_72 (by decide) ?_
        refine g_aload_n h dX6_gain_73 rfl ?_
        refine gf6_7 h  dX6_gain_74 ?_
        refine g_iconst (v := 0) h dX6_gain_77 (by decide) ?_
        refine cl6_38 h (ct_X6_copy (k0 := 152) (k1 := 151) (f := 0) (t := 0) (by decide) (by decide) (enc_152 X) (enc_151 X) (by decide) (by omega) (by omega) (by decide) (by decide)) rfl dX6_gain_78 rfl (Nat.le_of_ble_eq_true rfl) (by decide) ?_
        refine g_iload h dX6_gain_81 rfl ?_
        exact g_iret h hr dX6_gain_83 (by first | (simp [mGain, kBad, ix, hij, hia, c5, c12, c19]; first | done | rfl) | (simp [mGain, kBad, ix, c5, c12, c19]; done) | (simp_all [mGain, kBad, ix]; done)) (by first | (simp [mGain, ix, hij, hia, c5, c12, c19]; first | done | rfl) | (simp [mGain, ix, c5, c12, c19]; done) | (simp_all [mGain, ix]; done))
      · refine g_ldc h (-1000001) (lw_in 696 (by decide +kernel) rfl) dX6_gain_22 ?_
        exact g_iret h hr dX6_gain_24 (by first | (simp [mGain, kBad, ix, hij, hia, c5, c12, c19]; first | done | rfl) | (simp [mGain, kBad, ix, c5, c12, c19]; done) | (simp_all [mGain, kBad, ix]; done)) (by first | (simp [mGain, ix, hij, hia, c5, c12, c19]; first | done | rfl) | (simp [mGain, ix, c5, c12, c19]; done) | (simp_all [mGain, ix]; done))
set_option maxRecDepth 100000 in
set_option maxHeartbeats 4000000 in
theorem ct_X6_doom {l : Launch} {X : fX} {σ : fM} {n m B y : Nat} (g : mG (σ.1 151) n m B y) (hB : B < 2 ^ 24 - 2 ^ 12) (hh : y + 100 < 2 ^ 24) {v a k : Int32} : Ct l X yX6_doom cX6_doom 6 (some .int) 8 [ra X 150, .int v, .int a, .int k] σ (some (.int (mDoom σ n m v a k).1)) (mDoom σ n m v a k).2 := by
  refine Ct.of RX6 rfl (by decide) (Nat.le_of_ble_eq_true rfl) ?_
  intro x hL h hr
  refine g_sub [(0, ra X 150), (1, .int v), (2, .int a), (3, .int k)] ⟨rfl, rfl, rfl, rfl, trivial⟩ ?_
  obtain ⟨hn, hn6, hm, hm8⟩ := id g.1
  refine g_aload_n h dX6_doom_0 rfl ?_
  refine g_iload_n h dX6_doom_1 rfl ?_
  refine cl6_86 h  (ct_X6_isOracle ) rfl dX6_doom_2 rfl (Nat.le_of_ble_eq_true rfl) (by decide) ?_
  refine g_ifeqB h 22 dX6_doom_5 (by decide) (fun c5 => ?_) (fun c5 => ?_)
  · refine g_ldc h (-1000001) (lw_in 696 (by decide +kernel) rfl) dX6_doom_22 ?_
    exact g_iret h hr dX6_doom_24 (by first | (simp [mDoom, kBad, ix, c5]; done) | (simp_all [mDoom, kBad, ix]; done)) (by first | (simp [mDoom, ix, c5]; done) | (simp_all [mDoom, ix]; done))
  · obtain ⟨j, hj, rfl⟩ := wi_or (by omega) hn c5
    have hij : (nI j).toNatClampNeg = j := nI_clamp (by omega)
    refine g_iload_n h dX6_doom_8 rfl ?_
    refine cl6_117 h (ct_X6_isAddress) rfl dX6_doom_9 rfl (Nat.le_of_ble_eq_true rfl) (by decide) ?_
    refine g_ifeqB h 22 dX6_doom_12 (by decide) (fun c12 => ?_) (fun c12 => ?_)
    · refine g_ldc h (-1000001) (lw_in 696 (by decide +kernel) rfl) dX6_doom_22 ?_
      exact g_iret h hr dX6_doom_24 (by first | (simp [mDoom, kBad, ix, c5, c12]; done) | (simp_all [mDoom, kBad, ix]; done)) (by first | (simp [mDoom, ix, c5, c12]; done) | (simp_all [mDoom, ix]; done))
    · obtain ⟨a, ha63, rfl⟩ := wi_A c12
      have hia : (nI a).toNatClampNeg = a := nI_clamp (by omega)
      refine g_iload_n h dX6_doom_15 rfl ?_
      refine cl6_120 h (ct_X6_isTaken) rfl dX6_doom_16 rfl (Nat.le_of_ble_eq_true rfl) (by decide) ?_
      refine g_ifneB h 25 dX6_doom_19 (by decide) (fun c19 => ?_) (fun c19 => ?_)
      · have gk : mG ((kM σ).1 151) n m B y := by rw [kM_151]; exact g
        have hk01 := wi01 c19
        have LOOP : ∀ (q i : Nat), i + q = 100 → fstF (mdP (kM σ) n m a j k) i = i → G x X (mdZ (kM σ) n m a k i).1 [(0, ra X 150), (1, .int (nI j)), (2, .int (nI a)), (3, .int k), (4, .int (nI i))] [] 41 := by
          intro q
          induction q with
          | zero =>
            intro i hi hfi
            have hie : i = 100 := by omega
            rw [hie] at hfi ⊢
            have eN : fstF (mdP (kM σ) n m a j k) 100 = 100 := hfi
            refine g_iload h dX6_doom_41 rfl ?_
            refine g_bipush (v := 100) h dX6_doom_43 (by decide) ?_
            refine g_icge h 70 dX6_doom_45 (by decide) (fun c45 => ?_) (fun c45 => absurd (Int32.le_refl _) c45)
            refine g_aload_n h dX6_doom_70 rfl ?_
            refine g_iload_n h dX6_doom_71 rfl ?_
            refine g_iconst (v := 2) h dX6_doom_72 (by decide) ?_
            refine cl6_46 h  (ct_X6_part (i := j) (p := 2) (by omega) (by decide)) rfl dX6_doom_73 rfl (Nat.le_of_ble_eq_true rfl) (by decide) ?_
            refine g_ifne h 84 dX6_doom_76 (by decide) (fun c76 => ?_) (fun c76 => ?_)
            · refine g_ldc h (-1000004) (lw_in 822 (by decide +kernel) rfl) dX6_doom_84 ?_
              refine g_istore h dX6_doom_86 (by rw [hL]; decide) ?_
              refine g_aload_n h dX6_doom_88 rfl ?_
              refine gf6_13 h  dX6_doom_89 ?_
              refine g_iconst (v := 0) h dX6_doom_92 (by decide) ?_
              refine g_aload_n h dX6_doom_93 rfl ?_
              refine gf6_7 h  dX6_doom_94 ?_
              refine g_iconst (v := 0) h dX6_doom_97 (by decide) ?_
              refine cl6_38 h (ct_X6_copy (k0 := 152) (k1 := 151) (f := 0) (t := 0) (by decide) (by decide) (enc_152 X) (enc_151 X) (by decide) (by omega) (by omega) (by decide) (by decide)) rfl dX6_doom_98 rfl (Nat.le_of_ble_eq_true rfl) (by decide) ?_
              refine g_iload h dX6_doom_101 rfl ?_
              exact g_iret h hr dX6_doom_103 (by first | (simp [mDoom, mDoomV, kNone, ix, hij, hia, c5, c12, c19, eN, c45, c76]; done) | (simp_all [mDoom, mDoomV, kNone, ix]; done)) (by simp [mDoom, ix, hij, hia, c5, c12, c19, eN]; rfl)
            · refine g_iload h dX6_doom_79 rfl ?_
              refine g_goto h 86 dX6_doom_81 (by decide) ?_
              refine g_istore h dX6_doom_86 (by rw [hL]; decide) ?_
              refine g_aload_n h dX6_doom_88 rfl ?_
              refine gf6_13 h  dX6_doom_89 ?_
              refine g_iconst (v := 0) h dX6_doom_92 (by decide) ?_
              refine g_aload_n h dX6_doom_93 rfl ?_
              refine gf6_7 h  dX6_doom_94 ?_
              refine g_iconst (v := 0) h dX6_doom_97 (by decide) ?_
              refine cl6_38 h (ct_X6_copy (k0 := 152) (k1 := 151) (f := 0) (t := 0) (by decide) (by decide) (enc_152 X) (enc_151 X) (by decide) (by omega) (by omega) (by decide) (by decide)) rfl dX6_doom_98 rfl (Nat.le_of_ble_eq_true rfl) (by decide) ?_
              refine g_iload h dX6_doom_101 rfl ?_
              exact g_iret h hr dX6_doom_103 (by first | (simp [mDoom, mDoomV, kNone, ix, hij, hia, c5, c12, c19, eN, c45, c76]; done) | (simp_all [mDoom, mDoomV, kNone, ix]; done)) (by simp [mDoom, ix, hij, hia, c5, c12, c19, eN]; rfl)
          | succ q ih =>
            intro i hi hfi
            have hlt : i < 100 := by omega
            have gi := mdZ_G (a := a) (k := k) gk hB (by omega) hk01 hh i (by omega)
            refine g_iload h dX6_doom_41 rfl ?_
            refine g_bipush (v := 100) h dX6_doom_43 (by decide) ?_
            refine g_icge h 70 dX6_doom_45 (by decide) (fun c45 => absurd c45 (nI_ge (b := 100) hlt (by decide))) (fun c45 => ?_)
            refine g_aload_n h dX6_doom_48 rfl ?_
            refine g_iload_n h dX6_doom_49 rfl ?_
            refine g_iconst (v := 2) h dX6_doom_50 (by decide) ?_
            refine cl6_46 h  (ct_X6_part (i := j) (p := 2) (by omega) (by decide)) rfl dX6_doom_51 rfl (Nat.le_of_ble_eq_true rfl) (by decide) ?_
            refine g_ifle h 70 dX6_doom_54 (by decide) (fun c54 => ?_) (fun c54 => ?_)
            · have eN : fstF (mdP (kM σ) n m a j k) 100 = i := fstF_at hfi (by unfold mdP; exact decide_eq_true c54) hlt
              refine g_aload_n h dX6_doom_70 rfl ?_
              refine g_iload_n h dX6_doom_71 rfl ?_
              refine g_iconst (v := 2) h dX6_doom_72 (by decide) ?_
              refine cl6_46 h  (ct_X6_part (i := j) (p := 2) (by omega) (by decide)) rfl dX6_doom_73 rfl (Nat.le_of_ble_eq_true rfl) (by decide) ?_
              refine g_ifne h 84 dX6_doom_76 (by decide) (fun c76 => ?_) (fun c76 => ?_)
              · refine g_ldc h (-1000004) (lw_in 822 (by decide +kernel) rfl) dX6_doom_84 ?_
                refine g_istore h dX6_doom_86 (by rw [hL]; decide) ?_
                refine g_aload_n h dX6_doom_88 rfl ?_
                refine gf6_13 h  dX6_doom_89 ?_
                refine g_iconst (v := 0) h dX6_doom_92 (by decide) ?_
                refine g_aload_n h dX6_doom_93 rfl ?_
                refine gf6_7 h  dX6_doom_94 ?_
                refine g_iconst (v := 0) h dX6_doom_97 (by decide) ?_
                refine cl6_38 h (ct_X6_copy (k0 := 152) (k1 := 151) (f := 0) (t := 0) (by decide) (by decide) (enc_152 X) (enc_151 X) (by decide) (by omega) (by omega) (by decide) (by decide)) rfl dX6_doom_98 rfl (Nat.le_of_ble_eq_true rfl) (by decide) ?_
                refine g_iload h dX6_doom_101 rfl ?_
                exact g_iret h hr dX6_doom_103 (by first | (simp [mDoom, mDoomV, kNone, ix, hij, hia, c5, c12, c19, eN, c45, c54, c76]; done) | (simp_all [mDoom, mDoomV, kNone, ix]; done)) (by simp [mDoom, ix, hij, hia, c5, c12, c19, eN]; rfl)
              · refine g_iload h dX6_doom_79 rfl ?_
                refine g_goto h 86 dX6_doom_81 (by decide) ?_
                refine g_istore h dX6_doom_86 (by rw [hL]; decide) ?_
                refine g_aload_n h dX6_doom_88 rfl ?_
                refine gf6_13 h  dX6_doom_89 ?_
                refine g_iconst (v := 0) h dX6_doom_92 (by decide) ?_
                refine g_aload_n h dX6_doom_93 rfl ?_
                refine gf6_7 h  dX6_doom_94 ?_
                refine g_iconst (v := 0) h dX6_doom_97 (by decide) ?_
                refine cl6_38 h (ct_X6_copy (k0 := 152) (k1 := 151) (f := 0) (t := 0) (by decide) (by decide) (enc_152 X) (enc_151 X) (by decide) (by omega) (by omega) (by decide) (by decide)) rfl dX6_doom_98 rfl (Nat.le_of_ble_eq_true rfl) (by decide) ?_
                refine g_iload h dX6_doom_101 rfl ?_
                exact g_iret h hr dX6_doom_103 (by first | (simp [mDoom, mDoomV, kNone, ix, hij, hia, c5, c12, c19, eN, c45, c54, c76]; done) | (simp_all [mDoom, mDoomV, kNone, ix]; done)) (by simp [mDoom, ix, hij, hia, c5, c12, c19, eN]; rfl)
            · refine g_aload_n h dX6_doom_57 rfl ?_
              refine g_iload_n h dX6_doom_58 rfl ?_
              refine g_iload_n h dX6_doom_59 rfl ?_
              refine cl6_123 h  (ct_X6_comes (n := n) (m := (mdZ (kM σ) n m a k i).2) (a := a) (gi.gd (by omega)) gi.cr (by omega)) rfl dX6_doom_60 rfl (Nat.le_of_ble_eq_true rfl) (by decide) ?_
              refine g_pop h dX6_doom_63 rfl ?_
              refine g_iincN h dX6_doom_64 rfl (by rw [hL]; decide) ?_
              refine g_goto h 41 dX6_doom_67 (by decide) ?_
              refine g_mem (mdZ (kM σ) n m a k (i + 1)).1 rfl ?_
              refine g_sub [(0, ra X 150), (1, .int (nI j)), (2, .int (nI a)), (3, .int k), (4, .int (nI (i + 1)))] ⟨rfl, rfl, rfl, rfl, rfl, trivial⟩ ?_
              exact ih (i + 1) (by omega) (fstF_no hfi (by unfold mdP; rw [decide_eq_false c54]; decide))
        refine g_aload_n h dX6_doom_25 rfl ?_
        refine gf6_7 h  dX6_doom_26 ?_
        refine g_iconst (v := 0) h dX6_doom_29 (by decide) ?_
        refine g_aload_n h dX6_doom_30 rfl ?_
        refine gf6_13 h  dX6_doom_31 ?_
        refine g_iconst (v := 0) h dX6_doom_34 (by decide) ?_
        refine cl6_38 h (ct_X6_copy (k0 := 151) (k1 := 152) (f := 0) (t := 0) (by decide) (by decide) (enc_151 X) (enc_152 X) (by decide) (by omega) (by omega) (by decide) (by decide)) rfl dX6_doom_35 rfl (Nat.le_of_ble_eq_true rfl) (by decide) ?_
        refine g_iconst (v := 0) h dX6_doom_38 (by decide) ?_
        refine g_istore h dX6_doom_39 (by rw [hL]; decide) ?_
        refine g_mem (mdZ (kM σ) n m a k 0).1 rfl ?_
        refine g_sub [(0, ra X 150), (1, .int (nI j)), (2, .int (nI a)), (3, .int k), (4, .int (nI 0))] ⟨rfl, rfl, rfl, rfl, lk_0, trivial⟩ ?_
        exact LOOP 100 0 (by omega) rfl
      · refine g_ldc h (-1000001) (lw_in 696 (by decide +kernel) rfl) dX6_doom_22 ?_
        exact g_iret h hr dX6_doom_24 (by first | (simp [mDoom, kBad, ix, c5, c12, c19]; done) | (simp_all [mDoom, kBad, ix]; done)) (by first | (simp [mDoom, ix, c5, c12, c19]; done) | (simp_all [mDoom, ix]; done))
set_option maxRecDepth 100000 in
set_option maxHeartbeats 4000000 in
theorem ct_X6_bestRow {l : Launch} {X : fX} {σ : fM} {n m B y : Nat} (g : mG (σ.1 151) n m B y) (hB : B < 2 ^ 24 - 2 ^ 12) (hh : y + 100 < 2 ^ 24) {v a t w : Int32} : Ct l X yX6_bestRow cX6_bestRow 9 (some .int) 8 [ra X 150, .int v, .int a, .int t, .int w] σ (some (.int (mBest σ n m v a t w).1)) (mBest σ n m v a t w).2 := by
  refine Ct.of RX6 rfl (by decide) (Nat.le_of_ble_eq_true rfl) ?_
  intro x hL h hr
  refine g_sub [(0, ra X 150), (1, .int v), (2, .int a), (3, .int t), (4, .int w)] ⟨rfl, rfl, rfl, rfl, rfl, trivial⟩ ?_
  obtain ⟨hn, hn6, hm, hm8⟩ := id g.1
  refine g_aload_n h dX6_bestRow_0 rfl ?_
  refine g_iload_n h dX6_bestRow_1 rfl ?_
  refine cl6_86 h  (ct_X6_isOracle ) rfl dX6_bestRow_2 rfl (Nat.le_of_ble_eq_true rfl) (by decide) ?_
  refine g_ifeqB h 34 dX6_bestRow_5 (by decide) (fun c5 => ?_) (fun c5 => ?_)
  · refine g_ldc h (-1000001) (lw_in 696 (by decide +kernel) rfl) dX6_bestRow_34 ?_
    exact g_iret h hr dX6_bestRow_36 (by first | (simp [mBest, kBad, ix, c5]; done) | (simp_all [mBest, kBad, ix]; done)) (by first | (simp [mBest, ix, c5]; done) | (simp_all [mBest, ix]; done))
  · obtain ⟨j, hj, rfl⟩ := wi_or (by omega) hn c5
    have hij : (nI j).toNatClampNeg = j := nI_clamp (by omega)
    refine g_iload_n h dX6_bestRow_8 rfl ?_
    refine cl6_117 h (ct_X6_isAddress) rfl dX6_bestRow_9 rfl (Nat.le_of_ble_eq_true rfl) (by decide) ?_
    refine g_ifeqB h 34 dX6_bestRow_12 (by decide) (fun c12 => ?_) (fun c12 => ?_)
    · refine g_ldc h (-1000001) (lw_in 696 (by decide +kernel) rfl) dX6_bestRow_34 ?_
      exact g_iret h hr dX6_bestRow_36 (by first | (simp [mBest, kBad, ix, c5, c12]; done) | (simp_all [mBest, kBad, ix]; done)) (by first | (simp [mBest, ix, c5, c12]; done) | (simp_all [mBest, ix]; done))
    · obtain ⟨a, ha63, rfl⟩ := wi_A c12
      have hia : (nI a).toNatClampNeg = a := nI_clamp (by omega)
      refine g_iload_n h dX6_bestRow_15 rfl ?_
      refine g_iconst (v := 1) h dX6_bestRow_16 (by decide) ?_
      refine g_iconst (v := 5) h dX6_bestRow_17 (by decide) ?_
      refine cl6_42 h (ct_X6_within) rfl dX6_bestRow_18 rfl (Nat.le_of_ble_eq_true rfl) (by decide) ?_
      refine g_ifeqB h 34 dX6_bestRow_21 (by decide) (fun c21 => ?_) (fun c21 => ?_)
      · refine g_ldc h (-1000001) (lw_in 696 (by decide +kernel) rfl) dX6_bestRow_34 ?_
        exact g_iret h hr dX6_bestRow_36 (by first | (simp [mBest, kBad, ix, c5, c12, c21]; done) | (simp_all [mBest, kBad, ix]; done)) (by first | (simp [mBest, ix, c5, c12, c21]; done) | (simp_all [mBest, ix]; done))
      · obtain ⟨t, ht, rfl⟩ : ∃ q : Nat, q ≤ 5 ∧ t = nI q := wi_ix (n := 5) (by decide) (by decide) (wi_of.mpr ⟨fun q => (wi_of.mp c21).1 (Int32.lt_of_lt_of_le q (by decide)), (wi_of.mp c21).2⟩)
        have hit : (nI t).toNatClampNeg = t := nI_clamp (by omega)
        refine g_iload h dX6_bestRow_24 rfl ?_
        refine g_iconst (v := 0) h dX6_bestRow_26 (by decide) ?_
        refine g_iconst (v := 1) h dX6_bestRow_27 (by decide) ?_
        refine cl6_42 h (ct_X6_within) rfl dX6_bestRow_28 rfl (Nat.le_of_ble_eq_true rfl) (by decide) ?_
        refine g_ifneB h 37 dX6_bestRow_31 (by decide) (fun c31 => ?_) (fun c31 => ?_)
        · have gk : mG ((kM σ).1 151) n m B y := by rw [kM_151]; exact g
          have h32 : 2 ^ t ≤ 2 ^ 5 := Nat.pow_le_pow_right (by decide) ht
          have hkk : ∀ q, q < 349 → (kM σ).1 152 q = (kM σ).1 151 q := fun q hq => by
            rw [kM_151]
            unfold kM
            rw [puR_self]
            unfold mcp
            rw [if_pos (by omega)]
            exact congrArg _ (by omega)
          have LOOP : ∀ (q i : Nat), i + q = (2 ^ t) → G x X (mbrZ (kM σ) n m t a j i).1 [(0, ra X 150), (1, .int (nI j)), (2, .int (nI a)), (3, .int (nI t)), (4, .int w), (5, .int (mbrZ (kM σ) n m t a j i).2.1), (6, .int (mbrZ (kM σ) n m t a j i).2.2), (7, .int (nI i))] [] 59 := by
            intro q
            induction q with
            | zero =>
              intro i hi 
              have hie : i = (2 ^ t) := by omega
              rw [hie]
              refine g_iload h dX6_bestRow_59 rfl ?_
              refine g_iconst (v := 1) h dX6_bestRow_61 (by decide) ?_
              refine g_iload_n h dX6_bestRow_62 rfl ?_
              refine g_ishl h dX6_bestRow_63 ?_
              refine g_icge h 159 dX6_bestRow_64 (by decide) (fun c64 => ?_) (fun c64 => absurd (by rw [shl1 t ht]; exact Int32.le_refl _) c64)
              refine g_iload h dX6_bestRow_159 rfl ?_
              refine g_ifne h 169 dX6_bestRow_161 (by decide) (fun c161 => ?_) (fun c161 => ?_)
              · refine g_iload h dX6_bestRow_169 rfl ?_
                exact g_iret h hr dX6_bestRow_171 (by first | (simp [mBest, ix, hij, hia, hit, c5, c12, c21, c31, c64, c161]; done) | (subst c161; simp [mBest, ix, hij, hia, hit, c5, c12, c21, c31])) (by first | (simp [mBest, ix, hij, hia, hit, c5, c12, c21, c31, c64, c161]; done) | (subst c161; simp [mBest, ix, hij, hia, hit, c5, c12, c21, c31]))
              · refine g_iload h dX6_bestRow_164 rfl ?_
                refine g_goto h 171 dX6_bestRow_166 (by decide) ?_
                exact g_iret h hr dX6_bestRow_171 (by first | (simp [mBest, ix, hij, hia, hit, c5, c12, c21, c31, c64, c161]; done) | (subst c161; simp [mBest, ix, hij, hia, hit, c5, c12, c21, c31])) (by first | (simp [mBest, ix, hij, hia, hit, c5, c12, c21, c31, c64, c161]; done) | (subst c161; simp [mBest, ix, hij, hia, hit, c5, c12, c21, c31]))
            | succ q ih =>
              intro i hi 
              have hlt : i < (2 ^ t) := by omega
              have gi : mG ((mbrZ (kM σ) n m t a j i).1.1 151) n m B y := mG_cg gk (mbrZ_ok hkk i).1
              have LOOPI : ∀ (q u : Nat), u + q = t → G x X (mpbZ (mbrZ (kM σ) n m t a j i).1 n m t a (nI i) u).1 [(0, ra X 150), (1, .int (nI j)), (2, .int (nI a)), (3, .int (nI t)), (4, .int w), (5, .int (mbrZ (kM σ) n m t a j i).2.1), (6, .int (mbrZ (kM σ) n m t a j i).2.2), (7, .int (nI i)), (8, .int (nI (t - u) - 1))] [] 72 := by
                intro q
                induction q with
                | zero =>
                  intro u hu 
                  have hue : u = t := by omega
                  rw [hue]
                  refine g_iload h dX6_bestRow_72 rfl ?_
                  refine g_iflt h 96 dX6_bestRow_74 (by decide) (fun c74 => ?_) (fun c74 => absurd (by rw [Nat.sub_self]; decide) c74)
                  refine g_aload_n h dX6_bestRow_96 rfl ?_
                  refine g_iload_n h dX6_bestRow_97 rfl ?_
                  refine g_iconst (v := 2) h dX6_bestRow_98 (by decide) ?_
                  refine cl6_46 h  (ct_X6_part (i := j) (p := 2) (by omega) (by decide)) rfl dX6_bestRow_99 rfl (Nat.le_of_ble_eq_true rfl) (by decide) ?_
                  refine g_iload h dX6_bestRow_102 rfl ?_
                  refine g_icle h 112 dX6_bestRow_104 (by decide) (fun c104 => ?_) (fun c104 => ?_)
                  · refine g_iload h dX6_bestRow_112 rfl ?_
                    refine g_istore h dX6_bestRow_114 (by rw [hL]; decide) ?_
                    refine g_aload_n h dX6_bestRow_116 rfl ?_
                    refine g_iload_n h dX6_bestRow_117 rfl ?_
                    refine g_iconst (v := 2) h dX6_bestRow_118 (by decide) ?_
                    refine cl6_46 h  (ct_X6_part (i := j) (p := 2) (by omega) (by decide)) rfl dX6_bestRow_119 rfl (Nat.le_of_ble_eq_true rfl) (by decide) ?_
                    refine g_iload h dX6_bestRow_122 rfl ?_
                    refine g_icle h 136 dX6_bestRow_124 (by decide) (fun c124 => ?_) (fun c124 => absurd c104 c124)
                    refine g_iload h dX6_bestRow_136 rfl ?_
                    refine g_istore h dX6_bestRow_138 (by rw [hL]; decide) ?_
                    refine g_aload_n h dX6_bestRow_140 rfl ?_
                    refine gf6_13 h  dX6_bestRow_141 ?_
                    refine g_iconst (v := 0) h dX6_bestRow_144 (by decide) ?_
                    refine g_aload_n h dX6_bestRow_145 rfl ?_
                    refine gf6_7 h  dX6_bestRow_146 ?_
                    refine g_iconst (v := 0) h dX6_bestRow_149 (by decide) ?_
                    refine cl6_38 h (ct_X6_copy (k0 := 152) (k1 := 151) (f := 0) (t := 0) (by decide) (by decide) (enc_152 X) (enc_151 X) (by decide) (by omega) (by omega) (by decide) (by decide)) rfl dX6_bestRow_150 rfl (Nat.le_of_ble_eq_true rfl) (by decide) ?_
                    refine g_iincN h dX6_bestRow_153 rfl (by rw [hL]; decide) ?_
                    refine g_goto h 59 dX6_bestRow_156 (by decide) ?_
                    refine g_mem (mbrZ (kM σ) n m t a j (i + 1)).1 (by rw [mbrZ_s]; rfl) ?_
                    refine g_sub [(0, ra X 150), (1, .int (nI j)), (2, .int (nI a)), (3, .int (nI t)), (4, .int w), (5, .int (mbrZ (kM σ) n m t a j (i + 1)).2.1), (6, .int (mbrZ (kM σ) n m t a j (i + 1)).2.2), (7, .int (nI (i + 1)))] ⟨rfl, rfl, rfl, rfl, rfl, (congrArg (fun z => some (Value.int z)) (by rw [mbrZ_s]; show _ = (if _ ≤ _ then _ else _); simp [c74, c104, c124])), (congrArg (fun z => some (Value.int z)) (by rw [mbrZ_s]; show _ = (if _ ≤ _ then _ else _); simp [c74, c104, c124])), rfl, trivial⟩ ?_
                    exact ih (i + 1) (by omega)
                  · refine g_iload h dX6_bestRow_107 rfl ?_
                    refine g_goto h 114 dX6_bestRow_109 (by decide) ?_
                    refine g_istore h dX6_bestRow_114 (by rw [hL]; decide) ?_
                    refine g_aload_n h dX6_bestRow_116 rfl ?_
                    refine g_iload_n h dX6_bestRow_117 rfl ?_
                    refine g_iconst (v := 2) h dX6_bestRow_118 (by decide) ?_
                    refine cl6_46 h  (ct_X6_part (i := j) (p := 2) (by omega) (by decide)) rfl dX6_bestRow_119 rfl (Nat.le_of_ble_eq_true rfl) (by decide) ?_
                    refine g_iload h dX6_bestRow_122 rfl ?_
                    refine g_icle h 136 dX6_bestRow_124 (by decide) (fun c124 => absurd c124 c104) (fun c124 => ?_)
                    refine g_aload_n h dX6_bestRow_127 rfl ?_
                    refine g_iload_n h dX6_bestRow_128 rfl ?_
                    refine g_iconst (v := 2) h dX6_bestRow_129 (by decide) ?_
                    refine cl6_46 h  (ct_X6_part (i := j) (p := 2) (by omega) (by decide)) rfl dX6_bestRow_130 rfl (Nat.le_of_ble_eq_true rfl) (by decide) ?_
                    refine g_goto h 138 dX6_bestRow_133 (by decide) ?_
                    refine g_istore h dX6_bestRow_138 (by rw [hL]; decide) ?_
                    refine g_aload_n h dX6_bestRow_140 rfl ?_
                    refine gf6_13 h  dX6_bestRow_141 ?_
                    refine g_iconst (v := 0) h dX6_bestRow_144 (by decide) ?_
                    refine g_aload_n h dX6_bestRow_145 rfl ?_
                    refine gf6_7 h  dX6_bestRow_146 ?_
                    refine g_iconst (v := 0) h dX6_bestRow_149 (by decide) ?_
                    refine cl6_38 h (ct_X6_copy (k0 := 152) (k1 := 151) (f := 0) (t := 0) (by decide) (by decide) (enc_152 X) (enc_151 X) (by decide) (by omega) (by omega) (by decide) (by decide)) rfl dX6_bestRow_150 rfl (Nat.le_of_ble_eq_true rfl) (by decide) ?_
                    refine g_iincN h dX6_bestRow_153 rfl (by rw [hL]; decide) ?_
                    refine g_goto h 59 dX6_bestRow_156 (by decide) ?_
                    refine g_mem (mbrZ (kM σ) n m t a j (i + 1)).1 (by rw [mbrZ_s]; rfl) ?_
                    refine g_sub [(0, ra X 150), (1, .int (nI j)), (2, .int (nI a)), (3, .int (nI t)), (4, .int w), (5, .int (mbrZ (kM σ) n m t a j (i + 1)).2.1), (6, .int (mbrZ (kM σ) n m t a j (i + 1)).2.2), (7, .int (nI (i + 1)))] ⟨rfl, rfl, rfl, rfl, rfl, (congrArg (fun z => some (Value.int z)) (by rw [mbrZ_s]; show _ = (if _ ≤ _ then _ else _); simp [c74, c104, c124])), (congrArg (fun z => some (Value.int z)) (by rw [mbrZ_s]; show _ = (if _ ≤ _ then _ else _); simp [c74, c104, c124])), rfl, trivial⟩ ?_
                    exact ih (i + 1) (by omega)
                | succ q ihu =>
                  intro u hu 
                  have hut : u < t := by omega
                  have gu := mpbZ_G (t := t) (r := nI i) gi hB (show a < 64 by omega) hh u (by omega)
                  have ey : t - u = (t - 1 - u) + 1 := by omega
                  refine g_iload h dX6_bestRow_72 rfl ?_
                  refine g_iflt h 96 dX6_bestRow_74 (by decide) (fun c74 => absurd c74 (by rw [ey, nI_pred]; exact nI_pos (by omega))) (fun c74 => ?_)
                  refine g_aload_n h dX6_bestRow_77 rfl ?_
                  refine g_iload_n h dX6_bestRow_78 rfl ?_
                  refine g_iload h dX6_bestRow_79 rfl ?_
                  refine g_iload h dX6_bestRow_81 rfl ?_
                  refine g_ishr h dX6_bestRow_83 ?_
                  refine g_iconst (v := 1) h dX6_bestRow_84 (by decide) ?_
                  refine g_iand h dX6_bestRow_85 ?_
                  refine cl6_123 h  (ct_X6_comes (n := n) (m := (mpbZ (mbrZ (kM σ) n m t a j i).1 n m t a (nI i) u).2) (a := a) (gu.gd (by omega)) gu.cr (by omega)) rfl dX6_bestRow_86 rfl (Nat.le_of_ble_eq_true rfl) (by decide) ?_
                  refine g_pop h dX6_bestRow_89 rfl ?_
                  refine g_iinc h dX6_bestRow_90 rfl (by rw [hL]; decide) ?_
                  refine g_goto h 72 dX6_bestRow_93 (by decide) ?_
                  refine g_mem (mpbZ (mbrZ (kM σ) n m t a j i).1 n m t a (nI i) (u + 1)).1 (by rw [ey, nI_pred]; rfl) ?_
                  refine g_sub [(0, ra X 150), (1, .int (nI j)), (2, .int (nI a)), (3, .int (nI t)), (4, .int w), (5, .int (mbrZ (kM σ) n m t a j i).2.1), (6, .int (mbrZ (kM σ) n m t a j i).2.2), (7, .int (nI i)), (8, .int (nI (t - (u + 1)) - 1))] ⟨rfl, rfl, rfl, rfl, rfl, rfl, rfl, rfl, (congrArg (fun z => some (Value.int z)) (by rw [ey, nI_pred, show t - (u + 1) = t - 1 - u by omega]; exact nI_m1 _)), trivial⟩ ?_
                  exact ihu (u + 1) (by omega)
              refine g_iload h dX6_bestRow_59 rfl ?_
              refine g_iconst (v := 1) h dX6_bestRow_61 (by decide) ?_
              refine g_iload_n h dX6_bestRow_62 rfl ?_
              refine g_ishl h dX6_bestRow_63 ?_
              refine g_icge h 159 dX6_bestRow_64 (by decide) (fun c64 => absurd c64 (by rw [shl1 t ht]; exact nI_ge hlt (by omega))) (fun c64 => ?_)
              refine g_iload_n h dX6_bestRow_67 rfl ?_
              refine g_iconst (v := 1) h dX6_bestRow_68 (by decide) ?_
              refine g_isub h dX6_bestRow_69 ?_
              refine g_istore h dX6_bestRow_70 (by rw [hL]; decide) ?_
              refine g_mem (mpbZ (mbrZ (kM σ) n m t a j i).1 n m t a (nI i) 0).1 rfl ?_
              refine g_sub [(0, ra X 150), (1, .int (nI j)), (2, .int (nI a)), (3, .int (nI t)), (4, .int w), (5, .int (mbrZ (kM σ) n m t a j i).2.1), (6, .int (mbrZ (kM σ) n m t a j i).2.2), (7, .int (nI i)), (8, .int (nI (t - 0) - 1))] ⟨rfl, rfl, rfl, rfl, rfl, rfl, rfl, rfl, rfl, trivial⟩ ?_
              exact LOOPI t 0 (by omega)
          refine g_aload_n h dX6_bestRow_37 rfl ?_
          refine gf6_7 h  dX6_bestRow_38 ?_
          refine g_iconst (v := 0) h dX6_bestRow_41 (by decide) ?_
          refine g_aload_n h dX6_bestRow_42 rfl ?_
          refine gf6_13 h  dX6_bestRow_43 ?_
          refine g_iconst (v := 0) h dX6_bestRow_46 (by decide) ?_
          refine cl6_38 h (ct_X6_copy (k0 := 151) (k1 := 152) (f := 0) (t := 0) (by decide) (by decide) (enc_151 X) (enc_152 X) (by decide) (by omega) (by omega) (by decide) (by decide)) rfl dX6_bestRow_47 rfl (Nat.le_of_ble_eq_true rfl) (by decide) ?_
          refine g_iconst (v := 0) h dX6_bestRow_50 (by decide) ?_
          refine g_istore h dX6_bestRow_51 (by rw [hL]; decide) ?_
          refine g_iconst (v := (-1)) h dX6_bestRow_53 (by decide) ?_
          refine g_istore h dX6_bestRow_54 (by rw [hL]; decide) ?_
          refine g_iconst (v := 0) h dX6_bestRow_56 (by decide) ?_
          refine g_istore h dX6_bestRow_57 (by rw [hL]; decide) ?_
          refine g_mem (mbrZ (kM σ) n m t a j 0).1 rfl ?_
          refine g_sub [(0, ra X 150), (1, .int (nI j)), (2, .int (nI a)), (3, .int (nI t)), (4, .int w), (5, .int (mbrZ (kM σ) n m t a j 0).2.1), (6, .int (mbrZ (kM σ) n m t a j 0).2.2), (7, .int (nI 0))] ⟨rfl, rfl, rfl, rfl, rfl, rfl, rfl, lk_0, trivial⟩ ?_
          exact LOOP (2 ^ t) 0 (by omega)
        · refine g_ldc h (-1000001) (lw_in 696 (by decide +kernel) rfl) dX6_bestRow_34 ?_
          exact g_iret h hr dX6_bestRow_36 (by first | (simp [mBest, kBad, ix, c5, c12, c21, c31]; done) | (simp_all [mBest, kBad, ix]; done)) (by first | (simp [mBest, ix, c5, c12, c21, c31]; done) | (simp_all [mBest, ix]; done))
set_option maxRecDepth 100000 in
set_option maxHeartbeats 4000000 in
theorem ct_X6_count {l : Launch} {X : fX} {σ : fM} {n m : Nat} (hc : mcn (σ.1 151) n m) {w : Int32} : Ct l X yX6_count cX6_count 6 (some .int) 2 [ra X 150, .int w] σ (some (.int (mCount σ n w).1)) (mCount σ n w).2 := by
  refine Ct.of RX6 rfl (by decide) (Nat.le_of_ble_eq_true rfl) ?_
  intro x hL h hr
  refine g_sub [(0, ra X 150), (1, .int w)] ⟨rfl, rfl, trivial⟩ ?_
  obtain ⟨hn, hn6, hm, hm8⟩ := id hc
  have LOOP : ∀ (q i : Nat), i + q = n → G x X σ [(0, ra X 150), (1, .int w), (2, .int (mseF (σ.1 151) i)), (3, .int (mruF (σ.1 151) i)), (4, .int (mcoF (σ.1 151) i)), (5, .int (nI i))] [] 15 := by
    intro q
    induction q with
    | zero =>
      intro i hi 
      have hie : i = n := by omega
      rw [hie]
      refine g_iload h dX6_count_15 rfl ?_
      refine g_aload_n h dX6_count_17 rfl ?_
      refine gf6_7 h  dX6_count_18 ?_
      refine g_bipush (v := 7) h dX6_count_21 (by decide) ?_
      refine g_ialdN h (k := 151) (by decide) (enc_151 X) (show (7 : Int32) = nI 7 by decide) (by decide) (by decide) dX6_count_23 ?_
      refine g_icge h 80 dX6_count_24 (by decide) (fun c24 => ?_) (fun c24 => absurd (by rw [hn]; exact Int32.le_refl _) c24)
      refine g_iload_n h dX6_count_80 rfl ?_
      by_cases c22 : wi w 0 22 = true
      · obtain ⟨w, hw, rfl⟩ := wi_ix (n := 22) (by decide) (by decide) c22
        have hiw : (nI w).toNatClampNeg = w := nI_clamp (by omega)
        rcases (show w = 0 ∨ w = 1 ∨ w = 2 ∨ w = 3 ∨ w = 4 ∨ w = 5 ∨ w = 6 ∨ w = 7 ∨ w = 8 ∨ w = 9 ∨ w = 10 ∨ w = 11 ∨ w = 12 ∨ w = 13 ∨ w = 14 ∨ w = 15 ∨ w = 16 ∨ w = 17 ∨ w = 18 ∨ w = 19 ∨ w = 20 ∨ w = 21 ∨ w = 22 by omega) with rfl | rfl | rfl | rfl | rfl | rfl | rfl | rfl | rfl | rfl | rfl | rfl | rfl | rfl | rfl | rfl | rfl | rfl | rfl | rfl | rfl | rfl | rfl
        · refine g_tsIn h 188 dX6_count_81 (by decide) (by decide) (by rfl) (by decide) ?_
          refine g_aload_n h dX6_count_188 rfl ?_
          refine gf6_7 h  dX6_count_189 ?_
          refine g_bipush (v := 7) h dX6_count_192 (by decide) ?_
          refine g_ialdN h (k := 151) (by decide) (enc_151 X) (show (7 : Int32) = nI 7 by decide) (by decide) (by decide) dX6_count_194 ?_
          exact g_iret h hr dX6_count_195 (by simp [mCount, kBad, ix, hiw, c22]) rfl
        · refine g_tsIn h 196 dX6_count_81 (by decide) (by decide) (by rfl) (by decide) ?_
          refine g_iload_n h dX6_count_196 rfl ?_
          exact g_iret h hr dX6_count_197 (by simp [mCount, kBad, ix, hiw, c22]) rfl
        · refine g_tsIn h 198 dX6_count_81 (by decide) (by decide) (by rfl) (by decide) ?_
          refine g_iload_n h dX6_count_198 rfl ?_
          exact g_iret h hr dX6_count_199 (by simp [mCount, kBad, ix, hiw, c22]) rfl
        · refine g_tsIn h 200 dX6_count_81 (by decide) (by decide) (by rfl) (by decide) ?_
          refine g_aload_n h dX6_count_200 rfl ?_
          refine gf6_7 h  dX6_count_201 ?_
          refine g_iconst (v := 4) h dX6_count_204 (by decide) ?_
          refine g_ialdN h (k := 151) (by decide) (enc_151 X) (show (4 : Int32) = nI 4 by decide) (by decide) (by decide) dX6_count_205 ?_
          exact g_iret h hr dX6_count_206 (by simp [mCount, kBad, ix, hiw, c22]) rfl
        · refine g_tsIn h 207 dX6_count_81 (by decide) (by decide) (by rfl) (by decide) ?_
          refine g_iload h dX6_count_207 rfl ?_
          exact g_iret h hr dX6_count_209 (by simp [mCount, kBad, ix, hiw, c22]) rfl
        · refine g_tsIn h 210 dX6_count_81 (by decide) (by decide) (by rfl) (by decide) ?_
          refine g_aload_n h dX6_count_210 rfl ?_
          refine gf6_7 h  dX6_count_211 ?_
          refine g_iconst (v := 3) h dX6_count_214 (by decide) ?_
          refine g_ialdN h (k := 151) (by decide) (enc_151 X) (show (3 : Int32) = nI 3 by decide) (by decide) (by decide) dX6_count_215 ?_
          exact g_iret h hr dX6_count_216 (by simp [mCount, kBad, ix, hiw, c22]) rfl
        · refine g_tsIn h 217 dX6_count_81 (by decide) (by decide) (by rfl) (by decide) ?_
          refine g_aload_n h dX6_count_217 rfl ?_
          refine gf6_7 h  dX6_count_218 ?_
          refine g_iconst (v := 5) h dX6_count_221 (by decide) ?_
          refine g_ialdN h (k := 151) (by decide) (enc_151 X) (show (5 : Int32) = nI 5 by decide) (by decide) (by decide) dX6_count_222 ?_
          exact g_iret h hr dX6_count_223 (by simp [mCount, kBad, ix, hiw, c22]) rfl
        · refine g_tsIn h 224 dX6_count_81 (by decide) (by decide) (by rfl) (by decide) ?_
          refine g_aload_n h dX6_count_224 rfl ?_
          refine gf6_7 h  dX6_count_225 ?_
          refine g_bipush (v := 6) h dX6_count_228 (by decide) ?_
          refine g_ialdN h (k := 151) (by decide) (enc_151 X) (show (6 : Int32) = nI 6 by decide) (by decide) (by decide) dX6_count_230 ?_
          exact g_iret h hr dX6_count_231 (by simp [mCount, kBad, ix, hiw, c22]) rfl
        · refine g_tsIn h 232 dX6_count_81 (by decide) (by decide) (by rfl) (by decide) ?_
          refine g_aload_n h dX6_count_232 rfl ?_
          refine gf6_7 h  dX6_count_233 ?_
          refine g_bipush (v := 8) h dX6_count_236 (by decide) ?_
          refine g_ialdN h (k := 151) (by decide) (enc_151 X) (show (8 : Int32) = nI 8 by decide) (by decide) (by decide) dX6_count_238 ?_
          exact g_iret h hr dX6_count_239 (by simp [mCount, kBad, ix, hiw, c22]) rfl
        · refine g_tsIn h 240 dX6_count_81 (by decide) (by decide) (by rfl) (by decide) ?_
          refine g_aload_n h dX6_count_240 rfl ?_
          refine gf6_34 h  dX6_count_241 ?_
          exact g_iret h hr dX6_count_244 (by simp [mCount, kBad, ix, hiw, c22]) rfl
        · refine g_tsIn h 245 dX6_count_81 (by decide) (by decide) (by rfl) (by decide) ?_
          refine g_aload_n h dX6_count_245 rfl ?_
          refine gf6_140 h  dX6_count_246 ?_
          exact g_iret h hr dX6_count_249 (by simp [mCount, kBad, ix, hiw, c22]) rfl
        · refine g_tsIn h 262 dX6_count_81 (by decide) (by decide) (by rfl) (by decide) ?_
          refine g_ldc h (-1000001) (lw_in 696 (by decide +kernel) rfl) dX6_count_262 ?_
          exact g_iret h hr dX6_count_264 (by simp [mCount, kBad, ix, hiw, c22]) rfl
        · refine g_tsIn h 262 dX6_count_81 (by decide) (by decide) (by rfl) (by decide) ?_
          refine g_ldc h (-1000001) (lw_in 696 (by decide +kernel) rfl) dX6_count_262 ?_
          exact g_iret h hr dX6_count_264 (by simp [mCount, kBad, ix, hiw, c22]) rfl
        · refine g_tsIn h 262 dX6_count_81 (by decide) (by decide) (by rfl) (by decide) ?_
          refine g_ldc h (-1000001) (lw_in 696 (by decide +kernel) rfl) dX6_count_262 ?_
          exact g_iret h hr dX6_count_264 (by simp [mCount, kBad, ix, hiw, c22]) rfl
        · refine g_tsIn h 262 dX6_count_81 (by decide) (by decide) (by rfl) (by decide) ?_
          refine g_ldc h (-1000001) (lw_in 696 (by decide +kernel) rfl) dX6_count_262 ?_
          exact g_iret h hr dX6_count_264 (by simp [mCount, kBad, ix, hiw, c22]) rfl
        · refine g_tsIn h 262 dX6_count_81 (by decide) (by decide) (by rfl) (by decide) ?_
          refine g_ldc h (-1000001) (lw_in 696 (by decide +kernel) rfl) dX6_count_262 ?_
          exact g_iret h hr dX6_count_264 (by simp [mCount, kBad, ix, hiw, c22]) rfl
        · refine g_tsIn h 262 dX6_count_81 (by decide) (by decide) (by rfl) (by decide) ?_
          refine g_ldc h (-1000001) (lw_in 696 (by decide +kernel) rfl) dX6_count_262 ?_
          exact g_iret h hr dX6_count_264 (by simp [mCount, kBad, ix, hiw, c22]) rfl
        · refine g_tsIn h 262 dX6_count_81 (by decide) (by decide) (by rfl) (by decide) ?_
          refine g_ldc h (-1000001) (lw_in 696 (by decide +kernel) rfl) dX6_count_262 ?_
          exact g_iret h hr dX6_count_264 (by simp [mCount, kBad, ix, hiw, c22]) rfl
        · refine g_tsIn h 262 dX6_count_81 (by decide) (by decide) (by rfl) (by decide) ?_
          refine g_ldc h (-1000001) (lw_in 696 (by decide +kernel) rfl) dX6_count_262 ?_
          exact g_iret h hr dX6_count_264 (by simp [mCount, kBad, ix, hiw, c22]) rfl
        · refine g_tsIn h 262 dX6_count_81 (by decide) (by decide) (by rfl) (by decide) ?_
          refine g_ldc h (-1000001) (lw_in 696 (by decide +kernel) rfl) dX6_count_262 ?_
          exact g_iret h hr dX6_count_264 (by simp [mCount, kBad, ix, hiw, c22]) rfl
        · refine g_tsIn h 250 dX6_count_81 (by decide) (by decide) (by rfl) (by decide) ?_
          refine g_aload_n h dX6_count_250 rfl ?_
          refine gf6_7 h  dX6_count_251 ?_
          refine g_iconst (v := 0) h dX6_count_254 (by decide) ?_
          refine g_iload_n h dX6_count_255 rfl ?_
          refine g_iadd h dX6_count_256 ?_
          refine g_bipush (v := 20) h dX6_count_257 (by decide) ?_
          refine g_isub h dX6_count_259 ?_
          refine g_ialdN h (k := 151) (by decide) (enc_151 X) (show (0 : Int32) + nI 20 - 20 = nI 0 by decide) (by decide) (by decide) dX6_count_260 ?_
          exact g_iret h hr dX6_count_261 (by simp [mCount, kBad, ix, hiw, c22]) rfl
        · refine g_tsIn h 250 dX6_count_81 (by decide) (by decide) (by rfl) (by decide) ?_
          refine g_aload_n h dX6_count_250 rfl ?_
          refine gf6_7 h  dX6_count_251 ?_
          refine g_iconst (v := 0) h dX6_count_254 (by decide) ?_
          refine g_iload_n h dX6_count_255 rfl ?_
          refine g_iadd h dX6_count_256 ?_
          refine g_bipush (v := 20) h dX6_count_257 (by decide) ?_
          refine g_isub h dX6_count_259 ?_
          refine g_ialdN h (k := 151) (by decide) (enc_151 X) (show (0 : Int32) + nI 21 - 20 = nI 1 by decide) (by decide) (by decide) dX6_count_260 ?_
          exact g_iret h hr dX6_count_261 (by simp [mCount, kBad, ix, hiw, c22]) rfl
        · refine g_tsIn h 250 dX6_count_81 (by decide) (by decide) (by rfl) (by decide) ?_
          refine g_aload_n h dX6_count_250 rfl ?_
          refine gf6_7 h  dX6_count_251 ?_
          refine g_iconst (v := 0) h dX6_count_254 (by decide) ?_
          refine g_iload_n h dX6_count_255 rfl ?_
          refine g_iadd h dX6_count_256 ?_
          refine g_bipush (v := 20) h dX6_count_257 (by decide) ?_
          refine g_isub h dX6_count_259 ?_
          refine g_ialdN h (k := 151) (by decide) (enc_151 X) (show (0 : Int32) + nI 22 - 20 = nI 2 by decide) (by decide) (by decide) dX6_count_260 ?_
          exact g_iret h hr dX6_count_261 (by simp [mCount, kBad, ix, hiw, c22]) rfl
      · refine g_tsOut h 262 dX6_count_81 (wi_out22 (by simpa using c22)) (by decide) ?_
        refine g_ldc h (-1000001) (lw_in 696 (by decide +kernel) rfl) dX6_count_262 ?_
        exact g_iret h hr dX6_count_264 (by simp [mCount, kBad, c22]) rfl
    | succ q ih =>
      intro i hi 
      have hlt : i < n := by omega
      refine g_iload h dX6_count_15 rfl ?_
      refine g_aload_n h dX6_count_17 rfl ?_
      refine gf6_7 h  dX6_count_18 ?_
      refine g_bipush (v := 7) h dX6_count_21 (by decide) ?_
      refine g_ialdN h (k := 151) (by decide) (enc_151 X) (show (7 : Int32) = nI 7 by decide) (by decide) (by decide) dX6_count_23 ?_
      refine g_icge h 80 dX6_count_24 (by decide) (fun c24 => absurd c24 (by rw [hn]; exact nI_ge hlt (by omega))) (fun c24 => ?_)
      refine g_iload_n h dX6_count_27 rfl ?_
      refine g_aload_n h dX6_count_28 rfl ?_
      refine g_iload h dX6_count_29 rfl ?_
      refine cl6_61 h  (ct_X6_hasSeat (i := i) (by omega)) rfl dX6_count_31 rfl (Nat.le_of_ble_eq_true rfl) (by decide) ?_
      refine g_ifeqB h 41 dX6_count_34 (by decide) (fun c34 => ?_) (fun c34 => ?_)
      · refine g_iconst (v := 0) h dX6_count_41 (by decide) ?_
        refine g_iadd h dX6_count_42 ?_
        refine g_istore_n h dX6_count_43 (by rw [hL]; decide) ?_
        refine g_iload_n h dX6_count_44 rfl ?_
        refine g_aload_n h dX6_count_45 rfl ?_
        refine g_iload h dX6_count_46 rfl ?_
        refine g_iconst (v := 2) h dX6_count_48 (by decide) ?_
        refine cl6_46 h  (ct_X6_part (i := i) (p := 2) (by omega) (by decide)) rfl dX6_count_49 rfl (Nat.le_of_ble_eq_true rfl) (by decide) ?_
        refine g_ifne h 59 dX6_count_52 (by decide) (fun c52 => ?_) (fun c52 => ?_)
        · refine g_iconst (v := 0) h dX6_count_59 (by decide) ?_
          refine g_iadd h dX6_count_60 ?_
          refine g_istore_n h dX6_count_61 (by rw [hL]; decide) ?_
          refine g_iload h dX6_count_62 rfl ?_
          refine g_aload_n h dX6_count_64 rfl ?_
          refine g_iload h dX6_count_65 rfl ?_
          refine g_iconst (v := 2) h dX6_count_67 (by decide) ?_
          refine cl6_46 h  (ct_X6_part (i := i) (p := 2) (by omega) (by decide)) rfl dX6_count_68 rfl (Nat.le_of_ble_eq_true rfl) (by decide) ?_
          refine g_iadd h dX6_count_71 ?_
          refine g_istore h dX6_count_72 (by rw [hL]; decide) ?_
          refine g_iincN h dX6_count_74 rfl (by rw [hL]; decide) ?_
          refine g_goto h 15 dX6_count_77 (by decide) ?_
          refine g_sub [(0, ra X 150), (1, .int w), (2, .int (mseF (σ.1 151) (i + 1))), (3, .int (mruF (σ.1 151) (i + 1))), (4, .int (mcoF (σ.1 151) (i + 1))), (5, .int (nI (i + 1)))] ⟨rfl, rfl, (congrArg (fun z => some (Value.int z)) (by show _ = sumF _ _ i + _; first | (simp [mseF, mruF, mcoF, c24, c34, c52]; done) | (simp_all [mseF, mruF, mcoF]; done))), (congrArg (fun z => some (Value.int z)) (by show _ = sumF _ _ i + _; first | (simp [mseF, mruF, mcoF, c24, c34, c52]; done) | (simp_all [mseF, mruF, mcoF]; done))), (congrArg (fun z => some (Value.int z)) (by show _ = sumF _ _ i + _; first | (simp [mseF, mruF, mcoF, c24, c34, c52]; done) | (simp_all [mseF, mruF, mcoF]; done))), rfl, trivial⟩ ?_
          exact ih (i + 1) (by omega)
        · refine g_iconst (v := 1) h dX6_count_55 (by decide) ?_
          refine g_goto h 60 dX6_count_56 (by decide) ?_
          refine g_iadd h dX6_count_60 ?_
          refine g_istore_n h dX6_count_61 (by rw [hL]; decide) ?_
          refine g_iload h dX6_count_62 rfl ?_
          refine g_aload_n h dX6_count_64 rfl ?_
          refine g_iload h dX6_count_65 rfl ?_
          refine g_iconst (v := 2) h dX6_count_67 (by decide) ?_
          refine cl6_46 h  (ct_X6_part (i := i) (p := 2) (by omega) (by decide)) rfl dX6_count_68 rfl (Nat.le_of_ble_eq_true rfl) (by decide) ?_
          refine g_iadd h dX6_count_71 ?_
          refine g_istore h dX6_count_72 (by rw [hL]; decide) ?_
          refine g_iincN h dX6_count_74 rfl (by rw [hL]; decide) ?_
          refine g_goto h 15 dX6_count_77 (by decide) ?_
          refine g_sub [(0, ra X 150), (1, .int w), (2, .int (mseF (σ.1 151) (i + 1))), (3, .int (mruF (σ.1 151) (i + 1))), (4, .int (mcoF (σ.1 151) (i + 1))), (5, .int (nI (i + 1)))] ⟨rfl, rfl, (congrArg (fun z => some (Value.int z)) (by show _ = sumF _ _ i + _; first | (simp [mseF, mruF, mcoF, c24, c34, c52]; done) | (simp_all [mseF, mruF, mcoF]; done))), (congrArg (fun z => some (Value.int z)) (by show _ = sumF _ _ i + _; first | (simp [mseF, mruF, mcoF, c24, c34, c52]; done) | (simp_all [mseF, mruF, mcoF]; done))), (congrArg (fun z => some (Value.int z)) (by show _ = sumF _ _ i + _; first | (simp [mseF, mruF, mcoF, c24, c34, c52]; done) | (simp_all [mseF, mruF, mcoF]; done))), rfl, trivial⟩ ?_
          exact ih (i + 1) (by omega)
      · refine g_iconst (v := 1) h dX6_count_37 (by decide) ?_
        refine g_goto h 42 dX6_count_38 (by decide) ?_
        refine g_iadd h dX6_count_42 ?_
        refine g_istore_n h dX6_count_43 (by rw [hL]; decide) ?_
        refine g_iload_n h dX6_count_44 rfl ?_
        refine g_aload_n h dX6_count_45 rfl ?_
        refine g_iload h dX6_count_46 rfl ?_
        refine g_iconst (v := 2) h dX6_count_48 (by decide) ?_
        refine cl6_46 h  (ct_X6_part (i := i) (p := 2) (by omega) (by decide)) rfl dX6_count_49 rfl (Nat.le_of_ble_eq_true rfl) (by decide) ?_
        refine g_ifne h 59 dX6_count_52 (by decide) (fun c52 => ?_) (fun c52 => ?_)
        · refine g_iconst (v := 0) h dX6_count_59 (by decide) ?_
          refine g_iadd h dX6_count_60 ?_
          refine g_istore_n h dX6_count_61 (by rw [hL]; decide) ?_
          refine g_iload h dX6_count_62 rfl ?_
          refine g_aload_n h dX6_count_64 rfl ?_
          refine g_iload h dX6_count_65 rfl ?_
          refine g_iconst (v := 2) h dX6_count_67 (by decide) ?_
          refine cl6_46 h  (ct_X6_part (i := i) (p := 2) (by omega) (by decide)) rfl dX6_count_68 rfl (Nat.le_of_ble_eq_true rfl) (by decide) ?_
          refine g_iadd h dX6_count_71 ?_
          refine g_istore h dX6_count_72 (by rw [hL]; decide) ?_
          refine g_iincN h dX6_count_74 rfl (by rw [hL]; decide) ?_
          refine g_goto h 15 dX6_count_77 (by decide) ?_
          refine g_sub [(0, ra X 150), (1, .int w), (2, .int (mseF (σ.1 151) (i + 1))), (3, .int (mruF (σ.1 151) (i + 1))), (4, .int (mcoF (σ.1 151) (i + 1))), (5, .int (nI (i + 1)))] ⟨rfl, rfl, (congrArg (fun z => some (Value.int z)) (by show _ = sumF _ _ i + _; first | (simp [mseF, mruF, mcoF, c24, c34, c52]; done) | (simp_all [mseF, mruF, mcoF]; done))), (congrArg (fun z => some (Value.int z)) (by show _ = sumF _ _ i + _; first | (simp [mseF, mruF, mcoF, c24, c34, c52]; done) | (simp_all [mseF, mruF, mcoF]; done))), (congrArg (fun z => some (Value.int z)) (by show _ = sumF _ _ i + _; first | (simp [mseF, mruF, mcoF, c24, c34, c52]; done) | (simp_all [mseF, mruF, mcoF]; done))), rfl, trivial⟩ ?_
          exact ih (i + 1) (by omega)
        · refine g_iconst (v := 1) h dX6_count_55 (by decide) ?_
          refine g_goto h 60 dX6_count_56 (by decide) ?_
          refine g_iadd h dX6_count_60 ?_
          refine g_istore_n h dX6_count_61 (by rw [hL]; decide) ?_
          refine g_iload h dX6_count_62 rfl ?_
          refine g_aload_n h dX6_count_64 rfl ?_
          refine g_iload h dX6_count_65 rfl ?_
          refine g_iconst (v := 2) h dX6_count_67 (by decide) ?_
          refine cl6_46 h  (ct_X6_part (i := i) (p := 2) (by omega) (by decide)) rfl dX6_count_68 rfl (Nat.le_of_ble_eq_true rfl) (by decide) ?_
          refine g_iadd h dX6_count_71 ?_
          refine g_istore h dX6_count_72 (by rw [hL]; decide) ?_
          refine g_iincN h dX6_count_74 rfl (by rw [hL]; decide) ?_
          refine g_goto h 15 dX6_count_77 (by decide) ?_
          refine g_sub [(0, ra X 150), (1, .int w), (2, .int (mseF (σ.1 151) (i + 1))), (3, .int (mruF (σ.1 151) (i + 1))), (4, .int (mcoF (σ.1 151) (i + 1))), (5, .int (nI (i + 1)))] ⟨rfl, rfl, (congrArg (fun z => some (Value.int z)) (by show _ = sumF _ _ i + _; first | (simp [mseF, mruF, mcoF, c24, c34, c52]; done) | (simp_all [mseF, mruF, mcoF]; done))), (congrArg (fun z => some (Value.int z)) (by show _ = sumF _ _ i + _; first | (simp [mseF, mruF, mcoF, c24, c34, c52]; done) | (simp_all [mseF, mruF, mcoF]; done))), (congrArg (fun z => some (Value.int z)) (by show _ = sumF _ _ i + _; first | (simp [mseF, mruF, mcoF, c24, c34, c52]; done) | (simp_all [mseF, mruF, mcoF]; done))), rfl, trivial⟩ ?_
          exact ih (i + 1) (by omega)
  refine g_iconst (v := 0) h dX6_count_0 (by decide) ?_
  refine g_istore_n h dX6_count_1 (by rw [hL]; decide) ?_
  refine g_iconst (v := 0) h dX6_count_2 (by decide) ?_
  refine g_istore_n h dX6_count_3 (by rw [hL]; decide) ?_
  refine g_aload_n h dX6_count_4 rfl ?_
  refine gf6_7 h  dX6_count_5 ?_
  refine g_iconst (v := 4) h dX6_count_8 (by decide) ?_
  refine g_ialdN h (k := 151) (by decide) (enc_151 X) (show (4 : Int32) = nI 4 by decide) (by decide) (by decide) dX6_count_9 ?_
  refine g_istore h dX6_count_10 (by rw [hL]; decide) ?_
  refine g_iconst (v := 0) h dX6_count_12 (by decide) ?_
  refine g_istore h dX6_count_13 (by rw [hL]; decide) ?_
  refine g_sub [(0, ra X 150), (1, .int w), (2, .int (mseF (σ.1 151) 0)), (3, .int (mruF (σ.1 151) 0)), (4, .int (mcoF (σ.1 151) 0)), (5, .int (nI 0))] ⟨rfl, rfl, rfl, rfl, rfl, lk_0, trivial⟩ ?_
  exact LOOP n 0 (by omega)
set_option maxRecDepth 100000 in
set_option maxHeartbeats 4000000 in
theorem ct_X6_type {l : Launch} {X : fX} {σ : fM} {t : Nat} (ht : σ.1 150 5 = nI t) (ht8 : t ≤ 80) {c : Int32} : Ct l X yX6_type cX6_type 2 (some .int) 1 [ra X 150, .int c] σ (some (.int (mType σ t c).1)) (mType σ t c).2 := by
  refine Ct.of RX6 rfl (by decide) (Nat.le_of_ble_eq_true rfl) ?_
  intro x hL h hr
  refine g_sub [(0, ra X 150), (1, .int c)] ⟨rfl, rfl, trivial⟩ ?_
  refine g_iload_n h dX6_type_0 rfl ?_
  refine g_bipush (v := 32) h dX6_type_1 (by decide) ?_
  refine g_bipush (v := 126) h dX6_type_3 (by decide) ?_
  refine cl6_42 h (ct_X6_within) rfl dX6_type_5 rfl (Nat.le_of_ble_eq_true rfl) (by decide) ?_
  refine g_ifneB h 14 dX6_type_8 (by decide) (fun c8 => ?_) (fun c8 => ?_)
  · refine g_aload_n h dX6_type_14 rfl ?_
    refine gf6_140 h  dX6_type_15 ?_
    refine g_bipush (v := 80) h dX6_type_18 (by decide) ?_
    refine g_icne h 26 dX6_type_20 (by decide) (fun c20 => ?_) (fun c20 => ?_)
    · have ht7 : ¬ t = 80 := fun e => c20 (by rw [ht, e]; decide)
      refine g_aload_n h dX6_type_26 rfl ?_
      refine gf6_19 h  dX6_type_27 ?_
      refine g_aload_n h dX6_type_30 rfl ?_
      refine gf6_140 h  dX6_type_31 ?_
      refine g_iload_n h dX6_type_34 rfl ?_
      refine g_iastN h (k := 154) (by decide) (enc_154 X) ht (by omega) (by decide) dX6_type_35 ?_
      refine g_aload_n h dX6_type_36 rfl ?_
      refine g_dup h dX6_type_37 rfl ?_
      refine gf6_140 h  dX6_type_38 ?_
      refine g_iconst (v := 1) h dX6_type_41 (by decide) ?_
      refine g_iadd h dX6_type_42 ?_
      refine g_top (nI (t + 1)) (by rw [pu_ne _ (by decide), ht]; exact nI_1 t) ?_
      refine gp6_140 h  dX6_type_43 ?_
      refine g_aload_n h dX6_type_46 rfl ?_
      refine gf6_140 h  dX6_type_47 ?_
      refine g_top (nI (t + 1)) (by rw [pu_puR, puR_self, upd_s]) ?_
      exact g_iret h hr dX6_type_50 (by first | (simp [mType, kBad, kLim, c8, c20]; done) | (simp [mType, kBad, kLim, c8, c20, ht7]; done)) (by first | (simp [mType, c8, c20]; done) | (simp [mType, c8, c20, ht7]; done))
    · have ht7 : t = 80 := (nI_eq (b := 80) (by omega) (by decide)).mp (ht.symm.trans c20)
      refine g_ldc h (-1000003) (lw_in 708 (by decide +kernel) rfl) dX6_type_23 ?_
      exact g_iret h hr dX6_type_25 (by first | (simp [mType, kBad, kLim, c8, c20]; done) | (simp [mType, kBad, kLim, c8, c20, ht7]; done)) (by first | (simp [mType, c8, c20]; done) | (simp [mType, c8, c20, ht7]; done))
  · refine g_ldc h (-1000001) (lw_in 696 (by decide +kernel) rfl) dX6_type_11 ?_
    exact g_iret h hr dX6_type_13 (by first | (simp [mType, kBad, kLim, c8]; done) | (simp [mType, kBad, kLim, c8, ht7]; done)) (by first | (simp [mType, c8]; done) | (simp [mType, c8, ht7]; done))
set_option maxRecDepth 100000 in
set_option maxHeartbeats 4000000 in
theorem ct_X6_clearText {l : Launch} {X : fX} {σ : fM}  : Ct l X yX6_clearText cX6_clearText 2 (some .int) 0 [ra X 150] σ (some (.int (mClear σ ).1)) (mClear σ ).2 := by
  refine Ct.of RX6 rfl (by decide) (Nat.le_of_ble_eq_true rfl) ?_
  intro x hL h hr
  refine g_sub [(0, ra X 150)] ⟨rfl, trivial⟩ ?_
  refine g_aload_n h dX6_clearText_0 rfl ?_
  refine gf6_140 h  dX6_clearText_1 ?_
  refine g_istore_n h dX6_clearText_4 (by rw [hL]; decide) ?_
  refine g_aload_n h dX6_clearText_5 rfl ?_
  refine g_iconst (v := 0) h dX6_clearText_6 (by decide) ?_
  refine gp6_140 h  dX6_clearText_7 ?_
  refine g_iload_n h dX6_clearText_10 rfl ?_
  exact g_iret h hr dX6_clearText_11 rfl rfl