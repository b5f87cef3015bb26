/-! the root: rows of branches, counts, undo, typing -/
theorem nI_m1 (y : Nat) : nI y + Int32.ofInt (-1) = nI y - 1 := by rw [Int32.sub_eq_add_neg]; rfl
theorem shl1 : ∀ t, t ≤ 5 → (1 : Int32) <<< (nI t &&& 31) = nI (2 ^ t) := by decide +kernel
def brZ (σ : fM) (n m t : Nat) (a : Int32) (j : Nat) : Nat → fM × Int32 × Int32
  | 0 => (σ, 0, -1)
  | r + 1 => let z := brZ σ n m t a j r
    let y := pbZ z.1 n m t (nI r) a t
    let p := y.1.1 (iO 1 j) 2
    (y.1, if p ≤ z.2.2 then z.2.1 else nI r, if p ≤ z.2.2 then z.2.2 else p)
theorem brZ_out {σ : fM} {n m t j q : Nat} (a : Int32) (hg : gst σ 0 n m) (hq : q < 30 ∨ 54 ≤ q) : ∀ r, (brZ σ n m t a j r).1.1 q = σ.1 q ∧ gst (brZ σ n m t a j r).1 0 n m
  | 0 => ⟨rfl, hg⟩
  | r + 1 => by
    have hgr := (brZ_out (t := t) (j := j) a hg hq r).2
    refine ⟨?_, ?_⟩
    · show (pbZ _ n m t (nI r) a t).1.1 q = _
      rw [pbZ_out _ a hgr hq t]
      exact (brZ_out a hg hq r).1
    · exact gst_out hgr (fun q hq => by
        show (pbZ _ n m t (nI r) a t).1.1 q = _
        rw [pbZ_out _ a hgr (Or.inl hq) t])
def cBest (σ : fM) (n m : Nat) (o a t w : Int32) : Int32 × fM :=
  if wi o 0 (σ.1 (iS 0) 3 - 1) = false then (kBad, σ) else if isA a = false then (kBad, σ) else if wi t 1 5 = false then (kBad, σ) else if wi w 0 1 = false then (kBad, σ)
  else let z := brZ σ n m (ix t) a (ix o) (2 ^ ix t)
    (if w = 0 then z.2.1 else z.2.2, z.1)
def cCount (σ : fM) (n : Nat) (w : Int32) : Int32 × fM :=
  (if wi w 20 22 = true then σ.1 (iSet 0) (ix w - 20) else if wi w 0 10 = false then kBad else
    if ix w = 0 then σ.1 (iS 0) 3 else if ix w = 1 then sumF 0 (fun i => if oSeat (σ.1 (iO 0 i)) = true then 1 else 0) n
    else if ix w = 2 then sumF 0 (fun i => if oRuin (σ.1 (iO 0 i)) = true then 1 else 0) n else if ix w = 3 then σ.1 (iS 0) 5
    else if ix w = 4 then sumF (σ.1 (iS 0) 5) (fun i => σ.1 (iO 0 i) 2) n else if ix w = 5 then σ.1 (iS 0) 6 else if ix w = 6 then σ.1 (iS 0) 7
    else if ix w = 7 then σ.1 (iS 0) 8 else if ix w = 8 then σ.1 (iS 0) 4 else if ix w = 9 then σ.1 1 2 else σ.1 3 2, σ)
theorem wi_out {w : Int32} (h : wi w 0 10 = false) : w.toInt < 0 ∨ 10 < w.toInt := by
  by_cases h1 : w < 0
  · exact Or.inl (by have := Int32.lt_iff_toInt_lt.mp h1; simpa using this)
  · by_cases h2 : 10 < w
    · exact Or.inr (by have := Int32.lt_iff_toInt_lt.mp h2; simpa using this)
    · exact absurd (wi_of.mpr ⟨h1, h2⟩) (by rw [h]; decide)
theorem wi_20 {w : Int32} (h : wi w 20 22 = true) : ∃ v : Nat, v < 3 ∧ w = nI (v + 20) := by
  obtain ⟨h1, h2⟩ := wi_of.mp h
  obtain ⟨j, hj, e⟩ := nI_of (fun q => h1 (Int32.lt_of_lt_of_le q (by decide)))
  subst e
  have a1 : 20 ≤ j := Nat.not_lt.mp (fun q => h1 (nI_lt (b := 20) q (by decide)))
  have a2 : j ≤ 22 := Nat.not_lt.mp (fun q => h2 (nI_lt (a := 22) q hj))
  exact ⟨j - 20, by omega, by rw [show j - 20 + 20 = j by omega]⟩
theorem sub20 : ∀ v, v < 3 → nI (v + 20) - 20 = nI v := by decide +kernel

set_option maxRecDepth 100000 in
set_option maxHeartbeats 4000000 in
theorem ct_X5_purseBehind {l : Launch} {X : fX} {σ : fM} {n m : Nat} (hg : gst σ 0 n m) {t j : Nat} (ht : t ≤ 5) (hj : j < n) {r a : Int32} : Ct l X yX5_purseBehind cX5_purseBehind 6 (some .int) 5 [ra X 0, .int r, .int (nI j), .int a, .int (nI t)] σ (some (.int ((pbZ σ n m t r a t).1.1 (iO 1 j) 2))) (pbZ σ n m t r a t).1 := by
  refine Ct.of RX5 rfl (by decide) (Nat.le_of_ble_eq_true rfl) ?_
  intro x hL h hr
  refine g_sub [(0, ra X 0), (1, .int r), (2, .int (nI j)), (3, .int a), (4, .int (nI t))] ⟨rfl, rfl, rfl, rfl, rfl, trivial⟩ ?_
  obtain ⟨hc, hcr, hgd⟩ := id hg
  obtain ⟨hn, hm, hn6, hm8⟩ := id hc
  have LOOP : ∀ (q i : Nat), i + q = t → G x X (pbZ σ n m t r a i).1 [(0, ra X 0), (1, .int r), (2, .int (nI j)), (3, .int a), (5, .int (nI (t - i) - 1))] [] 17 := by
    intro q
    induction q with
    | zero =>
      intro i hi 
      have hie : i = t := by omega
      rw [hie]
      refine g_iload h dX5_purseBehind_17 rfl ?_
      refine g_iflt h 43 dX5_purseBehind_19 (by decide) (fun c19 => ?_) (fun c19 => absurd (by rw [Nat.sub_self]; decide) c19)
      refine g_aload_n h dX5_purseBehind_43 rfl ?_
      refine gf5_16 h  dX5_purseBehind_44 ?_
      refine gf5_61 h (by omega) dX5_purseBehind_47 ?_
      refine g_iload_n h dX5_purseBehind_50 rfl ?_
      refine g_aaldO h (by omega) rfl (by omega) dX5_purseBehind_51 ?_
      refine gf5_96 h (by omega) (by omega) dX5_purseBehind_52 ?_
      exact g_iret h hr dX5_purseBehind_55 rfl rfl
    | succ q ih =>
      intro i hi 
      have hlt : i < t := by omega
      have hgi := pbZ_gst (t := t) r a hg i
      have ey : t - i = (t - 1 - i) + 1 := by omega
      refine g_iload h dX5_purseBehind_17 rfl ?_
      refine g_iflt h 43 dX5_purseBehind_19 (by decide) (fun c19 => absurd c19 (by rw [ey, nI_pred]; exact nI_pos (by omega))) (fun c19 => ?_)
      refine g_aload_n h dX5_purseBehind_22 rfl ?_
      refine gf5_16 h  dX5_purseBehind_23 ?_
      refine g_iload_n h dX5_purseBehind_26 rfl ?_
      refine g_iload_n h dX5_purseBehind_27 rfl ?_
      refine g_iload h dX5_purseBehind_28 rfl ?_
      refine g_ishr h dX5_purseBehind_30 ?_
      refine g_iconst (v := 1) h dX5_purseBehind_31 (by decide) ?_
      refine g_iand h dX5_purseBehind_32 ?_
      refine cl5_110 h (by omega) (ct_X3_runBranch (by decide) hgi.1 hgi.2.1 hgi.2.2) rfl dX5_purseBehind_33 rfl (Nat.le_of_ble_eq_true rfl) (by decide) ?_
      refine g_pop h dX5_purseBehind_36 rfl ?_
      refine g_iinc h dX5_purseBehind_37 rfl (by rw [hL]; decide) ?_
      refine g_goto h 17 dX5_purseBehind_40 (by decide) ?_
      refine g_mem (pbZ σ n m t r a (i + 1)).1 (by rw [ey, nI_pred]; rfl) ?_
      refine g_sub [(0, ra X 0), (1, .int r), (2, .int (nI j)), (3, .int a), (5, .int (nI (t - (i + 1)) - 1))] ⟨rfl, rfl, rfl, rfl, (congrArg (fun z => some (Value.int z)) (by rw [ey, nI_pred, show t - (i + 1) = t - 1 - i by omega]; exact nI_m1 _)), trivial⟩ ?_
      exact ih (i + 1) (by omega)
  refine g_aload_n h dX5_purseBehind_0 rfl ?_
  refine gf5_16 h  dX5_purseBehind_1 ?_
  refine g_aload_n h dX5_purseBehind_4 rfl ?_
  refine gf5_10 h  dX5_purseBehind_5 ?_
  refine cl5_192 h (by omega) (ct_X3_copyFrom (by decide) (by decide) (by decide) hc) rfl dX5_purseBehind_8 rfl (Nat.le_of_ble_eq_true rfl) (by decide) ?_
  refine g_iload h dX5_purseBehind_11 rfl ?_
  refine g_iconst (v := 1) h dX5_purseBehind_13 (by decide) ?_
  refine g_isub h dX5_purseBehind_14 ?_
  refine g_istore h dX5_purseBehind_15 (by rw [hL]; decide) ?_
  refine g_mem (pbZ σ n m t r a 0).1 rfl ?_
  refine g_sub [(0, ra X 0), (1, .int r), (2, .int (nI j)), (3, .int a), (5, .int (nI (t - 0) - 1))] ⟨rfl, rfl, rfl, rfl, rfl, trivial⟩ ?_
  exact LOOP t 0 (by omega)
set_option maxRecDepth 100000 in
set_option maxHeartbeats 4000000 in
theorem ct_X5_bestRow {l : Launch} {X : fX} {σ : fM} {n m : Nat} (hg : gst σ 0 n m) {o a t w : Int32} : Ct l X yX5_bestRow cX5_bestRow 9 (some .int) 6 [ra X 0, .int o, .int a, .int t, .int w] σ (some (.int (cBest σ n m o a t w).1)) (cBest σ n m o a t w).2 := by
  refine Ct.of RX5 rfl (by decide) (Nat.le_of_ble_eq_true rfl) ?_
  intro x hL h hr
  refine g_sub [(0, ra X 0), (1, .int o), (2, .int a), (3, .int t), (4, .int w)] ⟨rfl, rfl, rfl, rfl, rfl, trivial⟩ ?_
  obtain ⟨hc, hcr, hgd⟩ := id hg
  obtain ⟨hn, hm, hn6, hm8⟩ := id hc
  refine g_aload_n h dX5_bestRow_0 rfl ?_
  refine g_iload_n h dX5_bestRow_1 rfl ?_
  refine cl5_71 h  (ct_X5_isOracle ) rfl dX5_bestRow_2 rfl (Nat.le_of_ble_eq_true rfl) (by decide) ?_
  refine g_ifeqB h 34 dX5_bestRow_5 (by decide) (fun c5 => ?_) (fun c5 => ?_)
  · refine g_ldc h (-1000001) (lw_in 220 (by decide +kernel) rfl) dX5_bestRow_34 ?_
    exact g_iret h hr dX5_bestRow_36 (by first | (simp [cBest, kBad, kNot, kLim, kNone, ix, hij, c5]; done) | (simp [cBest, kBad, kNot, kLim, kNone, ix, c5]; done) | (simp_all [cBest, kBad, kNot, kLim, kNone, ix]; done)) (by first | (simp [cBest, kBad, kNot, kLim, kNone, ix, hij, c5]; done) | (simp [cBest, kBad, kNot, kLim, kNone, ix, c5]; done) | (simp_all [cBest, kBad, kNot, kLim, kNone, ix]; done))
  · obtain ⟨j, hj, rfl⟩ := wi_or (by omega) hn c5
    have hij : (nI j).toNatClampNeg = j := nI_clamp (by omega)
    refine g_iload_n h dX5_bestRow_8 rfl ?_
    refine cl5_107 h (ct_X5_isAddress) rfl dX5_bestRow_9 rfl (Nat.le_of_ble_eq_true rfl) (by decide) ?_
    refine g_ifeqB h 34 dX5_bestRow_12 (by decide) (fun c12 => ?_) (fun c12 => ?_)
    · refine g_ldc h (-1000001) (lw_in 220 (by decide +kernel) rfl) dX5_bestRow_34 ?_
      exact g_iret h hr dX5_bestRow_36 (by first | (simp [cBest, kBad, kNot, kLim, kNone, ix, hij, c5, c12]; done) | (simp [cBest, kBad, kNot, kLim, kNone, ix, c5, c12]; done) | (simp_all [cBest, kBad, kNot, kLim, kNone, ix]; done)) (by first | (simp [cBest, kBad, kNot, kLim, kNone, ix, hij, c5, c12]; done) | (simp [cBest, kBad, kNot, kLim, kNone, ix, c5, c12]; done) | (simp_all [cBest, kBad, kNot, kLim, kNone, ix]; done))
    · refine g_iload_n h dX5_bestRow_15 rfl ?_
      refine g_iconst (v := 1) h dX5_bestRow_16 (by decide) ?_
      refine g_iconst (v := 5) h dX5_bestRow_17 (by decide) ?_
      refine cl5_33 h (ct_X5_isWithin) rfl dX5_bestRow_18 rfl (Nat.le_of_ble_eq_true rfl) (by decide) ?_
      refine g_ifeqB h 34 dX5_bestRow_21 (by decide) (fun c21 => ?_) (fun c21 => ?_)
      · refine g_ldc h (-1000001) (lw_in 220 (by decide +kernel) rfl) dX5_bestRow_34 ?_
        exact g_iret h hr dX5_bestRow_36 (by first | (simp [cBest, kBad, kNot, kLim, kNone, ix, hij, c5, c12, c21]; done) | (simp [cBest, kBad, kNot, kLim, kNone, ix, c5, c12, c21]; done) | (simp_all [cBest, kBad, kNot, kLim, kNone, ix]; done)) (by first | (simp [cBest, kBad, kNot, kLim, kNone, ix, hij, c5, c12, c21]; done) | (simp [cBest, kBad, kNot, kLim, kNone, ix, c5, c12, c21]; done) | (simp_all [cBest, kBad, kNot, kLim, kNone, ix]; done))
      · obtain ⟨t, ht, rfl⟩ : ∃ q : Nat, q ≤ 5 ∧ t = nI q := wi_ix (n := 5) (by decide) (by decide) (wi_of.mpr ⟨fun q => (wi_of.mp c21).1 (Int32.lt_of_lt_of_le q (by decide)), (wi_of.mp c21).2⟩)
        have hit : (nI t).toNatClampNeg = t := nI_clamp (by omega)
        refine g_iload h dX5_bestRow_24 rfl ?_
        refine g_iconst (v := 0) h dX5_bestRow_26 (by decide) ?_
        refine g_iconst (v := 1) h dX5_bestRow_27 (by decide) ?_
        refine cl5_33 h (ct_X5_isWithin) rfl dX5_bestRow_28 rfl (Nat.le_of_ble_eq_true rfl) (by decide) ?_
        refine g_ifneB h 37 dX5_bestRow_31 (by decide) (fun c31 => ?_) (fun c31 => ?_)
        · have h32 : 2 ^ t ≤ 2 ^ 5 := Nat.pow_le_pow_right (by decide) ht
          have LOOP : ∀ (q i : Nat), i + q = (2 ^ t) → G x X (brZ σ n m t a j i).1 [(0, ra X 0), (1, .int (nI j)), (2, .int a), (3, .int (nI t)), (4, .int w), (5, .int (brZ σ n m t a j i).2.1), (6, .int (brZ σ n m t a j i).2.2), (7, .int (nI i))] [] 46 := by
            intro q
            induction q with
            | zero =>
              intro i hi 
              have hie : i = (2 ^ t) := by omega
              rw [hie]
              refine g_iload h dX5_bestRow_46 rfl ?_
              refine g_iconst (v := 1) h dX5_bestRow_48 (by decide) ?_
              refine g_iload_n h dX5_bestRow_49 rfl ?_
              refine g_ishl h dX5_bestRow_50 ?_
              refine g_icge h 86 dX5_bestRow_51 (by decide) (fun c51 => ?_) (fun c51 => absurd (by rw [shl1 t ht]; exact Int32.le_refl _) c51)
              refine g_iload h dX5_bestRow_86 rfl ?_
              refine g_ifne h 96 dX5_bestRow_88 (by decide) (fun c88 => ?_) (fun c88 => ?_)
              · refine g_iload h dX5_bestRow_96 rfl ?_
                exact g_iret h hr dX5_bestRow_98 (by first | (simp [cBest, ix, hij, hit, c5, c12, c21, c31, c51, c88]; done) | (subst c88; simp [cBest, ix, hij, hit, c5, c12, c21, c31])) (by first | (simp [cBest, ix, hij, hit, c5, c12, c21, c31, c51, c88]; done) | (subst c88; simp [cBest, ix, hij, hit, c5, c12, c21, c31]))
              · refine g_iload h dX5_bestRow_91 rfl ?_
                refine g_goto h 98 dX5_bestRow_93 (by decide) ?_
                exact g_iret h hr dX5_bestRow_98 (by first | (simp [cBest, ix, hij, hit, c5, c12, c21, c31, c51, c88]; done) | (subst c88; simp [cBest, ix, hij, hit, c5, c12, c21, c31])) (by first | (simp [cBest, ix, hij, hit, c5, c12, c21, c31, c51, c88]; done) | (subst c88; simp [cBest, ix, hij, hit, c5, c12, c21, c31]))
            | succ q ih =>
              intro i hi 
              have hlt : i < (2 ^ t) := by omega
              have hgi := (brZ_out (t := t) (j := j) (q := 0) a hg (Or.inl (by decide)) i).2
              refine g_iload h dX5_bestRow_46 rfl ?_
              refine g_iconst (v := 1) h dX5_bestRow_48 (by decide) ?_
              refine g_iload_n h dX5_bestRow_49 rfl ?_
              refine g_ishl h dX5_bestRow_50 ?_
              refine g_icge h 86 dX5_bestRow_51 (by decide) (fun c51 => absurd c51 (by rw [shl1 t ht]; exact nI_ge hlt (by omega))) (fun c51 => ?_)
              refine g_aload_n h dX5_bestRow_54 rfl ?_
              refine g_iload h dX5_bestRow_55 rfl ?_
              refine g_iload_n h dX5_bestRow_57 rfl ?_
              refine g_iload_n h dX5_bestRow_58 rfl ?_
              refine g_iload_n h dX5_bestRow_59 rfl ?_
              refine cl5_198 h  (ct_X5_purseBehind hgi ht hj) rfl dX5_bestRow_60 rfl (Nat.le_of_ble_eq_true rfl) (by decide) ?_
              refine g_istore h dX5_bestRow_63 (by rw [hL]; decide) ?_
              refine g_iload h dX5_bestRow_65 rfl ?_
              refine g_iload h dX5_bestRow_67 rfl ?_
              refine g_icle h 80 dX5_bestRow_69 (by decide) (fun c69 => ?_) (fun c69 => ?_)
              · refine g_iincN h dX5_bestRow_80 rfl (by rw [hL]; decide) ?_
                refine g_goto h 46 dX5_bestRow_83 (by decide) ?_
                refine g_mem (brZ σ n m t a j (i + 1)).1 rfl ?_
                refine g_sub [(0, ra X 0), (1, .int (nI j)), (2, .int a), (3, .int (nI t)), (4, .int w), (5, .int (brZ σ n m t a j (i + 1)).2.1), (6, .int (brZ σ n m t a j (i + 1)).2.2), (7, .int (nI (i + 1)))] ⟨rfl, rfl, rfl, rfl, rfl, (congrArg (fun z => some (Value.int z)) (by show _ = (if _ ≤ _ then _ else _); simp [c51, c69])), (congrArg (fun z => some (Value.int z)) (by show _ = (if _ ≤ _ then _ else _); simp [c51, c69])), rfl, trivial⟩ ?_
                exact ih (i + 1) (by omega)
              · refine g_iload h dX5_bestRow_72 rfl ?_
                refine g_istore h dX5_bestRow_74 (by rw [hL]; decide) ?_
                refine g_iload h dX5_bestRow_76 rfl ?_
                refine g_istore h dX5_bestRow_78 (by rw [hL]; decide) ?_
                refine g_iincN h dX5_bestRow_80 rfl (by rw [hL]; decide) ?_
                refine g_goto h 46 dX5_bestRow_83 (by decide) ?_
                refine g_mem (brZ σ n m t a j (i + 1)).1 rfl ?_
                refine g_sub [(0, ra X 0), (1, .int (nI j)), (2, .int a), (3, .int (nI t)), (4, .int w), (5, .int (brZ σ n m t a j (i + 1)).2.1), (6, .int (brZ σ n m t a j (i + 1)).2.2), (7, .int (nI (i + 1)))] ⟨rfl, rfl, rfl, rfl, rfl, (congrArg (fun z => some (Value.int z)) (by show _ = (if _ ≤ _ then _ else _); simp [c51, c69])), (congrArg (fun z => some (Value.int z)) (by show _ = (if _ ≤ _ then _ else _); simp [c51, c69])), rfl, trivial⟩ ?_
                exact ih (i + 1) (by omega)
          refine g_iconst (v := 0) h dX5_bestRow_37 (by decide) ?_
          refine g_istore h dX5_bestRow_38 (by rw [hL]; decide) ?_
          refine g_iconst (v := (-1)) h dX5_bestRow_40 (by decide) ?_
          refine g_istore h dX5_bestRow_41 (by rw [hL]; decide) ?_
          refine g_iconst (v := 0) h dX5_bestRow_43 (by decide) ?_
          refine g_istore h dX5_bestRow_44 (by rw [hL]; decide) ?_
          refine g_sub [(0, ra X 0), (1, .int (nI j)), (2, .int a), (3, .int (nI t)), (4, .int w), (5, .int (brZ σ n m t a j 0).2.1), (6, .int (brZ σ n m t a j 0).2.2), (7, .int (nI 0))] ⟨rfl, rfl, rfl, rfl, rfl, rfl, rfl, lk_0, trivial⟩ ?_
          exact LOOP (2 ^ t) 0 (by omega)
        · refine g_ldc h (-1000001) (lw_in 220 (by decide +kernel) rfl) dX5_bestRow_34 ?_
          exact g_iret h hr dX5_bestRow_36 (by first | (simp [cBest, kBad, kNot, kLim, kNone, ix, hij, c5, c12, c21, c31]; done) | (simp [cBest, kBad, kNot, kLim, kNone, ix, c5, c12, c21, c31]; done) | (simp_all [cBest, kBad, kNot, kLim, kNone, ix]; done)) (by first | (simp [cBest, kBad, kNot, kLim, kNone, ix, hij, c5, c12, c21, c31]; done) | (simp [cBest, kBad, kNot, kLim, kNone, ix, c5, c12, c21, c31]; done) | (simp_all [cBest, kBad, kNot, kLim, kNone, ix]; done))
set_option maxRecDepth 100000 in
set_option maxHeartbeats 4000000 in
theorem ct_X5_count {l : Launch} {X : fX} {σ : fM} {n m : Nat} (hg : gst σ 0 n m) {w : Int32} : Ct l X yX5_count cX5_count 2 (some .int) 2 [ra X 0, .int w] σ (some (.int (cCount σ n w).1)) (cCount σ n w).2 := by
  refine Ct.of RX5 rfl (by decide) (Nat.le_of_ble_eq_true rfl) ?_
  intro x hL h hr
  refine g_sub [(0, ra X 0), (1, .int w)] ⟨rfl, rfl, trivial⟩ ?_
  obtain ⟨hc, hcr, hgd⟩ := id hg
  obtain ⟨hn, hm, hn6, hm8⟩ := id hc
  refine g_iload_n h dX5_count_0 rfl ?_
  refine g_bipush (v := 20) h dX5_count_1 (by decide) ?_
  refine g_bipush (v := 22) h dX5_count_3 (by decide) ?_
  refine cl5_33 h (ct_X5_isWithin) rfl dX5_count_5 rfl (Nat.le_of_ble_eq_true rfl) (by decide) ?_
  refine g_ifeqB h 24 dX5_count_8 (by decide) (fun c8 => ?_) (fun c8 => ?_)
  · refine g_iload_n h dX5_count_24 rfl ?_
    by_cases c10 : wi w 0 10 = true
    · obtain ⟨w, hw, rfl⟩ := wi_ix (n := 10) (by decide) (by decide) c10
      have hiw : (nI w).toNatClampNeg = w := nI_clamp (by omega)
      rcases (show w = 0 ∨ w = 1 ∨ w = 2 ∨ w = 3 ∨ w = 4 ∨ w = 5 ∨ w = 6 ∨ w = 7 ∨ w = 8 ∨ w = 9 ∨ w = 10 by omega) with rfl | rfl | rfl | rfl | rfl | rfl | rfl | rfl | rfl | rfl | rfl
      · refine g_tsIn h 84 dX5_count_25 (by decide) (by decide) (by rfl) (by decide) ?_
        refine g_aload_n h dX5_count_84 rfl ?_
        refine gf5_10 h  dX5_count_85 ?_
        refine gf5_56 h (by omega) dX5_count_88 ?_
        exact g_iret h hr dX5_count_91 (by simp [cCount, kBad, ix, hiw, c8, c10]) rfl
      · refine g_tsIn h 92 dX5_count_25 (by decide) (by decide) (by rfl) (by decide) ?_
        refine g_aload_n h dX5_count_92 rfl ?_
        refine gf5_10 h  dX5_count_93 ?_
        refine cl5_202 h (by omega) (ct_X3_seatedOracles (by decide) hc) rfl dX5_count_96 rfl (Nat.le_of_ble_eq_true rfl) (by decide) ?_
        exact g_iret h hr dX5_count_99 (by simp [cCount, kBad, ix, hiw, c8, c10]) rfl
      · refine g_tsIn h 100 dX5_count_25 (by decide) (by decide) (by rfl) (by decide) ?_
        refine g_aload_n h dX5_count_100 rfl ?_
        refine gf5_10 h  dX5_count_101 ?_
        refine cl5_205 h (by omega) (ct_X3_ruinedOracles (by decide) hc) rfl dX5_count_104 rfl (Nat.le_of_ble_eq_true rfl) (by decide) ?_
        exact g_iret h hr dX5_count_107 (by simp [cCount, kBad, ix, hiw, c8, c10]) rfl
      · refine g_tsIn h 108 dX5_count_25 (by decide) (by decide) (by rfl) (by decide) ?_
        refine g_aload_n h dX5_count_108 rfl ?_
        refine gf5_10 h  dX5_count_109 ?_
        refine gf5_208 h (by omega) dX5_count_112 ?_
        exact g_iret h hr dX5_count_115 (by simp [cCount, kBad, ix, hiw, c8, c10]) rfl
      · refine g_tsIn h 116 dX5_count_25 (by decide) (by decide) (by rfl) (by decide) ?_
        refine g_aload_n h dX5_count_116 rfl ?_
        refine gf5_10 h  dX5_count_117 ?_
        refine cl5_211 h (by omega) (ct_X3_allCoins (by decide) hc) rfl dX5_count_120 rfl (Nat.le_of_ble_eq_true rfl) (by decide) ?_
        exact g_iret h hr dX5_count_123 (by simp [cCount, kBad, ix, hiw, c8, c10]) rfl
      · refine g_tsIn h 124 dX5_count_25 (by decide) (by decide) (by rfl) (by decide) ?_
        refine g_aload_n h dX5_count_124 rfl ?_
        refine gf5_10 h  dX5_count_125 ?_
        refine gf5_164 h (by omega) dX5_count_128 ?_
        exact g_iret h hr dX5_count_131 (by simp [cCount, kBad, ix, hiw, c8, c10]) rfl
      · refine g_tsIn h 132 dX5_count_25 (by decide) (by decide) (by rfl) (by decide) ?_
        refine g_aload_n h dX5_count_132 rfl ?_
        refine gf5_10 h  dX5_count_133 ?_
        refine gf5_214 h (by omega) dX5_count_136 ?_
        exact g_iret h hr dX5_count_139 (by simp [cCount, kBad, ix, hiw, c8, c10]) rfl
      · refine g_tsIn h 140 dX5_count_25 (by decide) (by decide) (by rfl) (by decide) ?_
        refine g_aload_n h dX5_count_140 rfl ?_
        refine gf5_10 h  dX5_count_141 ?_
        refine gf5_217 h (by omega) dX5_count_144 ?_
        exact g_iret h hr dX5_count_147 (by simp [cCount, kBad, ix, hiw, c8, c10]) rfl
      · refine g_tsIn h 148 dX5_count_25 (by decide) (by decide) (by rfl) (by decide) ?_
        refine g_aload_n h dX5_count_148 rfl ?_
        refine gf5_10 h  dX5_count_149 ?_
        refine gf5_100 h (by omega) dX5_count_152 ?_
        exact g_iret h hr dX5_count_155 (by simp [cCount, kBad, ix, hiw, c8, c10]) rfl
      · refine g_tsIn h 156 dX5_count_25 (by decide) (by decide) (by rfl) (by decide) ?_
        refine g_aload_n h dX5_count_156 rfl ?_
        refine gf5_22 h  dX5_count_157 ?_
        refine gf5_220 h  dX5_count_160 ?_
        exact g_iret h hr dX5_count_163 (by simp [cCount, kBad, ix, hiw, c8, c10]) rfl
      · refine g_tsIn h 164 dX5_count_25 (by decide) (by decide) (by rfl) (by decide) ?_
        refine g_aload_n h dX5_count_164 rfl ?_
        refine gf5_29 h  dX5_count_165 ?_
        refine gf5_223 h  dX5_count_168 ?_
        exact g_iret h hr dX5_count_171 (by simp [cCount, kBad, ix, hiw, c8, c10]) rfl
    · refine g_tsOut h 172 dX5_count_25 (wi_out (by simpa using c10)) (by decide) ?_
      refine g_ldc h (-1000001) (lw_in 220 (by decide +kernel) rfl) dX5_count_172 ?_
      exact g_iret h hr dX5_count_174 (by simp [cCount, kBad, c8, c10]) rfl
  · obtain ⟨v, hv, rfl⟩ := wi_20 c8
    have hiw : (nI (v + 20)).toNatClampNeg = v + 20 := nI_clamp (by omega)
    refine g_aload_n h dX5_count_11 rfl ?_
    refine gf5_10 h  dX5_count_12 ?_
    refine gf5_49 h (by omega) dX5_count_15 ?_
    refine g_iload_n h dX5_count_18 rfl ?_
    refine g_bipush (v := 20) h dX5_count_19 (by decide) ?_
    refine g_isub h dX5_count_21 ?_
    refine g_ialdSet h (by omega) (sub20 v hv) hv dX5_count_22 ?_
    exact g_iret h hr dX5_count_23 (by simp [cCount, kBad, ix, hiw, c8]) rfl