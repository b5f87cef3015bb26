/-! State: what is only read. n oracles, m loans stand in the state s -/
/-- f 0 + f 1 + .. + f (n - 1), behind a -/
def sumF (a : Int32) (f : Nat → Int32) : Nat → Int32
  | 0 => a
  | n + 1 => sumF a f n + f n
def anyF (f : Nat → Bool) : Nat → Bool
  | 0 => false
  | n + 1 => anyF f n || f n
theorem anyF_t {f : Nat → Bool} {i : Nat} : ∀ {n : Nat}, i < n → f i = true → anyF f n = true
  | 0, h, _ => absurd h (Nat.not_lt_zero _)
  | n + 1, h, e => by
    unfold anyF
    by_cases hi : i = n
    · subst hi; rw [e]; simp
    · rw [anyF_t (by omega) e]; simp
/-- n oracles, m loans -/
def cnt (σ : fM) (s n m : Nat) : Prop := σ.1 (iS s) 3 = nI n ∧ σ.1 (iS s) 4 = nI m ∧ n ≤ 6 ∧ m ≤ 8

set_option maxRecDepth 100000 in
set_option maxHeartbeats 4000000 in
theorem ct_X3_sittersOf {l : Launch} {X : fX} {σ : fM} {s n m : Nat} (hs : s < 6) (hc : cnt σ s n m) {b : Int32} : Ct l X yX3_sittersOf cX3_sittersOf 4 (some .int) 0 [ra X (iS s), .int b] σ (some (.int (sumF 0 (fun i => if σ.1 (iO s i) 3 = b then 1 else 0) n))) σ := by
  refine Ct.of RX3 rfl (by decide) (Nat.le_of_ble_eq_true rfl) ?_
  intro x hL h hr
  refine g_sub [(0, ra X (iS s)), (1, .int b)] ⟨rfl, rfl, trivial⟩ ?_
  obtain ⟨hn, hm, hn6, hm8⟩ := hc
  have LOOP : ∀ (q i : Nat), i + q = n → G x X σ [(0, ra X (iS s)), (1, .int b), (2, .int (sumF 0 (fun i => if σ.1 (iO s i) 3 = b then 1 else 0) i)), (3, .int (nI i))] [] 4 := by
    intro q
    induction q with
    | zero =>
      intro i hi 
      obtain rfl : i = n := by omega
      refine g_iload_n h dX3_sittersOf_4 rfl ?_
      refine g_aload_n h dX3_sittersOf_5 rfl ?_
      refine gf3_32 h (by omega) dX3_sittersOf_6 ?_
      refine g_icge h 34 dX3_sittersOf_9 (by decide) (fun c9 => ?_) (fun c9 => absurd (by rw [hn]; exact Int32.le_refl _) c9)
      refine g_iload_n h dX3_sittersOf_34 rfl ?_
      exact g_iret h hr dX3_sittersOf_35 rfl rfl
    | succ q ih =>
      intro i hi 
      have hlt : i < n := by omega
      refine g_iload_n h dX3_sittersOf_4 rfl ?_
      refine g_aload_n h dX3_sittersOf_5 rfl ?_
      refine gf3_32 h (by omega) dX3_sittersOf_6 ?_
      refine g_icge h 34 dX3_sittersOf_9 (by decide) (fun c9 => absurd c9 (by rw [hn]; exact nI_ge hlt (by omega))) (fun c9 => ?_)
      refine g_aload_n h dX3_sittersOf_12 rfl ?_
      refine gf3_11 h (by omega) dX3_sittersOf_13 ?_
      refine g_iload_n h dX3_sittersOf_16 rfl ?_
      refine g_aaldO h (by omega) rfl (by omega) dX3_sittersOf_17 ?_
      refine gf3_68 h (by omega) (by omega) dX3_sittersOf_18 ?_
      refine g_iload_n h dX3_sittersOf_21 rfl ?_
      refine g_icne h 28 dX3_sittersOf_22 (by decide) (fun c22 => ?_) (fun c22 => ?_)
      · refine g_iincN h dX3_sittersOf_28 rfl (by rw [hL]; decide) ?_
        refine g_goto h 4 dX3_sittersOf_31 (by decide) ?_
        refine g_sub [(0, ra X (iS s)), (1, .int b), (2, .int (sumF 0 (fun i => if σ.1 (iO s i) 3 = b then 1 else 0) (i + 1))), (3, .int (nI (i + 1)))] ⟨rfl, rfl, (congrArg (fun z => some (Value.int z)) (by simp [sumF, c9, c22])), rfl, trivial⟩ ?_
        exact ih (i + 1) (by omega)
      · refine g_iinc1 h dX3_sittersOf_25 rfl (by rw [hL]; decide) ?_
        refine g_iincN h dX3_sittersOf_28 rfl (by rw [hL]; decide) ?_
        refine g_goto h 4 dX3_sittersOf_31 (by decide) ?_
        refine g_sub [(0, ra X (iS s)), (1, .int b), (2, .int (sumF 0 (fun i => if σ.1 (iO s i) 3 = b then 1 else 0) (i + 1))), (3, .int (nI (i + 1)))] ⟨rfl, rfl, (congrArg (fun z => some (Value.int z)) (by simp [sumF, c9, c22])), rfl, trivial⟩ ?_
        exact ih (i + 1) (by omega)
  refine g_iconst (v := 0) h dX3_sittersOf_0 (by decide) ?_
  refine g_istore_n h dX3_sittersOf_1 (by rw [hL]; decide) ?_
  refine g_iconst (v := 0) h dX3_sittersOf_2 (by decide) ?_
  refine g_istore_n h dX3_sittersOf_3 (by rw [hL]; decide) ?_
  refine g_sub [(0, ra X (iS s)), (1, .int b), (2, .int (sumF 0 (fun i => if σ.1 (iO s i) 3 = b then 1 else 0) 0)), (3, .int (nI 0))] ⟨rfl, rfl, rfl, lk_0, trivial⟩ ?_
  exact LOOP n 0 (by omega)
set_option maxRecDepth 100000 in
set_option maxHeartbeats 4000000 in
theorem ct_X3_seatedOracles {l : Launch} {X : fX} {σ : fM} {s n m : Nat} (hs : s < 6) (hc : cnt σ s n m) : Ct l X yX3_seatedOracles cX3_seatedOracles 3 (some .int) 1 [ra X (iS s)] σ (some (.int (sumF 0 (fun i => if oSeat (σ.1 (iO s i)) = true then 1 else 0) n))) σ := by
  refine Ct.of RX3 rfl (by decide) (Nat.le_of_ble_eq_true rfl) ?_
  intro x hL h hr
  refine g_sub [(0, ra X (iS s))] ⟨rfl, trivial⟩ ?_
  obtain ⟨hn, hm, hn6, hm8⟩ := hc
  have LOOP : ∀ (q i : Nat), i + q = n → G x X σ [(0, ra X (iS s)), (1, .int (sumF 0 (fun i => if oSeat (σ.1 (iO s i)) = true then 1 else 0) i)), (2, .int (nI i))] [] 4 := by
    intro q
    induction q with
    | zero =>
      intro i hi 
      obtain rfl : i = n := by omega
      refine g_iload_n h dX3_seatedOracles_4 rfl ?_
      refine g_aload_n h dX3_seatedOracles_5 rfl ?_
      refine gf3_32 h (by omega) dX3_seatedOracles_6 ?_
      refine g_icge h 33 dX3_seatedOracles_9 (by decide) (fun c9 => ?_) (fun c9 => absurd (by rw [hn]; exact Int32.le_refl _) c9)
      refine g_iload_n h dX3_seatedOracles_33 rfl ?_
      exact g_iret h hr dX3_seatedOracles_34 rfl rfl
    | succ q ih =>
      intro i hi 
      have hlt : i < n := by omega
      refine g_iload_n h dX3_seatedOracles_4 rfl ?_
      refine g_aload_n h dX3_seatedOracles_5 rfl ?_
      refine gf3_32 h (by omega) dX3_seatedOracles_6 ?_
      refine g_icge h 33 dX3_seatedOracles_9 (by decide) (fun c9 => absurd c9 (by rw [hn]; exact nI_ge hlt (by omega))) (fun c9 => ?_)
      refine g_aload_n h dX3_seatedOracles_12 rfl ?_
      refine gf3_11 h (by omega) dX3_seatedOracles_13 ?_
      refine g_iload_n h dX3_seatedOracles_16 rfl ?_
      refine g_aaldO h (by omega) rfl (by omega) dX3_seatedOracles_17 ?_
      refine cl3_78 h (by omega) (by omega) (ct_X1_hasSeat (by omega) (by omega)) rfl dX3_seatedOracles_18 rfl (Nat.le_of_ble_eq_true rfl) (by decide) ?_
      refine g_ifeqB h 27 dX3_seatedOracles_21 (by decide) (fun c21 => ?_) (fun c21 => ?_)
      · refine g_iincN h dX3_seatedOracles_27 rfl (by rw [hL]; decide) ?_
        refine g_goto h 4 dX3_seatedOracles_30 (by decide) ?_
        refine g_sub [(0, ra X (iS s)), (1, .int (sumF 0 (fun i => if oSeat (σ.1 (iO s i)) = true then 1 else 0) (i + 1))), (2, .int (nI (i + 1)))] ⟨rfl, (congrArg (fun z => some (Value.int z)) (by simp [sumF, c9, c21])), rfl, trivial⟩ ?_
        exact ih (i + 1) (by omega)
      · refine g_iinc1 h dX3_seatedOracles_24 rfl (by rw [hL]; decide) ?_
        refine g_iincN h dX3_seatedOracles_27 rfl (by rw [hL]; decide) ?_
        refine g_goto h 4 dX3_seatedOracles_30 (by decide) ?_
        refine g_sub [(0, ra X (iS s)), (1, .int (sumF 0 (fun i => if oSeat (σ.1 (iO s i)) = true then 1 else 0) (i + 1))), (2, .int (nI (i + 1)))] ⟨rfl, (congrArg (fun z => some (Value.int z)) (by simp [sumF, c9, c21])), rfl, trivial⟩ ?_
        exact ih (i + 1) (by omega)
  refine g_iconst (v := 0) h dX3_seatedOracles_0 (by decide) ?_
  refine g_istore_n h dX3_seatedOracles_1 (by rw [hL]; decide) ?_
  refine g_iconst (v := 0) h dX3_seatedOracles_2 (by decide) ?_
  refine g_istore_n h dX3_seatedOracles_3 (by rw [hL]; decide) ?_
  refine g_sub [(0, ra X (iS s)), (1, .int (sumF 0 (fun i => if oSeat (σ.1 (iO s i)) = true then 1 else 0) 0)), (2, .int (nI 0))] ⟨rfl, rfl, lk_0, trivial⟩ ?_
  exact LOOP n 0 (by omega)
set_option maxRecDepth 100000 in
set_option maxHeartbeats 4000000 in
theorem ct_X3_ruinedOracles {l : Launch} {X : fX} {σ : fM} {s n m : Nat} (hs : s < 6) (hc : cnt σ s n m) : Ct l X yX3_ruinedOracles cX3_ruinedOracles 3 (some .int) 1 [ra X (iS s)] σ (some (.int (sumF 0 (fun i => if oRuin (σ.1 (iO s i)) = true then 1 else 0) n))) σ := by
  refine Ct.of RX3 rfl (by decide) (Nat.le_of_ble_eq_true rfl) ?_
  intro x hL h hr
  refine g_sub [(0, ra X (iS s))] ⟨rfl, trivial⟩ ?_
  obtain ⟨hn, hm, hn6, hm8⟩ := hc
  have LOOP : ∀ (q i : Nat), i + q = n → G x X σ [(0, ra X (iS s)), (1, .int (sumF 0 (fun i => if oRuin (σ.1 (iO s i)) = true then 1 else 0) i)), (2, .int (nI i))] [] 4 := by
    intro q
    induction q with
    | zero =>
      intro i hi 
      obtain rfl : i = n := by omega
      refine g_iload_n h dX3_ruinedOracles_4 rfl ?_
      refine g_aload_n h dX3_ruinedOracles_5 rfl ?_
      refine gf3_32 h (by omega) dX3_ruinedOracles_6 ?_
      refine g_icge h 33 dX3_ruinedOracles_9 (by decide) (fun c9 => ?_) (fun c9 => absurd (by rw [hn]; exact Int32.le_refl _) c9)
      refine g_iload_n h dX3_ruinedOracles_33 rfl ?_
      exact g_iret h hr dX3_ruinedOracles_34 rfl rfl
    | succ q ih =>
      intro i hi 
      have hlt : i < n := by omega
      refine g_iload_n h dX3_ruinedOracles_4 rfl ?_
      refine g_aload_n h dX3_ruinedOracles_5 rfl ?_
      refine gf3_32 h (by omega) dX3_ruinedOracles_6 ?_
      refine g_icge h 33 dX3_ruinedOracles_9 (by decide) (fun c9 => absurd c9 (by rw [hn]; exact nI_ge hlt (by omega))) (fun c9 => ?_)
      refine g_aload_n h dX3_ruinedOracles_12 rfl ?_
      refine gf3_11 h (by omega) dX3_ruinedOracles_13 ?_
      refine g_iload_n h dX3_ruinedOracles_16 rfl ?_
      refine g_aaldO h (by omega) rfl (by omega) dX3_ruinedOracles_17 ?_
      refine cl3_82 h (by omega) (by omega) (ct_X1_isRuined (by omega) (by omega)) rfl dX3_ruinedOracles_18 rfl (Nat.le_of_ble_eq_true rfl) (by decide) ?_
      refine g_ifeqB h 27 dX3_ruinedOracles_21 (by decide) (fun c21 => ?_) (fun c21 => ?_)
      · refine g_iincN h dX3_ruinedOracles_27 rfl (by rw [hL]; decide) ?_
        refine g_goto h 4 dX3_ruinedOracles_30 (by decide) ?_
        refine g_sub [(0, ra X (iS s)), (1, .int (sumF 0 (fun i => if oRuin (σ.1 (iO s i)) = true then 1 else 0) (i + 1))), (2, .int (nI (i + 1)))] ⟨rfl, (congrArg (fun z => some (Value.int z)) (by simp [sumF, c9, c21])), rfl, trivial⟩ ?_
        exact ih (i + 1) (by omega)
      · refine g_iinc1 h dX3_ruinedOracles_24 rfl (by rw [hL]; decide) ?_
        refine g_iincN h dX3_ruinedOracles_27 rfl (by rw [hL]; decide) ?_
        refine g_goto h 4 dX3_ruinedOracles_30 (by decide) ?_
        refine g_sub [(0, ra X (iS s)), (1, .int (sumF 0 (fun i => if oRuin (σ.1 (iO s i)) = true then 1 else 0) (i + 1))), (2, .int (nI (i + 1)))] ⟨rfl, (congrArg (fun z => some (Value.int z)) (by simp [sumF, c9, c21])), rfl, trivial⟩ ?_
        exact ih (i + 1) (by omega)
  refine g_iconst (v := 0) h dX3_ruinedOracles_0 (by decide) ?_
  refine g_istore_n h dX3_ruinedOracles_1 (by rw [hL]; decide) ?_
  refine g_iconst (v := 0) h dX3_ruinedOracles_2 (by decide) ?_
  refine g_istore_n h dX3_ruinedOracles_3 (by rw [hL]; decide) ?_
  refine g_sub [(0, ra X (iS s)), (1, .int (sumF 0 (fun i => if oRuin (σ.1 (iO s i)) = true then 1 else 0) 0)), (2, .int (nI 0))] ⟨rfl, rfl, lk_0, trivial⟩ ?_
  exact LOOP n 0 (by omega)
set_option maxRecDepth 100000 in
set_option maxHeartbeats 4000000 in
theorem ct_X3_allCoins {l : Launch} {X : fX} {σ : fM} {s n m : Nat} (hs : s < 6) (hc : cnt σ s n m) : Ct l X yX3_allCoins cX3_allCoins 3 (some .int) 0 [ra X (iS s)] σ (some (.int (sumF (σ.1 (iS s) 5) (fun i => σ.1 (iO s i) 2) n))) σ := by
  refine Ct.of RX3 rfl (by decide) (Nat.le_of_ble_eq_true rfl) ?_
  intro x hL h hr
  refine g_sub [(0, ra X (iS s))] ⟨rfl, trivial⟩ ?_
  obtain ⟨hn, hm, hn6, hm8⟩ := hc
  have LOOP : ∀ (q i : Nat), i + q = n → G x X σ [(0, ra X (iS s)), (1, .int (sumF (σ.1 (iS s) 5) (fun i => σ.1 (iO s i) 2) i)), (2, .int (nI i))] [] 7 := by
    intro q
    induction q with
    | zero =>
      intro i hi 
      obtain rfl : i = n := by omega
      refine g_iload_n h dX3_allCoins_7 rfl ?_
      refine g_aload_n h dX3_allCoins_8 rfl ?_
      refine gf3_32 h (by omega) dX3_allCoins_9 ?_
      refine g_icge h 33 dX3_allCoins_12 (by decide) (fun c12 => ?_) (fun c12 => absurd (by rw [hn]; exact Int32.le_refl _) c12)
      refine g_iload_n h dX3_allCoins_33 rfl ?_
      exact g_iret h hr dX3_allCoins_34 rfl rfl
    | succ q ih =>
      intro i hi 
      have hlt : i < n := by omega
      refine g_iload_n h dX3_allCoins_7 rfl ?_
      refine g_aload_n h dX3_allCoins_8 rfl ?_
      refine gf3_32 h (by omega) dX3_allCoins_9 ?_
      refine g_icge h 33 dX3_allCoins_12 (by decide) (fun c12 => absurd c12 (by rw [hn]; exact nI_ge hlt (by omega))) (fun c12 => ?_)
      refine g_iload_n h dX3_allCoins_15 rfl ?_
      refine g_aload_n h dX3_allCoins_16 rfl ?_
      refine gf3_11 h (by omega) dX3_allCoins_17 ?_
      refine g_iload_n h dX3_allCoins_20 rfl ?_
      refine g_aaldO h (by omega) rfl (by omega) dX3_allCoins_21 ?_
      refine gf3_85 h (by omega) (by omega) dX3_allCoins_22 ?_
      refine g_iadd h dX3_allCoins_25 ?_
      refine g_istore_n h dX3_allCoins_26 (by rw [hL]; decide) ?_
      refine g_iincN h dX3_allCoins_27 rfl (by rw [hL]; decide) ?_
      refine g_goto h 7 dX3_allCoins_30 (by decide) ?_
      refine g_sub [(0, ra X (iS s)), (1, .int (sumF (σ.1 (iS s) 5) (fun i => σ.1 (iO s i) 2) (i + 1))), (2, .int (nI (i + 1)))] ⟨rfl, (congrArg (fun z => some (Value.int z)) (by simp [sumF, c12])), rfl, trivial⟩ ?_
      exact ih (i + 1) (by omega)
  refine g_aload_n h dX3_allCoins_0 rfl ?_
  refine gf3_52 h (by omega) dX3_allCoins_1 ?_
  refine g_istore_n h dX3_allCoins_4 (by rw [hL]; decide) ?_
  refine g_iconst (v := 0) h dX3_allCoins_5 (by decide) ?_
  refine g_istore_n h dX3_allCoins_6 (by rw [hL]; decide) ?_
  refine g_sub [(0, ra X (iS s)), (1, .int (sumF (σ.1 (iS s) 5) (fun i => σ.1 (iO s i) 2) 0)), (2, .int (nI 0))] ⟨rfl, rfl, lk_0, trivial⟩ ?_
  exact LOOP n 0 (by omega)
set_option maxRecDepth 100000 in
set_option maxHeartbeats 4000000 in
theorem ct_X3_debtsOf {l : Launch} {X : fX} {σ : fM} {s n m : Nat} (hs : s < 6) (hc : cnt σ s n m) {b : Int32} : Ct l X yX3_debtsOf cX3_debtsOf 4 (some .int) 0 [ra X (iS s), .int b] σ (some (.int (sumF 0 (fun i => if σ.1 (iL s i) 1 = b then σ.1 (iL s i) 2 else 0) m))) σ := by
  refine Ct.of RX3 rfl (by decide) (Nat.le_of_ble_eq_true rfl) ?_
  intro x hL h hr
  refine g_sub [(0, ra X (iS s)), (1, .int b)] ⟨rfl, rfl, trivial⟩ ?_
  obtain ⟨hn, hm, hn6, hm8⟩ := hc
  have LOOP : ∀ (q i : Nat), i + q = m → G x X σ [(0, ra X (iS s)), (1, .int b), (2, .int (sumF 0 (fun i => if σ.1 (iL s i) 1 = b then σ.1 (iL s i) 2 else 0) i)), (3, .int (nI i))] [] 4 := by
    intro q
    induction q with
    | zero =>
      intro i hi 
      obtain rfl : i = m := by omega
      refine g_iload_n h dX3_debtsOf_4 rfl ?_
      refine g_aload_n h dX3_debtsOf_5 rfl ?_
      refine gf3_40 h (by omega) dX3_debtsOf_6 ?_
      refine g_icge h 43 dX3_debtsOf_9 (by decide) (fun c9 => ?_) (fun c9 => absurd (by rw [hm]; exact Int32.le_refl _) c9)
      refine g_iload_n h dX3_debtsOf_43 rfl ?_
      exact g_iret h hr dX3_debtsOf_44 rfl rfl
    | succ q ih =>
      intro i hi 
      have hlt : i < m := by omega
      refine g_iload_n h dX3_debtsOf_4 rfl ?_
      refine g_aload_n h dX3_debtsOf_5 rfl ?_
      refine gf3_40 h (by omega) dX3_debtsOf_6 ?_
      refine g_icge h 43 dX3_debtsOf_9 (by decide) (fun c9 => absurd c9 (by rw [hm]; exact nI_ge hlt (by omega))) (fun c9 => ?_)
      refine g_aload_n h dX3_debtsOf_12 rfl ?_
      refine gf3_20 h (by omega) dX3_debtsOf_13 ?_
      refine g_iload_n h dX3_debtsOf_16 rfl ?_
      refine g_aaldL h (by omega) rfl (by omega) dX3_debtsOf_17 ?_
      refine gf3_91 h (by omega) (by omega) dX3_debtsOf_18 ?_
      refine g_iload_n h dX3_debtsOf_21 rfl ?_
      refine g_icne h 37 dX3_debtsOf_22 (by decide) (fun c22 => ?_) (fun c22 => ?_)
      · refine g_iincN h dX3_debtsOf_37 rfl (by rw [hL]; decide) ?_
        refine g_goto h 4 dX3_debtsOf_40 (by decide) ?_
        refine g_sub [(0, ra X (iS s)), (1, .int b), (2, .int (sumF 0 (fun i => if σ.1 (iL s i) 1 = b then σ.1 (iL s i) 2 else 0) (i + 1))), (3, .int (nI (i + 1)))] ⟨rfl, rfl, (congrArg (fun z => some (Value.int z)) (by simp [sumF, c9, c22])), rfl, trivial⟩ ?_
        exact ih (i + 1) (by omega)
      · refine g_iload_n h dX3_debtsOf_25 rfl ?_
        refine g_aload_n h dX3_debtsOf_26 rfl ?_
        refine gf3_20 h (by omega) dX3_debtsOf_27 ?_
        refine g_iload_n h dX3_debtsOf_30 rfl ?_
        refine g_aaldL h (by omega) rfl (by omega) dX3_debtsOf_31 ?_
        refine gf3_94 h (by omega) (by omega) dX3_debtsOf_32 ?_
        refine g_iadd h dX3_debtsOf_35 ?_
        refine g_istore_n h dX3_debtsOf_36 (by rw [hL]; decide) ?_
        refine g_iincN h dX3_debtsOf_37 rfl (by rw [hL]; decide) ?_
        refine g_goto h 4 dX3_debtsOf_40 (by decide) ?_
        refine g_sub [(0, ra X (iS s)), (1, .int b), (2, .int (sumF 0 (fun i => if σ.1 (iL s i) 1 = b then σ.1 (iL s i) 2 else 0) (i + 1))), (3, .int (nI (i + 1)))] ⟨rfl, rfl, (congrArg (fun z => some (Value.int z)) (by simp [sumF, c9, c22])), rfl, trivial⟩ ?_
        exact ih (i + 1) (by omega)
  refine g_iconst (v := 0) h dX3_debtsOf_0 (by decide) ?_
  refine g_istore_n h dX3_debtsOf_1 (by rw [hL]; decide) ?_
  refine g_iconst (v := 0) h dX3_debtsOf_2 (by decide) ?_
  refine g_istore_n h dX3_debtsOf_3 (by rw [hL]; decide) ?_
  refine g_sub [(0, ra X (iS s)), (1, .int b), (2, .int (sumF 0 (fun i => if σ.1 (iL s i) 1 = b then σ.1 (iL s i) 2 else 0) 0)), (3, .int (nI 0))] ⟨rfl, rfl, rfl, lk_0, trivial⟩ ?_
  exact LOOP m 0 (by omega)
set_option maxRecDepth 100000 in
set_option maxHeartbeats 4000000 in
theorem ct_X3_claimsOf {l : Launch} {X : fX} {σ : fM} {s n m : Nat} (hs : s < 6) (hc : cnt σ s n m) {b : Int32} : Ct l X yX3_claimsOf cX3_claimsOf 4 (some .int) 0 [ra X (iS s), .int b] σ (some (.int (sumF 0 (fun i => if σ.1 (iL s i) 0 = b then σ.1 (iL s i) 2 else 0) m))) σ := by
  refine Ct.of RX3 rfl (by decide) (Nat.le_of_ble_eq_true rfl) ?_
  intro x hL h hr
  refine g_sub [(0, ra X (iS s)), (1, .int b)] ⟨rfl, rfl, trivial⟩ ?_
  obtain ⟨hn, hm, hn6, hm8⟩ := hc
  have LOOP : ∀ (q i : Nat), i + q = m → G x X σ [(0, ra X (iS s)), (1, .int b), (2, .int (sumF 0 (fun i => if σ.1 (iL s i) 0 = b then σ.1 (iL s i) 2 else 0) i)), (3, .int (nI i))] [] 4 := by
    intro q
    induction q with
    | zero =>
      intro i hi 
      obtain rfl : i = m := by omega
      refine g_iload_n h dX3_claimsOf_4 rfl ?_
      refine g_aload_n h dX3_claimsOf_5 rfl ?_
      refine gf3_40 h (by omega) dX3_claimsOf_6 ?_
      refine g_icge h 43 dX3_claimsOf_9 (by decide) (fun c9 => ?_) (fun c9 => absurd (by rw [hm]; exact Int32.le_refl _) c9)
      refine g_iload_n h dX3_claimsOf_43 rfl ?_
      exact g_iret h hr dX3_claimsOf_44 rfl rfl
    | succ q ih =>
      intro i hi 
      have hlt : i < m := by omega
      refine g_iload_n h dX3_claimsOf_4 rfl ?_
      refine g_aload_n h dX3_claimsOf_5 rfl ?_
      refine gf3_40 h (by omega) dX3_claimsOf_6 ?_
      refine g_icge h 43 dX3_claimsOf_9 (by decide) (fun c9 => absurd c9 (by rw [hm]; exact nI_ge hlt (by omega))) (fun c9 => ?_)
      refine g_aload_n h dX3_claimsOf_12 rfl ?_
      refine gf3_20 h (by omega) dX3_claimsOf_13 ?_
      refine g_iload_n h dX3_claimsOf_16 rfl ?_
      refine g_aaldL h (by omega) rfl (by omega) dX3_claimsOf_17 ?_
      refine gf3_88 h (by omega) (by omega) dX3_claimsOf_18 ?_
      refine g_iload_n h dX3_claimsOf_21 rfl ?_
      refine g_icne h 37 dX3_claimsOf_22 (by decide) (fun c22 => ?_) (fun c22 => ?_)
      · refine g_iincN h dX3_claimsOf_37 rfl (by rw [hL]; decide) ?_
        refine g_goto h 4 dX3_claimsOf_40 (by decide) ?_
        refine g_sub [(0, ra X (iS s)), (1, .int b), (2, .int (sumF 0 (fun i => if σ.1 (iL s i) 0 = b then σ.1 (iL s i) 2 else 0) (i + 1))), (3, .int (nI (i + 1)))] ⟨rfl, rfl, (congrArg (fun z => some (Value.int z)) (by simp [sumF, c9, c22])), rfl, trivial⟩ ?_
        exact ih (i + 1) (by omega)
      · refine g_iload_n h dX3_claimsOf_25 rfl ?_
        refine g_aload_n h dX3_claimsOf_26 rfl ?_
        refine gf3_20 h (by omega) dX3_claimsOf_27 ?_
        refine g_iload_n h dX3_claimsOf_30 rfl ?_
        refine g_aaldL h (by omega) rfl (by omega) dX3_claimsOf_31 ?_
        refine gf3_94 h (by omega) (by omega) dX3_claimsOf_32 ?_
        refine g_iadd h dX3_claimsOf_35 ?_
        refine g_istore_n h dX3_claimsOf_36 (by rw [hL]; decide) ?_
        refine g_iincN h dX3_claimsOf_37 rfl (by rw [hL]; decide) ?_
        refine g_goto h 4 dX3_claimsOf_40 (by decide) ?_
        refine g_sub [(0, ra X (iS s)), (1, .int b), (2, .int (sumF 0 (fun i => if σ.1 (iL s i) 0 = b then σ.1 (iL s i) 2 else 0) (i + 1))), (3, .int (nI (i + 1)))] ⟨rfl, rfl, (congrArg (fun z => some (Value.int z)) (by simp [sumF, c9, c22])), rfl, trivial⟩ ?_
        exact ih (i + 1) (by omega)
  refine g_iconst (v := 0) h dX3_claimsOf_0 (by decide) ?_
  refine g_istore_n h dX3_claimsOf_1 (by rw [hL]; decide) ?_
  refine g_iconst (v := 0) h dX3_claimsOf_2 (by decide) ?_
  refine g_istore_n h dX3_claimsOf_3 (by rw [hL]; decide) ?_
  refine g_sub [(0, ra X (iS s)), (1, .int b), (2, .int (sumF 0 (fun i => if σ.1 (iL s i) 0 = b then σ.1 (iL s i) 2 else 0) 0)), (3, .int (nI 0))] ⟨rfl, rfl, rfl, lk_0, trivial⟩ ?_
  exact LOOP m 0 (by omega)
set_option maxRecDepth 100000 in
set_option maxHeartbeats 4000000 in
theorem ct_X3_stakesOn {l : Launch} {X : fX} {σ : fM} {s n m : Nat} (hs : s < 6) (hc : cnt σ s n m) {b : Int32} : Ct l X yX3_stakesOn cX3_stakesOn 4 (some .int) 0 [ra X (iS s), .int b] σ (some (.int (sumF 0 (fun i => if σ.1 (iO s i) 9 = b then σ.1 (iO s i) 10 else 0) n))) σ := by
  refine Ct.of RX3 rfl (by decide) (Nat.le_of_ble_eq_true rfl) ?_
  intro x hL h hr
  refine g_sub [(0, ra X (iS s)), (1, .int b)] ⟨rfl, rfl, trivial⟩ ?_
  obtain ⟨hn, hm, hn6, hm8⟩ := hc
  have LOOP : ∀ (q i : Nat), i + q = n → G x X σ [(0, ra X (iS s)), (1, .int b), (2, .int (sumF 0 (fun i => if σ.1 (iO s i) 9 = b then σ.1 (iO s i) 10 else 0) i)), (3, .int (nI i))] [] 4 := by
    intro q
    induction q with
    | zero =>
      intro i hi 
      obtain rfl : i = n := by omega
      refine g_iload_n h dX3_stakesOn_4 rfl ?_
      refine g_aload_n h dX3_stakesOn_5 rfl ?_
      refine gf3_32 h (by omega) dX3_stakesOn_6 ?_
      refine g_icge h 43 dX3_stakesOn_9 (by decide) (fun c9 => ?_) (fun c9 => absurd (by rw [hn]; exact Int32.le_refl _) c9)
      refine g_iload_n h dX3_stakesOn_43 rfl ?_
      exact g_iret h hr dX3_stakesOn_44 rfl rfl
    | succ q ih =>
      intro i hi 
      have hlt : i < n := by omega
      refine g_iload_n h dX3_stakesOn_4 rfl ?_
      refine g_aload_n h dX3_stakesOn_5 rfl ?_
      refine gf3_32 h (by omega) dX3_stakesOn_6 ?_
      refine g_icge h 43 dX3_stakesOn_9 (by decide) (fun c9 => absurd c9 (by rw [hn]; exact nI_ge hlt (by omega))) (fun c9 => ?_)
      refine g_aload_n h dX3_stakesOn_12 rfl ?_
      refine gf3_11 h (by omega) dX3_stakesOn_13 ?_
      refine g_iload_n h dX3_stakesOn_16 rfl ?_
      refine g_aaldO h (by omega) rfl (by omega) dX3_stakesOn_17 ?_
      refine gf3_111 h (by omega) (by omega) dX3_stakesOn_18 ?_
      refine g_iload_n h dX3_stakesOn_21 rfl ?_
      refine g_icne h 37 dX3_stakesOn_22 (by decide) (fun c22 => ?_) (fun c22 => ?_)
      · refine g_iincN h dX3_stakesOn_37 rfl (by rw [hL]; decide) ?_
        refine g_goto h 4 dX3_stakesOn_40 (by decide) ?_
        refine g_sub [(0, ra X (iS s)), (1, .int b), (2, .int (sumF 0 (fun i => if σ.1 (iO s i) 9 = b then σ.1 (iO s i) 10 else 0) (i + 1))), (3, .int (nI (i + 1)))] ⟨rfl, rfl, (congrArg (fun z => some (Value.int z)) (by simp [sumF, c9, c22])), rfl, trivial⟩ ?_
        exact ih (i + 1) (by omega)
      · refine g_iload_n h dX3_stakesOn_25 rfl ?_
        refine g_aload_n h dX3_stakesOn_26 rfl ?_
        refine gf3_11 h (by omega) dX3_stakesOn_27 ?_
        refine g_iload_n h dX3_stakesOn_30 rfl ?_
        refine g_aaldO h (by omega) rfl (by omega) dX3_stakesOn_31 ?_
        refine gf3_101 h (by omega) (by omega) dX3_stakesOn_32 ?_
        refine g_iadd h dX3_stakesOn_35 ?_
        refine g_istore_n h dX3_stakesOn_36 (by rw [hL]; decide) ?_
        refine g_iincN h dX3_stakesOn_37 rfl (by rw [hL]; decide) ?_
        refine g_goto h 4 dX3_stakesOn_40 (by decide) ?_
        refine g_sub [(0, ra X (iS s)), (1, .int b), (2, .int (sumF 0 (fun i => if σ.1 (iO s i) 9 = b then σ.1 (iO s i) 10 else 0) (i + 1))), (3, .int (nI (i + 1)))] ⟨rfl, rfl, (congrArg (fun z => some (Value.int z)) (by simp [sumF, c9, c22])), rfl, trivial⟩ ?_
        exact ih (i + 1) (by omega)
  refine g_iconst (v := 0) h dX3_stakesOn_0 (by decide) ?_
  refine g_istore_n h dX3_stakesOn_1 (by rw [hL]; decide) ?_
  refine g_iconst (v := 0) h dX3_stakesOn_2 (by decide) ?_
  refine g_istore_n h dX3_stakesOn_3 (by rw [hL]; decide) ?_
  refine g_sub [(0, ra X (iS s)), (1, .int b), (2, .int (sumF 0 (fun i => if σ.1 (iO s i) 9 = b then σ.1 (iO s i) 10 else 0) 0)), (3, .int (nI 0))] ⟨rfl, rfl, rfl, lk_0, trivial⟩ ?_
  exact LOOP n 0 (by omega)
set_option maxRecDepth 100000 in
set_option maxHeartbeats 4000000 in
theorem ct_X3_richerThan {l : Launch} {X : fX} {σ : fM} {s n m : Nat} (hs : s < 6) (hc : cnt σ s n m) {j : Nat} (hj : j < n) : Ct l X yX3_richerThan cX3_richerThan 5 (some .int) 0 [ra X (iS s), .int (nI j)] σ (some (.int (sumF 0 (fun i => if σ.1 (iO s j) 2 < σ.1 (iO s i) 2 ∨ (σ.1 (iO s i) 2 = σ.1 (iO s j) 2 ∧ nI i < nI j) then 1 else 0) n))) σ := by
  refine Ct.of RX3 rfl (by decide) (Nat.le_of_ble_eq_true rfl) ?_
  intro x hL h hr
  refine g_sub [(0, ra X (iS s)), (1, .int (nI j))] ⟨rfl, rfl, trivial⟩ ?_
  obtain ⟨hn, hm, hn6, hm8⟩ := hc
  have LOOP : ∀ (q i : Nat), i + q = n → G x X σ [(0, ra X (iS s)), (1, .int (nI j)), (2, .int (σ.1 (iO s j) 2)), (3, .int (sumF 0 (fun i => if σ.1 (iO s j) 2 < σ.1 (iO s i) 2 ∨ (σ.1 (iO s i) 2 = σ.1 (iO s j) 2 ∧ nI i < nI j) then 1 else 0) i)), (4, .int (nI i))] [] 15 := by
    intro q
    induction q with
    | zero =>
      intro i hi 
      obtain rfl : i = n := by omega
      refine g_iload h dX3_richerThan_15 rfl ?_
      refine g_aload_n h dX3_richerThan_17 rfl ?_
      refine gf3_32 h (by omega) dX3_richerThan_18 ?_
      refine g_icge h 67 dX3_richerThan_21 (by decide) (fun c21 => ?_) (fun c21 => absurd (by rw [hn]; exact Int32.le_refl _) c21)
      refine g_iload_n h dX3_richerThan_67 rfl ?_
      exact g_iret h hr dX3_richerThan_68 rfl rfl
    | succ q ih =>
      intro i hi 
      have hlt : i < n := by omega
      refine g_iload h dX3_richerThan_15 rfl ?_
      refine g_aload_n h dX3_richerThan_17 rfl ?_
      refine gf3_32 h (by omega) dX3_richerThan_18 ?_
      refine g_icge h 67 dX3_richerThan_21 (by decide) (fun c21 => absurd c21 (by rw [hn]; exact nI_ge hlt (by omega))) (fun c21 => ?_)
      refine g_aload_n h dX3_richerThan_24 rfl ?_
      refine gf3_11 h (by omega) dX3_richerThan_25 ?_
      refine g_iload h dX3_richerThan_28 rfl ?_
      refine g_aaldO h (by omega) rfl (by omega) dX3_richerThan_30 ?_
      refine gf3_85 h (by omega) (by omega) dX3_richerThan_31 ?_
      refine g_iload_n h dX3_richerThan_34 rfl ?_
      refine g_icgt h 58 dX3_richerThan_35 (by decide) (fun c35 => ?_) (fun c35 => ?_)
      · refine g_iinc1 h dX3_richerThan_58 rfl (by rw [hL]; decide) ?_
        refine g_iincN h dX3_richerThan_61 rfl (by rw [hL]; decide) ?_
        refine g_goto h 15 dX3_richerThan_64 (by decide) ?_
        refine g_sub [(0, ra X (iS s)), (1, .int (nI j)), (2, .int (σ.1 (iO s j) 2)), (3, .int (sumF 0 (fun i => if σ.1 (iO s j) 2 < σ.1 (iO s i) 2 ∨ (σ.1 (iO s i) 2 = σ.1 (iO s j) 2 ∧ nI i < nI j) then 1 else 0) (i + 1))), (4, .int (nI (i + 1)))] ⟨rfl, rfl, rfl, (congrArg (fun z => some (Value.int z)) (by simp [sumF, c21, c35])), rfl, trivial⟩ ?_
        exact ih (i + 1) (by omega)
      · refine g_aload_n h dX3_richerThan_38 rfl ?_
        refine gf3_11 h (by omega) dX3_richerThan_39 ?_
        refine g_iload h dX3_richerThan_42 rfl ?_
        refine g_aaldO h (by omega) rfl (by omega) dX3_richerThan_44 ?_
        refine gf3_85 h (by omega) (by omega) dX3_richerThan_45 ?_
        refine g_iload_n h dX3_richerThan_48 rfl ?_
        refine g_icne h 61 dX3_richerThan_49 (by decide) (fun c49 => ?_) (fun c49 => ?_)
        · refine g_iincN h dX3_richerThan_61 rfl (by rw [hL]; decide) ?_
          refine g_goto h 15 dX3_richerThan_64 (by decide) ?_
          refine g_sub [(0, ra X (iS s)), (1, .int (nI j)), (2, .int (σ.1 (iO s j) 2)), (3, .int (sumF 0 (fun i => if σ.1 (iO s j) 2 < σ.1 (iO s i) 2 ∨ (σ.1 (iO s i) 2 = σ.1 (iO s j) 2 ∧ nI i < nI j) then 1 else 0) (i + 1))), (4, .int (nI (i + 1)))] ⟨rfl, rfl, rfl, (congrArg (fun z => some (Value.int z)) (by simp [sumF, c21, c35, c49])), rfl, trivial⟩ ?_
          exact ih (i + 1) (by omega)
        · refine g_iload h dX3_richerThan_52 rfl ?_
          refine g_iload_n h dX3_richerThan_54 rfl ?_
          refine g_icge h 61 dX3_richerThan_55 (by decide) (fun c55 => ?_) (fun c55 => ?_)
          · refine g_iincN h dX3_richerThan_61 rfl (by rw [hL]; decide) ?_
            refine g_goto h 15 dX3_richerThan_64 (by decide) ?_
            refine g_sub [(0, ra X (iS s)), (1, .int (nI j)), (2, .int (σ.1 (iO s j) 2)), (3, .int (sumF 0 (fun i => if σ.1 (iO s j) 2 < σ.1 (iO s i) 2 ∨ (σ.1 (iO s i) 2 = σ.1 (iO s j) 2 ∧ nI i < nI j) then 1 else 0) (i + 1))), (4, .int (nI (i + 1)))] ⟨rfl, rfl, rfl, (congrArg (fun z => some (Value.int z)) (by simp [sumF, c21, c35, c49, c55])), rfl, trivial⟩ ?_
            exact ih (i + 1) (by omega)
          · refine g_iinc1 h dX3_richerThan_58 rfl (by rw [hL]; decide) ?_
            refine g_iincN h dX3_richerThan_61 rfl (by rw [hL]; decide) ?_
            refine g_goto h 15 dX3_richerThan_64 (by decide) ?_
            refine g_sub [(0, ra X (iS s)), (1, .int (nI j)), (2, .int (σ.1 (iO s j) 2)), (3, .int (sumF 0 (fun i => if σ.1 (iO s j) 2 < σ.1 (iO s i) 2 ∨ (σ.1 (iO s i) 2 = σ.1 (iO s j) 2 ∧ nI i < nI j) then 1 else 0) (i + 1))), (4, .int (nI (i + 1)))] ⟨rfl, rfl, rfl, (congrArg (fun z => some (Value.int z)) (by simp [sumF, c21, c35, c49, c55])), rfl, trivial⟩ ?_
            exact ih (i + 1) (by omega)
  refine g_aload_n h dX3_richerThan_0 rfl ?_
  refine gf3_11 h (by omega) dX3_richerThan_1 ?_
  refine g_iload_n h dX3_richerThan_4 rfl ?_
  refine g_aaldO h (by omega) rfl (by omega) dX3_richerThan_5 ?_
  refine gf3_85 h (by omega) (by omega) dX3_richerThan_6 ?_
  refine g_istore_n h dX3_richerThan_9 (by rw [hL]; decide) ?_
  refine g_iconst (v := 0) h dX3_richerThan_10 (by decide) ?_
  refine g_istore_n h dX3_richerThan_11 (by rw [hL]; decide) ?_
  refine g_iconst (v := 0) h dX3_richerThan_12 (by decide) ?_
  refine g_istore h dX3_richerThan_13 (by rw [hL]; decide) ?_
  refine g_sub [(0, ra X (iS s)), (1, .int (nI j)), (2, .int (σ.1 (iO s j) 2)), (3, .int (sumF 0 (fun i => if σ.1 (iO s j) 2 < σ.1 (iO s i) 2 ∨ (σ.1 (iO s i) 2 = σ.1 (iO s j) 2 ∧ nI i < nI j) then 1 else 0) 0)), (4, .int (nI 0))] ⟨rfl, rfl, rfl, rfl, lk_0, trivial⟩ ?_
  exact LOOP n 0 (by omega)
set_option maxRecDepth 100000 in
set_option maxHeartbeats 4000000 in
theorem ct_X3_isTaken {l : Launch} {X : fX} {σ : fM} {s n m : Nat} (hs : s < 6) (hc : cnt σ s n m) {b p : Int32} : Ct l X yX3_isTaken cX3_isTaken 4 (some .boolean) 0 [ra X (iS s), .int b, .int p] σ (some (.int (bi (anyF (fun i => decide (σ.1 (iO s i) 3 = b) && decide (σ.1 (iO s i) 4 = p)) n)))) σ := by
  refine Ct.of RX3 rfl (by decide) (Nat.le_of_ble_eq_true rfl) ?_
  intro x hL h hr
  refine g_sub [(0, ra X (iS s)), (1, .int b), (2, .int p)] ⟨rfl, rfl, rfl, trivial⟩ ?_
  obtain ⟨hn, hm, hn6, hm8⟩ := hc
  have LOOP : ∀ (q i : Nat), i + q = n → anyF (fun i => decide (σ.1 (iO s i) 3 = b) && decide (σ.1 (iO s i) 4 = p)) i = false → G x X σ [(0, ra X (iS s)), (1, .int b), (2, .int p), (3, .int (nI i))] [] 2 := by
    intro q
    induction q with
    | zero =>
      intro i hi hf
      obtain rfl : i = n := by omega
      refine g_iload_n h dX3_isTaken_2 rfl ?_
      refine g_aload_n h dX3_isTaken_3 rfl ?_
      refine gf3_32 h (by omega) dX3_isTaken_4 ?_
      refine g_icge h 44 dX3_isTaken_7 (by decide) (fun c7 => ?_) (fun c7 => absurd (by rw [hn]; exact Int32.le_refl _) c7)
      refine g_iconst (v := 0) h dX3_isTaken_44 (by decide) ?_
      exact g_zret h hr (by first | rfl | exact bi_n _) dX3_isTaken_45 (by rw [hf]; rfl) rfl
    | succ q ih =>
      intro i hi hf
      have hlt : i < n := by omega
      refine g_iload_n h dX3_isTaken_2 rfl ?_
      refine g_aload_n h dX3_isTaken_3 rfl ?_
      refine gf3_32 h (by omega) dX3_isTaken_4 ?_
      refine g_icge h 44 dX3_isTaken_7 (by decide) (fun c7 => absurd c7 (by rw [hn]; exact nI_ge hlt (by omega))) (fun c7 => ?_)
      refine g_aload_n h dX3_isTaken_10 rfl ?_
      refine gf3_11 h (by omega) dX3_isTaken_11 ?_
      refine g_iload_n h dX3_isTaken_14 rfl ?_
      refine g_aaldO h (by omega) rfl (by omega) dX3_isTaken_15 ?_
      refine gf3_68 h (by omega) (by omega) dX3_isTaken_16 ?_
      refine g_iload_n h dX3_isTaken_19 rfl ?_
      refine g_icne h 38 dX3_isTaken_20 (by decide) (fun c20 => ?_) (fun c20 => ?_)
      · refine g_iincN h dX3_isTaken_38 rfl (by rw [hL]; decide) ?_
        refine g_goto h 2 dX3_isTaken_41 (by decide) ?_
        refine g_sub [(0, ra X (iS s)), (1, .int b), (2, .int p), (3, .int (nI (i + 1)))] ⟨rfl, rfl, rfl, rfl, trivial⟩ ?_
        exact ih (i + 1) (by omega) (by simp [anyF, hf, c7, c20])
      · refine g_aload_n h dX3_isTaken_23 rfl ?_
        refine gf3_11 h (by omega) dX3_isTaken_24 ?_
        refine g_iload_n h dX3_isTaken_27 rfl ?_
        refine g_aaldO h (by omega) rfl (by omega) dX3_isTaken_28 ?_
        refine gf3_75 h (by omega) (by omega) dX3_isTaken_29 ?_
        refine g_iload_n h dX3_isTaken_32 rfl ?_
        refine g_icne h 38 dX3_isTaken_33 (by decide) (fun c33 => ?_) (fun c33 => ?_)
        · refine g_iincN h dX3_isTaken_38 rfl (by rw [hL]; decide) ?_
          refine g_goto h 2 dX3_isTaken_41 (by decide) ?_
          refine g_sub [(0, ra X (iS s)), (1, .int b), (2, .int p), (3, .int (nI (i + 1)))] ⟨rfl, rfl, rfl, rfl, trivial⟩ ?_
          exact ih (i + 1) (by omega) (by simp [anyF, hf, c7, c20, c33])
        · refine g_iconst (v := 1) h dX3_isTaken_36 (by decide) ?_
          exact g_zret h hr (by first | rfl | exact bi_n _) dX3_isTaken_37 (by rw [anyF_t hlt (by simp [c7, c20, c33])]; rfl) rfl
  refine g_iconst (v := 0) h dX3_isTaken_0 (by decide) ?_
  refine g_istore_n h dX3_isTaken_1 (by rw [hL]; decide) ?_
  refine g_sub [(0, ra X (iS s)), (1, .int b), (2, .int p), (3, .int (nI 0))] ⟨rfl, rfl, rfl, lk_0, trivial⟩ ?_
  exact LOOP n 0 (by omega) rfl
def tak (σ : fM) (s n : Nat) (b p : Int32) : Bool := anyF (fun i => decide (σ.1 (iO s i) 3 = b) && decide (σ.1 (iO s i) 4 = p)) n

set_option maxRecDepth 100000 in
set_option maxHeartbeats 4000000 in
theorem ct_X3_lowestFreeSeat {l : Launch} {X : fX} {σ : fM} {s n m : Nat} (hs : s < 6) (hc : cnt σ s n m) {b : Int32} : Ct l X yX3_lowestFreeSeat cX3_lowestFreeSeat 3 (some .int) 1 [ra X (iS s), .int b] σ (some (.int (if tak σ s n b 0 = true then (if tak σ s n b 1 = true then -1 else 1) else 0))) σ := by
  refine Ct.of RX3 rfl (by decide) (Nat.le_of_ble_eq_true rfl) ?_
  intro x hL h hr
  refine g_sub [(0, ra X (iS s)), (1, .int b)] ⟨rfl, rfl, trivial⟩ ?_
  refine g_iconst (v := 0) h dX3_lowestFreeSeat_0 (by decide) ?_
  refine g_istore_n h dX3_lowestFreeSeat_1 (by rw [hL]; decide) ?_
  refine g_iload_n h dX3_lowestFreeSeat_2 rfl ?_
  refine g_iconst (v := 2) h dX3_lowestFreeSeat_3 (by decide) ?_
  refine g_icge h 24 dX3_lowestFreeSeat_4 (by decide) (fun c4 => absurd c4 (by decide)) (fun c4 => ?_)
  refine g_aload_n h dX3_lowestFreeSeat_7 rfl ?_
  refine g_iload_n h dX3_lowestFreeSeat_8 rfl ?_
  refine g_iload_n h dX3_lowestFreeSeat_9 rfl ?_
  refine cl3_71 h (by omega) (ct_X3_isTaken hs hc) rfl dX3_lowestFreeSeat_10 rfl (Nat.le_of_ble_eq_true rfl) (by decide) ?_
  refine g_ifneB h 18 dX3_lowestFreeSeat_13 (by decide) (fun c13 => ?_) (fun c13 => ?_)
  · refine g_iinc1 h dX3_lowestFreeSeat_18 rfl (by rw [hL]; decide) ?_
    refine g_goto h 2 dX3_lowestFreeSeat_21 (by decide) ?_
    refine g_iload_n h dX3_lowestFreeSeat_2 rfl ?_
    refine g_iconst (v := 2) h dX3_lowestFreeSeat_3 (by decide) ?_
    refine g_icge h 24 dX3_lowestFreeSeat_4 (by decide) (fun c4 => absurd c4 (by decide)) (fun c4 => ?_)
    refine g_aload_n h dX3_lowestFreeSeat_7 rfl ?_
    refine g_iload_n h dX3_lowestFreeSeat_8 rfl ?_
    refine g_iload_n h dX3_lowestFreeSeat_9 rfl ?_
    refine cl3_71 h (by omega) (ct_X3_isTaken hs hc) rfl dX3_lowestFreeSeat_10 rfl (Nat.le_of_ble_eq_true rfl) (by decide) ?_
    refine g_ifneB h 18 dX3_lowestFreeSeat_13 (by decide) (fun c13 => ?_) (fun c13 => ?_)
    · refine g_iinc1 h dX3_lowestFreeSeat_18 rfl (by rw [hL]; decide) ?_
      refine g_goto h 2 dX3_lowestFreeSeat_21 (by decide) ?_
      refine g_iload_n h dX3_lowestFreeSeat_2 rfl ?_
      refine g_iconst (v := 2) h dX3_lowestFreeSeat_3 (by decide) ?_
      refine g_icge h 24 dX3_lowestFreeSeat_4 (by decide) (fun c4 => ?_) (fun c4 => absurd (by decide) c4)
      refine g_iconst (v := (-1)) h dX3_lowestFreeSeat_24 (by decide) ?_
      exact g_iret h hr dX3_lowestFreeSeat_25 (by first | (simp [tak, c4, c13, c4, c13, c4]; done) | (simp_all [tak]; done)) rfl
    · refine g_iload_n h dX3_lowestFreeSeat_16 rfl ?_
      exact g_iret h hr dX3_lowestFreeSeat_17 (by first | (simp [tak, c4, c13, c4, c13]; done) | (simp_all [tak]; done)) rfl
  · refine g_iload_n h dX3_lowestFreeSeat_16 rfl ?_
    exact g_iret h hr dX3_lowestFreeSeat_17 (by first | (simp [tak, c4, c13]; done) | (simp_all [tak]; done)) rfl