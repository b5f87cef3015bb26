/-! the law's turns: to sit and to stand -/
section TURNS
variable {l : Launch} {x : fC} {X : fX} {σ τ : fM} {Q O T V w : Nat → Int32} {m B y : Nat}
theorem KM_p5 (K : lKv τ Q O T V m B y) : KM (put5 τ 0 Q O T V w) Q O T V w m B y := ⟨lKv_cg (fun q hq => p5_lo (by omega)) K, p5_q, p5_o, p5_t, p5_v, p5_w⟩
theorem p5_hold {Q' O' T' V' w' : Nat → Int32} (e : ∀ q, 150 ≤ q → τ.1 q = (put5 σ 0 Q' O' T' V' w').1 q) : τ = put5 τ 0 Q' O' T' V' w' :=
  (p5_self ((e _ (by decide)).trans p5_q) ((e _ (by decide)).trans p5_o) ((e _ (by decide)).trans p5_t) ((e _ (by decide)).trans p5_v) ((e _ (by decide)).trans p5_w)).symm
theorem lKv_up {B' y' : Nat} (K : lKv σ Q O T V m B y) (h1 : B ≤ B') (h2 : y ≤ y') : lKv σ Q O T V m B' y' := ⟨K.1, lgd_up K.2.1 h1 h2, K.2.2⟩
theorem lKv_p5 {Q' O' T' V' w' : Nat → Int32} (K : lKv σ Q O T V m B y) : lKv (put5 σ 0 Q' O' T' V' w') Q O T V m B y := lKv_cg (fun q hq => p5_lo (by omega)) K
def lsF (O : Nat → Int32) (b : Int32) (n : Nat) : Int32 := sumF 0 (fun i => if O (10 * i + 3) = b then 1 else 0) n
theorem lsF_t {b : Int32} {j : Nat} (c : O (10 * j + 3) = b) : lsF O b j + nI 1 = lsF O b (j + 1) := by
  show _ = lsF O b j + (if O (10 * j + 3) = b then 1 else 0)
  rw [if_pos c]; rfl
theorem lsF_f {b : Int32} {j : Nat} (c : ¬ O (10 * j + 3) = b) : lsF O b j + nI 0 = lsF O b (j + 1) := by
  show _ = lsF O b j + (if O (10 * j + 3) = b then 1 else 0)
  rw [if_neg c]; rfl
theorem tk_0 (O : Nat → Int32) (k : Nat) : tks (nI 0) (ro O k) = decide (O (10 * k) = 0) := if_pos rfl
theorem tk_1 (f : Nat → Int32) : tks (nI 1) f = oTab f := by
  unfold tks
  rw [if_neg (by decide), decide_eq_true (show nI 1 = 1 by decide)]
  rfl
theorem tk_2 (f : Nat → Int32) : tks (nI 2) f = true := by
  unfold tks
  rw [if_neg (by decide), decide_eq_false (by decide)]
  rfl

set_option maxRecDepth 100000 in
set_option maxHeartbeats 4000000 in
theorem tn_2 (h : Ok l x X cL_law RL 8) (hL : xL x = 16) {i k a b s : Nat} {xv : Int32} (hk : k < 5) (hb : b < 3) (hK : lK O) (R : G x X (put5 σ 0 Q O T V w) [(0, .ref (X.2.2.2.1 2)), (1, ra X 0), (2, ra X (qI 0)), (3, ra X (oI 0)), (4, ra X (tI 0)), (5, ra X (vI 0)), (6, ra X 154), (7, .int (nI i)), (8, .int xv), (10, .int (nI k)), (11, .int (nI (10 * k))), (12, .int (nI a)), (13, .int (nI b)), (14, .int (nI s))] [.int (bi (tks (nI b) (ro O k)))] 465) : G x X (put5 σ 0 Q O T V w) [(0, .ref (X.2.2.2.1 2)), (1, ra X 0), (2, ra X (qI 0)), (3, ra X (oI 0)), (4, ra X (tI 0)), (5, ra X (vI 0)), (6, ra X 154), (7, .int (nI i)), (8, .int xv), (10, .int (nI k)), (11, .int (nI (10 * k))), (12, .int (nI a)), (13, .int (nI b)), (14, .int (nI s))] [] 427 := by
  rcases (show b = 0 ∨ b = 1 ∨ b = 2 by omega) with rfl | rfl | rfl
  · refine g_iload h dL_law_427 rfl ?_
    refine g_iconst (v := nI 2) h dL_law_429 (by decide) ?_
    refine g_iceq h 460 dL_law_430 (by decide) (fun c430 => absurd c430 (by decide)) (fun c430 => ?_)
    refine g_iload h dL_law_433 rfl ?_
    refine g_ifne h 445 dL_law_435 (by decide) (fun c435 => absurd rfl c435) (fun c435 => ?_)
    refine g_aload_n h dL_law_438 rfl ?_
    refine g_iload h dL_law_439 rfl ?_
    refine g_ldo h hb0 (by omega) dL_law_441 ?_
    refine g_ifeq h 460 dL_law_442 (by decide) (fun c442 => ?_) (fun c442 => ?_)
    · refine g_iconst (v := nI 1) h dL_law_460 (by decide) ?_
      refine g_goto h 465 dL_law_461 (by decide) ?_
      refine g_top (bi (tks (nI 0) (ro O k))) (by rw [tk_0, decide_eq_true c442]; rfl) ?_
      exact R
    · refine g_iload h dL_law_445 rfl ?_
      refine g_iconst (v := nI 1) h dL_law_447 (by decide) ?_
      refine g_icne h 464 dL_law_448 (by decide) (fun c448 => ?_) (fun c448 => absurd c448 (by decide))
      refine g_iconst (v := nI 0) h dL_law_464 (by decide) ?_
      refine g_top (bi (tks (nI 0) (ro O k))) (by rw [tk_0, decide_eq_false c442]; rfl) ?_
      exact R
  · refine g_iload h dL_law_427 rfl ?_
    refine g_iconst (v := nI 2) h dL_law_429 (by decide) ?_
    refine g_iceq h 460 dL_law_430 (by decide) (fun c430 => absurd c430 (by decide)) (fun c430 => ?_)
    refine g_iload h dL_law_433 rfl ?_
    refine g_ifne h 445 dL_law_435 (by decide) (fun c435 => ?_) (fun c435 => absurd c435 (by decide))
    refine g_iload h dL_law_445 rfl ?_
    refine g_iconst (v := nI 1) h dL_law_447 (by decide) ?_
    refine g_icne h 464 dL_law_448 (by decide) (fun c448 => absurd rfl c448) (fun c448 => ?_)
    refine g_iload h dL_law_451 rfl ?_
    refine g_aload_n h dL_law_453 rfl ?_
    refine clL_24 h (ct_L_table hb0 hK hk) rfl dL_law_454 rfl (Nat.le_of_ble_eq_true rfl) (by decide) ?_
    refine g_ifeqB h 464 dL_law_457 (by decide) (fun c457 => ?_) (fun c457 => ?_)
    · refine g_iconst (v := nI 0) h dL_law_464 (by decide) ?_
      refine g_top (bi (tks (nI 1) (ro O k))) (by rw [tk_1, c457]; rfl) ?_
      exact R
    · refine g_iconst (v := nI 1) h dL_law_460 (by decide) ?_
      refine g_goto h 465 dL_law_461 (by decide) ?_
      refine g_top (bi (tks (nI 1) (ro O k))) (by rw [tk_1, c457]; rfl) ?_
      exact R
  · refine g_iload h dL_law_427 rfl ?_
    refine g_iconst (v := nI 2) h dL_law_429 (by decide) ?_
    refine g_iceq h 460 dL_law_430 (by decide) (fun c430 => ?_) (fun c430 => absurd rfl c430)
    refine g_iconst (v := nI 1) h dL_law_460 (by decide) ?_
    refine g_goto h 465 dL_law_461 (by decide) ?_
    refine g_top (bi (tks (nI 2) (ro O k))) (by rw [tk_2]; rfl) ?_
    exact R

set_option maxRecDepth 100000 in
set_option maxHeartbeats 4000000 in
theorem tn_1 (h : Ok l x X cL_law RL 8) (hL : xL x = 16) {i k a b : Nat} {xv : Int32} (R : G x X (put5 σ 0 Q O T V w) [(0, .ref (X.2.2.2.1 2)), (1, ra X 0), (2, ra X (qI 0)), (3, ra X (oI 0)), (4, ra X (tI 0)), (5, ra X (vI 0)), (6, ra X 154), (7, .int (nI i)), (8, .int xv), (10, .int (nI k)), (11, .int (nI (10 * k))), (12, .int (nI a)), (13, .int (nI b)), (14, .int (nI (lsN O (nI b) 5)))] [] 427) : ∀ (q j : Nat), j + q = 5 → G x X (put5 σ 0 Q O T V w) [(0, .ref (X.2.2.2.1 2)), (1, ra X 0), (2, ra X (qI 0)), (3, ra X (oI 0)), (4, ra X (tI 0)), (5, ra X (vI 0)), (6, ra X 154), (7, .int (nI i)), (8, .int xv), (10, .int (nI k)), (11, .int (nI (10 * k))), (12, .int (nI a)), (13, .int (nI b)), (14, .int (lsF O (nI b) j)), (15, .int (nI j))] [] 391 := by
  intro q
  induction q with
  | zero =>
    intro j hj
    have hj5 : j = 5 := hj
    refine g_iload h dL_law_391 rfl ?_
    refine g_iconst (v := nI 5) h dL_law_393 (by decide) ?_
    refine g_icge h 427 dL_law_394 (by decide) (fun c394 => ?_) (fun c394 => absurd (by rw [hj5]; exact Int32.le_refl _) c394)
    subst hj5
    refine g_sub [(0, .ref (X.2.2.2.1 2)), (1, ra X 0), (2, ra X (qI 0)), (3, ra X (oI 0)), (4, ra X (tI 0)), (5, ra X (vI 0)), (6, ra X 154), (7, .int (nI i)), (8, .int xv), (10, .int (nI k)), (11, .int (nI (10 * k))), (12, .int (nI a)), (13, .int (nI b)), (14, .int (nI (lsN O (nI b) 5)))] ⟨rfl, rfl, rfl, rfl, rfl, rfl, rfl, rfl, rfl, rfl, rfl, rfl, rfl, (congrArg (fun z => some (Value.int z)) (lsN_F O (nI b) 5)), trivial⟩ ?_
    exact R
  | succ q ih =>
    intro j hj
    have hlt : j < 5 := by omega
    refine g_iload h dL_law_391 rfl ?_
    refine g_iconst (v := nI 5) h dL_law_393 (by decide) ?_
    refine g_icge h 427 dL_law_394 (by decide) (fun c394 => absurd c394 (nI_ge hlt (by decide))) (fun c394 => ?_)
    refine g_iload h dL_law_397 rfl ?_
    refine g_aload_n h dL_law_399 rfl ?_
    refine g_bipush (v := nI 10) h dL_law_400 (by decide) ?_
    refine g_iload h dL_law_402 rfl ?_
    refine g_imulN h dL_law_404 ?_
    refine g_iconst (v := nI 3) h dL_law_405 (by decide) ?_
    refine g_iaddN h dL_law_406 ?_
    refine g_ldo h hb0 (by omega) dL_law_407 ?_
    refine g_iload h dL_law_408 rfl ?_
    refine g_icne h 417 dL_law_410 (by decide) (fun c410 => ?_) (fun c410 => ?_)
    · refine g_iconst (v := nI 0) h dL_law_417 (by decide) ?_
      refine g_iadd h dL_law_418 ?_
      refine g_istore h dL_law_419 (by rw [hL]; decide) ?_
      refine g_iincN h dL_law_421 rfl (by rw [hL]; decide) ?_
      refine g_goto h 391 dL_law_424 (by decide) ?_
      refine g_sub [(0, .ref (X.2.2.2.1 2)), (1, ra X 0), (2, ra X (qI 0)), (3, ra X (oI 0)), (4, ra X (tI 0)), (5, ra X (vI 0)), (6, ra X 154), (7, .int (nI i)), (8, .int xv), (10, .int (nI k)), (11, .int (nI (10 * k))), (12, .int (nI a)), (13, .int (nI b)), (14, .int (lsF O (nI b) (j + 1))), (15, .int (nI (j + 1)))] ⟨rfl, rfl, rfl, rfl, rfl, rfl, rfl, rfl, rfl, rfl, rfl, rfl, rfl, (congrArg (fun z => some (Value.int z)) (lsF_f c410)), rfl, trivial⟩ ?_
      exact ih (j + 1) (by omega)
    · refine g_iconst (v := nI 1) h dL_law_413 (by decide) ?_
      refine g_goto h 418 dL_law_414 (by decide) ?_
      refine g_iadd h dL_law_418 ?_
      refine g_istore h dL_law_419 (by rw [hL]; decide) ?_
      refine g_iincN h dL_law_421 rfl (by rw [hL]; decide) ?_
      refine g_goto h 391 dL_law_424 (by decide) ?_
      refine g_sub [(0, .ref (X.2.2.2.1 2)), (1, ra X 0), (2, ra X (qI 0)), (3, ra X (oI 0)), (4, ra X (tI 0)), (5, ra X (vI 0)), (6, ra X 154), (7, .int (nI i)), (8, .int xv), (10, .int (nI k)), (11, .int (nI (10 * k))), (12, .int (nI a)), (13, .int (nI b)), (14, .int (lsF O (nI b) (j + 1))), (15, .int (nI (j + 1)))] ⟨rfl, rfl, rfl, rfl, rfl, rfl, rfl, rfl, rfl, rfl, rfl, rfl, rfl, (congrArg (fun z => some (Value.int z)) (lsF_t c410)), rfl, trivial⟩ ?_
      exact ih (j + 1) (by omega)

set_option maxRecDepth 100000 in
set_option maxHeartbeats 4000000 in
theorem tn_3 (h : Ok l x X cL_law RL 8) (hL : xL x = 16) {i k a b : Nat} {xv : Int32} (hk : k < 5) (hb : b < 3) (hB : B < 2 ^ 24) (K : KM σ Q O T V w m B y) (C : ∀ (σ : fM) (Q O T V w : Nat → Int32) (m k : Nat), k < 5 → KM σ Q O T V w m (B + 100) (y + 3) → G x X σ [(0, .ref (X.2.2.2.1 2)), (1, ra X 0), (2, ra X (qI 0)), (3, ra X (oI 0)), (4, ra X (tI 0)), (5, ra X (vI 0)), (6, ra X 154), (7, .int (nI i)), (8, .int xv), (10, .int (nI k)), (12, .int (nI a))] [] 871) : G x X (put5 σ 0 Q O T V w) [(0, .ref (X.2.2.2.1 2)), (1, ra X 0), (2, ra X (qI 0)), (3, ra X (oI 0)), (4, ra X (tI 0)), (5, ra X (vI 0)), (6, ra X 154), (7, .int (nI i)), (8, .int xv), (10, .int (nI k)), (11, .int (nI (10 * k))), (12, .int (nI a)), (13, .int (nI b)), (14, .int (nI (lsN O (nI b) 5)))] [.int (bi (tks (nI b) (ro O k)))] 465 := by
  have K1 : lKv (put5 σ 0 Q O T V w) Q O T V m B y := lKv_p5 K.1
  have hH := K.H (by omega)
  obtain ⟨f, z, hp⟩ := id K1.2.2.2
  by_cases hs : O (10 * k + 3) < 0
  · have h3 : O (10 * k + 3) = -1 := (lH_s hH hk).1.mp hs
    have hC := ct_X5_seat (l := l) (X := X) (lrl_gst K1.1 K1.2.1) hp (o := nI k) (b := nI b)
    obtain ⟨r0, r1, r2, r3⟩ := lc_seat hk hb K1 hp h3
    rw [r1, p5_hold r3] at hC
    generalize (cSeat (put5 σ 0 Q O T V w) f z 5 m (nI k) (nI b)).2 = τ at hC r2
    by_cases ht : tks (nI b) (ro O k) = true
    · by_cases h2 : lsN O (nI b) 5 = 2
      · rw [if_pos ht, if_pos h2] at hC
        rw [if_neg (fun q => absurd q.2 (by omega))] at r2
        refine g_istore h dL_law_465 (by rw [hL]; decide) ?_
        refine g_aload_n h dL_law_467 rfl ?_
        refine g_iload h dL_law_468 rfl ?_
        refine g_iconst (v := nI 3) h dL_law_470 (by decide) ?_
        refine g_iaddN h dL_law_471 ?_
        refine g_ldo h hb0 (by omega) dL_law_472 ?_
        refine g_iflt h 503 dL_law_473 (by decide) (fun c473 => ?_) (fun c473 => absurd hs c473)
        refine g_aload_n h dL_law_503 rfl ?_
        refine g_iload h dL_law_504 rfl ?_
        refine g_iload h dL_law_506 rfl ?_
        refine clL_106 h  hC rfl dL_law_508 rfl (Nat.le_of_ble_eq_true rfl) (by decide) ?_
        refine g_iload h dL_law_511 rfl ?_
        refine g_ifneB h 521 dL_law_513 (by decide) (fun c513 => ?_) (fun c513 => absurd (ht.symm.trans c513) (by decide))
        refine g_iload h dL_law_521 rfl ?_
        refine g_iconst (v := nI 2) h dL_law_523 (by decide) ?_
        refine g_icne h 532 dL_law_524 (by decide) (fun c524 => absurd (congrArg nI h2) c524) (fun c524 => ?_)
        refine g_ldc h (-1000003) (lw_in 520 (by decide +kernel) rfl) dL_law_527 ?_
        refine g_goto h 536 dL_law_529 (by decide) ?_
        refine g_iceq h 541 dL_law_536 (by decide) (fun c536 => ?_) (fun c536 => absurd rfl c536)
        refine g_aload_n h dL_law_541 rfl ?_
        refine g_iload h dL_law_542 rfl ?_
        refine g_iconst (v := nI 3) h dL_law_544 (by decide) ?_
        refine g_iaddN h dL_law_545 ?_
        refine g_iload h dL_law_546 rfl ?_
        refine g_ifeqB h 562 dL_law_548 (by decide) (fun c548 => absurd (ht.symm.trans c548) (by decide)) (fun c548 => ?_)
        refine g_iload h dL_law_551 rfl ?_
        refine g_iconst (v := nI 2) h dL_law_553 (by decide) ?_
        refine g_icge h 562 dL_law_554 (by decide) (fun c554 => ?_) (fun c554 => absurd (by rw [h2]; exact Int32.le_refl _) c554)
        refine g_iconst (v := (-1)) h dL_law_562 (by decide) ?_
        refine g_sto h hb0 (by omega) dL_law_563 ?_
        refine g_goto h 871 dL_law_564 (by decide) ?_
        refine g_sub [(0, .ref (X.2.2.2.1 2)), (1, ra X 0), (2, ra X (qI 0)), (3, ra X (oI 0)), (4, ra X (tI 0)), (5, ra X (vI 0)), (6, ra X 154), (7, .int (nI i)), (8, .int xv), (10, .int (nI k)), (12, .int (nI a))] ⟨rfl, rfl, rfl, rfl, rfl, rfl, rfl, rfl, rfl, rfl, rfl, trivial⟩ ?_
        exact C _ _ _ _ _ _ _ _ hk (KM_p5 (lKv_up r2 (by omega) (by omega)))
      · rw [if_pos ht, if_neg h2] at hC
        rw [if_pos ⟨ht, by omega⟩] at r2
        refine g_istore h dL_law_465 (by rw [hL]; decide) ?_
        refine g_aload_n h dL_law_467 rfl ?_
        refine g_iload h dL_law_468 rfl ?_
        refine g_iconst (v := nI 3) h dL_law_470 (by decide) ?_
        refine g_iaddN h dL_law_471 ?_
        refine g_ldo h hb0 (by omega) dL_law_472 ?_
        refine g_iflt h 503 dL_law_473 (by decide) (fun c473 => ?_) (fun c473 => absurd hs c473)
        refine g_aload_n h dL_law_503 rfl ?_
        refine g_iload h dL_law_504 rfl ?_
        refine g_iload h dL_law_506 rfl ?_
        refine clL_106 h  hC rfl dL_law_508 rfl (Nat.le_of_ble_eq_true rfl) (by decide) ?_
        refine g_iload h dL_law_511 rfl ?_
        refine g_ifneB h 521 dL_law_513 (by decide) (fun c513 => ?_) (fun c513 => absurd (ht.symm.trans c513) (by decide))
        refine g_iload h dL_law_521 rfl ?_
        refine g_iconst (v := nI 2) h dL_law_523 (by decide) ?_
        refine g_icne h 532 dL_law_524 (by decide) (fun c524 => ?_) (fun c524 => absurd ((nI_eq (b := 2) (by omega) (by decide)).mp c524) h2)
        refine g_iload h dL_law_532 rfl ?_
        refine g_iconst (v := nI 1) h dL_law_534 (by decide) ?_
        refine g_iaddN h dL_law_535 ?_
        refine g_iceq h 541 dL_law_536 (by decide) (fun c536 => ?_) (fun c536 => absurd rfl c536)
        refine g_aload_n h dL_law_541 rfl ?_
        refine g_iload h dL_law_542 rfl ?_
        refine g_iconst (v := nI 3) h dL_law_544 (by decide) ?_
        refine g_iaddN h dL_law_545 ?_
        refine g_iload h dL_law_546 rfl ?_
        refine g_ifeqB h 562 dL_law_548 (by decide) (fun c548 => absurd (ht.symm.trans c548) (by decide)) (fun c548 => ?_)
        refine g_iload h dL_law_551 rfl ?_
        refine g_iconst (v := nI 2) h dL_law_553 (by decide) ?_
        refine g_icge h 562 dL_law_554 (by decide) (fun c554 => absurd c554 (nI_ge (b := 2) (by omega) (by decide))) (fun c554 => ?_)
        refine g_iload h dL_law_557 rfl ?_
        refine g_goto h 563 dL_law_559 (by decide) ?_
        refine g_sto h hb0 (by omega) dL_law_563 ?_
        refine g_goto h 871 dL_law_564 (by decide) ?_
        refine g_sub [(0, .ref (X.2.2.2.1 2)), (1, ra X 0), (2, ra X (qI 0)), (3, ra X (oI 0)), (4, ra X (tI 0)), (5, ra X (vI 0)), (6, ra X 154), (7, .int (nI i)), (8, .int xv), (10, .int (nI k)), (12, .int (nI a))] ⟨rfl, rfl, rfl, rfl, rfl, rfl, rfl, rfl, rfl, rfl, rfl, trivial⟩ ?_
        exact C _ _ _ _ _ _ _ _ hk (KM_p5 (lKv_up r2 (by omega) (by omega)))
    · rw [if_neg ht] at hC
      rw [if_neg (fun q => ht q.1)] at r2
      refine g_istore h dL_law_465 (by rw [hL]; decide) ?_
      refine g_aload_n h dL_law_467 rfl ?_
      refine g_iload h dL_law_468 rfl ?_
      refine g_iconst (v := nI 3) h dL_law_470 (by decide) ?_
      refine g_iaddN h dL_law_471 ?_
      refine g_ldo h hb0 (by omega) dL_law_472 ?_
      refine g_iflt h 503 dL_law_473 (by decide) (fun c473 => ?_) (fun c473 => absurd hs c473)
      refine g_aload_n h dL_law_503 rfl ?_
      refine g_iload h dL_law_504 rfl ?_
      refine g_iload h dL_law_506 rfl ?_
      refine clL_106 h  hC rfl dL_law_508 rfl (Nat.le_of_ble_eq_true rfl) (by decide) ?_
      refine g_iload h dL_law_511 rfl ?_
      refine g_ifneB h 521 dL_law_513 (by decide) (fun c513 => absurd c513 ht) (fun c513 => ?_)
      refine g_ldc h (-1000002) (lw_in 519 (by decide +kernel) rfl) dL_law_516 ?_
      refine g_goto h 536 dL_law_518 (by decide) ?_
      refine g_iceq h 541 dL_law_536 (by decide) (fun c536 => ?_) (fun c536 => absurd rfl c536)
      refine g_aload_n h dL_law_541 rfl ?_
      refine g_iload h dL_law_542 rfl ?_
      refine g_iconst (v := nI 3) h dL_law_544 (by decide) ?_
      refine g_iaddN h dL_law_545 ?_
      refine g_iload h dL_law_546 rfl ?_
      refine g_ifeqB h 562 dL_law_548 (by decide) (fun c548 => ?_) (fun c548 => absurd c548 ht)
      refine g_iconst (v := (-1)) h dL_law_562 (by decide) ?_
      refine g_sto h hb0 (by omega) dL_law_563 ?_
      refine g_goto h 871 dL_law_564 (by decide) ?_
      refine g_sub [(0, .ref (X.2.2.2.1 2)), (1, ra X 0), (2, ra X (qI 0)), (3, ra X (oI 0)), (4, ra X (tI 0)), (5, ra X (vI 0)), (6, ra X 154), (7, .int (nI i)), (8, .int xv), (10, .int (nI k)), (12, .int (nI a))] ⟨rfl, rfl, rfl, rfl, rfl, rfl, rfl, rfl, rfl, rfl, rfl, trivial⟩ ?_
      exact C _ _ _ _ _ _ _ _ hk (KM_p5 (lKv_up r2 (by omega) (by omega)))
  · have hC := ct_X5_stand (l := l) (X := X) (lrl_gst K1.1 K1.2.1) hp (o := nI k)
    obtain ⟨r1, r2, r3⟩ := lc_stand hk K1 hp hs
    rw [r1, p5_hold r3] at hC
    generalize (cStand (put5 σ 0 Q O T V w) f z 5 m (nI k)).2 = τ at hC r2
    refine g_istore h dL_law_465 (by rw [hL]; decide) ?_
    refine g_aload_n h dL_law_467 rfl ?_
    refine g_iload h dL_law_468 rfl ?_
    refine g_iconst (v := nI 3) h dL_law_470 (by decide) ?_
    refine g_iaddN h dL_law_471 ?_
    refine g_ldo h hb0 (by omega) dL_law_472 ?_
    refine g_iflt h 503 dL_law_473 (by decide) (fun c473 => absurd c473 hs) (fun c473 => ?_)
    refine g_aload_n h dL_law_476 rfl ?_
    refine g_iload h dL_law_477 rfl ?_
    refine clL_103 h  hC rfl dL_law_479 rfl (Nat.le_of_ble_eq_true rfl) (by decide) ?_
    refine g_aload_n h dL_law_482 rfl ?_
    refine g_iload h dL_law_483 rfl ?_
    refine g_iconst (v := nI 3) h dL_law_485 (by decide) ?_
    refine g_iaddN h dL_law_486 ?_
    refine g_ldo h hb0 (by omega) dL_law_487 ?_
    refine g_iceq h 493 dL_law_488 (by decide) (fun c488 => ?_) (fun c488 => absurd rfl c488)
    refine g_aload_n h dL_law_493 rfl ?_
    refine g_iload h dL_law_494 rfl ?_
    refine g_iconst (v := nI 3) h dL_law_496 (by decide) ?_
    refine g_iaddN h dL_law_497 ?_
    refine g_iconst (v := (-1)) h dL_law_498 (by decide) ?_
    refine g_sto h hb0 (by omega) dL_law_499 ?_
    refine g_goto h 564 dL_law_500 (by decide) ?_
    refine g_goto h 871 dL_law_564 (by decide) ?_
    refine g_sub [(0, .ref (X.2.2.2.1 2)), (1, ra X 0), (2, ra X (qI 0)), (3, ra X (oI 0)), (4, ra X (tI 0)), (5, ra X (vI 0)), (6, ra X 154), (7, .int (nI i)), (8, .int xv), (10, .int (nI k)), (12, .int (nI a))] ⟨rfl, rfl, rfl, rfl, rfl, rfl, rfl, rfl, rfl, rfl, rfl, trivial⟩ ?_
    exact C _ _ _ _ _ _ _ _ hk (KM_p5 (lKv_up r2 (by omega) (by omega)))

set_option maxRecDepth 100000 in
set_option maxHeartbeats 4000000 in
theorem tn_0 (h : Ok l x X cL_law RL 8) (hL : xL x = 16) {i k a : Nat} {xv c9 c11 : Int32} (hk : k < 5) (hB : B < 2 ^ 24) (K : KM σ Q O T V w m B y) (C : ∀ (σ : fM) (Q O T V w : Nat → Int32) (m k : Nat), k < 5 → KM σ Q O T V w m (B + 100) (y + 3) → G x X σ [(0, .ref (X.2.2.2.1 2)), (1, ra X 0), (2, ra X (qI 0)), (3, ra X (oI 0)), (4, ra X (tI 0)), (5, ra X (vI 0)), (6, ra X 154), (7, .int (nI i)), (8, .int xv), (10, .int (nI k)), (12, .int (nI a))] [] 871) : G x X (put5 σ 0 Q O T V w) [(0, .ref (X.2.2.2.1 2)), (1, ra X 0), (2, ra X (qI 0)), (3, ra X (oI 0)), (4, ra X (tI 0)), (5, ra X (vI 0)), (6, ra X 154), (7, .int (nI i)), (8, .int xv), (9, .int c9), (10, .int (nI k)), (11, .int c11), (12, .int (nI a))] [] 367 := by
  refine g_bipush (v := nI 10) h dL_law_367 (by decide) ?_
  refine g_iload h dL_law_369 rfl ?_
  refine g_imulN h dL_law_371 ?_
  refine g_istore h dL_law_372 (by rw [hL]; decide) ?_
  refine g_iload h dL_law_374 rfl ?_
  refine g_bipush (v := nI 9) h dL_law_376 (by decide) ?_
  refine g_ishr h dL_law_378 ?_
  refine g_iconst (v := nI 3) h dL_law_379 (by decide) ?_
  refine clL_94 h (ct_L_low (n := 3) (by decide) (by decide)) rfl dL_law_380 rfl (Nat.le_of_ble_eq_true rfl) (by decide) ?_
  refine g_istore h dL_law_383 (by rw [hL]; decide) ?_
  refine g_iconst (v := nI 0) h dL_law_385 (by decide) ?_
  refine g_istore h dL_law_386 (by rw [hL]; decide) ?_
  refine g_iconst (v := nI 0) h dL_law_388 (by decide) ?_
  refine g_istore h dL_law_389 (by rw [hL]; decide) ?_
  refine g_sub [(0, .ref (X.2.2.2.1 2)), (1, ra X 0), (2, ra X (qI 0)), (3, ra X (oI 0)), (4, ra X (tI 0)), (5, ra X (vI 0)), (6, ra X 154), (7, .int (nI i)), (8, .int xv), (10, .int (nI k)), (11, .int (nI (10 * k))), (12, .int (nI a)), (13, .int (nI (lowN (xv >>> (nI 9 &&& 31)) 3))), (14, .int (lsF O (nI (lowN (xv >>> (nI 9 &&& 31)) 3)) 0)), (15, .int (nI 0))] ⟨rfl, rfl, rfl, rfl, rfl, rfl, rfl, rfl, rfl, rfl, rfl, rfl, rfl, rfl, rfl, trivial⟩ ?_
  refine tn_1 h hL ?_ 5 0 (by omega)
  refine tn_2 h hL hk (lowN_lt _ (by decide)) (K.H (by omega)).K ?_
  exact tn_3 h hL hk (lowN_lt _ (by decide)) hB K C

set_option maxRecDepth 100000 in
set_option maxHeartbeats 4000000 in
theorem tn_seat (h : Ok l x X cL_law RL 8) (hL : xL x = 16) {i k a : Nat} {xv c9 c11 : Int32} (hi : i < 16) (hk : k < 5) (hB : B < 2 ^ 24) (K : KM σ Q O T V w m B y) (C : ∀ (σ : fM) (Q O T V w : Nat → Int32) (m k : Nat), k < 5 → KM σ Q O T V w m (B + 100) (y + 3) → G x X σ [(0, .ref (X.2.2.2.1 2)), (1, ra X 0), (2, ra X (qI 0)), (3, ra X (oI 0)), (4, ra X (tI 0)), (5, ra X (vI 0)), (6, ra X 154), (7, .int (nI i)), (8, .int xv), (10, .int (nI k)), (12, .int (nI a))] [] 871) : G x X σ [(0, .ref (X.2.2.2.1 2)), (1, ra X 0), (2, ra X (qI 0)), (3, ra X (oI 0)), (4, ra X (tI 0)), (5, ra X (vI 0)), (6, ra X 154), (7, .int (nI i)), (8, .int xv), (9, .int c9), (10, .int (nI k)), (11, .int c11), (12, .int (nI a))] [] 352 := by
  refine g_mem (put5 σ 0 Q O T V w) K.2.self.symm ?_
  refine g_iload h dL_law_352 rfl ?_
  refine g_iconst (v := nI 5) h dL_law_354 (by decide) ?_
  refine g_icge h 363 dL_law_355 (by decide) (fun c355 => ?_) (fun c355 => ?_)
  · refine g_iload h dL_law_363 rfl ?_
    refine g_istore h dL_law_365 (by rw [hL]; decide) ?_
    refine g_sub [(0, .ref (X.2.2.2.1 2)), (1, ra X 0), (2, ra X (qI 0)), (3, ra X (oI 0)), (4, ra X (tI 0)), (5, ra X (vI 0)), (6, ra X 154), (7, .int (nI i)), (8, .int xv), (9, .int c9), (10, .int (nI k)), (11, .int c11), (12, .int (nI a))] ⟨rfl, rfl, rfl, rfl, rfl, rfl, rfl, rfl, rfl, rfl, rfl, rfl, rfl, trivial⟩ ?_
    exact tn_0 h hL hk hB K C
  · refine g_iload h dL_law_358 rfl ?_
    refine g_goto h 365 dL_law_360 (by decide) ?_
    refine g_istore h dL_law_365 (by rw [hL]; decide) ?_
    refine g_sub [(0, .ref (X.2.2.2.1 2)), (1, ra X 0), (2, ra X (qI 0)), (3, ra X (oI 0)), (4, ra X (tI 0)), (5, ra X (vI 0)), (6, ra X 154), (7, .int (nI i)), (8, .int xv), (9, .int c9), (10, .int (nI i)), (11, .int c11), (12, .int (nI a))] ⟨rfl, rfl, rfl, rfl, rfl, rfl, rfl, rfl, rfl, rfl, rfl, rfl, rfl, trivial⟩ ?_
    exact tn_0 h hL (show i < 5 from Nat.not_le.mp (fun q => c355 (nI_le q (by omega)))) hB K C

end TURNS
