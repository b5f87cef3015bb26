/-! the law's would: trials of class and law agree -/
section CPY
variable {l : Launch} {X : fX} {ν : fM} {Q O T V Q1 O1 T1 V1 w : Nat → Int32}

theorem ct_cq (hb1 : bk X 1) (e : ν.1 (qI 0) = Q) : Ct l X yL_copy cL_copy 3 none 0 [ra X (qI 0), ra X (qI 1)] (put5 ν 1 Q1 O1 T1 V1 w) none (put5 ν 1 (cpy Q Q1 8) O1 T1 V1 w) := by
  have h := ct_L_copy (l := l) (X := X) (σ := put5 ν 1 Q1 O1 T1 V1 w) (k0 := qI 0) (k1 := qI 1) (n := 8) (qI_lt hb0) (qI_lt hb1) (by decide) (by decide) (enc_rq X (Or.inl rfl)) (enc_rq X (Or.inr rfl))
  rw [(p5_b (b' := 0) (by decide)).1, e, p5_q, puR_q] at h
  exact h

theorem ct_co (hb1 : bk X 1) (e : ν.1 (oI 0) = O) : Ct l X yL_copy cL_copy 3 none 0 [ra X (oI 0), ra X (oI 1)] (put5 ν 1 Q1 O1 T1 V1 w) none (put5 ν 1 Q1 (cpy O O1 50) T1 V1 w) := by
  have h := ct_L_copy (l := l) (X := X) (σ := put5 ν 1 Q1 O1 T1 V1 w) (k0 := oI 0) (k1 := oI 1) (n := 50) (oI_lt hb0) (oI_lt hb1) (by decide) (by decide) (enc_ro X (Or.inl rfl)) (enc_ro X (Or.inr rfl))
  rw [(p5_b (b' := 0) (by decide)).2.1, e, p5_o, puR_o] at h
  exact h

theorem ct_ct (hb1 : bk X 1) (e : ν.1 (tI 0) = T) : Ct l X yL_copy cL_copy 3 none 0 [ra X (tI 0), ra X (tI 1)] (put5 ν 1 Q1 O1 T1 V1 w) none (put5 ν 1 Q1 O1 (cpy T T1 40) V1 w) := by
  have h := ct_L_copy (l := l) (X := X) (σ := put5 ν 1 Q1 O1 T1 V1 w) (k0 := tI 0) (k1 := tI 1) (n := 40) (tI_lt hb0) (tI_lt hb1) (by decide) (by decide) (enc_rt X (Or.inl rfl)) (enc_rt X (Or.inr rfl))
  rw [(p5_b (b' := 0) (by decide)).2.2.1, e, p5_t, puR_t] at h
  exact h

theorem ct_cv (hb1 : bk X 1) (e : ν.1 (vI 0) = V) : Ct l X yL_copy cL_copy 3 none 0 [ra X (vI 0), ra X (vI 1)] (put5 ν 1 Q1 O1 T1 V1 w) none (put5 ν 1 Q1 O1 T1 (cpy V V1 24) w) := by
  have h := ct_L_copy (l := l) (X := X) (σ := put5 ν 1 Q1 O1 T1 V1 w) (k0 := vI 0) (k1 := vI 1) (n := 24) (vI_lt hb0) (vI_lt hb1) (by decide) (by decide) (enc_rv X (Or.inl rfl)) (enc_rv X (Or.inr rfl))
  rw [(p5_b (b' := 0) (by decide)).2.2.2, e, p5_v, puR_v] at h
  exact h

end CPY
theorem doom_y {p : Nat → Bool} {i n : Nat} (hfi : fstF p i = i) (hp : p i = true) (hi : i < n) : (if fstF p n < n then nI (fstF p n) else (-1000004 : Int32)) = nI i := by rw [fstF_at hfi hp hi, if_pos hi]
theorem doom_n {p : Nat → Bool} {n : Nat} (hfi : fstF p n = n) : (if fstF p n < n then nI (fstF p n) else (-1000004 : Int32)) = -1000004 := by rw [hfi, if_neg (Nat.lt_irrefl n)]

set_option maxRecDepth 100000 in
set_option maxHeartbeats 4000000 in
theorem wd_1 {l : Launch} {x : fC} {X : fX} {Q O T V : Nat → Int32} {m B y a k t : Nat} (h : Ok l x X cL_would RL 7) (hL : xL x = 17) (hb1 : bk X 1) (hB : B < 2 ^ 24 - 2 ^ 12) (ha : a < 64) (hk : k < 5) (ht : 1 ≤ t) (ht5 : t ≤ 4) (fin : ∀ (σ : fM) (L : List (Nat × Value)), (∃ w, KM σ Q O T V w m B y) → G x X σ L [.int 1] 341) {ν : fM} {Q2 O2 T2 V2 w w0 : Nat → Int32} {i : Nat} {dv : Int32} (K : KM ν Q O T V w0 m B y) (edm : (if fstF (dmP (put5 ν 1 Q2 O2 T2 V2 w) 5 m k (nI a) (nI (t % 2))) 101 < 101 then nI (fstF (dmP (put5 ν 1 Q2 O2 T2 V2 w) 5 m k (nI a) (nI (t % 2))) 101) else (-1000004 : Int32)) = dv) (hz0 : O2 (10 * k + 2) = 0 → dv = nI i) (hz1 : ¬ O2 (10 * k + 2) = 0 → dv = -1000004) : G x X (put5 ν 1 Q2 O2 T2 V2 w) [(0, ra X 0), (1, .int (nI k)), (2, .int (nI a)), (3, .int (nI t)), (4, ra X (qI 0)), (5, ra X (oI 0)), (6, ra X (tI 0)), (7, ra X (vI 0)), (8, ra X 154), (9, ra X (qI 1)), (10, ra X (oI 1)), (11, ra X (tI 1)), (12, ra X (vI 1)), (15, .int (nI i))] [] 305 := by
  have K2 := KM_b (Q1 := Q2) (O1 := O2) (T1 := T2) (V1 := V2) (w1 := w) K
  have htk : t % 2 < 2 := Nat.mod_lt _ (by decide)
  have hC := ct_X5_doom (l := l) (X := X) K2.gst (o := nI k) (a := nI a) (k := nI (t % 2))
  obtain ⟨hv, hout⟩ := w_doom (tk := t % 2) K2 ha hk htk
  have K3 : KM (cDoom (put5 ν 1 Q2 O2 T2 V2 w) 5 m (nI k) (nI a) (nI (t % 2))).2 Q O T V w m B y := KM_tr hout K2
  rw [p5_keep hout, hv, edm] at hC
  generalize (cDoom (put5 ν 1 Q2 O2 T2 V2 w) 5 m (nI k) (nI a) (nI (t % 2))).2 = τ at hC K3
  refine g_aload_n h dL_would_305 rfl ?_
  refine g_iload_n h dL_would_306 rfl ?_
  refine g_iload_n h dL_would_307 rfl ?_
  refine g_iload_n h dL_would_308 rfl ?_
  refine g_iconst (v := nI 2) h dL_would_309 (by decide) ?_
  refine g_irem h dL_would_310 (by decide) ?_
  refine g_top (nI (t % 2)) (pk_rem (by omega) (by decide) (by decide)) ?_
  refine clL_86 h  hC rfl dL_would_311 rfl (Nat.le_of_ble_eq_true rfl) (by decide) ?_
  refine g_aload h dL_would_314 rfl ?_
  refine g_bipush (v := nI 10) h dL_would_316 (by decide) ?_
  refine g_iload_n h dL_would_318 rfl ?_
  refine g_imulN h dL_would_319 ?_
  refine g_iconst (v := nI 2) h dL_would_320 (by decide) ?_
  refine g_iaddN h dL_would_321 ?_
  refine g_ldo h hb1 (by omega) dL_would_322 ?_
  refine g_ifne h 331 dL_would_323 (by decide) (fun c323 => ?_) (fun c323 => ?_)
  · refine g_ldc h (-1000004) (lw_in 431 (by decide +kernel) rfl) dL_would_331 ?_
    refine g_icne h 340 dL_would_333 (by decide) (fun c333 => absurd (hz1 c323) c333) (fun c333 => ?_)
    refine g_iconst (v := 1) h dL_would_336 (by decide) ?_
    refine g_goto h 341 dL_would_337 (by decide) ?_
    exact fin _ _ ⟨w, KM_b K3⟩
  · refine g_iload h dL_would_326 rfl ?_
    refine g_goto h 333 dL_would_328 (by decide) ?_
    refine g_icne h 340 dL_would_333 (by decide) (fun c333 => absurd (hz0 c323) c333) (fun c333 => ?_)
    refine g_iconst (v := 1) h dL_would_336 (by decide) ?_
    refine g_goto h 341 dL_would_337 (by decide) ?_
    exact fin _ _ ⟨w, KM_b K3⟩

theorem copy_cg {σ τ : fM} {n m : Nat} (e : ∀ q, 6 ≤ q → q < 30 → τ.1 q = σ.1 q) (hn : n ≤ 6) (hm : m ≤ 8) : True := trivial

set_option maxRecDepth 100000 in
set_option maxHeartbeats 4000000 in
theorem wd_2 {l : Launch} {x : fC} {X : fX} {Q O T V : Nat → Int32} {m B y a k t : Nat} (h : Ok l x X cL_would RL 7) (hL : xL x = 17) (hb1 : bk X 1) (hB : B < 2 ^ 24 - 2 ^ 12) (ha : a < 64) (hk : k < 5) (ht : 1 ≤ t) (ht5 : t ≤ 4) (fin : ∀ (σ : fM) (L : List (Nat × Value)), (∃ w, KM σ Q O T V w m B y) → G x X σ L [.int 1] 341) {ν : fM} {Q1 O1 T1 V1 w w0 : Nat → Int32} (K : KM ν Q O T V w0 m B y) : G x X (put5 ν 1 Q1 O1 T1 V1 w) [(0, ra X 0), (1, .int (nI k)), (2, .int (nI a)), (3, .int (nI t)), (4, ra X (qI 0)), (5, ra X (oI 0)), (6, ra X (tI 0)), (7, ra X (vI 0)), (8, ra X 154), (9, ra X (qI 1)), (10, ra X (oI 1)), (11, ra X (tI 1)), (12, ra X (vI 1))] [] 231 := by
  have LOOP : ∀ (q i : Nat), i + q = 100 → ∀ (Q2 O2 T2 V2 : Nat → Int32) (m2 : Nat) (w : Nat → Int32), lrl (dmZ ν 5 m (nI a) (nI (t % 2)) i).1 1 Q2 O2 T2 V2 m2 → (dmZ ν 5 m (nI a) (nI (t % 2)) i).2 = m2 → lgd Q2 O2 T2 V2 m2 B (y + i) → fstF (dmP ν 5 m k (nI a) (nI (t % 2))) i = i → G x X (put5 ν 1 Q2 O2 T2 V2 w) [(0, ra X 0), (1, .int (nI k)), (2, .int (nI a)), (3, .int (nI t)), (4, ra X (qI 0)), (5, ra X (oI 0)), (6, ra X (tI 0)), (7, ra X (vI 0)), (8, ra X 154), (9, ra X (qI 1)), (10, ra X (oI 1)), (11, ra X (tI 1)), (12, ra X (vI 1)), (15, .int (nI i))] [] 262 := by
    intro q
    induction q with
    | zero =>
      intro i hi Q2 O2 T2 V2 m2 w hr hm2 hg hfi
      have hi100 : i = 100 := hi
      have e2 : (dmZ ν 5 m (nI a) (nI (t % 2)) i).1.1 (iO 1 k) 2 = O2 (10 * k + 2) := lrl.ro hr hk (p := 2) (by decide)
      refine g_iload h dL_would_262 rfl ?_
      refine g_bipush (v := nI 100) h dL_would_264 (by decide) ?_
      refine g_icge h 305 dL_would_266 (by decide) (fun c266 => ?_) (fun c266 => absurd (by rw [hi100]; exact Int32.le_refl _) c266)
      by_cases hz : O2 (10 * k + 2) = 0
      · refine wd_1 h hL hb1 hB ha hk ht ht5 fin (dv := nI i) K ?_ (fun _ => rfl) (fun q => absurd hz q)
        rw [(dm_cg (fun q hq => p5_lo hq) K.m8 k (nI a) (nI (t % 2)))]
        exact doom_y hfi (by unfold dmP oRuin; rw [e2, hz]; decide) (by omega)
      · refine wd_1 h hL hb1 hB ha hk ht ht5 fin (dv := -1000004) K ?_ (fun q => absurd q hz) (fun _ => rfl)
        rw [(dm_cg (fun q hq => p5_lo hq) K.m8 k (nI a) (nI (t % 2)))]
        exact doom_n (by rw [show 101 = i + 1 by omega]; exact fstF_no hfi (by unfold dmP oRuin; rw [e2]; intro q; exact hz (of_decide_eq_true q)))
    | succ q ih =>
      intro i hi Q2 O2 T2 V2 m2 w hr hm2 hg hfi
      have hlt : i < 100 := by omega
      have e2 : (dmZ ν 5 m (nI a) (nI (t % 2)) i).1.1 (iO 1 k) 2 = O2 (10 * k + 2) := lrl.ro hr hk (p := 2) (by decide)
      refine g_iload h dL_would_262 rfl ?_
      refine g_bipush (v := nI 100) h dL_would_264 (by decide) ?_
      refine g_icge h 305 dL_would_266 (by decide) (fun c266 => absurd c266 (nI_ge (b := 100) hlt (by decide))) (fun c266 => ?_)
      refine g_aload h dL_would_269 rfl ?_
      refine g_bipush (v := nI 10) h dL_would_271 (by decide) ?_
      refine g_iload_n h dL_would_273 rfl ?_
      refine g_imulN h dL_would_274 ?_
      refine g_iconst (v := nI 2) h dL_would_275 (by decide) ?_
      refine g_iaddN h dL_would_276 ?_
      refine g_ldo h hb1 (by omega) dL_would_277 ?_
      refine g_ifle h 305 dL_would_278 (by decide) (fun c278 => ?_) (fun c278 => ?_)
      · have hz : O2 (10 * k + 2) = 0 := by
          obtain ⟨p, hp, hs⟩ := hg.2.2.1
          rw [hp k hk] at c278 ⊢
          rcases Nat.eq_zero_or_pos (p k) with z | z
          · rw [z]; rfl
          · exact absurd c278 (nI_nle z (by have := sumN_le (p := p) hk; omega))
        refine wd_1 h hL hb1 hB ha hk ht ht5 fin (dv := nI i) K ?_ (fun _ => rfl) (fun q => absurd hz q)
        rw [(dm_cg (fun q hq => p5_lo hq) K.m8 k (nI a) (nI (t % 2)))]
        exact doom_y hfi (by unfold dmP oRuin; rw [e2, hz]; decide) (by omega)
      · refine g_iload_n h dL_would_281 rfl ?_
        refine g_iload_n h dL_would_282 rfl ?_
        refine g_iconst (v := nI 2) h dL_would_283 (by decide) ?_
        refine g_irem h dL_would_284 (by decide) ?_
        refine g_top (nI (t % 2)) (pk_rem (by omega) (by decide) (by decide)) ?_
        refine g_aload h dL_would_285 rfl ?_
        refine g_aload h dL_would_287 rfl ?_
        refine g_aload h dL_would_289 rfl ?_
        refine g_aload h dL_would_291 rfl ?_
        refine g_aload h dL_would_293 rfl ?_
        refine clL_74 h (ct_L_branch hb1 (hg.H (by omega)) (hg.cr hr.2.1 hr.1.2.2.2)) rfl dL_would_295 rfl (Nat.le_of_ble_eq_true rfl) (by decide) ?_
        refine g_pop h dL_would_298 rfl ?_
        refine g_iincN h dL_would_299 rfl (by rw [hL]; decide) ?_
        refine g_goto h 262 dL_would_302 (by decide) ?_
        obtain ⟨a1, a2, a3⟩ := lz_run (z := (Q2, O2, T2, V2, m2)) w hr hm2 hg hB (show nI (t % 2) = 0 ∨ nI (t % 2) = 1 by have h2 : t % 2 < 2 := Nat.mod_lt _ (by decide); rcases (show t % 2 = 0 ∨ t % 2 = 1 by omega) with e | e <;> rw [e] <;> decide)
        refine g_mem (put5 ν 1 (brQ Q2 O2 T2 V2 m2 (nI a) (nI (t % 2)) w) (brR Q2 O2 T2 V2 m2 (nI a) (nI (t % 2)) w).1 (brR Q2 O2 T2 V2 m2 (nI a) (nI (t % 2)) w).2 (lbB Q2 O2 T2 V2 m2 (nI a) (nI (t % 2)) w).2.2.1 (lw1 Q2 O2 T2 (nI a) w 5)) rfl ?_
        refine g_sub [(0, ra X 0), (1, .int (nI k)), (2, .int (nI a)), (3, .int (nI t)), (4, ra X (qI 0)), (5, ra X (oI 0)), (6, ra X (tI 0)), (7, ra X (vI 0)), (8, ra X 154), (9, ra X (qI 1)), (10, ra X (oI 1)), (11, ra X (tI 1)), (12, ra X (vI 1)), (15, .int (nI (i + 1)))] ⟨rfl, rfl, rfl, rfl, rfl, rfl, rfl, rfl, rfl, rfl, rfl, rfl, rfl, rfl, trivial⟩ ?_
        exact ih (i + 1) (by omega) _ _ _ _ _ _ a1 a2 a3 (fstF_no hfi (by unfold dmP oRuin; rw [e2]; intro q; exact c278 (by rw [of_decide_eq_true q]; exact Int32.le_refl _)))
  have r0 : lrl (copyM ν 1 0 5 m) 1 (cpy Q Q1 8) (cpy O O1 50) (cpy T T1 40) (cpy V V1 24) m := lrl_rows (fun j hj => cpy_lt hj) (fun j hj => cpy_lt hj) (fun j hj => cpy_lt hj) (fun j hj => cpy_lt hj) (lrl_copy (by decide) K.1.1)
  have g0 : lgd (cpy Q Q1 8) (cpy O O1 50) (cpy T T1 40) (cpy V V1 24) m B y := lgd_rows K.m8 (fun j hj => cpy_lt hj) (fun j hj => cpy_lt hj) (fun j hj => cpy_lt hj) (fun j hj => cpy_lt hj) K.1.2.1
  refine g_aload h dL_would_231 rfl ?_
  refine g_aload h dL_would_233 rfl ?_
  refine clL_70 h (ct_cq hb1 K.2.1) rfl dL_would_235 rfl (Nat.le_of_ble_eq_true rfl) (by decide) ?_
  refine g_aload h dL_would_238 rfl ?_
  refine g_aload h dL_would_240 rfl ?_
  refine clL_70 h (ct_co hb1 K.2.2.1) rfl dL_would_242 rfl (Nat.le_of_ble_eq_true rfl) (by decide) ?_
  refine g_aload h dL_would_245 rfl ?_
  refine g_aload h dL_would_247 rfl ?_
  refine clL_70 h (ct_ct hb1 K.2.2.2.1) rfl dL_would_249 rfl (Nat.le_of_ble_eq_true rfl) (by decide) ?_
  refine g_aload h dL_would_252 rfl ?_
  refine g_aload h dL_would_254 rfl ?_
  refine clL_70 h (ct_cv hb1 K.2.2.2.2.1) rfl dL_would_256 rfl (Nat.le_of_ble_eq_true rfl) (by decide) ?_
  refine g_iconst (v := nI 0) h dL_would_259 (by decide) ?_
  refine g_istore h dL_would_260 (by rw [hL]; decide) ?_
  refine g_sub [(0, ra X 0), (1, .int (nI k)), (2, .int (nI a)), (3, .int (nI t)), (4, ra X (qI 0)), (5, ra X (oI 0)), (6, ra X (tI 0)), (7, ra X (vI 0)), (8, ra X 154), (9, ra X (qI 1)), (10, ra X (oI 1)), (11, ra X (tI 1)), (12, ra X (vI 1)), (15, .int (nI 0))] ⟨rfl, rfl, rfl, rfl, rfl, rfl, rfl, rfl, rfl, rfl, rfl, rfl, rfl, rfl, trivial⟩ ?_
  exact LOOP 100 0 (by omega) _ _ _ _ _ _ r0 rfl g0 rfl
