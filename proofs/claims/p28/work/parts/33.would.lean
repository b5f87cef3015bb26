/-! the law's would: trials of class and law agree -/
section CPY
variable {l : Launch} {X : fX} {ν : fM} {Q O T V Q1 O1 T1 V1 w : Nat → Int32}

theorem ct_cq (hb1 : bk X 1) (e : ν.1 (qI 0) = Q) : Ct l X yL_copy cL_copy 3 none 0 [ra X (qI 0), ra X (qI 1)] (put5 ν 1 Q1 O1 T1 V1 w) none (put5 ν 1 (cpy Q Q1 8) O1 T1 V1 w) := by
  have h := ct_L_copy (l := l) (X := X) (σ := put5 ν 1 Q1 O1 T1 V1 w) (k0 := qI 0) (k1 := qI 1) (n := 8) (qI_lt hb0) (qI_lt hb1) (by decide) (by decide) (enc_rq X (Or.inl rfl)) (enc_rq X (Or.inr rfl))
  rw [(p5_b (b' := 0) (by decide)).1, e, p5_q, puR_q] at h
  exact h

theorem ct_co (hb1 : bk X 1) (e : ν.1 (oI 0) = O) : Ct l X yL_copy cL_copy 3 none 0 [ra X (oI 0), ra X (oI 1)] (put5 ν 1 Q1 O1 T1 V1 w) none (put5 ν 1 Q1 (cpy O O1 50) T1 V1 w) := by
  have h := ct_L_copy (l := l) (X := X) (σ := put5 ν 1 Q1 O1 T1 V1 w) (k0 := oI 0) (k1 := oI 1) (n := 50) (oI_lt hb0) (oI_lt hb1) (by decide) (by decide) (enc_ro X (Or.inl rfl)) (enc_ro X (Or.inr rfl))
  rw [(p5_b (b' := 0) (by decide)).2.1, e, p5_o, puR_o] at h
  exact h

theorem ct_ct (hb1 : bk X 1) (e : ν.1 (tI 0) = T) : Ct l X yL_copy cL_copy 3 none 0 [ra X (tI 0), ra X (tI 1)] (put5 ν 1 Q1 O1 T1 V1 w) none (put5 ν 1 Q1 O1 (cpy T T1 40) V1 w) := by
  have h := ct_L_copy (l := l) (X := X) (σ := put5 ν 1 Q1 O1 T1 V1 w) (k0 := tI 0) (k1 := tI 1) (n := 40) (tI_lt hb0) (tI_lt hb1) (by decide) (by decide) (enc_rt X (Or.inl rfl)) (enc_rt X (Or.inr rfl))
  rw [(p5_b (b' := 0) (by decide)).2.2.1, e, p5_t, puR_t] at h
  exact h

theorem ct_cv (hb1 : bk X 1) (e : ν.1 (vI 0) = V) : Ct l X yL_copy cL_copy 3 none 0 [ra X (vI 0), ra X (vI 1)] (put5 ν 1 Q1 O1 T1 V1 w) none (put5 ν 1 Q1 O1 T1 (cpy V V1 24) w) := by
  have h := ct_L_copy (l := l) (X := X) (σ := put5 ν 1 Q1 O1 T1 V1 w) (k0 := vI 0) (k1 := vI 1) (n := 24) (vI_lt hb0) (vI_lt hb1) (by decide) (by decide) (enc_rv X (Or.inl rfl)) (enc_rv X (Or.inr rfl))
  rw [(p5_b (b' := 0) (by decide)).2.2.2, e, p5_v, puR_v] at h
  exact h

end CPY
theorem doom_y {p : Nat → Bool} {i n : Nat} (hfi : fstF p i = i) (hp : p i = true) (hi : i < n) : (if fstF p n < n then nI (fstF p n) else (-1000004 : Int32)) = nI i := by rw [fstF_at hfi hp hi, if_pos hi]
theorem doom_n {p : Nat → Bool} {n : Nat} (hfi : fstF p n = n) : (if fstF p n < n then nI (fstF p n) else (-1000004 : Int32)) = -1000004 := by rw [hfi, if_neg (Nat.lt_irrefl n)]

theorem dz_step {ν : fM} {Q2 O2 T2 V2 : Nat → Int32} {m m2 B y i : Nat} {a tk : Int32} (w : Nat → Int32) (hr : lrl (dmZ ν 5 m a tk i).1 1 Q2 O2 T2 V2 m2) (hm2 : (dmZ ν 5 m a tk i).2 = m2) (hg : lgd Q2 O2 T2 V2 m2 B (y + i)) (hB : B < 2 ^ 24 - 2 ^ 12) (hk : tk = 0 ∨ tk = 1) : lrl (dmZ ν 5 m a tk (i + 1)).1 1 (brQ Q2 O2 T2 V2 m2 a tk w) (brR Q2 O2 T2 V2 m2 a tk w).1 (brR Q2 O2 T2 V2 m2 a tk w).2 (lbB Q2 O2 T2 V2 m2 a tk w).2.2.1 (lbB Q2 O2 T2 V2 m2 a tk w).2.2.2 ∧ (dmZ ν 5 m a tk (i + 1)).2 = (lbB Q2 O2 T2 V2 m2 a tk w).2.2.2 ∧ lgd (brQ Q2 O2 T2 V2 m2 a tk w) (brR Q2 O2 T2 V2 m2 a tk w).1 (brR Q2 O2 T2 V2 m2 a tk w).2 (lbB Q2 O2 T2 V2 m2 a tk w).2.2.1 (lbB Q2 O2 T2 V2 m2 a tk w).2.2.2 B (y + (i + 1)) := by
  have e : dmZ ν 5 m a tk (i + 1) = (runM (dmZ ν 5 m a tk i).1 1 5 (dmZ ν 5 m a tk i).2 a tk, runN (dmZ ν 5 m a tk i).1 1 5 (dmZ ν 5 m a tk i).2 a tk) := rfl
  rw [e]
  generalize dmZ ν 5 m a tk i = z at hr hm2 ⊢
  obtain ⟨z1, z2⟩ := z
  dsimp only at hr hm2 ⊢
  have H := lz_run (a := a) (tk := tk) (z := (Q2, O2, T2, V2, m2)) w hr hm2 hg hB hk
  unfold lrz lgz lzS at H
  dsimp only at H
  obtain ⟨H1, H2, H3⟩ := H
  rw [Nat.add_assoc] at H3
  refine ⟨?_, ?_, ?_⟩
  · exact H1
  · exact H2
  · exact H3
theorem pz_step {ν : fM} {Q2 O2 T2 V2 : Nat → Int32} {m m2 B y n t r : Nat} {a : Int32} (w : Nat → Int32) (hr : lrl (pbZ ν 5 m t (nI r) a n).1 1 Q2 O2 T2 V2 m2) (hm2 : (pbZ ν 5 m t (nI r) a n).2 = m2) (hg : lgd Q2 O2 T2 V2 m2 B (y + n)) (hB : B < 2 ^ 24 - 2 ^ 12) {tk : Int32} (htk : tk = tkr t r n) : lrl (pbZ ν 5 m t (nI r) a (n + 1)).1 1 (brQ Q2 O2 T2 V2 m2 a tk w) (brR Q2 O2 T2 V2 m2 a tk w).1 (brR Q2 O2 T2 V2 m2 a tk w).2 (lbB Q2 O2 T2 V2 m2 a tk w).2.2.1 (lbB Q2 O2 T2 V2 m2 a tk w).2.2.2 ∧ (pbZ ν 5 m t (nI r) a (n + 1)).2 = (lbB Q2 O2 T2 V2 m2 a tk w).2.2.2 ∧ lgd (brQ Q2 O2 T2 V2 m2 a tk w) (brR Q2 O2 T2 V2 m2 a tk w).1 (brR Q2 O2 T2 V2 m2 a tk w).2 (lbB Q2 O2 T2 V2 m2 a tk w).2.2.1 (lbB Q2 O2 T2 V2 m2 a tk w).2.2.2 B (y + (n + 1)) := by
  have e : pbZ ν 5 m t (nI r) a (n + 1) = (runM (pbZ ν 5 m t (nI r) a n).1 1 5 (pbZ ν 5 m t (nI r) a n).2 a (tkr t r n), runN (pbZ ν 5 m t (nI r) a n).1 1 5 (pbZ ν 5 m t (nI r) a n).2 a (tkr t r n)) := rfl
  rw [e, ← htk]
  have hk : tk = 0 ∨ tk = 1 := by rw [htk]; exact and1 _
  generalize pbZ ν 5 m t (nI r) a n = z at hr hm2 ⊢
  obtain ⟨z1, z2⟩ := z
  dsimp only at hr hm2 ⊢
  have H := lz_run (a := a) (tk := tk) (z := (Q2, O2, T2, V2, m2)) w hr hm2 hg hB hk
  unfold lrz lgz lzS at H
  dsimp only at H
  obtain ⟨H1, H2, H3⟩ := H
  rw [Nat.add_assoc] at H3
  refine ⟨?_, ?_, ?_⟩
  · exact H1
  · exact H2
  · exact H3

theorem tk01 (t : Nat) : nI (t % 2) = 0 ∨ nI (t % 2) = 1 := by
  have h2 : t % 2 < 2 := Nat.mod_lt _ (by decide)
  rcases (show t % 2 = 0 ∨ t % 2 = 1 by omega) with e | e <;> rw [e]
  · exact Or.inl rfl
  · exact Or.inr rfl
theorem dm_eq {μ τ : fM} {Q O T V w w' : Nat → Int32} {m B y k : Nat} {a tk : Int32} (K2 : KM τ Q O T V w' m B y) (K : KM μ Q O T V w m B y) (hB : B < 2 ^ 24 - 2 ^ 12) (hk : k < 5) (htk : tk = 0 ∨ tk = 1) : dmP τ 5 m k a tk = dmP μ 5 m k a tk := by
  funext i
  have e1 := lrl.ro (lz_dm (a := a) (tk := tk) K.1.1 K.1.2.1 hB htk i).1 hk (p := 2) (by decide)
  have e2 := lrl.ro (lz_dm (a := a) (tk := tk) K2.1.1 K2.1.2.1 hB htk i).1 hk (p := 2) (by decide)
  unfold dmP oRuin
  rw [e1.trans e2.symm]

set_option maxRecDepth 100000 in
set_option maxHeartbeats 4000000 in
theorem wd_1 {l : Launch} {x : fC} {X : fX} {Q O T V : Nat → Int32} {m B y a k t : Nat} (h : Ok l x X cL_would RL 7) (hL : xL x = 17) (hb1 : bk X 1) (hB : B < 2 ^ 24 - 2 ^ 12) (ha : a < 64) (hk : k < 5) (ht : 1 ≤ t) (ht5 : t ≤ 4) (fin : ∀ (σ : fM) (L : List (Nat × Value)), (∃ w, KM σ Q O T V w m B y) → G x X σ L [.int 1] 341) {ν : fM} {Q2 O2 T2 V2 w w0 : Nat → Int32} {i : Nat} {dv : Int32} (K : KM ν Q O T V w0 m B y) (edm : (if fstF (dmP (put5 ν 1 Q2 O2 T2 V2 w) 5 m k (nI a) (nI (t % 2))) 101 < 101 then nI (fstF (dmP (put5 ν 1 Q2 O2 T2 V2 w) 5 m k (nI a) (nI (t % 2))) 101) else (-1000004 : Int32)) = dv) (hz0 : O2 (10 * k + 2) = 0 → dv = nI i) (hz1 : ¬ O2 (10 * k + 2) = 0 → dv = -1000004) : G x X (put5 ν 1 Q2 O2 T2 V2 w) [(0, ra X 0), (1, .int (nI k)), (2, .int (nI a)), (3, .int (nI t)), (4, ra X (qI 0)), (5, ra X (oI 0)), (6, ra X (tI 0)), (7, ra X (vI 0)), (8, ra X 154), (9, ra X (qI 1)), (10, ra X (oI 1)), (11, ra X (tI 1)), (12, ra X (vI 1)), (15, .int (nI i))] [] 305 := by
  have K2 := KM_b (Q1 := Q2) (O1 := O2) (T1 := T2) (V1 := V2) (w1 := w) K
  have htk : t % 2 < 2 := Nat.mod_lt _ (by decide)
  have hC := ct_X5_doom (l := l) (X := X) K2.gst (o := nI k) (a := nI a) (k := nI (t % 2))
  obtain ⟨hv, hout⟩ := w_doom (tk := t % 2) K2 ha hk htk
  have K3 : KM (cDoom (put5 ν 1 Q2 O2 T2 V2 w) 5 m (nI k) (nI a) (nI (t % 2))).2 Q O T V w m B y := KM_tr hout K2
  rw [p5_keep hout, hv, edm] at hC
  generalize (cDoom (put5 ν 1 Q2 O2 T2 V2 w) 5 m (nI k) (nI a) (nI (t % 2))).2 = τ at hC K3
  refine g_aload_n h dL_would_305 rfl ?_
  refine g_iload_n h dL_would_306 rfl ?_
  refine g_iload_n h dL_would_307 rfl ?_
  refine g_iload_n h dL_would_308 rfl ?_
  refine g_iconst (v := nI 2) h dL_would_309 (by decide) ?_
  refine g_irem h dL_would_310 (by decide) ?_
  refine g_top (nI (t % 2)) (pk_rem (by omega) (by decide) (by decide)) ?_
  refine clL_86 h  hC rfl dL_would_311 rfl (Nat.le_of_ble_eq_true rfl) (by decide) ?_
  refine g_aload h dL_would_314 rfl ?_
  refine g_bipush (v := nI 10) h dL_would_316 (by decide) ?_
  refine g_iload_n h dL_would_318 rfl ?_
  refine g_imulN h dL_would_319 ?_
  refine g_iconst (v := nI 2) h dL_would_320 (by decide) ?_
  refine g_iaddN h dL_would_321 ?_
  refine g_ldo h hb1 (by omega) dL_would_322 ?_
  refine g_ifne h 331 dL_would_323 (by decide) (fun c323 => ?_) (fun c323 => ?_)
  · refine g_ldc h (-1000004) (lw_in 431 (by decide +kernel) rfl) dL_would_331 ?_
    refine g_icne h 340 dL_would_333 (by decide) (fun c333 => absurd (hz1 c323) c333) (fun c333 => ?_)
    refine g_iconst (v := 1) h dL_would_336 (by decide) ?_
    refine g_goto h 341 dL_would_337 (by decide) ?_
    exact fin _ _ ⟨w, KM_b K3⟩
  · refine g_iload h dL_would_326 rfl ?_
    refine g_goto h 333 dL_would_328 (by decide) ?_
    refine g_icne h 340 dL_would_333 (by decide) (fun c333 => absurd (hz0 c323) c333) (fun c333 => ?_)
    refine g_iconst (v := 1) h dL_would_336 (by decide) ?_
    refine g_goto h 341 dL_would_337 (by decide) ?_
    exact fin _ _ ⟨w, KM_b K3⟩

set_option maxRecDepth 100000 in
set_option maxHeartbeats 4000000 in
theorem wd_2 {l : Launch} {x : fC} {X : fX} {Q O T V : Nat → Int32} {m B y a k t : Nat} (h : Ok l x X cL_would RL 7) (hL : xL x = 17) (hb1 : bk X 1) (hB : B < 2 ^ 24 - 2 ^ 12) (ha : a < 64) (hk : k < 5) (ht : 1 ≤ t) (ht5 : t ≤ 4) (fin : ∀ (σ : fM) (L : List (Nat × Value)), (∃ w, KM σ Q O T V w m B y) → G x X σ L [.int 1] 341) {ν : fM} {Q1 O1 T1 V1 w w0 : Nat → Int32} (K : KM ν Q O T V w0 m B y) : G x X (put5 ν 1 Q1 O1 T1 V1 w) [(0, ra X 0), (1, .int (nI k)), (2, .int (nI a)), (3, .int (nI t)), (4, ra X (qI 0)), (5, ra X (oI 0)), (6, ra X (tI 0)), (7, ra X (vI 0)), (8, ra X 154), (9, ra X (qI 1)), (10, ra X (oI 1)), (11, ra X (tI 1)), (12, ra X (vI 1))] [] 231 := by
  have LOOP : ∀ (q i : Nat), i + q = 100 → ∀ (Q2 O2 T2 V2 : Nat → Int32) (m2 : Nat) (w : Nat → Int32), lrl (dmZ ν 5 m (nI a) (nI (t % 2)) i).1 1 Q2 O2 T2 V2 m2 → (dmZ ν 5 m (nI a) (nI (t % 2)) i).2 = m2 → lgd Q2 O2 T2 V2 m2 B (y + i) → fstF (dmP ν 5 m k (nI a) (nI (t % 2))) i = i → G x X (put5 ν 1 Q2 O2 T2 V2 w) [(0, ra X 0), (1, .int (nI k)), (2, .int (nI a)), (3, .int (nI t)), (4, ra X (qI 0)), (5, ra X (oI 0)), (6, ra X (tI 0)), (7, ra X (vI 0)), (8, ra X 154), (9, ra X (qI 1)), (10, ra X (oI 1)), (11, ra X (tI 1)), (12, ra X (vI 1)), (15, .int (nI i))] [] 262 := by
    intro q
    induction q with
    | zero =>
      intro i hi Q2 O2 T2 V2 m2 w hr hm2 hg hfi
      have hi100 : i = 100 := hi
      have e2 : (dmZ ν 5 m (nI a) (nI (t % 2)) i).1.1 (iO 1 k) 2 = O2 (10 * k + 2) := lrl.ro hr hk (p := 2) (by decide)
      refine g_iload h dL_would_262 rfl ?_
      refine g_bipush (v := nI 100) h dL_would_264 (by decide) ?_
      refine g_icge h 305 dL_would_266 (by decide) (fun c266 => ?_) (fun c266 => absurd (by rw [hi100]; exact Int32.le_refl _) c266)
      by_cases hz : O2 (10 * k + 2) = 0
      · refine wd_1 h hL hb1 hB ha hk ht ht5 fin (dv := nI i) K ?_ (fun _ => rfl) (fun q => absurd hz q)
        rw [(dm_eq (KM_b K) K hB hk (tk01 t))]
        exact doom_y hfi (by unfold dmP oRuin; rw [e2, hz]; decide) (by omega)
      · refine wd_1 h hL hb1 hB ha hk ht ht5 fin (dv := -1000004) K ?_ (fun q => absurd q hz) (fun _ => rfl)
        rw [(dm_eq (KM_b K) K hB hk (tk01 t))]
        exact doom_n (by rw [show 101 = i + 1 by omega]; exact fstF_no hfi (by unfold dmP oRuin; rw [e2]; intro q; exact hz (of_decide_eq_true q)))
    | succ q ih =>
      intro i hi Q2 O2 T2 V2 m2 w hr hm2 hg hfi
      have hlt : i < 100 := by omega
      have e2 : (dmZ ν 5 m (nI a) (nI (t % 2)) i).1.1 (iO 1 k) 2 = O2 (10 * k + 2) := lrl.ro hr hk (p := 2) (by decide)
      refine g_iload h dL_would_262 rfl ?_
      refine g_bipush (v := nI 100) h dL_would_264 (by decide) ?_
      refine g_icge h 305 dL_would_266 (by decide) (fun c266 => absurd c266 (nI_ge (b := 100) hlt (by decide))) (fun c266 => ?_)
      refine g_aload h dL_would_269 rfl ?_
      refine g_bipush (v := nI 10) h dL_would_271 (by decide) ?_
      refine g_iload_n h dL_would_273 rfl ?_
      refine g_imulN h dL_would_274 ?_
      refine g_iconst (v := nI 2) h dL_would_275 (by decide) ?_
      refine g_iaddN h dL_would_276 ?_
      refine g_ldo h hb1 (by omega) dL_would_277 ?_
      refine g_ifle h 305 dL_would_278 (by decide) (fun c278 => ?_) (fun c278 => ?_)
      · have hz : O2 (10 * k + 2) = 0 := by
          obtain ⟨p, hp, hs⟩ := hg.2.2.1
          rw [hp k hk] at c278 ⊢
          rcases Nat.eq_zero_or_pos (p k) with z | z
          · rw [z]; rfl
          · exact absurd c278 (nI_nle z (by have := sumN_le (p := p) hk; omega))
        refine wd_1 h hL hb1 hB ha hk ht ht5 fin (dv := nI i) K ?_ (fun _ => rfl) (fun q => absurd hz q)
        rw [(dm_eq (KM_b K) K hB hk (tk01 t))]
        exact doom_y hfi (by unfold dmP oRuin; rw [e2, hz]; decide) (by omega)
      · refine g_iload_n h dL_would_281 rfl ?_
        refine g_iload_n h dL_would_282 rfl ?_
        refine g_iconst (v := nI 2) h dL_would_283 (by decide) ?_
        refine g_irem h dL_would_284 (by decide) ?_
        refine g_top (nI (t % 2)) (pk_rem (by omega) (by decide) (by decide)) ?_
        refine g_aload h dL_would_285 rfl ?_
        refine g_aload h dL_would_287 rfl ?_
        refine g_aload h dL_would_289 rfl ?_
        refine g_aload h dL_would_291 rfl ?_
        refine g_aload h dL_would_293 rfl ?_
        refine clL_74 h (ct_L_branch hb1 (hg.H (by omega)) (hg.cr hr.2.1 hr.1.2.2.2)) rfl dL_would_295 rfl (Nat.le_of_ble_eq_true rfl) (by decide) ?_
        refine g_pop h dL_would_298 rfl ?_
        refine g_iincN h dL_would_299 rfl (by rw [hL]; decide) ?_
        refine g_goto h 262 dL_would_302 (by decide) ?_
        obtain ⟨a1, a2, a3⟩ := dz_step w hr hm2 hg hB (tk01 t)
        refine g_mem (put5 ν 1 (brQ Q2 O2 T2 V2 m2 (nI a) (nI (t % 2)) w) (brR Q2 O2 T2 V2 m2 (nI a) (nI (t % 2)) w).1 (brR Q2 O2 T2 V2 m2 (nI a) (nI (t % 2)) w).2 (lbB Q2 O2 T2 V2 m2 (nI a) (nI (t % 2)) w).2.2.1 (lw1 Q2 O2 T2 (nI a) w 5)) rfl ?_
        refine g_sub [(0, ra X 0), (1, .int (nI k)), (2, .int (nI a)), (3, .int (nI t)), (4, ra X (qI 0)), (5, ra X (oI 0)), (6, ra X (tI 0)), (7, ra X (vI 0)), (8, ra X 154), (9, ra X (qI 1)), (10, ra X (oI 1)), (11, ra X (tI 1)), (12, ra X (vI 1)), (15, .int (nI (i + 1)))] ⟨rfl, rfl, rfl, rfl, rfl, rfl, rfl, rfl, rfl, rfl, rfl, rfl, rfl, rfl, trivial⟩ ?_
        exact ih (i + 1) (by omega) _ _ _ _ _ _ a1 a2 a3 (fstF_no hfi (by unfold dmP oRuin; rw [e2]; intro q; exact c278 (by rw [of_decide_eq_true q]; exact Int32.le_refl _)))
  have r0 : lrl (copyM ν 1 0 5 m) 1 (cpy Q Q1 8) (cpy O O1 50) (cpy T T1 40) (cpy V V1 24) m := lrl_rows (fun j hj => cpy_lt hj) (fun j hj => cpy_lt hj) (fun j hj => cpy_lt hj) (fun j hj => cpy_lt hj) (lrl_copy (by decide) K.1.1)
  have g0 : lgd (cpy Q Q1 8) (cpy O O1 50) (cpy T T1 40) (cpy V V1 24) m B y := lgd_rows K.m8 (fun j hj => cpy_lt hj) (fun j hj => cpy_lt hj) (fun j hj => cpy_lt hj) (fun j hj => cpy_lt hj) K.1.2.1
  refine g_aload h dL_would_231 rfl ?_
  refine g_aload h dL_would_233 rfl ?_
  refine clL_70 h (ct_cq hb1 K.2.1) rfl dL_would_235 rfl (Nat.le_of_ble_eq_true rfl) (by decide) ?_
  refine g_aload h dL_would_238 rfl ?_
  refine g_aload h dL_would_240 rfl ?_
  refine clL_70 h (ct_co hb1 K.2.2.1) rfl dL_would_242 rfl (Nat.le_of_ble_eq_true rfl) (by decide) ?_
  refine g_aload h dL_would_245 rfl ?_
  refine g_aload h dL_would_247 rfl ?_
  refine clL_70 h (ct_ct hb1 K.2.2.2.1) rfl dL_would_249 rfl (Nat.le_of_ble_eq_true rfl) (by decide) ?_
  refine g_aload h dL_would_252 rfl ?_
  refine g_aload h dL_would_254 rfl ?_
  refine clL_70 h (ct_cv hb1 K.2.2.2.2.1) rfl dL_would_256 rfl (Nat.le_of_ble_eq_true rfl) (by decide) ?_
  refine g_iconst (v := nI 0) h dL_would_259 (by decide) ?_
  refine g_istore h dL_would_260 (by rw [hL]; decide) ?_
  refine g_sub [(0, ra X 0), (1, .int (nI k)), (2, .int (nI a)), (3, .int (nI t)), (4, ra X (qI 0)), (5, ra X (oI 0)), (6, ra X (tI 0)), (7, ra X (vI 0)), (8, ra X 154), (9, ra X (qI 1)), (10, ra X (oI 1)), (11, ra X (tI 1)), (12, ra X (vI 1)), (15, .int (nI 0))] ⟨rfl, rfl, rfl, rfl, rfl, rfl, rfl, rfl, rfl, rfl, rfl, rfl, rfl, rfl, trivial⟩ ?_
  exact LOOP 100 0 (by omega) _ _ _ _ _ _ r0 rfl g0 rfl
set_option maxRecDepth 100000 in
set_option maxHeartbeats 4000000 in
theorem wd_t {l : Launch} {x : fC} {X : fX} {a k t r : Nat} {P : Nat → Int32} (h : Ok l x X cL_would RL 7) (hL : xL x = 17) (hb1 : bk X 1) (hk : k < 5) {ν : fM} {Q2 O2 T2 V2 w : Nat → Int32} (e : O2 (10 * k + 2) = P r) (C : G x X (put5 ν 1 Q2 O2 T2 V2 w) [(0, ra X 0), (1, .int (nI k)), (2, .int (nI a)), (3, .int (nI t)), (4, ra X (qI 0)), (5, ra X (oI 0)), (6, ra X (tI 0)), (7, ra X (vI 0)), (8, ra X 154), (9, ra X (qI 1)), (10, ra X (oI 1)), (11, ra X (tI 1)), (12, ra X (vI 1)), (13, .int (wbm P (r + 1)).1), (14, .int (wbm P (r + 1)).2), (15, .int (nI (r + 1)))] [] 33) : G x X (put5 ν 1 Q2 O2 T2 V2 w) [(0, ra X 0), (1, .int (nI k)), (2, .int (nI a)), (3, .int (nI t)), (4, ra X (qI 0)), (5, ra X (oI 0)), (6, ra X (tI 0)), (7, ra X (vI 0)), (8, ra X 154), (9, ra X (qI 1)), (10, ra X (oI 1)), (11, ra X (tI 1)), (12, ra X (vI 1)), (13, .int (wbm P r).1), (14, .int (wbm P r).2), (15, .int (nI r))] [] 144 := by
  refine g_aload h dL_would_144 rfl ?_
  refine g_bipush (v := nI 10) h dL_would_146 (by decide) ?_
  refine g_iload_n h dL_would_148 rfl ?_
  refine g_imulN h dL_would_149 ?_
  refine g_iconst (v := nI 2) h dL_would_150 (by decide) ?_
  refine g_iaddN h dL_would_151 ?_
  refine g_ldo h hb1 (by omega) dL_would_152 ?_
  refine g_top (P r) e ?_
  refine g_iload h dL_would_153 rfl ?_
  refine g_icle h 163 dL_would_155 (by decide) (fun c155 => ?_) (fun c155 => ?_)
  · refine g_iload h dL_would_163 rfl ?_
    refine g_istore h dL_would_165 (by rw [hL]; decide) ?_
    refine g_aload h dL_would_167 rfl ?_
    refine g_bipush (v := nI 10) h dL_would_169 (by decide) ?_
    refine g_iload_n h dL_would_171 rfl ?_
    refine g_imulN h dL_would_172 ?_
    refine g_iconst (v := nI 2) h dL_would_173 (by decide) ?_
    refine g_iaddN h dL_would_174 ?_
    refine g_ldo h hb1 (by omega) dL_would_175 ?_
    refine g_top (P r) e ?_
    refine g_iload h dL_would_176 rfl ?_
    refine g_icle h 193 dL_would_178 (by decide) (fun c178 => ?_) (fun c178 => absurd c155 c178)
    refine g_iload h dL_would_193 rfl ?_
    refine g_istore h dL_would_195 (by rw [hL]; decide) ?_
    refine g_iincN h dL_would_197 rfl (by rw [hL]; decide) ?_
    refine g_goto h 33 dL_would_200 (by decide) ?_
    refine g_sub [(0, ra X 0), (1, .int (nI k)), (2, .int (nI a)), (3, .int (nI t)), (4, ra X (qI 0)), (5, ra X (oI 0)), (6, ra X (tI 0)), (7, ra X (vI 0)), (8, ra X 154), (9, ra X (qI 1)), (10, ra X (oI 1)), (11, ra X (tI 1)), (12, ra X (vI 1)), (13, .int (wbm P (r + 1)).1), (14, .int (wbm P (r + 1)).2), (15, .int (nI (r + 1)))] ⟨rfl, rfl, rfl, rfl, rfl, rfl, rfl, rfl, rfl, rfl, rfl, rfl, rfl, (congrArg (fun z => some (Value.int z)) (if_pos c155).symm), (congrArg (fun z => some (Value.int z)) (if_pos c155).symm), rfl, trivial⟩ ?_
    exact C
  · refine g_iload h dL_would_158 rfl ?_
    refine g_goto h 165 dL_would_160 (by decide) ?_
    refine g_istore h dL_would_165 (by rw [hL]; decide) ?_
    refine g_aload h dL_would_167 rfl ?_
    refine g_bipush (v := nI 10) h dL_would_169 (by decide) ?_
    refine g_iload_n h dL_would_171 rfl ?_
    refine g_imulN h dL_would_172 ?_
    refine g_iconst (v := nI 2) h dL_would_173 (by decide) ?_
    refine g_iaddN h dL_would_174 ?_
    refine g_ldo h hb1 (by omega) dL_would_175 ?_
    refine g_top (P r) e ?_
    refine g_iload h dL_would_176 rfl ?_
    refine g_icle h 193 dL_would_178 (by decide) (fun c178 => absurd c178 c155) (fun c178 => ?_)
    refine g_aload h dL_would_181 rfl ?_
    refine g_bipush (v := nI 10) h dL_would_183 (by decide) ?_
    refine g_iload_n h dL_would_185 rfl ?_
    refine g_imulN h dL_would_186 ?_
    refine g_iconst (v := nI 2) h dL_would_187 (by decide) ?_
    refine g_iaddN h dL_would_188 ?_
    refine g_ldo h hb1 (by omega) dL_would_189 ?_
    refine g_top (P r) e ?_
    refine g_goto h 195 dL_would_190 (by decide) ?_
    refine g_istore h dL_would_195 (by rw [hL]; decide) ?_
    refine g_iincN h dL_would_197 rfl (by rw [hL]; decide) ?_
    refine g_goto h 33 dL_would_200 (by decide) ?_
    refine g_sub [(0, ra X 0), (1, .int (nI k)), (2, .int (nI a)), (3, .int (nI t)), (4, ra X (qI 0)), (5, ra X (oI 0)), (6, ra X (tI 0)), (7, ra X (vI 0)), (8, ra X 154), (9, ra X (qI 1)), (10, ra X (oI 1)), (11, ra X (tI 1)), (12, ra X (vI 1)), (13, .int (wbm P (r + 1)).1), (14, .int (wbm P (r + 1)).2), (15, .int (nI (r + 1)))] ⟨rfl, rfl, rfl, rfl, rfl, rfl, rfl, rfl, rfl, rfl, rfl, rfl, rfl, (congrArg (fun z => some (Value.int z)) (if_neg c155).symm), (congrArg (fun z => some (Value.int z)) (if_neg c155).symm), rfl, trivial⟩ ?_
    exact C

theorem dec_n {t n : Nat} (ht5 : t ≤ 4) (hn : n < t) : nI (t - n) - nI 1 + -1 = nI (t - (n + 1)) - nI 1 := by
  rcases (show (t = 1 ∧ n = 0) ∨ (t = 2 ∧ n = 0) ∨ (t = 2 ∧ n = 1) ∨ (t = 3 ∧ n = 0) ∨ (t = 3 ∧ n = 1) ∨ (t = 3 ∧ n = 2) ∨ (t = 4 ∧ n = 0) ∨ (t = 4 ∧ n = 1) ∨ (t = 4 ∧ n = 2) ∨ (t = 4 ∧ n = 3) by omega) with ⟨rfl, rfl⟩ | ⟨rfl, rfl⟩ | ⟨rfl, rfl⟩ | ⟨rfl, rfl⟩ | ⟨rfl, rfl⟩ | ⟨rfl, rfl⟩ | ⟨rfl, rfl⟩ | ⟨rfl, rfl⟩ | ⟨rfl, rfl⟩ | ⟨rfl, rfl⟩ <;> decide
theorem dec_m {t n : Nat} (ht5 : t ≤ 4) (hn : n < t) : nI (t - n) - nI 1 = nI (t - 1 - n) := by
  rcases (show (t = 1 ∧ n = 0) ∨ (t = 2 ∧ n = 0) ∨ (t = 2 ∧ n = 1) ∨ (t = 3 ∧ n = 0) ∨ (t = 3 ∧ n = 1) ∨ (t = 3 ∧ n = 2) ∨ (t = 4 ∧ n = 0) ∨ (t = 4 ∧ n = 1) ∨ (t = 4 ∧ n = 2) ∨ (t = 4 ∧ n = 3) by omega) with ⟨rfl, rfl⟩ | ⟨rfl, rfl⟩ | ⟨rfl, rfl⟩ | ⟨rfl, rfl⟩ | ⟨rfl, rfl⟩ | ⟨rfl, rfl⟩ | ⟨rfl, rfl⟩ | ⟨rfl, rfl⟩ | ⟨rfl, rfl⟩ | ⟨rfl, rfl⟩ <;> decide

set_option maxRecDepth 100000 in
set_option maxHeartbeats 4000000 in
theorem wd_g {l : Launch} {x : fC} {X : fX} {Q O T V : Nat → Int32} {m B y a k t : Nat} (h : Ok l x X cL_would RL 7) (hL : xL x = 17) (hb1 : bk X 1) (hB : B < 2 ^ 24 - 2 ^ 12) (ha : a < 64) (hk : k < 5) (ht : 1 ≤ t) (ht5 : t ≤ 4) {r : Nat} (hr2 : r < 2 ^ t) {ν : fM} {Q2 O2 T2 V2 w w0 : Nat → Int32} (e : O2 (10 * k + 2) = (wP (Q, O, T, V, m) (nI a) t k) r) (K : KM ν Q O T V w0 m B y) (C : ∀ (ν : fM) (Q1 O1 T1 V1 w w0 : Nat → Int32), KM ν Q O T V w0 m B y → G x X (put5 ν 1 Q1 O1 T1 V1 w) [(0, ra X 0), (1, .int (nI k)), (2, .int (nI a)), (3, .int (nI t)), (4, ra X (qI 0)), (5, ra X (oI 0)), (6, ra X (tI 0)), (7, ra X (vI 0)), (8, ra X 154), (9, ra X (qI 1)), (10, ra X (oI 1)), (11, ra X (tI 1)), (12, ra X (vI 1)), (13, .int (wbm (wP (Q, O, T, V, m) (nI a) t k) (r + 1)).1), (14, .int (wbm (wP (Q, O, T, V, m) (nI a) t k) (r + 1)).2), (15, .int (nI (r + 1)))] [] 33) : G x X (put5 ν 1 Q2 O2 T2 V2 w) [(0, ra X 0), (1, .int (nI k)), (2, .int (nI a)), (3, .int (nI t)), (4, ra X (qI 0)), (5, ra X (oI 0)), (6, ra X (tI 0)), (7, ra X (vI 0)), (8, ra X 154), (9, ra X (qI 1)), (10, ra X (oI 1)), (11, ra X (tI 1)), (12, ra X (vI 1)), (13, .int (wbm (wP (Q, O, T, V, m) (nI a) t k) r).1), (14, .int (wbm (wP (Q, O, T, V, m) (nI a) t k) r).2), (15, .int (nI r))] [] 107 := by
  refine g_iload_n h dL_would_107 rfl ?_
  refine g_iconst (v := nI 1) h dL_would_108 (by decide) ?_
  refine g_icne h 144 dL_would_109 (by decide) (fun c109 => ?_) (fun c109 => ?_)
  · refine g_sub [(0, ra X 0), (1, .int (nI k)), (2, .int (nI a)), (3, .int (nI t)), (4, ra X (qI 0)), (5, ra X (oI 0)), (6, ra X (tI 0)), (7, ra X (vI 0)), (8, ra X 154), (9, ra X (qI 1)), (10, ra X (oI 1)), (11, ra X (tI 1)), (12, ra X (vI 1)), (13, .int (wbm (wP (Q, O, T, V, m) (nI a) t k) r).1), (14, .int (wbm (wP (Q, O, T, V, m) (nI a) t k) r).2), (15, .int (nI r))] ⟨rfl, rfl, rfl, rfl, rfl, rfl, rfl, rfl, rfl, rfl, rfl, rfl, rfl, rfl, rfl, rfl, trivial⟩ ?_
    exact wd_t h hL hb1 hk e (C _ _ _ _ _ _ _ K)
  · have ht1 : t = 1 := (nI_eq (by omega) (by decide)).mp c109
    subst ht1
    have K2 := KM_b (Q1 := Q2) (O1 := O2) (T1 := T2) (V1 := V2) (w1 := w) K
    have hC := ct_X5_gain (l := l) (X := X) K2.gst (o := nI k) (a := nI a) (k := nI r)
    obtain ⟨hv, hout⟩ := w_gain (r := r) K2 hB ha hk (by omega)
    have K3 : KM (cGain (put5 ν 1 Q2 O2 T2 V2 w) 5 m (nI k) (nI a) (nI r)).2 Q O T V w m B y := KM_tr hout K2
    rw [p5_keep hout, hv] at hC
    generalize (cGain (put5 ν 1 Q2 O2 T2 V2 w) 5 m (nI k) (nI a) (nI r)).2 = τ at hC K3
    refine g_aload_n h dL_would_112 rfl ?_
    refine g_iload_n h dL_would_113 rfl ?_
    refine g_iload_n h dL_would_114 rfl ?_
    refine g_iload h dL_would_115 rfl ?_
    refine clL_78 h  hC rfl dL_would_117 rfl (Nat.le_of_ble_eq_true rfl) (by decide) ?_
    refine g_aload h dL_would_120 rfl ?_
    refine g_bipush (v := nI 10) h dL_would_122 (by decide) ?_
    refine g_iload_n h dL_would_124 rfl ?_
    refine g_imulN h dL_would_125 ?_
    refine g_iconst (v := nI 2) h dL_would_126 (by decide) ?_
    refine g_iaddN h dL_would_127 ?_
    refine g_ldo h hb1 (by omega) dL_would_128 ?_
    refine g_aload h dL_would_129 rfl ?_
    refine g_bipush (v := nI 10) h dL_would_131 (by decide) ?_
    refine g_iload_n h dL_would_133 rfl ?_
    refine g_imulN h dL_would_134 ?_
    refine g_iconst (v := nI 2) h dL_would_135 (by decide) ?_
    refine g_iaddN h dL_would_136 ?_
    refine g_ialdN h (k := oI 0) (oI_lt hb0) (enc_ro X (Or.inl rfl)) rfl (by omega) (by decide) dL_would_137 ?_
    refine g_st [.int (O (10 * k + 2)), .int (O2 (10 * k + 2)), .int (wP (Q, O, T, V, m) (nI a) 1 k r - O (10 * k + 2))] (by rw [(p5_b (b' := 0) (by decide)).2.1, show τ.1 (oI 0) = O from K3.2.2.1]) ?_
    refine g_isub h dL_would_138 ?_
    refine g_iceq h 144 dL_would_139 (by decide) (fun c139 => ?_) (fun c139 => absurd (by rw [e]) c139)
    refine g_sub [(0, ra X 0), (1, .int (nI k)), (2, .int (nI a)), (3, .int (nI 1)), (4, ra X (qI 0)), (5, ra X (oI 0)), (6, ra X (tI 0)), (7, ra X (vI 0)), (8, ra X 154), (9, ra X (qI 1)), (10, ra X (oI 1)), (11, ra X (tI 1)), (12, ra X (vI 1)), (13, .int (wbm (wP (Q, O, T, V, m) (nI a) 1 k) r).1), (14, .int (wbm (wP (Q, O, T, V, m) (nI a) 1 k) r).2), (15, .int (nI r))] ⟨rfl, rfl, rfl, rfl, rfl, rfl, rfl, rfl, rfl, rfl, rfl, rfl, rfl, rfl, rfl, rfl, trivial⟩ ?_
    exact wd_t h hL hb1 hk e (C _ _ _ _ _ _ _ K3)

set_option maxRecDepth 100000 in
set_option maxHeartbeats 4000000 in
theorem wd_r {l : Launch} {x : fC} {X : fX} {Q O T V : Nat → Int32} {m B y a k t : Nat} (h : Ok l x X cL_would RL 7) (hL : xL x = 17) (hb1 : bk X 1) (hB : B < 2 ^ 24 - 2 ^ 12) (ha : a < 64) (hk : k < 5) (ht : 1 ≤ t) (ht5 : t ≤ 4) {r : Nat} (hr2 : r < 2 ^ t) {ν : fM} {Q1 O1 T1 V1 w w0 : Nat → Int32} (K : KM ν Q O T V w0 m B y) (C : ∀ (ν : fM) (Q1 O1 T1 V1 w w0 : Nat → Int32), KM ν Q O T V w0 m B y → G x X (put5 ν 1 Q1 O1 T1 V1 w) [(0, ra X 0), (1, .int (nI k)), (2, .int (nI a)), (3, .int (nI t)), (4, ra X (qI 0)), (5, ra X (oI 0)), (6, ra X (tI 0)), (7, ra X (vI 0)), (8, ra X 154), (9, ra X (qI 1)), (10, ra X (oI 1)), (11, ra X (tI 1)), (12, ra X (vI 1)), (13, .int (wbm (wP (Q, O, T, V, m) (nI a) t k) (r + 1)).1), (14, .int (wbm (wP (Q, O, T, V, m) (nI a) t k) (r + 1)).2), (15, .int (nI (r + 1)))] [] 33) : G x X (put5 ν 1 Q1 O1 T1 V1 w) [(0, ra X 0), (1, .int (nI k)), (2, .int (nI a)), (3, .int (nI t)), (4, ra X (qI 0)), (5, ra X (oI 0)), (6, ra X (tI 0)), (7, ra X (vI 0)), (8, ra X 154), (9, ra X (qI 1)), (10, ra X (oI 1)), (11, ra X (tI 1)), (12, ra X (vI 1)), (13, .int (wbm (wP (Q, O, T, V, m) (nI a) t k) r).1), (14, .int (wbm (wP (Q, O, T, V, m) (nI a) t k) r).2), (15, .int (nI r))] [] 41 := by
  have LOOP : ∀ (q n : Nat), n + q = t → ∀ (Q2 O2 T2 V2 : Nat → Int32) (m2 : Nat) (w : Nat → Int32), lrl (pbZ ν 5 m t (nI r) (nI a) n).1 1 Q2 O2 T2 V2 m2 → (pbZ ν 5 m t (nI r) (nI a) n).2 = m2 → lgd Q2 O2 T2 V2 m2 B (y + n) → G x X (put5 ν 1 Q2 O2 T2 V2 w) [(0, ra X 0), (1, .int (nI k)), (2, .int (nI a)), (3, .int (nI t)), (4, ra X (qI 0)), (5, ra X (oI 0)), (6, ra X (tI 0)), (7, ra X (vI 0)), (8, ra X 154), (9, ra X (qI 1)), (10, ra X (oI 1)), (11, ra X (tI 1)), (12, ra X (vI 1)), (13, .int (wbm (wP (Q, O, T, V, m) (nI a) t k) r).1), (14, .int (wbm (wP (Q, O, T, V, m) (nI a) t k) r).2), (15, .int (nI r)), (16, .int (nI (t - n) - nI 1))] [] 74 := by
    intro q
    induction q with
    | zero =>
      intro n hn Q2 O2 T2 V2 m2 w hr hm2 hg
      have hnt : n = t := hn
      refine g_iload h dL_would_74 rfl ?_
      refine g_iflt h 107 dL_would_76 (by decide) (fun c76 => ?_) (fun c76 => absurd (by rw [hnt, Nat.sub_self]; decide) c76)
      refine g_sub [(0, ra X 0), (1, .int (nI k)), (2, .int (nI a)), (3, .int (nI t)), (4, ra X (qI 0)), (5, ra X (oI 0)), (6, ra X (tI 0)), (7, ra X (vI 0)), (8, ra X 154), (9, ra X (qI 1)), (10, ra X (oI 1)), (11, ra X (tI 1)), (12, ra X (vI 1)), (13, .int (wbm (wP (Q, O, T, V, m) (nI a) t k) r).1), (14, .int (wbm (wP (Q, O, T, V, m) (nI a) t k) r).2), (15, .int (nI r))] ⟨rfl, rfl, rfl, rfl, rfl, rfl, rfl, rfl, rfl, rfl, rfl, rfl, rfl, rfl, rfl, rfl, trivial⟩ ?_
      rw [hnt] at hr
      refine wd_g h hL hb1 hB ha hk ht ht5 hr2 ?_ K C
      exact (lrl.ro hr hk (p := 2) (by decide)).symm.trans (pb_P K.1.1 K.1.2.1 hB hk)
    | succ q ih =>
      intro n hn Q2 O2 T2 V2 m2 w hr hm2 hg
      have hlt : n < t := by omega
      refine g_iload h dL_would_74 rfl ?_
      refine g_top (nI (t - 1 - n)) (dec_m ht5 hlt) ?_
      refine g_iflt h 107 dL_would_76 (by decide) (fun c76 => absurd c76 (Int32.not_lt.mpr (nI_le (a := 0) (Nat.zero_le _) (by omega)))) (fun c76 => ?_)
      refine g_iload_n h dL_would_79 rfl ?_
      refine g_iload h dL_would_80 rfl ?_
      refine g_iload h dL_would_82 rfl ?_
      refine g_top (nI (t - 1 - n)) (dec_m ht5 hlt) ?_
      refine g_ishr h dL_would_84 ?_
      refine g_iconst (v := 1) h dL_would_85 (by decide) ?_
      refine g_iand h dL_would_86 ?_
      refine g_top (tkr t r n) rfl ?_
      refine g_aload h dL_would_87 rfl ?_
      refine g_aload h dL_would_89 rfl ?_
      refine g_aload h dL_would_91 rfl ?_
      refine g_aload h dL_would_93 rfl ?_
      refine g_aload h dL_would_95 rfl ?_
      refine clL_74 h (ct_L_branch hb1 (hg.H (by omega)) (hg.cr hr.2.1 hr.1.2.2.2)) rfl dL_would_97 rfl (Nat.le_of_ble_eq_true rfl) (by decide) ?_
      refine g_pop h dL_would_100 rfl ?_
      refine g_iinc h dL_would_101 rfl (by rw [hL]; decide) ?_
      refine g_goto h 74 dL_would_104 (by decide) ?_
      obtain ⟨a1, a2, a3⟩ := pz_step w hr hm2 hg hB rfl
      refine g_mem (put5 ν 1 (brQ Q2 O2 T2 V2 m2 (nI a) (tkr t r n) w) (brR Q2 O2 T2 V2 m2 (nI a) (tkr t r n) w).1 (brR Q2 O2 T2 V2 m2 (nI a) (tkr t r n) w).2 (lbB Q2 O2 T2 V2 m2 (nI a) (tkr t r n) w).2.2.1 (lw1 Q2 O2 T2 (nI a) w 5)) rfl ?_
      refine g_sub [(0, ra X 0), (1, .int (nI k)), (2, .int (nI a)), (3, .int (nI t)), (4, ra X (qI 0)), (5, ra X (oI 0)), (6, ra X (tI 0)), (7, ra X (vI 0)), (8, ra X 154), (9, ra X (qI 1)), (10, ra X (oI 1)), (11, ra X (tI 1)), (12, ra X (vI 1)), (13, .int (wbm (wP (Q, O, T, V, m) (nI a) t k) r).1), (14, .int (wbm (wP (Q, O, T, V, m) (nI a) t k) r).2), (15, .int (nI r)), (16, .int (nI (t - (n + 1)) - nI 1))] ⟨rfl, rfl, rfl, rfl, rfl, rfl, rfl, rfl, rfl, rfl, rfl, rfl, rfl, rfl, rfl, rfl, (congrArg (fun z => some (Value.int z)) (dec_n ht5 hlt)), trivial⟩ ?_
      exact ih (n + 1) (by omega) _ _ _ _ _ _ a1 a2 a3
  have r0 : lrl (copyM ν 1 0 5 m) 1 (cpy Q Q1 8) (cpy O O1 50) (cpy T T1 40) (cpy V V1 24) m := lrl_rows (fun j hj => cpy_lt hj) (fun j hj => cpy_lt hj) (fun j hj => cpy_lt hj) (fun j hj => cpy_lt hj) (lrl_copy (by decide) K.1.1)
  have g0 : lgd (cpy Q Q1 8) (cpy O O1 50) (cpy T T1 40) (cpy V V1 24) m B y := lgd_rows K.m8 (fun j hj => cpy_lt hj) (fun j hj => cpy_lt hj) (fun j hj => cpy_lt hj) (fun j hj => cpy_lt hj) K.1.2.1
  refine g_aload h dL_would_41 rfl ?_
  refine g_aload h dL_would_43 rfl ?_
  refine clL_70 h (ct_cq hb1 K.2.1) rfl dL_would_45 rfl (Nat.le_of_ble_eq_true rfl) (by decide) ?_
  refine g_aload h dL_would_48 rfl ?_
  refine g_aload h dL_would_50 rfl ?_
  refine clL_70 h (ct_co hb1 K.2.2.1) rfl dL_would_52 rfl (Nat.le_of_ble_eq_true rfl) (by decide) ?_
  refine g_aload h dL_would_55 rfl ?_
  refine g_aload h dL_would_57 rfl ?_
  refine clL_70 h (ct_ct hb1 K.2.2.2.1) rfl dL_would_59 rfl (Nat.le_of_ble_eq_true rfl) (by decide) ?_
  refine g_aload h dL_would_62 rfl ?_
  refine g_aload h dL_would_64 rfl ?_
  refine clL_70 h (ct_cv hb1 K.2.2.2.2.1) rfl dL_would_66 rfl (Nat.le_of_ble_eq_true rfl) (by decide) ?_
  refine g_iload_n h dL_would_69 rfl ?_
  refine g_iconst (v := nI 1) h dL_would_70 (by decide) ?_
  refine g_isub h dL_would_71 ?_
  refine g_istore h dL_would_72 (by rw [hL]; decide) ?_
  refine g_sub [(0, ra X 0), (1, .int (nI k)), (2, .int (nI a)), (3, .int (nI t)), (4, ra X (qI 0)), (5, ra X (oI 0)), (6, ra X (tI 0)), (7, ra X (vI 0)), (8, ra X 154), (9, ra X (qI 1)), (10, ra X (oI 1)), (11, ra X (tI 1)), (12, ra X (vI 1)), (13, .int (wbm (wP (Q, O, T, V, m) (nI a) t k) r).1), (14, .int (wbm (wP (Q, O, T, V, m) (nI a) t k) r).2), (15, .int (nI r)), (16, .int (nI (t - 0) - nI 1))] ⟨rfl, rfl, rfl, rfl, rfl, rfl, rfl, rfl, rfl, rfl, rfl, rfl, rfl, rfl, rfl, rfl, rfl, trivial⟩ ?_
  exact LOOP t 0 (by omega) _ _ _ _ _ _ r0 rfl g0

set_option maxRecDepth 100000 in
set_option maxHeartbeats 4000000 in
theorem wd_3 {l : Launch} {x : fC} {X : fX} {Q O T V : Nat → Int32} {m B y a k t : Nat} (h : Ok l x X cL_would RL 7) (hL : xL x = 17) (hb1 : bk X 1) (hB : B < 2 ^ 24 - 2 ^ 12) (ha : a < 64) (hk : k < 5) (ht : 1 ≤ t) (ht5 : t ≤ 4) (fin : ∀ (σ : fM) (L : List (Nat × Value)), (∃ w, KM σ Q O T V w m B y) → G x X σ L [.int 1] 341) : ∀ (q r : Nat), r + q = 2 ^ t → ∀ (ν : fM) (Q1 O1 T1 V1 w w0 : Nat → Int32), KM ν Q O T V w0 m B y → G x X (put5 ν 1 Q1 O1 T1 V1 w) [(0, ra X 0), (1, .int (nI k)), (2, .int (nI a)), (3, .int (nI t)), (4, ra X (qI 0)), (5, ra X (oI 0)), (6, ra X (tI 0)), (7, ra X (vI 0)), (8, ra X 154), (9, ra X (qI 1)), (10, ra X (oI 1)), (11, ra X (tI 1)), (12, ra X (vI 1)), (13, .int (wbm (wP (Q, O, T, V, m) (nI a) t k) r).1), (14, .int (wbm (wP (Q, O, T, V, m) (nI a) t k) r).2), (15, .int (nI r))] [] 33 := by
  intro q
  induction q with
  | zero =>
    intro r hr ν Q1 O1 T1 V1 w w0 K
    have hre : r = 2 ^ t := hr
    have hC0 := ct_X5_bestRow (l := l) (X := X) (KM_b (Q1 := Q1) (O1 := O1) (T1 := T1) (V1 := V1) (w1 := w) K).gst (o := nI k) (a := nI a) (t := nI t) (w := nI 0)
    obtain ⟨hv0, hout0⟩ := w_best (j := 0) (KM_b (Q1 := Q1) (O1 := O1) (T1 := T1) (V1 := V1) (w1 := w) K) hB ha hk ht (by omega) (by decide)
    have KK0 : KM (cBest (put5 ν 1 Q1 O1 T1 V1 w) 5 m (nI k) (nI a) (nI t) (nI 0)).2 Q O T V w m B y := KM_tr hout0 (KM_b K)
    rw [p5_keep hout0, hv0, if_pos rfl] at hC0
    generalize (cBest (put5 ν 1 Q1 O1 T1 V1 w) 5 m (nI k) (nI a) (nI t) (nI 0)).2 = τ0 at hC0 KK0
    have hC1 := ct_X5_bestRow (l := l) (X := X) (KM_b (Q1 := Q1) (O1 := O1) (T1 := T1) (V1 := V1) (w1 := w) KK0).gst (o := nI k) (a := nI a) (t := nI t) (w := nI 1)
    obtain ⟨hv1, hout1⟩ := w_best (j := 1) (KM_b (Q1 := Q1) (O1 := O1) (T1 := T1) (V1 := V1) (w1 := w) KK0) hB ha hk ht (by omega) (by decide)
    have KK1 : KM (cBest (put5 τ0 1 Q1 O1 T1 V1 w) 5 m (nI k) (nI a) (nI t) (nI 1)).2 Q O T V w m B y := KM_tr hout1 (KM_b KK0)
    rw [p5_keep hout1, hv1, if_neg (by decide)] at hC1
    generalize (cBest (put5 τ0 1 Q1 O1 T1 V1 w) 5 m (nI k) (nI a) (nI t) (nI 1)).2 = τ1 at hC1 KK1
    refine g_iload h dL_would_33 rfl ?_
    refine g_iconst (v := 1) h dL_would_35 (by decide) ?_
    refine g_iload_n h dL_would_36 rfl ?_
    refine g_ishl h dL_would_37 ?_
    refine g_top (nI (2 ^ t)) (shl1 t (by omega)) ?_
    refine g_icge h 203 dL_would_38 (by decide) (fun c38 => ?_) (fun c38 => absurd (by rw [hre]; exact Int32.le_refl _) c38)
    refine g_aload_n h dL_would_203 rfl ?_
    refine g_iload_n h dL_would_204 rfl ?_
    refine g_iload_n h dL_would_205 rfl ?_
    refine g_iload_n h dL_would_206 rfl ?_
    refine g_iconst (v := nI 0) h dL_would_207 (by decide) ?_
    refine clL_82 h  hC0 rfl dL_would_208 rfl (Nat.le_of_ble_eq_true rfl) (by decide) ?_
    refine g_iload h dL_would_211 rfl ?_
    refine g_icne h 229 dL_would_213 (by decide) (fun c213 => absurd (by rw [hre]) c213) (fun c213 => ?_)
    refine g_aload_n h dL_would_216 rfl ?_
    refine g_iload_n h dL_would_217 rfl ?_
    refine g_iload_n h dL_would_218 rfl ?_
    refine g_iload_n h dL_would_219 rfl ?_
    refine g_iconst (v := nI 1) h dL_would_220 (by decide) ?_
    refine clL_82 h  hC1 rfl dL_would_221 rfl (Nat.le_of_ble_eq_true rfl) (by decide) ?_
    refine g_iload h dL_would_224 rfl ?_
    refine g_iceq h 231 dL_would_226 (by decide) (fun c226 => ?_) (fun c226 => absurd (by rw [hre]) c226)
    refine g_sub [(0, ra X 0), (1, .int (nI k)), (2, .int (nI a)), (3, .int (nI t)), (4, ra X (qI 0)), (5, ra X (oI 0)), (6, ra X (tI 0)), (7, ra X (vI 0)), (8, ra X 154), (9, ra X (qI 1)), (10, ra X (oI 1)), (11, ra X (tI 1)), (12, ra X (vI 1))] ⟨rfl, rfl, rfl, rfl, rfl, rfl, rfl, rfl, rfl, rfl, rfl, rfl, rfl, trivial⟩ ?_
    exact wd_2 h hL hb1 hB ha hk ht ht5 fin KK1
  | succ q ih =>
    intro r hr ν Q1 O1 T1 V1 w w0 K
    refine g_iload h dL_would_33 rfl ?_
    refine g_iconst (v := 1) h dL_would_35 (by decide) ?_
    refine g_iload_n h dL_would_36 rfl ?_
    refine g_ishl h dL_would_37 ?_
    refine g_top (nI (2 ^ t)) (shl1 t (by omega)) ?_
    refine g_icge h 203 dL_would_38 (by decide) (fun c38 => absurd c38 (nI_ge (by omega) (Nat.lt_of_le_of_lt (Nat.pow_le_pow_right (by decide) ht5) (by decide)))) (fun c38 => ?_)
    exact wd_r h hL hb1 hB ha hk ht ht5 (r := r) (by omega) K (fun ν Q1 O1 T1 V1 w w0 K => ih (r + 1) (by omega) _ _ _ _ _ _ _ K)

theorem g_iretX {l : Launch} {x : fC} {X0 X : fX} {σ : fM} {L : List (Nat × Value)} {pc : Nat} {cc : ByteArray} {own : String} {d e : Nat} {f : Nat → Nat} (hX : X = Xe X0 f e) (hf : ∀ i, i < nX X0 → f i = X0.2.1 i) (he : X0.2.2.2.2.1 ≤ e) (h : Ok l x X cc own d) {r a : Int32} {ty : FieldType} {R : fM → Prop} {sz : Nat} (hr : RtE x X0 (some ty) (some (.int r)) R sz (xk x) (xn x)) (hn : narrow ty (.int a) = .int a) (hd : decode cc pc = .ok (.ireturn, 1)) (ha : a = r) (hσ : R σ) : G x X σ L [.int a] pc := fun H locs ls hP hS hl => by
  subst ha
  subst hX
  have hP0 : va_P X0.1 vwCl (wl X0 σ) H := wl_less hf he hP
  show W _ _ _ _ _ _ _ _ _ _ _ _ _ _ _ _
  rw [hr.2.2.2.2]
  rw [hr.2.2.1] at hS
  exact W.zret h.hx h.hb hr.1 hn (fun t ht hW => ⟨⟨rfl, σ, hσ, by rw [ht]; exact hP0⟩, hS.F ht⟩) hS.2.2 hd hr.2.1

set_option maxRecDepth 100000 in
set_option maxHeartbeats 4000000 in
theorem ct_L_would {l : Launch} {X : fX} {μ : fM} {Q O T V w : Nat → Int32} {m B y a k t : Nat} (he0 : X.2.2.2.2.1 = 0) (hB : B < 2 ^ 24 - 2 ^ 12) (ha : a < 64) (hk : k < 5) (ht : 1 ≤ t) (ht5 : t ≤ 4) (K : KM μ Q O T V w m B y) : CtE l X yL_would cL_would 17 (some .boolean) 7 4 122 [ra X 0, .int (nI k), .int (nI a), .int (nI t), ra X (qI 0), ra X (oI 0), ra X (tI 0), ra X (vI 0), ra X 154] μ (some (.int 1)) (fun σ' => ∃ w', KM σ' Q O T V w' m B y) := by
  refine CtE.of RL rfl (by decide) (Nat.le_of_ble_eq_true rfl) ?_
  intro x sz hL hR hk0 hn0 h hr
  obtain ⟨D, f, cI, st, e0, Ln, sc⟩ := X
  dsimp only at he0
  subst he0
  obtain ⟨hr1, hr2, hr3, hr4, hr5⟩ := hr
  have hA : ∀ q, (xs x).heap.size ≤ q → xA x q := fun q hq => by rw [hr3]; exact Or.inr (by rw [← hr4]; exact hq)
  have hx := h
  refine g_sub [(0, ra (D, f, cI, st, 0, Ln, sc) 0), (1, .int (nI k)), (2, .int (nI a)), (3, .int (nI t)), (4, ra (D, f, cI, st, 0, Ln, sc) (qI 0)), (5, ra (D, f, cI, st, 0, Ln, sc) (oI 0)), (6, ra (D, f, cI, st, 0, Ln, sc) (tI 0)), (7, ra (D, f, cI, st, 0, Ln, sc) (vI 0)), (8, ra (D, f, cI, st, 0, Ln, sc) 154)] ⟨rfl, rfl, rfl, rfl, rfl, rfl, rfl, rfl, rfl, trivial⟩ ?_
  refine g_bipush (v := nI 8) h dL_would_0 (by decide) ?_
  refine g_newi h hA rfl (by decide) rfl (by show xk x + 1 ≤ (xR x).cells; rw [hk0, hR]; exact Nat.le_of_ble_eq_true rfl) (by show xn x + 8 ≤ (xR x).slots; rw [hn0, hR]; exact Nat.le_of_ble_eq_true rfl) dL_would_2 (fun q1 h => ?_)
  refine g_astore h dL_would_4 (by show _ < xL x; rw [hL]; decide) ?_
  refine g_bipush (v := nI 50) h dL_would_6 (by decide) ?_
  refine g_newi h hA rfl (by decide) rfl (by show xk x + 1 + 1 ≤ (xR x).cells; rw [hk0, hR]; exact Nat.le_of_ble_eq_true rfl) (by show xn x + 8 + 50 ≤ (xR x).slots; rw [hn0, hR]; exact Nat.le_of_ble_eq_true rfl) dL_would_8 (fun q2 h => ?_)
  refine g_astore h dL_would_10 (by show _ < xL x; rw [hL]; decide) ?_
  refine g_bipush (v := nI 40) h dL_would_12 (by decide) ?_
  refine g_newi h hA rfl (by decide) rfl (by show xk x + 1 + 1 + 1 ≤ (xR x).cells; rw [hk0, hR]; exact Nat.le_of_ble_eq_true rfl) (by show xn x + 8 + 50 + 40 ≤ (xR x).slots; rw [hn0, hR]; exact Nat.le_of_ble_eq_true rfl) dL_would_14 (fun q3 h => ?_)
  refine g_astore h dL_would_16 (by show _ < xL x; rw [hL]; decide) ?_
  refine g_bipush (v := nI 24) h dL_would_18 (by decide) ?_
  refine g_newi h hA rfl (by decide) rfl (by show xk x + 1 + 1 + 1 + 1 ≤ (xR x).cells; rw [hk0, hR]; exact Nat.le_of_ble_eq_true rfl) (by show xn x + 8 + 50 + 40 + 24 ≤ (xR x).slots; rw [hn0, hR]; exact Nat.le_of_ble_eq_true rfl) dL_would_20 (fun q4 h => ?_)
  refine g_astore h dL_would_22 (by show _ < xL x; rw [hL]; decide) ?_
  refine g_iconst (v := 0) h dL_would_24 (by decide) ?_
  refine g_istore h dL_would_25 (by show _ < xL x; rw [hL]; decide) ?_
  refine g_iconst (v := -1) h dL_would_27 (by decide) ?_
  refine g_istore h dL_would_28 (by show _ < xL x; rw [hL]; decide) ?_
  refine g_iconst (v := nI 0) h dL_would_30 (by decide) ?_
  refine g_istore h dL_would_31 (by show _ < xL x; rw [hL]; decide) ?_
  have K4 : KM (puR (puR (puR (puR μ 155 (fun _ => 0)) 156 (fun _ => 0)) 157 (fun _ => 0)) 158 (fun _ => 0)) Q O T V w m B y := KM_cg (fun q hq => by rw [puR_ne _ (by omega), puR_ne _ (by omega), puR_ne _ (by omega), puR_ne _ (by omega)]) K
  have e4 : (puR (puR (puR (puR μ 155 (fun _ => 0)) 156 (fun _ => 0)) 157 (fun _ => 0)) 158 (fun _ => 0)) = put5 (puR (puR (puR (puR μ 155 (fun _ => 0)) 156 (fun _ => 0)) 157 (fun _ => 0)) 158 (fun _ => 0)) 1 (fun _ => 0) (fun _ => 0) (fun _ => 0) (fun _ => 0) w := (p5_self (b := 1) rfl rfl rfl rfl (K4.2.2.2.2.2)).symm
  refine g_mem (put5 (puR (puR (puR (puR μ 155 (fun _ => 0)) 156 (fun _ => 0)) 157 (fun _ => 0)) 158 (fun _ => 0)) 1 (fun _ => 0) (fun _ => 0) (fun _ => 0) (fun _ => 0) w) e4 ?_
  have hr4' : RtE (kn (kn (kn (kn x (xk x + 1) (xn x + 8)) (xk x + 1 + 1) (xn x + 8 + 50)) (xk x + 1 + 1 + 1) (xn x + 8 + 50 + 40)) (xk x + 1 + 1 + 1 + 1) (xn x + 8 + 50 + 40 + 24)) (D, f, cI, st, 0, Ln, sc) (some .boolean) (some (.int 1)) (fun σ' => ∃ w', KM σ' Q O T V w' m B y) sz (xk x + 1 + 1 + 1 + 1) (xn x + 8 + 50 + 40 + 24) := by
    rw [hk0, hn0]
    exact ⟨hr1, hr2, hr3, hr4, hr5⟩
  have fin : ∀ (σ : fM) (L : List (Nat × Value)), (∃ w, KM σ Q O T V w m B y) → G (kn (kn (kn (kn x (xk x + 1) (xn x + 8)) (xk x + 1 + 1) (xn x + 8 + 50)) (xk x + 1 + 1 + 1) (xn x + 8 + 50 + 40)) (xk x + 1 + 1 + 1 + 1) (xn x + 8 + 50 + 40 + 24)) (X1 (X1 (X1 (X1 (D, f, cI, st, 0, Ln, sc) q1) q2) q3) q4) σ L [.int 1] 341 := fun σ L hw => by
    refine g_iretX (X0 := (D, f, cI, st, 0, Ln, sc)) (f := (X1 (X1 (X1 (X1 (D, f, cI, st, 0, Ln, sc) q1) q2) q3) q4).2.1) (e := 4) rfl (fun i hi => ?_) (Nat.zero_le _) h hr4' rfl dL_would_341 rfl hw
    have hi' : i < 155 := hi
    exact (if_neg (show ¬ i = 155 + 3 by omega)).trans ((if_neg (show ¬ i = 155 + 2 by omega)).trans ((if_neg (show ¬ i = 155 + 1 by omega)).trans (if_neg (show ¬ i = 155 + 0 by omega))))
  refine g_sub [(0, ra (X1 (X1 (X1 (X1 (D, f, cI, st, 0, Ln, sc) q1) q2) q3) q4) 0), (1, .int (nI k)), (2, .int (nI a)), (3, .int (nI t)), (4, ra (X1 (X1 (X1 (X1 (D, f, cI, st, 0, Ln, sc) q1) q2) q3) q4) (qI 0)), (5, ra (X1 (X1 (X1 (X1 (D, f, cI, st, 0, Ln, sc) q1) q2) q3) q4) (oI 0)), (6, ra (X1 (X1 (X1 (X1 (D, f, cI, st, 0, Ln, sc) q1) q2) q3) q4) (tI 0)), (7, ra (X1 (X1 (X1 (X1 (D, f, cI, st, 0, Ln, sc) q1) q2) q3) q4) (vI 0)), (8, ra (X1 (X1 (X1 (X1 (D, f, cI, st, 0, Ln, sc) q1) q2) q3) q4) 154), (9, ra (X1 (X1 (X1 (X1 (D, f, cI, st, 0, Ln, sc) q1) q2) q3) q4) (qI 1)), (10, ra (X1 (X1 (X1 (X1 (D, f, cI, st, 0, Ln, sc) q1) q2) q3) q4) (oI 1)), (11, ra (X1 (X1 (X1 (X1 (D, f, cI, st, 0, Ln, sc) q1) q2) q3) q4) (tI 1)), (12, ra (X1 (X1 (X1 (X1 (D, f, cI, st, 0, Ln, sc) q1) q2) q3) q4) (vI 1)), (13, .int (wbm (wP (Q, O, T, V, m) (nI a) t k) 0).1), (14, .int (wbm (wP (Q, O, T, V, m) (nI a) t k) 0).2), (15, .int (nI 0))] ⟨rfl, rfl, rfl, rfl, rfl, rfl, rfl, rfl, rfl, rfl, rfl, rfl, rfl, rfl, rfl, rfl, trivial⟩ ?_
  exact wd_3 (X := (X1 (X1 (X1 (X1 (D, f, cI, st, 0, Ln, sc) q1) q2) q3) q4)) h hL (Or.inr ⟨rfl, rfl⟩) hB ha hk ht ht5 fin (2 ^ t) 0 (by omega) _ _ _ _ _ _ _ K4
