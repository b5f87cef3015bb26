/-! the law from its entry -/
theorem arr_i {s : State} {args : Array Value} (h : (Cond.arrayClass .int).before args s = true) : ∃ cA, ArrOfT s cA .int ∧ va_RA s cA .int := by
  obtain ⟨cA, kA, comp, hfind, hk, hkind⟩ := Cond.arrayClass_spec h
  exact ⟨cA, fun n z => ⟨(fun k h => by cases h), kA, hk, comp, hkind⟩, hfind⟩
theorem arr_c {s : State} {args : Array Value} (h : (Cond.arrayClass .char).before args s = true) : ∃ cA, ArrOfT s cA .char ∧ va_RA s cA .char := by
  obtain ⟨cA, kA, comp, hfind, hk, hkind⟩ := Cond.arrayClass_spec h
  exact ⟨cA, fun n z => ⟨(fun k h => by cases h), kA, hk, comp, hkind⟩, hfind⟩
theorem arr_q {s : State} {args : Array Value} {C : String} (h : (Cond.arrayOver (.object C)).before args s = true) : ∃ cA, ArrOfT s cA (.object C) ∧ va_RA s cA (.object C) := by
  obtain ⟨comp, c, k, h1, -, h3, h4, h5⟩ := Cond.arrayOver_spec h
  exact ⟨c, fun n z => ⟨(fun k h => by cases h), k, h3, comp, h4⟩, k, comp, h3, h4, h1, h5⟩
section START
variable {s : State} {b : Nat}
theorem start_K (hts : ∀ w ∈ lw_tbl, w.before #[Value.ref b] s = true) : ∃ (D : va_G) (c5 : Nat → ClassId), va_K D vwCl (ftc c5) s := by
  have hg : ∀ w ∈ lw_gd, w.before #[Value.ref b] s = true := fun w hw => hts w (List.mem_filter.mp hw).1
  obtain ⟨c0, i0, k0⟩ := u_known (C := RX0) (T := TX0) (N := 3) (n := 3) hg lw_x0 (hts _ (lt_w 91 (by decide +kernel)))
  obtain ⟨c1, i1, k1⟩ := u_known (C := RX1) (T := TX1) (N := 12) (n := 12) hg lw_x1 (hts _ (lt_w 30 (by decide +kernel)))
  obtain ⟨c2, i2, k2⟩ := u_known (C := RX2) (T := TX2) (N := 3) (n := 3) hg lw_x2 (hts _ (lt_w 155 (by decide +kernel)))
  obtain ⟨c3, i3, k3⟩ := u_known (C := RX3) (T := TX3) (N := 10) (n := 10) hg lw_x3 (hts _ (lt_w 23 (by decide +kernel)))
  obtain ⟨c4, i4, k4⟩ := u_known (C := RX4) (T := TX4) (N := 8) (n := 8) hg lw_x4 (hts _ (lt_w 175 (by decide +kernel)))
  obtain ⟨c5, i5, k5⟩ := u_known (C := RX5) (T := TX5) (N := 4) (n := 4) hg lw_x5 (hts _ (lt_w 15 (by decide +kernel)))
  obtain ⟨c6, i6, k6⟩ := u_known (C := RX6) (T := TX6) (N := 17) (n := 17) hg lw_x6 (hts _ (lt_w 629 (by decide +kernel)))
  obtain ⟨d0, e0⟩ := arr_i (hts _ (lt_w 88 (by decide +kernel)))
  obtain ⟨d1, e1⟩ := arr_c (hts _ (lt_w 212 (by decide +kernel)))
  obtain ⟨d2, e2⟩ := arr_q (C := RX1) (hts _ (lt_w 29 (by decide +kernel)))
  obtain ⟨d3, e3⟩ := arr_q (C := RX0) (hts _ (lt_w 90 (by decide +kernel)))
  obtain ⟨d4, e4⟩ := arr_q (C := RX3) (hts _ (lt_w 161 (by decide +kernel)))
  refine ⟨(fun k => if k = 0 then c0 else if k = 1 then c1 else if k = 2 then c2 else if k = 3 then c3 else if k = 4 then c4 else if k = 5 then c5 else c6, fun k => if k = 0 then i0 else if k = 1 then i1 else if k = 2 then i2 else if k = 3 then i3 else if k = 4 then i4 else if k = 5 then i5 else i6), fun k => if k = 0 then d0 else if k = 1 then d1 else if k = 2 then d2 else if k = 3 then d3 else d4, fun k q hq => ?_, fun k q hq => ?_⟩
  · match k, hq with
    | 0, hq => cases hq; exact k0
    | 1, hq => cases hq; exact k1
    | 2, hq => cases hq; exact k2
    | 3, hq => cases hq; exact k3
    | 4, hq => cases hq; exact k4
    | 5, hq => cases hq; exact k5
    | 6, hq => cases hq; exact k6
    | k + 7, hq => simp [vwCl] at hq
  · match k, hq with
    | 0, hq => cases hq; exact e0
    | 1, hq => cases hq; exact e1
    | 2, hq => cases hq; exact e2
    | 3, hq => cases hq; exact e3
    | 4, hq => cases hq; exact e4
    | k + 5, hq => simp [ftc] at hq
set_option maxRecDepth 100000 in
set_option maxHeartbeats 4000000 in
theorem start_Z (hts : ∀ w ∈ lw_tbl, w.before #[Value.ref b] s = true) (hgv : (Jvm.Cond.and given_1 narrow_1).before #[Value.ref b] s = true) : ∃ (z : Nat → Nat) (tF : Nat), (∀ (D : va_G) (ad : Nat → Nat) (c5 : Nat → ClassId), fZ (D, ad, c5, z) (fun q => s.heap.size ≤ q) s s.heap) ∧ fF tF (fun q => s.heap.size ≤ q) s s.heap ∧ fN s := by
  have hs := flat_of_before _ hgv
  have hA : ∀ a : Nat, a < s.heap.size → ¬ (fun q : Nat => s.heap.size ≤ q) a := fun a ha h => Nat.not_lt.mpr h ha
  obtain ⟨adK, adV, hS, hK⟩ := start_S hgv
  obtain ⟨tL, eL, hL⟩ := va_Tof (tm := .static "BranchBets" "SETTING_LEAST" "[I") (ty := .int) (N := 3) (f := fun j => .int (if j = 0 then 1 else 0)) (A := fun q => s.heap.size ≤ q) (by decide) (hs _ (by decide +kernel)) (va_eqt (hs _ (by decide +kernel))) (fun j hj => by
    rcases (show j = 0 ∨ j = 1 ∨ j = 2 by omega) with rfl | rfl | rfl <;> exact va_eqt (hs _ (by decide +kernel))) hA
  obtain ⟨tM, eM, hM⟩ := va_Tof (tm := .static "BranchBets" "SETTING_MOST" "[I") (ty := .int) (N := 3) (f := fun j => .int (if j = 2 then 100 else 50)) (A := fun q => s.heap.size ≤ q) (by decide) (hs _ (by decide +kernel)) (va_eqt (hs _ (by decide +kernel))) (fun j hj => by
    rcases (show j = 0 ∨ j = 1 ∨ j = 2 by omega) with rfl | rfl | rfl <;> exact va_eqt (hs _ (by decide +kernel))) hA
  obtain ⟨tF, eF, hF⟩ := va_Tof (tm := .static "BranchBets" "SETTING_FIRST" "[I") (ty := .int) (N := 3) (f := fun j => .int (sF j)) (A := fun q => s.heap.size ≤ q) (by decide) (hs _ (by decide +kernel)) (va_eqt (hs _ (by decide +kernel))) (fun j hj => by
    rcases (show j = 0 ∨ j = 1 ∨ j = 2 by omega) with rfl | rfl | rfl <;> exact va_eqt (hs _ (by decide +kernel))) hA
  have hB := hts _ (lt_w (w := .initialized "BranchBets") 1 (by decide +kernel))
  refine ⟨fun k => if k = 0 then tL else if k = 1 then tM else if k < 7 then adK (k - 2) else adV (k - 7), tF, fun D ad c5 => ⟨⟨⟨va_Zref (hts _ (lt_w 234 (by decide +kernel))) hB eL hA, hL⟩, ⟨va_Zref (hts _ (lt_w 236 (by decide +kernel))) hB eM hA, hM⟩, vk_S_cg hS (fun i hi => ⟨?_, ?_⟩), va_Zof (hts _ (lt_w 558 (by decide +kernel))) (hts _ (lt_w 10 (by decide +kernel))) (va_eqi (hs _ (by decide +kernel))) hA, va_Zqof (hts _ (lt_w 574 (by decide +kernel))) (hts _ (lt_w 12 (by decide +kernel))) (hs _ (by decide +kernel)) hA⟩,
    ⟨⟨va_Nw.of rfl (hts _ (lt_w 539 (by decide +kernel))), va_Nw.of rfl (hts _ (lt_w 614 (by decide +kernel)))⟩, ⟨va_Nw.of rfl (hts _ (lt_w 612 (by decide +kernel))), va_Nw.of rfl (hts _ (lt_w 613 (by decide +kernel)))⟩, vk_R.of (hts _ (lt_w 544 (by decide +kernel))) (hK 0 (by decide)), vk_R.of (hts _ (lt_w 597 (by decide +kernel))) (hK 1 (by decide)), vk_R.of (hts _ (lt_w 598 (by decide +kernel))) (hK 2 (by decide)), vk_R.of (hts _ (lt_w 599 (by decide +kernel))) (hK 3 (by decide)), vk_R.of (hts _ (lt_w 600 (by decide +kernel))) (hK 4 (by decide))⟩⟩, ⟨va_Zref (hts _ (lt_w 113 (by decide +kernel))) hB eF hA, hF⟩,
    va_Nw.of rfl (hts _ (lt_w 92 (by decide +kernel))), va_Nw.of rfl (hts _ (lt_w 112 (by decide +kernel))), va_AO.of (hts _ (lt_w 29 (by decide +kernel))), va_AO.of (hts _ (lt_w 90 (by decide +kernel))), va_AO.of (hts _ (lt_w 161 (by decide +kernel)))⟩
  · show (if 2 + i = 0 then tL else if 2 + i = 1 then tM else if 2 + i < 7 then adK (2 + i - 2) else adV (2 + i - 7)) = adK i
    rw [if_neg (by omega), if_neg (by omega), if_pos (by omega)]
    exact congrArg _ (by omega)
  · show (if 7 + i = 0 then tL else if 7 + i = 1 then tM else if 7 + i < 7 then adK (7 + i - 2) else adV (7 + i - 7)) = adV i
    rw [if_neg (by omega), if_neg (by omega), if_neg (by omega)]
    exact congrArg _ (by omega)
end START
set_option maxRecDepth 100000 in
set_option maxHeartbeats 4000000 in
theorem whole_start {p : Program} {e : Env} {s : State} {m : MethodId} {below : List Frame} {meth : Method} {c : Code} (l : Launch) (hflags : l.flags = flags0) {b L : Nat} {xs : Nat → Int32} (hL : L ≤ 2560) (C0 : lw_At p s m meth c b L xs) : W p l e room_1 s m #[Value.ref b] below meth c s.heap [] 0 0 (lw_Z below #[Value.ref b] s) (entryFrame m ([Value.ref b] : List Value).toArray 4) := by
  obtain ⟨hx, hb, hr, hml, hown, hts, hX, hbl, hlocks, hgv⟩ := id C0
  obtain ⟨D, c5, hK⟩ := start_K hts
  obtain ⟨z, tF, hZ, hF, hN⟩ := start_Z hts hgv
  have hg : ∀ w ∈ lw_gd, w.before #[Value.ref b] s = true := fun w hw => hts w (List.mem_filter.mp hw).1
  have hl := lv_entry ([.ref b]) (n := 4) (Nat.le_of_ble_eq_true rfl)
  rw [lg_entry_eq]
  have main : Gc (p, l, e, room_1, s, m, #[Value.ref b], below, meth, c, (fun q => s.heap.size ≤ q), 159, 4206, lw_Z below #[Value.ref b] s, 4) D [] 0 0 [(0, .ref b)] [] 0 := by
    have h : Oc l (p, l, e, room_1, s, m, #[Value.ref b], below, meth, c, (fun q => s.heap.size ≤ q), 159, 4206, lw_Z below #[Value.ref b] s, 4) D c5 tF cL_law RL room_1 := ⟨⟨rfl, hx, hb, hml, hown⟩, hg, hK, fun q h => h, hF, rfl, hN⟩
    refine gc_new (C := RX5) (T := TX5) (N := 4) (ci := 5) (fs := [.null, .null, .null, .null]) h tyX5 lw_x5 tyX5_ok (lw_in 14 (by decide +kernel) rfl) (lw_in 15 (by decide +kernel) rfl) (lw_in 1 (by decide +kernel) rfl) rfl dfX5 (Nat.le_of_ble_eq_true rfl) (Nat.le_of_ble_eq_true rfl) dL_law_0 (fun h0 => ?_)
    refine gc_dup h dL_law_3 rfl ?_
    refine gc_ctor h (ctn_X5 (l := l) (D := D) (c5 := c5) (tF := tF)) (lw_in 18 (by decide +kernel) rfl) (lw_in 16 (by decide +kernel) rfl) (lw_in 17 (by decide +kernel) rfl) (lw_in 1 (by decide +kernel) rfl) rfl ⟨by decide +kernel, by decide +kernel, by decide +kernel⟩ rfl rfl (Nat.le_of_ble_eq_true rfl) (Nat.le_of_ble_eq_true rfl) (Nat.le_of_ble_eq_true rfl) (Nat.le_of_ble_eq_true rfl) (Nat.le_of_ble_eq_true rfl) dL_law_4 (fun w5 h5 => ?_)
    refine gc_w w5 rfl ?_
    refine gc_astore h dL_law_7 (show (1 : Nat) < 4 by decide) ?_
    refine gc_sub [(0, .ref b), (1, .ref h0)] ⟨rfl, rfl, trivial⟩ ?_
    refine gc_new (C := RX6) (T := TX6) (N := 17) (ci := 6) (fs := [.null, .null, .null, .int 0, .null, .int 0, .null, .null, .null, .null, .int 0, .int 0, .int 0, .int 0, .int 0, .int 0, .int 0]) h tyX6 lw_x6 tyX6_ok (lw_in 628 (by decide +kernel) rfl) (lw_in 629 (by decide +kernel) rfl) (lw_in 7 (by decide +kernel) rfl) rfl dfX6 (Nat.le_of_ble_eq_true rfl) (Nat.le_of_ble_eq_true rfl) dL_law_8 (fun g0 => ?_)
    refine gc_dup h dL_law_11 rfl ?_
    refine gc_ctor h (ctn_X6 (l := l) (D := D) (c5 := c5) (tF := tF)) (lw_in 632 (by decide +kernel) rfl) (lw_in 630 (by decide +kernel) rfl) (lw_in 631 (by decide +kernel) rfl) (lw_in 7 (by decide +kernel) rfl) rfl ⟨by decide +kernel, by decide +kernel, by decide +kernel⟩ rfl rfl (Nat.le_of_ble_eq_true rfl) (Nat.le_of_ble_eq_true rfl) (Nat.le_of_ble_eq_true rfl) (Nat.le_of_ble_eq_true rfl) (Nat.le_of_ble_eq_true rfl) dL_law_12 (fun w6 h6 => ?_)
    refine gc_astore h dL_law_15 (show (2 : Nat) < 4 by decide) ?_
    refine gc_sub [(0, .ref b), (1, .ref h0), (2, .ref g0)] ⟨rfl, rfl, rfl, trivial⟩ ?_
    refine gc_iconst (v := nI 0) h dL_law_16 (by decide) ?_
    refine gc_istore h dL_law_17 (show (3 : Nat) < 4 by decide) ?_
    refine gc_sub [(0, .ref b), (1, .ref h0), (2, .ref g0), (3, .int (nI 0))] ⟨rfl, rfl, rfl, rfl, trivial⟩ ?_
    intro H locs ls hP hD hS hl
    obtain ⟨ad, e0, e150, hP', hAd⟩ := flat_of (z := z) h5 h6 hP hD
    subst e0
    subst e150
    have hOk : Ok l (p, l, e, room_1, s, m, #[Value.ref b], below, meth, c, (fun q => s.heap.size ≤ q), 159, 4206, lw_Z below #[Value.ref b] s, 4) (D, ad, c5, z) cL_law RL 12 := ⟨⟨rfl, hx, hb, hml, hown⟩, hg, hK, hAd, hZ D ad c5, Nat.le_of_ble_eq_true rfl, Nat.le_of_ble_eq_true rfl, Nat.le_of_ble_eq_true rfl, Nat.le_of_ble_eq_true rfl⟩
    refine law_loop hOk (b := b) (Ln := L) (sc := xs) ⟨hX, hbl, fun q => Nat.not_lt.mpr q hbl, hL⟩ rfl (fun σ L' H' locs' ls' hP2 hS2 hl2 => ?_) (L + 1) 0 m0 (by omega) Kv_0 (by decide) H locs ls hP' hS hl
    show W p l e room_1 s m #[Value.ref b] below meth c H' locs' 159 4206 (lw_Z below #[Value.ref b] s) (F0 m 910 ls' [.int 1])
    refine va_forget (fun q hq => hS2.2.2 q hq) ?_
    refine W.widen (k := 600000) (n := 7302250) (Nat.le_of_ble_eq_true rfl) (Nat.le_of_ble_eq_true rfl) ?_
    refine W.base ?_
    exact lw_ret (Drawn.sameBut.refl s.drawn lw_cs) hx hb hr hlocks dL_law_910
  exact main s.heap [] _ (fun k q h => by simp at h) ⟨fun i j p q h => by simp at h, fun k q h => by simp at h⟩ va_S.rf hl
