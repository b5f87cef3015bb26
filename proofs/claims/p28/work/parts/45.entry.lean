/-! the law from its entry -/
theorem arr_i {s : State} {args : Array Value} (h : (Cond.arrayClass .int).before args s = true) : ∃ cA, ArrOfT s cA .int ∧ va_RA s cA .int := by
  obtain ⟨cA, kA, comp, hfind, hk, hkind⟩ := Cond.arrayClass_spec h
  exact ⟨cA, fun n z => ⟨(fun k h => by cases h), kA, hk, comp, hkind⟩, hfind⟩
theorem arr_c {s : State} {args : Array Value} (h : (Cond.arrayClass .char).before args s = true) : ∃ cA, ArrOfT s cA .char ∧ va_RA s cA .char := by
  obtain ⟨cA, kA, comp, hfind, hk, hkind⟩ := Cond.arrayClass_spec h
  exact ⟨cA, fun n z => ⟨(fun k h => by cases h), kA, hk, comp, hkind⟩, hfind⟩
theorem arr_q {s : State} {args : Array Value} {C : String} (h : (Cond.arrayOver (.object C)).before args s = true) : ∃ cA, ArrOfT s cA (.object C) ∧ va_RA s cA (.object C) := by
  obtain ⟨comp, c, k, h1, -, h3, h4, h5⟩ := Cond.arrayOver_spec h
  exact ⟨c, fun n z => ⟨(fun k h => by cases h), k, h3, comp, h4⟩, k, comp, h3, h4, h1, h5⟩
theorem lt_w {w : Cond} (i : Nat) (h : tables_1[i]? = some w) : w ∈ lw_tbl := List.mem_append_right _ (List.mem_of_getElem? h)
theorem gc_astoreI {l : Launch} {x : fC} {D : va_G} {c5 : Nat → ClassId} {tF : Nat} {ws : va_W} {k n : Nat} {L : List (Nat × Value)} {st : List Value} {pc : Nat} {cc : ByteArray} {own : String} {R0 : Room} (h : Oc l x D c5 tF cc own R0) {i : Nat} {v : Nat} (hd : decode cc pc = .ok (.astore i, 2)) (hn : i < xL x) (kk : Gc x D ws k n (ls1 L i (.ref v)) st (pc + 2)) : Gc x D ws k n L (.ref v :: st) pc := fun H locs ls hP hD hS hl => lv_astore h.hx h.hb hd hl hn rfl (fun ls' hl' => kk H locs ls' hP hD hS hl')
theorem su_0 : su m0 sF Z0 0 := by
  have zS : ∀ j, m0.1 (iS 0) j = 0 := fun j => m0_0 (by decide)
  have z1 : ∀ j, m0.1 1 j = 0 := fun j => m0_0 (by decide)
  exact ⟨⟨zS 3, zS 4, by decide, by decide⟩, ⟨zS 5, zS 6, zS 7, zS 8⟩, fun j hj => m0_S (by decide), fun i hi => absurd hi (Nat.not_lt_zero i), 0, 0, z1 1, z1 2, by decide, by decide⟩
section START
variable {s : State} {b : Nat}
theorem start_K (hts : ∀ w ∈ lw_tbl, w.before #[Value.ref b] s = true) : ∃ (D : va_G) (c5 : Nat → ClassId), va_K D vwCl (ftc c5) s := by
  have hg : ∀ w ∈ lw_gd, w.before #[Value.ref b] s = true := fun w hw => hts w (List.mem_filter.mp hw).1
  obtain ⟨c0, i0, k0⟩ := u_known (C := RX0) (T := TX0) (N := 3) (n := 3) hg lw_x0 (hts _ (lt_w 86 (by decide +kernel)))
  obtain ⟨c1, i1, k1⟩ := u_known (C := RX1) (T := TX1) (N := 12) (n := 12) hg lw_x1 (hts _ (lt_w 25 (by decide +kernel)))
  obtain ⟨c2, i2, k2⟩ := u_known (C := RX2) (T := TX2) (N := 3) (n := 3) hg lw_x2 (hts _ (lt_w 150 (by decide +kernel)))
  obtain ⟨c3, i3, k3⟩ := u_known (C := RX3) (T := TX3) (N := 10) (n := 10) hg lw_x3 (hts _ (lt_w 18 (by decide +kernel)))
  obtain ⟨c4, i4, k4⟩ := u_known (C := RX4) (T := TX4) (N := 8) (n := 8) hg lw_x4 (hts _ (lt_w 170 (by decide +kernel)))
  obtain ⟨c5, i5, k5⟩ := u_known (C := RX5) (T := TX5) (N := 4) (n := 4) hg lw_x5 (hts _ (lt_w 10 (by decide +kernel)))
  obtain ⟨d0, e0⟩ := arr_i (hts _ (lt_w 83 (by decide +kernel)))
  obtain ⟨d1, e1⟩ := arr_c (hts _ (lt_w 195 (by decide +kernel)))
  obtain ⟨d2, e2⟩ := arr_q (C := RX1) (hts _ (lt_w 24 (by decide +kernel)))
  obtain ⟨d3, e3⟩ := arr_q (C := RX0) (hts _ (lt_w 85 (by decide +kernel)))
  obtain ⟨d4, e4⟩ := arr_q (C := RX3) (hts _ (lt_w 156 (by decide +kernel)))
  refine ⟨(fun k => if k = 0 then c0 else if k = 1 then c1 else if k = 2 then c2 else if k = 3 then c3 else if k = 4 then c4 else c5, fun k => if k = 0 then i0 else if k = 1 then i1 else if k = 2 then i2 else if k = 3 then i3 else if k = 4 then i4 else i5), fun k => if k = 0 then d0 else if k = 1 then d1 else if k = 2 then d2 else if k = 3 then d3 else d4, fun k q hq => ?_, fun k q hq => ?_⟩
  · match k, hq with
    | 0, hq => cases hq; exact k0
    | 1, hq => cases hq; exact k1
    | 2, hq => cases hq; exact k2
    | 3, hq => cases hq; exact k3
    | 4, hq => cases hq; exact k4
    | 5, hq => cases hq; exact k5
    | k + 6, hq => simp [vwCl] at hq
  · match k, hq with
    | 0, hq => cases hq; exact e0
    | 1, hq => cases hq; exact e1
    | 2, hq => cases hq; exact e2
    | 3, hq => cases hq; exact e3
    | 4, hq => cases hq; exact e4
    | k + 5, hq => simp [ftc] at hq
theorem script_T {L : Nat} {xs : Nat → Int32} {A : Addr → Prop} {H : Heap} (h : va_X b L xs s H) (hA : ¬ A b) : va_T .int b L (fun j => .int (xs j)) A s H := by
  obtain ⟨scr, h1, h2, h3, h4, h5⟩ := h
  exact ⟨scr, h1, h2, h3, Nat.le_of_eq h4.symm, by rw [h4], h5, hA⟩
set_option maxRecDepth 100000 in
set_option maxHeartbeats 4000000 in
theorem start_Z {L : Nat} {xs : Nat → Int32} (hts : ∀ w ∈ lw_tbl, w.before #[Value.ref b] s = true) (hgv : (Jvm.Cond.and given_1 narrow_1).before #[Value.ref b] s = true) (hX : va_X b L xs s s.heap) (hbl : b < s.heap.size) : ∃ (z : Nat → Nat) (tF : Nat), z 2 = b ∧ (∀ (D : va_G) (ad : Nat → Nat) (c5 : Nat → ClassId), fZ (D, ad, c5, z, 0, L, xs) (fun q => s.heap.size ≤ q) s s.heap) ∧ fF tF (fun q => s.heap.size ≤ q) s s.heap ∧ fN s := by
  have hs := flat_of_before _ hgv
  have hA : ∀ a : Nat, a < s.heap.size → ¬ (fun q : Nat => s.heap.size ≤ q) a := fun a ha h => Nat.not_lt.mpr h ha
  obtain ⟨tL, eL, hL⟩ := va_Tof (tm := .static "BranchBets" "SETTING_LEAST" "[I") (ty := .int) (N := 3) (f := fun j => .int (if j = 0 then 1 else 0)) (A := fun q => s.heap.size ≤ q) (by decide) (hs _ (by decide +kernel)) (va_eqt (hs _ (by decide +kernel))) (fun j hj => by
    rcases (show j = 0 ∨ j = 1 ∨ j = 2 by omega) with rfl | rfl | rfl <;> exact va_eqt (hs _ (by decide +kernel))) hA
  obtain ⟨tM, eM, hM⟩ := va_Tof (tm := .static "BranchBets" "SETTING_MOST" "[I") (ty := .int) (N := 3) (f := fun j => .int (if j = 2 then 100 else 50)) (A := fun q => s.heap.size ≤ q) (by decide) (hs _ (by decide +kernel)) (va_eqt (hs _ (by decide +kernel))) (fun j hj => by
    rcases (show j = 0 ∨ j = 1 ∨ j = 2 by omega) with rfl | rfl | rfl <;> exact va_eqt (hs _ (by decide +kernel))) hA
  obtain ⟨tF, eF, hF⟩ := va_Tof (tm := .static "BranchBets" "SETTING_FIRST" "[I") (ty := .int) (N := 3) (f := fun j => .int (sF j)) (A := fun q => s.heap.size ≤ q) (by decide) (hs _ (by decide +kernel)) (va_eqt (hs _ (by decide +kernel))) (fun j hj => by
    rcases (show j = 0 ∨ j = 1 ∨ j = 2 by omega) with rfl | rfl | rfl <;> exact va_eqt (hs _ (by decide +kernel))) hA
  have hB := hts _ (lt_w (w := .initialized "BranchBets") 1 (by decide +kernel))
  refine ⟨fun k => if k = 0 then tL else if k = 1 then tM else b, tF, rfl, fun D ad c5 => ⟨⟨va_Zref (hts _ (lt_w 217 (by decide +kernel))) hB eL hA, hL⟩, ⟨va_Zref (hts _ (lt_w 219 (by decide +kernel))) hB eM hA, hM⟩, script_T hX (hA b hbl)⟩, ⟨va_Zref (hts _ (lt_w 108 (by decide +kernel))) hB eF hA, hF⟩,
    va_Nw.of rfl (hts _ (lt_w 87 (by decide +kernel))), va_Nw.of rfl (hts _ (lt_w 107 (by decide +kernel))), va_AO.of (hts _ (lt_w 24 (by decide +kernel))), va_AO.of (hts _ (lt_w 85 (by decide +kernel))), va_AO.of (hts _ (lt_w 156 (by decide +kernel)))⟩
end START
set_option maxRecDepth 100000 in
set_option maxHeartbeats 4000000 in
theorem whole_start {p : Program} {e : Env} {s : State} {m : MethodId} {below : List Frame} {meth : Method} {c : Code} (l : Launch) (hflags : l.flags = flags0) {b L : Nat} {xs : Nat → Int32} (hL : L ≤ 260) (C0 : lw_At p s m meth c b L xs) : W p l e room_1 s m #[Value.ref b] below meth c s.heap [] 0 0 (lw_Z below #[Value.ref b] s) (entryFrame m ([Value.ref b] : List Value).toArray 16) := by
  obtain ⟨hx, hb, hr, hml, hown, hts, hX, hbl, hlocks, hgv⟩ := id C0
  obtain ⟨D, c5, hK⟩ := start_K hts
  obtain ⟨z, tF, hz2, hZ, hF, hN⟩ := start_Z hts hgv hX hbl
  have hg : ∀ w ∈ lw_gd, w.before #[Value.ref b] s = true := fun w hw => hts w (List.mem_filter.mp hw).1
  have hl := lv_entry ([.ref b]) (n := 16) (Nat.le_of_ble_eq_true rfl)
  rw [lg_entry_eq]
  have main : Gc (p, l, e, room_1, s, m, #[Value.ref b], below, meth, c, (fun q => s.heap.size ≤ q), 155, 2128, lw_Z below #[Value.ref b] s, 16) D [] 0 0 [(0, .ref b)] [] 0 := by
    have h : Oc l (p, l, e, room_1, s, m, #[Value.ref b], below, meth, c, (fun q => s.heap.size ≤ q), 155, 2128, lw_Z below #[Value.ref b] s, 16) D c5 tF cL_law RL room_1 := ⟨⟨rfl, hx, hb, hml, hown⟩, hg, hK, fun q h => h, hF, rfl, hN⟩
    refine gc_new (C := RX5) (T := TX5) (N := 4) (ci := 5) (fs := [.null, .null, .null, .null]) h tyX5 lw_x5 tyX5_ok (lw_in 9 (by decide +kernel) rfl) (lw_in 10 (by decide +kernel) rfl) (lw_in 1 (by decide +kernel) rfl) rfl dfX5 (Nat.le_of_ble_eq_true rfl) (Nat.le_of_ble_eq_true rfl) dL_law_0 (fun h0 => ?_)
    refine gc_dup h dL_law_3 rfl ?_
    refine gc_ctor h (ctn_X5 (l := l) (D := D) (c5 := c5) (tF := tF)) (lw_in 13 (by decide +kernel) rfl) (lw_in 11 (by decide +kernel) rfl) (lw_in 12 (by decide +kernel) rfl) (lw_in 1 (by decide +kernel) rfl) rfl ⟨by decide +kernel, by decide +kernel, by decide +kernel⟩ rfl rfl (Nat.le_of_ble_eq_true rfl) (Nat.le_of_ble_eq_true rfl) (Nat.le_of_ble_eq_true rfl) (Nat.le_of_ble_eq_true rfl) (Nat.le_of_ble_eq_true rfl) dL_law_4 (fun w5 h5 => ?_)
    refine gc_w w5 rfl ?_
    refine gc_astore h dL_law_7 (show (1 : Nat) < 16 by decide) ?_
    refine gc_bipush (v := nI 8) h dL_law_8 (by decide) ?_
    refine gc_newi (N := 8) h (lw_in 83 (by decide +kernel) rfl) rfl (by decide) (Nat.le_of_ble_eq_true rfl) (Nat.le_of_ble_eq_true rfl) dL_law_10 (fun g0 => ?_)
    refine gc_astore h dL_law_12 (show (2 : Nat) < 16 by decide) ?_
    refine gc_bipush (v := nI 50) h dL_law_13 (by decide) ?_
    refine gc_newi (N := 50) h (lw_in 83 (by decide +kernel) rfl) rfl (by decide) (Nat.le_of_ble_eq_true rfl) (Nat.le_of_ble_eq_true rfl) dL_law_15 (fun g1 => ?_)
    refine gc_astore h dL_law_17 (show (3 : Nat) < 16 by decide) ?_
    refine gc_bipush (v := nI 40) h dL_law_18 (by decide) ?_
    refine gc_newi (N := 40) h (lw_in 83 (by decide +kernel) rfl) rfl (by decide) (Nat.le_of_ble_eq_true rfl) (Nat.le_of_ble_eq_true rfl) dL_law_20 (fun g2 => ?_)
    refine gc_astoreI h dL_law_22 (show (4 : Nat) < 16 by decide) ?_
    refine gc_bipush (v := nI 24) h dL_law_24 (by decide) ?_
    refine gc_newi (N := 24) h (lw_in 83 (by decide +kernel) rfl) rfl (by decide) (Nat.le_of_ble_eq_true rfl) (Nat.le_of_ble_eq_true rfl) dL_law_26 (fun g3 => ?_)
    refine gc_astoreI h dL_law_28 (show (5 : Nat) < 16 by decide) ?_
    refine gc_bipush (v := nI 15) h dL_law_30 (by decide) ?_
    refine gc_newi (N := 15) h (lw_in 83 (by decide +kernel) rfl) rfl (by decide) (Nat.le_of_ble_eq_true rfl) (Nat.le_of_ble_eq_true rfl) dL_law_32 (fun g4 => ?_)
    refine gc_astoreI h dL_law_34 (show (6 : Nat) < 16 by decide) ?_
    refine gc_w (w5 ++ wR c5 g0 g1 g2 g3 g4) (by simp only [List.append_assoc]; rfl) ?_
    refine gc_sub [(0, .ref b), (1, .ref h0), (2, .ref g0), (3, .ref g1), (4, .ref g2), (5, .ref g3), (6, .ref g4)] ⟨rfl, rfl, rfl, rfl, rfl, rfl, rfl, trivial⟩ ?_
    intro H locs ls hP hD hS hl
    obtain ⟨ad, e0, e1, e2, e3, e4, e5, hP', hAd⟩ := flat_of (z := z) (Ln := L) (sc := xs) h5 hP hD
    subst e0
    subst e1
    subst e2
    subst e3
    subst e4
    subst e5
    have hOk : Ok l (p, l, e, room_1, s, m, #[Value.ref b], below, meth, c, (fun q => s.heap.size ≤ q), 155, 2128, lw_Z below #[Value.ref b] s, 16) (D, ad, c5, z, 0, L, xs) cL_law RL 8 := ⟨⟨rfl, hx, hb, hml, hown⟩, hg, hK, hAd, hZ D ad c5, (Nat.le_of_ble_eq_true rfl), (Nat.le_of_ble_eq_true rfl), (Nat.le_of_ble_eq_true rfl), (Nat.le_of_ble_eq_true rfl)⟩
    have em : m0 = put5 m0 0 Z0 Z0 Z0 Z0 Z0 := (p5_self rfl rfl rfl rfl rfl).symm
    rw [em] at hP'
    have hl0 : lv_has ls 16 [(0, .ref (z 2)), (1, .ref (ad 0)), (2, .ref (ad 150)), (3, .ref (ad 151)), (4, .ref (ad 152)), (5, .ref (ad 153)), (6, .ref (ad 154))] := by rw [hz2]; exact hl
    refine law_all hOk rfl (fun q hq => hq) rfl (show L < 2 ^ 30 by omega) (Nat.le_of_ble_eq_true rfl) (Nat.le_of_ble_eq_true rfl) (fun k n hk hn σ L' H' locs' ls' hP2 hS2 hl2 => ?_) su_0 H locs ls hP' hS hl0
    show W p l e room_1 s m #[Value.ref b] below meth c H' locs' k n (lw_Z below #[Value.ref b] s) (F0 m 925 ls' [.int 1])
    refine va_forget (fun q hq => hS2.2.2 q hq) ?_
    refine W.widen (k := 600000) (n := 7302250) hk hn ?_
    refine W.base ?_
    exact lw_ret (Drawn.sameBut.refl s.drawn lw_cs) hx hb hr hlocks dL_law_925
  exact main s.heap [] _ (fun k q h => by simp at h) ⟨fun i j p q h => by simp at h, fun k q h => by simp at h⟩ va_S.rf hl
