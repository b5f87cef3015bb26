/-! the flat memory at the start -/
/-- the memory at the start -/
def m0 : fM := (fun k j => if k < 150 ∧ 6 ≤ k ∧ (k - 6) % 24 = 3 then sF j else 0, fun _ => 0)
theorem m0_0 {k j : Nat} (h2 : ¬ (k < 150 ∧ 6 ≤ k ∧ (k - 6) % 24 = 3)) : m0.1 k j = 0 := if_neg h2
theorem m0_S {s j : Nat} (hs : s < 6) : m0.1 (iSet s) j = sF j := if_pos (by unfold iSet; omega)
section BLK
variable {X : fX} {s : Nat} {a : Nat → Nat} {H : Heap}
theorem at_S (hs : s < 6) (hX : ∀ r, r < 24 → X.2.1 (6 + 24 * s + r) = a r) (h : ∀ q ∈ blkS X.2.2.1 a, va_at X.1 vwCl q H) {row : Nat → Int32} (hr : ∀ j, row j = 0) : va_at X.1 vwCl (X.2.1 (iS s), enc X (iS s) row 0) H := by
  have e1 : X.2.1 (iOs s) = a 1 := by rw [← hX 1 (by decide)]; exact congrArg _ (by unfold iOs; omega)
  have e2 : X.2.1 (iLs s) = a 2 := by rw [← hX 2 (by decide)]; exact congrArg _ (by unfold iLs; omega)
  have e3 : X.2.1 (iSet s) = a 3 := by rw [← hX 3 (by decide)]; exact congrArg _ (by unfold iSet; omega)
  rw [enc_S X hs, hr, hr, hr, hr, hr, hr, show X.2.1 (iS s) = a 0 from hX 0 (by decide)]
  show va_at X.1 vwCl (a 0, .inr (3, [.ref (X.2.1 (iOs s)), .ref (X.2.1 (iLs s)), .ref (X.2.1 (iSet s)), .int 0, .int 0, .int 0, .int 0, .int 0, .int 0, .long 0])) H
  rw [e1, e2, e3]
  exact h _ (List.mem_of_getElem? (i := 0) rfl)
theorem at_Os (hs : s < 6) (hX : ∀ r, r < 24 → X.2.1 (6 + 24 * s + r) = a r) (h : ∀ q ∈ blkS X.2.2.1 a, va_at X.1 vwCl q H) {row : Nat → Int32} {e : Int64} : va_at X.1 vwCl (X.2.1 (iOs s), enc X (iOs s) row e) H := by
  have e1 : X.2.1 (iOs s) = a 1 := by rw [← hX 1 (by decide)]; exact congrArg _ (by unfold iOs; omega)
  rw [enc_Os X hs, e1]
  refine at_q (fun j hj => ?_) (h _ (List.mem_of_getElem? (i := 1) rfl))
  have eo : X.2.1 (iO s j) = a (4 + 2 * j) := by rw [← hX (4 + 2 * j) (by omega)]; exact congrArg _ (by unfold iO; omega)
  rw [eo]
  rcases (show j = 0 ∨ j = 1 ∨ j = 2 ∨ j = 3 ∨ j = 4 ∨ j = 5 by omega) with rfl | rfl | rfl | rfl | rfl | rfl <;> rfl
theorem at_Ls (hs : s < 6) (hX : ∀ r, r < 24 → X.2.1 (6 + 24 * s + r) = a r) (h : ∀ q ∈ blkS X.2.2.1 a, va_at X.1 vwCl q H) {row : Nat → Int32} {e : Int64} : va_at X.1 vwCl (X.2.1 (iLs s), enc X (iLs s) row e) H := by
  have e1 : X.2.1 (iLs s) = a 2 := by rw [← hX 2 (by decide)]; exact congrArg _ (by unfold iLs; omega)
  rw [enc_Ls X hs, e1]
  refine at_q (fun j hj => ?_) (h _ (List.mem_of_getElem? (i := 14) rfl))
  have eo : X.2.1 (iL s j) = a (16 + j) := by rw [← hX (16 + j) (by omega)]; exact congrArg _ (by unfold iL; omega)
  rw [eo]
  rcases (show j = 0 ∨ j = 1 ∨ j = 2 ∨ j = 3 ∨ j = 4 ∨ j = 5 ∨ j = 6 ∨ j = 7 by omega) with rfl | rfl | rfl | rfl | rfl | rfl | rfl | rfl <;> rfl
theorem at_W (hs : s < 6) (hX : ∀ r, r < 24 → X.2.1 (6 + 24 * s + r) = a r) (h : ∀ q ∈ blkS X.2.2.1 a, va_at X.1 vwCl q H) {row : Nat → Int32} {e : Int64} (hr : ∀ j, row j = sF j) : va_at X.1 vwCl (X.2.1 (iSet s), enc X (iSet s) row e) H := by
  have e1 : X.2.1 (iSet s) = a 3 := by rw [← hX 3 (by decide)]; exact congrArg _ (by unfold iSet; omega)
  rw [enc_Set X hs, e1]
  refine at_i (fun j hj => ?_) (h _ (List.mem_of_getElem? (i := 23) rfl))
  rw [hr]
  rcases (show j = 0 ∨ j = 1 ∨ j = 2 by omega) with rfl | rfl | rfl <;> rfl
theorem at_O (hs : s < 6) (hX : ∀ r, r < 24 → X.2.1 (6 + 24 * s + r) = a r) (h : ∀ q ∈ blkS X.2.2.1 a, va_at X.1 vwCl q H) {i : Nat} (hi : i < 6) {row : Nat → Int32} {e : Int64} (hr : ∀ j, row j = 0) : va_at X.1 vwCl (X.2.1 (iO s i), enc X (iO s i) row e) H := by
  have eo : X.2.1 (iO s i) = a (4 + 2 * i) := by rw [← hX (4 + 2 * i) (by omega)]; exact congrArg _ (by unfold iO; omega)
  have et : X.2.1 (iT s i) = a (5 + 2 * i) := by rw [← hX (5 + 2 * i) (by omega)]; exact congrArg _ (by unfold iT; omega)
  rw [enc_O X hs hi, hr, hr, hr, hr, hr, hr, hr, hr, hr, hr, hr, eo]
  show va_at X.1 vwCl (a (4 + 2 * i), .inr (1, [.int 0, .int 0, .int 0, .int 0, .int 0, .int 0, .int 0, .int 0, .int 0, .int 0, .int 0, .ref (X.2.1 (iT s i))])) H
  rw [et]
  rcases (show i = 0 ∨ i = 1 ∨ i = 2 ∨ i = 3 ∨ i = 4 ∨ i = 5 by omega) with rfl | rfl | rfl | rfl | rfl | rfl
  · exact h _ (List.mem_of_getElem? (i := 2) rfl)
  · exact h _ (List.mem_of_getElem? (i := 4) rfl)
  · exact h _ (List.mem_of_getElem? (i := 6) rfl)
  · exact h _ (List.mem_of_getElem? (i := 8) rfl)
  · exact h _ (List.mem_of_getElem? (i := 10) rfl)
  · exact h _ (List.mem_of_getElem? (i := 12) rfl)
theorem at_T (hs : s < 6) (hX : ∀ r, r < 24 → X.2.1 (6 + 24 * s + r) = a r) (h : ∀ q ∈ blkS X.2.2.1 a, va_at X.1 vwCl q H) {i : Nat} (hi : i < 6) {row : Nat → Int32} {e : Int64} (hr : ∀ j, row j = 0) : va_at X.1 vwCl (X.2.1 (iT s i), enc X (iT s i) row e) H := by
  have et : X.2.1 (iT s i) = a (5 + 2 * i) := by rw [← hX (5 + 2 * i) (by omega)]; exact congrArg _ (by unfold iT; omega)
  rw [enc_T X hs hi, et, show row = fun _ => 0 from funext hr]
  rcases (show i = 0 ∨ i = 1 ∨ i = 2 ∨ i = 3 ∨ i = 4 ∨ i = 5 by omega) with rfl | rfl | rfl | rfl | rfl | rfl
  · exact h _ (List.mem_of_getElem? (i := 3) rfl)
  · exact h _ (List.mem_of_getElem? (i := 5) rfl)
  · exact h _ (List.mem_of_getElem? (i := 7) rfl)
  · exact h _ (List.mem_of_getElem? (i := 9) rfl)
  · exact h _ (List.mem_of_getElem? (i := 11) rfl)
  · exact h _ (List.mem_of_getElem? (i := 13) rfl)
theorem at_L (hs : s < 6) (hX : ∀ r, r < 24 → X.2.1 (6 + 24 * s + r) = a r) (h : ∀ q ∈ blkS X.2.2.1 a, va_at X.1 vwCl q H) {i : Nat} (hi : i < 8) {row : Nat → Int32} {e : Int64} (hr : ∀ j, row j = 0) : va_at X.1 vwCl (X.2.1 (iL s i), enc X (iL s i) row e) H := by
  have et : X.2.1 (iL s i) = a (16 + i) := by rw [← hX (16 + i) (by omega)]; exact congrArg _ (by unfold iL; omega)
  rw [enc_L X hs hi, hr, hr, hr, et]
  rcases (show i = 0 ∨ i = 1 ∨ i = 2 ∨ i = 3 ∨ i = 4 ∨ i = 5 ∨ i = 6 ∨ i = 7 by omega) with rfl | rfl | rfl | rfl | rfl | rfl | rfl | rfl
  · exact h _ (List.mem_of_getElem? (i := 15) rfl)
  · exact h _ (List.mem_of_getElem? (i := 16) rfl)
  · exact h _ (List.mem_of_getElem? (i := 17) rfl)
  · exact h _ (List.mem_of_getElem? (i := 18) rfl)
  · exact h _ (List.mem_of_getElem? (i := 19) rfl)
  · exact h _ (List.mem_of_getElem? (i := 20) rfl)
  · exact h _ (List.mem_of_getElem? (i := 21) rfl)
  · exact h _ (List.mem_of_getElem? (i := 22) rfl)
/-- all cells of one state -/
theorem at_blk (hs : s < 6) (hX : ∀ r, r < 24 → X.2.1 (6 + 24 * s + r) = a r) (h : ∀ q ∈ blkS X.2.2.1 a, va_at X.1 vwCl q H) {k : Nat} (h1 : 6 + 24 * s ≤ k) (h2 : k < 30 + 24 * s) : va_at X.1 vwCl (X.2.1 k, enc X k (m0.1 k) (m0.2 k)) H := by
  have z : (k - 6) % 24 ≠ 3 → ∀ j, m0.1 k j = 0 := fun h3 j => m0_0 (fun q => h3 q.2.2)
  by_cases c0 : k = iS s
  · rw [c0] at z ⊢
    exact at_S hs hX h (z (by unfold iS; omega))
  by_cases c1 : k = iOs s
  · rw [c1]
    exact at_Os hs hX h
  by_cases c2 : k = iLs s
  · rw [c2]
    exact at_Ls hs hX h
  by_cases c3 : k = iSet s
  · rw [c3]
    exact at_W hs hX h (fun j => m0_S hs)
  have z := z (by unfold iSet at c3; omega)
  unfold iS at c0
  unfold iOs at c1
  unfold iLs at c2
  unfold iSet at c3
  by_cases c4 : k < 22 + 24 * s
  · by_cases c5 : (k - 24 * s) % 2 = 0
    · have e : k = iO s ((k - 24 * s - 10) / 2) := by unfold iO; omega
      rw [e] at z ⊢
      exact at_O hs hX h (by omega) z
    · have e : k = iT s ((k - 24 * s - 11) / 2) := by unfold iT; omega
      rw [e] at z ⊢
      exact at_T hs hX h (by omega) z
  · have e : k = iL s (k - 24 * s - 22) := by unfold iL; omega
    rw [e] at z ⊢
    exact at_L hs hX h (by omega) z
end BLK
def AS (a b a0 a1 a2 a3 : Nat → Nat) (s : Nat) : Nat → Nat := if s = 0 then a else if s = 1 then b else if s = 2 then a0 else if s = 3 then a1 else if s = 4 then a2 else a3
def adr (h p pq t tq tr : Nat) (S : Nat → Nat → Nat) (M : List Nat) (k : Nat) : Nat := if k = 0 then h else if k = 1 then p else if k = 2 then pq else if k = 3 then t else if k = 4 then tq else if k = 5 then tr else if k < 150 then S ((k - 6) / 24) ((k - 6) % 24) else M.getD (k - 150) 0
theorem adr_S {h p pq t tq tr : Nat} {S : Nat → Nat → Nat} {M : List Nat} {s r : Nat} (hs : s < 6) (hr : r < 24) : adr h p pq t tq tr S M (6 + 24 * s + r) = S s r := by
  unfold adr
  rw [if_neg (by omega), if_neg (by omega), if_neg (by omega), if_neg (by omega), if_neg (by omega), if_neg (by omega), if_pos (by omega), show (6 + 24 * s + r - 6) / 24 = s by omega, show (6 + 24 * s + r - 6) % 24 = r by omega]
/-- at which place of the constructors' world a cell lies -/
def piL : List Nat := [0, 49, 50, 147, 148, 149, 1, 2, 15, 24, 3, 4, 5, 6, 7, 8, 9, 10, 11, 12, 13, 14, 16, 17, 18, 19, 20, 21, 22, 23, 25, 26, 39, 48, 27, 28, 29, 30, 31, 32, 33, 34, 35, 36, 37, 38, 40, 41, 42, 43, 44, 45, 46, 47, 51, 52, 65, 74, 53, 54, 55, 56, 57, 58, 59, 60, 61, 62, 63, 64, 66, 67, 68, 69, 70, 71, 72, 73, 75, 76, 89, 98, 77, 78, 79, 80, 81, 82, 83, 84, 85, 86, 87, 88, 90, 91, 92, 93, 94, 95, 96, 97, 99, 100, 113, 122, 101, 102, 103, 104, 105, 106, 107, 108, 109, 110, 111, 112, 114, 115, 116, 117, 118, 119, 120, 121, 123, 124, 137, 146, 125, 126, 127, 128, 129, 130, 131, 132, 133, 134, 135, 136, 138, 139, 140, 141, 142, 143, 144, 145, 150, 151, 152, 153, 154]
theorem piL_nd : piL.Nodup := by decide +kernel
theorem piL_lt : ∀ i ∈ piL, i < 155 := by decide +kernel
theorem nd_pi {L P : List Nat} (hL : L.Nodup) (hP : P.Nodup) (hb : ∀ i ∈ P, i < L.length) : (P.map (fun i => L.getD i 0)).Nodup := by
  refine List.pairwise_iff_getElem.mpr (fun i j hi hj hij he => ?_)
  rw [List.getElem_map, List.getElem_map] at he
  simp only [List.length_map] at hi hj
  have b1 := hb P[i] (List.getElem_mem hi)
  have b2 := hb P[j] (List.getElem_mem hj)
  rw [List.getD_eq_getElem?_getD, List.getD_eq_getElem?_getD, List.getElem?_eq_getElem b1, List.getElem?_eq_getElem b2] at he
  have e1 : P[i] = P[j] := (List.getElem_inj (h₀ := b1) (h₁ := b2) hL).mp he
  have e2 : i = j := (List.getElem_inj (h₀ := hi) (h₁ := hj) hP).mp e1
  omega
theorem va_D_A {A : Addr → Prop} {ws : va_W} (hD : va_D A ws) : ∀ v ∈ ws.map (·.1), A v := fun v hv => by
  obtain ⟨q, hq, e⟩ := List.mem_map.mp hv
  rw [← e]
  exact (va_D_n.mp hD).2 q hq
theorem getD_mem {L : List Nat} {i : Nat} (h : i < L.length) : L.getD i 0 ∈ L := by
  rw [List.getD_eq_getElem?_getD, List.getElem?_eq_getElem h]
  exact List.getElem_mem h
/-- the law's own rows -/
def wR (c5 : Nat → ClassId) (g0 g1 g2 g3 g4 : Nat) : va_W := [(g0, (.inl (c5 0, 8, .inl (fun _ => 0)) : va_E)), (g1, .inl (c5 0, 50, .inl (fun _ => 0))), (g2, .inl (c5 0, 40, .inl (fun _ => 0))), (g3, .inl (c5 0, 24, .inl (fun _ => 0))), (g4, .inl (c5 0, 15, .inl (fun _ => 0)))]
set_option maxRecDepth 100000 in
set_option maxHeartbeats 4000000 in
theorem flat_of {D : va_G} {c5 : Nat → ClassId} {z : Nat → Nat} {Ln : Nat} {sc : Nat → Int32} {A : Addr → Prop} {H : Heap} {h0 g0 g1 g2 g3 g4 : Nat} {w5 : va_W} (h5 : BX5 c5 h0 w5) (hP : va_P D vwCl (w5 ++ wR c5 g0 g1 g2 g3 g4) H) (hD : va_D A (w5 ++ wR c5 g0 g1 g2 g3 g4)) :
    ∃ ad : Nat → Nat, ad 0 = h0 ∧ ad 150 = g0 ∧ ad 151 = g1 ∧ ad 152 = g2 ∧ ad 153 = g3 ∧ ad 154 = g4 ∧ va_P D vwCl (wl (D, ad, c5, z, 0, Ln, sc) m0) H ∧ fAd (D, ad, c5, z, 0, Ln, sc) A := by
  obtain ⟨a, b, p, t, wp, wt, ⟨pq, a0, a1, a2, a3, rfl⟩, ⟨tq, tr, rfl⟩, rfl⟩ := h5
  have hPm := va_P_m.mp hP
  have hDn := va_D_n.mp hD
  -- the addresses
  have ad : (List.range 155).map (adr h0 p pq t tq tr (AS a b a0 a1 a2 a3) [g0, g1, g2, g3, g4]) = piL.map (fun i => (((((((([(h0, (.inr (5, [.ref (a 0), .ref (b 0), .ref (p), .ref (t)]) : va_E))] ++ blkS c5 a) ++ blkS c5 b) ++ (((([(p, (.inr (2, [.ref pq, .int 0, .int 0]) : va_E)), (pq, .inl (c5 4, 4, .inr (.inr (.inr (.inr (fun _ => none))))))] ++ blkS c5 a0) ++ blkS c5 a1) ++ blkS c5 a2) ++ blkS c5 a3)) ++ [(t, (.inr (4, [.ref tq, .ref tr, .int 0, .int 0, .int 0, .int 0, .int 0, .int 0]) : va_E)), (tq, .inl (c5 1, 80, .inl (fun _ => 0))), (tr, .inl (c5 0, 2, .inl (fun _ => 0)))]) ++ [(g0, (.inl (c5 0, 8, .inl (fun _ => 0)) : va_E)), (g1, .inl (c5 0, 50, .inl (fun _ => 0))), (g2, .inl (c5 0, 40, .inl (fun _ => 0))), (g3, .inl (c5 0, 24, .inl (fun _ => 0))), (g4, .inl (c5 0, 15, .inl (fun _ => 0)))])).map (·.1)).getD i 0)) := rfl
  have nd : ((List.range 155).map (adr h0 p pq t tq tr (AS a b a0 a1 a2 a3) [g0, g1, g2, g3, g4])).Nodup := by
    rw [ad]
    refine nd_pi ?_ piL_nd (fun i hi => Nat.lt_of_lt_of_le (piL_lt i hi) (Nat.le_of_ble_eq_true rfl))
    exact hDn.1
  have hAv := va_D_A hD
  have mA : ∀ k, k < 155 → A (adr h0 p pq t tq tr (AS a b a0 a1 a2 a3) [g0, g1, g2, g3, g4] k) := fun k hk => by
    have hm : adr h0 p pq t tq tr (AS a b a0 a1 a2 a3) [g0, g1, g2, g3, g4] k ∈ (List.range 155).map (adr h0 p pq t tq tr (AS a b a0 a1 a2 a3) [g0, g1, g2, g3, g4]) := List.mem_map_of_mem (List.mem_range.mpr hk)
    rw [ad] at hm
    obtain ⟨i, hi, e⟩ := List.mem_map.mp hm
    rw [← e]
    exact hAv _ (getD_mem (Nat.lt_of_lt_of_le (piL_lt i hi) (Nat.le_of_ble_eq_true rfl)))
  refine ⟨adr h0 p pq t tq tr (AS a b a0 a1 a2 a3) [g0, g1, g2, g3, g4], rfl, rfl, rfl, rfl, rfl, rfl, ?_, ?_, mA⟩
  · refine va_P_m.mpr (fun q hq => ?_)
    obtain ⟨k, hk, rfl⟩ := List.mem_map.mp hq
    have hk : k < 155 := List.mem_range.mp hk
    by_cases hb : 6 ≤ k ∧ k < 150
    · rcases (show (k - 6) / 24 = 0 ∨ (k - 6) / 24 = 1 ∨ (k - 6) / 24 = 2 ∨ (k - 6) / 24 = 3 ∨ (k - 6) / 24 = 4 ∨ (k - 6) / 24 = 5 by omega) with e | e | e | e | e | e
      · exact at_blk (s := 0) (a := a) (by decide) (fun r hr => (adr_S (s := 0) (by decide) hr).trans rfl) (fun q hq => hPm q (List.mem_append_left _ (List.mem_append_left _ (List.mem_append_left _ (List.mem_append_left _ (List.mem_append_right _ hq)))))) (by omega) (by omega)
      · exact at_blk (s := 1) (a := b) (by decide) (fun r hr => (adr_S (s := 1) (by decide) hr).trans rfl) (fun q hq => hPm q (List.mem_append_left _ (List.mem_append_left _ (List.mem_append_left _ (List.mem_append_right _ hq))))) (by omega) (by omega)
      · exact at_blk (s := 2) (a := a0) (by decide) (fun r hr => (adr_S (s := 2) (by decide) hr).trans rfl) (fun q hq => hPm q (List.mem_append_left _ (List.mem_append_left _ (List.mem_append_right _ (List.mem_append_left _ (List.mem_append_left _ (List.mem_append_left _ (List.mem_append_right _ hq)))))))) (by omega) (by omega)
      · exact at_blk (s := 3) (a := a1) (by decide) (fun r hr => (adr_S (s := 3) (by decide) hr).trans rfl) (fun q hq => hPm q (List.mem_append_left _ (List.mem_append_left _ (List.mem_append_right _ (List.mem_append_left _ (List.mem_append_left _ (List.mem_append_right _ hq))))))) (by omega) (by omega)
      · exact at_blk (s := 4) (a := a2) (by decide) (fun r hr => (adr_S (s := 4) (by decide) hr).trans rfl) (fun q hq => hPm q (List.mem_append_left _ (List.mem_append_left _ (List.mem_append_right _ (List.mem_append_left _ (List.mem_append_right _ hq)))))) (by omega) (by omega)
      · exact at_blk (s := 5) (a := a3) (by decide) (fun r hr => (adr_S (s := 5) (by decide) hr).trans rfl) (fun q hq => hPm q (List.mem_append_left _ (List.mem_append_left _ (List.mem_append_right _ (List.mem_append_right _ hq))))) (by omega) (by omega)
    · rcases (show k = 0 ∨ k = 1 ∨ k = 2 ∨ k = 3 ∨ k = 4 ∨ k = 5 ∨ k = 150 ∨ k = 151 ∨ k = 152 ∨ k = 153 ∨ k = 154 by omega) with rfl | rfl | rfl | rfl | rfl | rfl | rfl | rfl | rfl | rfl | rfl
      · exact hPm _ (List.mem_append_left _ (List.mem_append_left _ (List.mem_append_left _ (List.mem_append_left _ (List.mem_append_left _ (List.mem_of_getElem? (i := 0) rfl))))))
      · exact hPm _ (List.mem_append_left _ (List.mem_append_left _ (List.mem_append_right _ (List.mem_append_left _ (List.mem_append_left _ (List.mem_append_left _ (List.mem_append_left _ (List.mem_of_getElem? (i := 0) rfl))))))))
      · refine at_q (fun j hj => ?_) (hPm _ (List.mem_append_left _ (List.mem_append_left _ (List.mem_append_right _ (List.mem_append_left _ (List.mem_append_left _ (List.mem_append_left _ (List.mem_append_left _ (List.mem_of_getElem? (i := 1) rfl)))))))))
        rcases (show j = 0 ∨ j = 1 ∨ j = 2 ∨ j = 3 by omega) with rfl | rfl | rfl | rfl <;> rfl
      · exact hPm _ (List.mem_append_left _ (List.mem_append_right _ (List.mem_of_getElem? (i := 0) rfl)))
      · exact at_i (fun j hj => (m0_0 (by decide)).symm) (hPm _ (List.mem_append_left _ (List.mem_append_right _ (List.mem_of_getElem? (i := 1) rfl))))
      · exact at_i (fun j hj => (m0_0 (by decide)).symm) (hPm _ (List.mem_append_left _ (List.mem_append_right _ (List.mem_of_getElem? (i := 2) rfl))))
      · exact at_i (fun j hj => (m0_0 (by decide)).symm) (hPm _ (List.mem_append_right _ (List.mem_of_getElem? (i := 0) rfl)))
      · exact at_i (fun j hj => (m0_0 (by decide)).symm) (hPm _ (List.mem_append_right _ (List.mem_of_getElem? (i := 1) rfl)))
      · exact at_i (fun j hj => (m0_0 (by decide)).symm) (hPm _ (List.mem_append_right _ (List.mem_of_getElem? (i := 2) rfl)))
      · exact at_i (fun j hj => (m0_0 (by decide)).symm) (hPm _ (List.mem_append_right _ (List.mem_of_getElem? (i := 3) rfl)))
      · exact at_i (fun j hj => (m0_0 (by decide)).symm) (hPm _ (List.mem_append_right _ (List.mem_of_getElem? (i := 4) rfl)))
  · intro i j hi hj e
    have hi : i < 155 := hi
    have hj : j < 155 := hj
    have := (List.getElem_inj (h₀ := by simpa using hi) (h₁ := by simpa using hj) nd).mp (by simpa using e)
    exact this
