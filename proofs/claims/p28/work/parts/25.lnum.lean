/-! the law's paying, as lists and as numbers -/
def vTr (V : Nat → Int32) (l : Nat) : Ln := (V (3 * l), V (3 * l + 1), V (3 * l + 2))
def vLs (V : Nat → Int32) (m : Nat) : List Ln := (List.range m).map (vTr V)
theorem vTr_cg {V V' : Nat → Int32} {l l' : Nat} (h : ∀ j, j < 3 → V' (3 * l' + j) = V (3 * l + j)) : vTr V' l' = vTr V l := by
  have h0 := h 0 (by decide)
  rw [Nat.add_zero, Nat.add_zero] at h0
  unfold vTr
  rw [h0, h 1 (by decide), h 2 (by decide)]
def lpI (O V : Nat → Int32) (e : Nat) (q0 : Int32) (l : Nat) (z : lpT) : Prop :=
  z.1 = (pyF e q0 ((List.range l).map (vTr V))).1 ∧ (List.range l).map (vTr z.2.2) = (pyF e q0 ((List.range l).map (vTr V))).2.1 ∧ (∀ q j, l ≤ q → j < 3 → z.2.2 (3 * q + j) = V (3 * q + j)) ∧ ∀ j, j < 5 → z.2.1 (10 * j + 2) = O (10 * j + 2) + (pyF e q0 ((List.range l).map (vTr V))).2.2 j
theorem l_pay {O V : Nat → Int32} {e m : Nat} {q0 : Int32} (he : e < 5) (hcr : ∀ l, l < m → ∃ c : Nat, c < 5 ∧ V (3 * l) = nI c) : ∀ l, l ≤ m → lpI O V e q0 l (lpF e (q0, O, V) l)
  | 0, _ => ⟨rfl, rfl, fun _ _ _ _ => rfl, fun j _ => by show _ = _ + (0 : Int32); rw [Int32.add_zero]; rfl⟩
  | l + 1, h => by
    obtain ⟨i1, i2, i3, i4⟩ := l_pay (O := O) (q0 := q0) he hcr l (by omega)
    obtain ⟨c, hc5, ec⟩ := hcr l (by omega)
    unfold lpI
    rw [pyF_s, map_s]
    show (lpS e l (lpF e (q0, O, V) l)).1 = _ ∧ (List.range l).map (vTr (lpS e l (lpF e (q0, O, V) l)).2.2) ++ [vTr (lpS e l (lpF e (q0, O, V) l)).2.2 l] = _ ∧ (∀ q j, _ → _ → (lpS e l (lpF e (q0, O, V) l)).2.2 (3 * q + j) = _) ∧ ∀ j, _ → (lpS e l (lpF e (q0, O, V) l)).2.1 (10 * j + 2) = _
    generalize lpF e (q0, O, V) l = z at i1 i2 i3 i4
    generalize pyF e q0 ((List.range l).map (vTr V)) = F at i1 i2 i4
    have eTr : vTr z.2.2 l = vTr V l := vTr_cg (fun j hj => i3 l j (Nat.le_refl l) hj)
    have e0 : z.2.2 (3 * l) = V (3 * l) := i3 l 0 (Nat.le_refl l) (by decide)
    have e1 : z.2.2 (3 * l + 1) = V (3 * l + 1) := i3 l 1 (Nat.le_refl l) (by decide)
    have e2 : z.2.2 (3 * l + 2) = V (3 * l + 2) := i3 l 2 (Nat.le_refl l) (by decide)
    by_cases hd : z.2.2 (3 * l + 1) = nI e
    · have hd' : (vTr V l).2.1 = nI e := by rw [← eTr]; exact hd
      have hP : lpP l z = pyC F.1 (vTr V l) := by
        unfold lpP pyC vTr
        rw [e2, i1]
      have eS : lpS e l z = (z.1 - lpP l z, upd (upd z.2.1 (10 * e + 2) (z.2.1 (10 * e + 2) - lpP l z)) (10 * c + 2) (upd z.2.1 (10 * e + 2) (z.2.1 (10 * e + 2) - lpP l z) (10 * c + 2) + lpP l z), upd z.2.2 (3 * l + 2) (z.2.2 (3 * l + 2) - lpP l z)) := by
        unfold lpS
        rw [if_pos hd, e0, ec, nI_clamp (by omega)]
      rw [eS, pyS_t hd', ← hP, show (vTr V l).1.toNatClampNeg = c from by show (V (3 * l)).toNatClampNeg = c; rw [ec, nI_clamp (by omega)]]
      generalize lpP l z = x
      refine ⟨by dsimp only; rw [i1], ?_, fun q j hq hj => ?_, fun j hj => ?_⟩
      · dsimp only
        rw [map_cg (f := vTr (upd z.2.2 (3 * l + 2) (z.2.2 (3 * l + 2) - x))) (g := vTr z.2.2) (fun i hi => vTr_cg (fun j hj => upd_n _ _ _ _ (by omega))), i2]
        refine congrArg (fun y => F.2.1 ++ [y]) ?_
        unfold vTr
        rw [upd_n _ _ _ _ (by omega), upd_n _ _ _ _ (by omega), upd_s, e0, e1, e2]
      · dsimp only
        rw [upd_n _ _ _ _ (by omega)]
        exact i3 q j (by omega) hj
      · dsimp only
        have hj4 := i4 j hj
        unfold dl
        by_cases hjc : j = c
        · rw [if_pos hjc, hjc, upd_s]
          by_cases hje : c = e
          · rw [if_pos hje, hje, upd_s, ← hje, ← hjc, hj4, Int32.sub_eq_add_neg, Int32.add_assoc, Int32.add_assoc, Int32.add_assoc]
          · rw [if_neg hje, upd_n _ _ _ _ (by omega), ← hjc, hj4, Int32.add_assoc]
        · rw [if_neg hjc, upd_n _ _ _ _ (by omega)]
          by_cases hje : j = e
          · rw [if_pos hje, hje, upd_s, ← hje, hj4, Int32.sub_eq_add_neg, Int32.add_assoc]
          · rw [if_neg hje, upd_n _ _ _ _ (by omega), hj4]
    · have hd' : ¬ (vTr V l).2.1 = nI e := by rw [← eTr]; exact hd
      have eS : lpS e l z = z := by unfold lpS; rw [if_neg hd]
      rw [eS, pyS_f hd']
      exact ⟨i1, by dsimp only; rw [i2, eTr], fun q j hq hj => i3 q j (by omega) hj, i4⟩
theorem ldF_ls (V : Nat → Int32) : ∀ l, (List.range (ldF V l).2).map (vTr (ldF V l).1) = ((List.range l).map (vTr V)).filter pos
  | 0 => rfl
  | l + 1 => by
    have ih := ldF_ls V l
    have h1 := (ldF_V V l).1
    have hle := ldF_le V l
    rw [map_s, List.filter_append, ← ih]
    show (List.range (ldS l (ldF V l)).2).map (vTr (ldS l (ldF V l)).1) = _
    generalize ldF V l = z at h1 ih hle
    have eTr : vTr z.1 l = vTr V l := vTr_cg (fun j hj => h1 l j (Nat.le_refl l) hj)
    have e2 : z.1 (3 * l + 2) = V (3 * l + 2) := h1 l 2 (Nat.le_refl l) (by decide)
    unfold ldS
    by_cases hw : z.1 (3 * l + 2) ≤ 0
    · rw [if_pos hw, List.filter_cons_of_neg (by unfold pos vTr; rw [← e2, decide_eq_true hw]; decide)]
      exact (List.append_nil _).symm
    · rw [if_neg hw, List.filter_cons_of_pos (by unfold pos vTr; rw [← e2, decide_eq_false hw]; rfl)]
      show (List.range (z.2 + 1)).map (vTr (cp3 z.1 z.2 l)) = _
      rw [map_s, map_cg (g := vTr z.1) (fun i hi => vTr_cg (fun j hj => cp3_ne z.1 (fun i' hi' => by omega)))]
      refine congrArg (fun y => (List.range z.2).map (vTr z.1) ++ [y]) ?_
      rw [← eTr]
      exact vTr_cg (fun j hj => cp3_at z.1 hle hj)
/-- numbers: the purses, the loans -/
def lpu (O : Nat → Int32) (p : Nat → Nat) : Prop := ∀ i, i < 5 → O (10 * i + 2) = nI (p i)
def llo (V : Nat → Int32) (m : Nat) : Prop := ∀ l, l < m → (∃ c : Nat, c < 5 ∧ V (3 * l) = nI c) ∧ (∃ d : Nat, d < 5 ∧ V (3 * l + 1) = nI d) ∧ ∃ w : Nat, 1 ≤ w ∧ w ≤ 9999 ∧ V (3 * l + 2) = nI w
theorem lpu_v {O : Nat → Int32} {i w : Nat} {p : Nat → Nat} {v : Int32} (h : lpu O p) (hv : v = nI w) : lpu (upd O (10 * i + 2) v) (updN p i w) := fun j hj => by
  unfold updN
  by_cases e : j = i
  · rw [if_pos e, e, upd_s, hv]
  · rw [if_neg e, upd_n _ _ _ _ (by omega)]
    exact h j hj
def lpJ (e m : Nat) (V : Nat → Int32) (p0 : Nat → Nat) (l : Nat) (z : lpT) : Prop := ∃ (p : Nat → Nat) (q : Nat), lpu z.2.1 p ∧ z.1 = nI q ∧ q ≤ p e ∧ sumN p 5 = sumN p0 5 ∧ (∀ i, i < m → ∃ w : Nat, w ≤ 9999 ∧ z.2.2 (3 * i + 2) = nI w) ∧ ∀ j, j ≠ e → p0 j ≤ p j
theorem lpF_J {O V : Nat → Int32} {e m g : Nat} {p0 : Nat → Nat} (he : e < 5) (hp : lpu O p0) (hl : llo V m) (hg : g ≤ p0 e) (hS : sumN p0 5 < 2 ^ 24) : ∀ l, l ≤ m → lpJ e m V p0 l (lpF e (nI g, O, V) l)
  | 0, _ => ⟨p0, g, hp, rfl, hg, rfl, fun i hi => by
      obtain ⟨-, -, w, -, h2, h3⟩ := hl i hi
      exact ⟨w, h2, h3⟩, fun _ _ => Nat.le_refl _⟩
  | l + 1, h => by
    have ih := lpF_J he hp hl hg hS l (by omega)
    obtain ⟨⟨c, hc5, ec⟩, -⟩ := hl l (by omega)
    have e0 : (lpF e (nI g, O, V) l).2.2 (3 * l) = nI c := (lpF_V e _ (by omega) l).trans ec
    show lpJ e m V p0 (l + 1) (lpS e l (lpF e (nI g, O, V) l))
    generalize lpF e (nI g, O, V) l = z at ih e0
    obtain ⟨p, q, h1, h2, h3, h4, h5, h6⟩ := ih
    obtain ⟨w, hw, ew⟩ := h5 l (by omega)
    have hq : q < 2 ^ 24 := by have := sumN_le (p := p) he; omega
    unfold lpS
    by_cases hd : z.2.2 (3 * l + 1) = nI e
    · have hP : lpP l z = nI (min w q) := by
        unfold lpP
        rw [ew, h2]
        by_cases hwq : w ≤ q
        · rw [if_pos (nI_le hwq (by omega)), Nat.min_eq_left hwq]
        · rw [if_neg (nI_ge (by omega) (by omega)), Nat.min_eq_right (by omega)]
      have hx : min w q ≤ q := Nat.min_le_right _ _
      have hxw : min w q ≤ w := Nat.min_le_left _ _
      rw [if_pos hd, hP, e0, nI_clamp (by omega)]
      generalize min w q = x at hx hxw
      have a1 : lpu (upd z.2.1 (10 * e + 2) (z.2.1 (10 * e + 2) - nI x)) (updN p e (p e - x)) := lpu_v h1 (by rw [h1 e he, pk_sub (by omega)])
      have a2 := lpu_v (i := c) (w := updN p e (p e - x) c + x) (v := upd z.2.1 (10 * e + 2) (z.2.1 (10 * e + 2) - nI x) (10 * c + 2) + nI x) a1 (by rw [a1 c hc5, nI_add])
      have s1 := sumN_upd (p := p) (v := p e - x) he
      have s2 := sumN_upd (p := updN p e (p e - x)) (v := updN p e (p e - x) c + x) hc5
      refine ⟨updN (updN p e (p e - x)) c (updN p e (p e - x) c + x), q - x, a2, by dsimp only; rw [h2, pk_sub hx], ?_, by omega, fun i hi => ?_, fun j hj => ?_⟩
      · have : p e - x ≤ updN (updN p e (p e - x)) c (updN p e (p e - x) c + x) e := by
          unfold updN
          by_cases hco : e = c
          · rw [if_pos hco, if_pos hco.symm]; omega
          · rw [if_neg hco, if_pos rfl]; omega
        omega
      · dsimp only
        by_cases hil : i = l
        · rw [hil, upd_s, ew, pk_sub hxw]
          exact ⟨w - x, by omega, rfl⟩
        · rw [upd_n _ _ _ _ (by omega)]
          exact h5 i hi
      · have h6j := h6 j hj
        have e3 : updN p e (p e - x) j = p j := by unfold updN; rw [if_neg hj]
        have : p j ≤ updN (updN p e (p e - x)) c (updN p e (p e - x) c + x) j := by
          unfold updN at e3 ⊢
          by_cases hjc : j = c
          · rw [if_pos hjc, ← hjc, if_neg hj]; omega
          · rw [if_neg hjc, if_neg hj]; omega
        omega
    · rw [if_neg hd]
      exact ⟨p, q, h1, h2, h3, h4, h5, h6⟩
/-- the paying, as numbers -/
theorem lpay_J {Q O V : Nat → Int32} {e m g sh : Nat} {p0 : Nat → Nat} (he : e < 5) (hp : lpu O p0) (hl : llo V m) (hsh : sh ≤ 100) (h2 : Q 2 = nI sh) (hg : g ≤ p0 e) (hg2 : g < 2 ^ 20) (hS : sumN p0 5 < 2 ^ 24) :
    (nI g * Q 2 / 100 = nI (g * sh / 100) ∧ g * sh / 100 ≤ g) ∧ (∃ p' : Nat → Nat, lpu (lpZ Q O V m e (nI g)).2.1 p' ∧ sumN p' 5 = sumN p0 5 ∧ ∀ j, j ≠ e → p0 j ≤ p' j) ∧ llo (lpY Q O V m e (nI g)).1 (lpY Q O V m e (nI g)).2 := by
  have hsg : g * sh / 100 ≤ g := by
    have : g * sh ≤ g * 100 := Nat.mul_le_mul_left g hsh
    omega
  have hlt : g * sh < 2 ^ 31 := by
    have : g * sh ≤ 2 ^ 20 * 100 := Nat.mul_le_mul (by omega) hsh
    omega
  have eq : nI g * Q 2 / 100 = nI (g * sh / 100) := by rw [h2, pk_mul, show (100 : Int32) = nI 100 by decide, pk_div hlt (by decide) (by decide)]
  obtain ⟨p', q, a1, -, -, a4, a5, a6⟩ := lpF_J he hp hl (Nat.le_trans hsg hg) hS m (Nat.le_refl m)
  refine ⟨⟨eq, hsg⟩, ⟨p', ?_, a4, a6⟩, fun l hl2 => ?_⟩
  · unfold lpZ
    rw [eq]
    exact a1
  · have hls := ldF_ls (lpZ Q O V m e (nI g)).2.2 m
    have hmem : vTr (lpY Q O V m e (nI g)).1 l ∈ ((List.range m).map (vTr (lpZ Q O V m e (nI g)).2.2)).filter pos := by
      rw [← hls]
      exact List.mem_map_of_mem (List.mem_range.mpr hl2)
    obtain ⟨hm1, hm2⟩ := List.mem_filter.mp hmem
    obtain ⟨r, hr, er⟩ := List.mem_map.mp hm1
    have hr' := List.mem_range.mp hr
    obtain ⟨⟨c, c1, c2⟩, ⟨d, d1, d2⟩, -⟩ := hl r hr'
    obtain ⟨w, w1, w2⟩ := a5 r hr'
    rw [← eq] at w2
    have f0 : (lpZ Q O V m e (nI g)).2.2 (3 * r) = V (3 * r) := lpF_V e _ (by omega) m
    have f1 : (lpZ Q O V m e (nI g)).2.2 (3 * r + 1) = V (3 * r + 1) := lpF_V e _ (by omega) m
    unfold vTr at er
    have t0 := congrArg (fun x => x.1) er
    have t1 := congrArg (fun x => x.2.1) er
    have t2 := congrArg (fun x => x.2.2) er
    dsimp only at t0 t1 t2
    refine ⟨⟨c, c1, by rw [← t0, f0, c2]⟩, ⟨d, d1, by rw [← t1, f1, d2]⟩, w, ?_, w1, by rw [← t2]; exact w2⟩
    unfold pos vTr at hm2
    dsimp only at hm2
    rw [← t2, show (lpZ Q O V m e (nI g)).2.2 (3 * r + 2) = nI w from w2] at hm2
    rcases Nat.eq_zero_or_pos w with z | z
    · rw [z, decide_eq_true (show nI 0 ≤ 0 by decide)] at hm2; cases hm2
    · exact z
