/-! floats: a quotient of two whole numbers -/
def fbQ (u w i : Nat) : Bool := decide (w * 2 ^ 23 ≤ u * 2 ^ i)
/-- how often it is doubled -/
def fbN (u w : Nat) : Nat := fstF (fbQ u w) 48
def fbC (u w : Nat) : Nat := FP.Core.nearest (u * 2 ^ fbN u w) w
def fbV (u w : Nat) : Int32 := if u = 0 then 0 else nI ((150 - fbN u w) * 2 ^ 23 + (fbC u w - 2 ^ 23))
theorem fstF_hit {p : Nat → Bool} : ∀ {n : Nat}, fstF p n < n → p (fstF p n) = true
  | 0, h => absurd h (Nat.not_lt_zero _)
  | n + 1, h => by
    unfold fstF at h ⊢
    by_cases h1 : fstF p n < n
    · rw [if_pos h1]; exact fstF_hit h1
    · rw [if_neg h1] at h ⊢
      by_cases h2 : p n = true
      · rw [if_pos h2]; exact h2
      · rw [if_neg h2] at h; omega
theorem fstF_pre {p : Nat → Bool} : ∀ {n i : Nat}, i < fstF p n → p i = false
  | 0, _, h => absurd h (Nat.not_lt_zero _)
  | n + 1, i, h => by
    unfold fstF at h
    by_cases h1 : fstF p n < n
    · rw [if_pos h1] at h; exact fstF_pre h
    · rw [if_neg h1] at h
      have hle := fstF_le p n
      by_cases h2 : p n = true
      · rw [if_pos h2] at h
        exact fstF_pre (n := n) (by omega)
      · rw [if_neg h2] at h
        by_cases hi : i = n
        · rw [hi]; simpa using h2
        · exact fstF_pre (n := n) (by omega)
section FB
variable {u w : Nat}
theorem fbN_ok (h0 : 0 < u) (hu : u ≤ w) (hw : w < 2 ^ 24) : fbN u w < 48 ∧ w * 2 ^ 23 ≤ u * 2 ^ fbN u w ∧ (∀ i, i < fbN u w → u * 2 ^ i < w * 2 ^ 23) ∧ 23 ≤ fbN u w := by
  have h47 : fbQ u w 47 = true := by
    refine decide_eq_true ?_
    have h1 : 1 * 2 ^ 47 ≤ u * 2 ^ 47 := Nat.mul_le_mul_right _ h0
    have h2 : w * 2 ^ 23 ≤ 2 ^ 24 * 2 ^ 23 := Nat.mul_le_mul_right _ (Nat.le_of_lt hw)
    exact Nat.le_trans h2 h1
  have hlt : fbN u w < 48 := by
    rcases Nat.lt_or_ge (fbN u w) 48 with h | h
    · exact h
    · have := fstF_pre (p := fbQ u w) (n := 48) (i := 47) (by unfold fbN at h; omega)
      rw [this] at h47; cases h47
  have hp : ∀ i, i < fbN u w → u * 2 ^ i < w * 2 ^ 23 := fun i hi => by
    have := fstF_pre (p := fbQ u w) hi
    unfold fbQ at this
    exact Nat.not_le.mp (of_decide_eq_false this)
  have hh : w * 2 ^ 23 ≤ u * 2 ^ fbN u w := of_decide_eq_true (fstF_hit (p := fbQ u w) hlt)
  refine ⟨hlt, hh, hp, ?_⟩
  rcases Nat.lt_or_ge (fbN u w) 23 with h | h
  · exfalso
    have h1 : u * 2 ^ fbN u w ≤ w * 2 ^ fbN u w := Nat.mul_le_mul_right _ hu
    have h2 : w * 2 ^ fbN u w < w * 2 ^ 23 := Nat.mul_lt_mul_of_pos_left (Nat.pow_lt_pow_right (by decide) h) (Nat.lt_of_lt_of_le h0 hu)
    exact absurd (Nat.lt_of_lt_of_le h2 hh) (Nat.not_lt.mpr h1)
  · exact h
theorem fbC_ok (h0 : 0 < u) (hu : u ≤ w) (hw : w < 2 ^ 24) : 2 ^ 23 ≤ fbC u w ∧ fbC u w ≤ 2 ^ 24 ∧ u * 2 ^ fbN u w < w * 2 ^ 24 := by
  obtain ⟨h1, h2, h3, h4⟩ := fbN_ok h0 hu hw
  have hw0 : 0 < w := Nat.lt_of_lt_of_le h0 hu
  have hlt : u * 2 ^ fbN u w < w * 2 ^ 24 := by
    by_cases e : fbN u w = 23
    · rw [e]
      have : u * 2 ^ 23 ≤ w * 2 ^ 23 := Nat.mul_le_mul_right _ hu
      have h5 : w * 2 ^ 23 < w * 2 ^ 24 := Nat.mul_lt_mul_of_pos_left (by decide) hw0
      exact Nat.lt_of_le_of_lt this h5
    · have := h3 (fbN u w - 1) (Nat.sub_lt (Nat.lt_of_lt_of_le (by decide) h4) (by decide))
      have e2 : 2 ^ fbN u w = 2 ^ (fbN u w - 1) * 2 := by rw [← Nat.pow_succ]; exact congrArg _ (Nat.sub_add_cancel (Nat.le_trans (show 1 ≤ 23 by decide) h4)).symm
      rw [e2, ← Nat.mul_assoc, show w * 2 ^ 24 = w * 2 ^ 23 * 2 by rw [Nat.mul_assoc]]
      exact Nat.mul_lt_mul_of_pos_right this (by decide)
  refine ⟨FP.Core.nearest_ge hw0 (by rw [Nat.mul_comm]; exact h2), FP.Core.nearest_le hw0 (by rw [Nat.mul_comm (2 ^ 24)]; exact Nat.le_of_lt hlt), hlt⟩
end FB
/-- a float of 24 bits c, with the exponent's field e -/
def FD (c e : Nat) : FP.Core.Datum := .fin false c ((e : Int) - 150)
def FV (c e : Nat) : UInt32 := FP.Core.of32 (FD c e)
def fOk (c e : Nat) : Prop := 2 ^ 23 ≤ c ∧ c < 2 ^ 24 ∧ 1 ≤ e ∧ e ≤ 254
theorem FD_fits {c e : Nat} (h : fOk c e) : FP.Core.fits FP.Core.b32 (FD c e) := by
  obtain ⟨h1, h2, h3, h4⟩ := h
  have e1 : FP.Core.b32.qmin = -149 := by decide
  have e2 : FP.Core.b32.qmax = 104 := by decide
  have e3 : FP.Core.b32.tails = 2 ^ 23 := by decide
  refine ⟨h2, ?_, ?_, Or.inr ?_⟩
  · rw [e1]; omega
  · rw [e2]; omega
  · rw [e3]; exact h1
theorem FV_val {c e : Nat} (h : fOk c e) : FP.Core.val32 (FV c e) = FD c e := FP.Core.val32_of32 (FD_fits h)
theorem FV_nn {c e : Nat} (h : fOk c e) : vf_n32 (FV c e) := by
  have h1 : FP.Core.val32 (FV c e) ≠ .nan := by rw [FV_val h]; exact fun q => by cases q
  have h2 := (FP.Core.ne_nan32 _).mp h1
  unfold vf_n32
  rw [UInt32.le_iff_toNat_le, UInt32.toNat_and]
  show (FV c e).toNat &&& (2 ^ 31 - 1) ≤ 2139095040
  rw [Nat.and_two_pow_sub_one_eq_mod]
  exact h2
/-- an int as a float -/
theorem i2f_v {u : Nat} (hu : u < 2 ^ 24) : ∃ c q, FP.Core.val32 (FP.i2f (nI u)) = .fin false c q ∧ -149 ≤ q ∧ c * 2 ^ (q + 149).toNat = u * 2 ^ 149 := by
  have e0 : FP.Core.ofInt (nI u).toInt = .fin false u 0 := by
    rw [nI_toInt (by omega)]
    unfold FP.Core.ofInt
    rw [decide_eq_false (by omega), Int.natAbs_natCast]
  obtain ⟨c, q, h1, h2⟩ := FP.Core.round_exact FP.Core.good_b32 false (c := u) (q := 0) (show u < 2 ^ FP.Core.b32.p from hu) (by decide) (by decide)
  have hf := FP.Core.round_fits FP.Core.good_b32 (.fin false u 0)
  rw [h1] at hf
  have hq : -149 ≤ q := hf.2.1
  refine ⟨c, q, ?_, hq, ?_⟩
  · show FP.Core.val32 (FP.Core.i2f (nI u)) = _
    rw [FP.Core.val32_i2f, e0, h1]
  · unfold FP.Core.inUnits at h2
    have e1 : FP.Core.b32.qmin = -149 := by decide
    rw [e1] at h2
    rw [show q + 149 = q - -149 by omega, h2]
    rfl
theorem mulx {cu cw u w a b x y K : Nat} (hK : 0 < K) (h1 : cu * 2 ^ a = u * K) (h2 : cw * 2 ^ b = w * K) (hx : x + b = y + a) : cu * w * 2 ^ x = u * cw * 2 ^ y := by
  have hp : 0 < K * 2 ^ b := Nat.mul_pos hK (Nat.two_pow_pos b)
  refine Nat.eq_of_mul_eq_mul_right hp ?_
  calc cu * w * 2 ^ x * (K * 2 ^ b) = cu * (w * K) * (2 ^ x * 2 ^ b) := by ac_rfl
    _ = cu * (cw * 2 ^ b) * 2 ^ (y + a) := by rw [← h2, ← Nat.pow_add, hx]
    _ = (cu * 2 ^ a) * (cw * 2 ^ y * 2 ^ b) := by rw [Nat.pow_add]; ac_rfl
    _ = u * cw * 2 ^ y * (K * 2 ^ b) := by rw [h1]; ac_rfl
/-- what the quotient is, as a float -/
def fbc (u w : Nat) : Nat := if fbC u w < 2 ^ 24 then fbC u w else 2 ^ 23
def fbe (u w : Nat) : Nat := if fbC u w < 2 ^ 24 then 150 - fbN u w else 151 - fbN u w
theorem fbce_ok {u w : Nat} (h0 : 0 < u) (hu : u ≤ w) (hw : w < 2 ^ 24) : fOk (fbc u w) (fbe u w) ∧ fbe u w ≤ 127 ∧ 80 ≤ fbe u w ∧ fbV u w = nI (fbe u w * 2 ^ 23 + (fbc u w - 2 ^ 23)) := by
  obtain ⟨h1, h2, h3, h4⟩ := fbN_ok h0 hu hw
  obtain ⟨c1, c2, c3⟩ := fbC_ok h0 hu hw
  have hlast : ¬ fbC u w < 2 ^ 24 → 24 ≤ fbN u w := fun hc => by
    rcases Nat.lt_or_ge (fbN u w) 24 with h | h
    · exfalso
      have e : fbN u w = 23 := by omega
      have h5 : fbC u w ≤ 2 ^ 23 := by
        unfold fbC
        rw [e]
        refine FP.Core.nearest_le (by omega) ?_
        rw [Nat.mul_comm u]
        exact Nat.mul_le_mul_left _ hu
      omega
    · exact h
  unfold fbV
  rw [if_neg (by omega)]
  unfold fbc fbe fOk
  by_cases hc : fbC u w < 2 ^ 24
  · rw [if_pos hc, if_pos hc]
    exact ⟨⟨c1, hc, by omega, by omega⟩, by omega, by omega, rfl⟩
  · have h24 := hlast hc
    rw [if_neg hc, if_neg hc]
    exact ⟨⟨by omega, by omega, by omega, by omega⟩, by omega, by omega, congrArg nI (by omega)⟩
theorem tN1 (n : Nat) : ((0 : Int) - -(n : Int)).toNat = n := by omega
theorem tN2 (n : Nat) : (-(n : Int) - 0).toNat = 0 := by omega
theorem tN3 (n : Nat) : -(n : Int) - 0 + ((24 : Nat) : Int) = ((24 : Nat) : Int) - (n : Nat) := by omega
theorem tN4 (n : Nat) : -(n : Int) - 0 + (((24 : Nat) : Int) - 1) = ((23 : Nat) : Int) - (n : Nat) := by omega
theorem tN5 {n : Nat} (h : n < 48) : (-149 : Int) ≤ -(n : Int) := by omega
theorem tN6 {n : Nat} (h : n < 48) : -(n : Int) ≤ 104 ∧ -(n : Int) + 1 ≤ 104 := by omega
theorem tN7 {n : Nat} (h : n < 48) : -(n : Int) = ((150 - n : Nat) : Int) - 150 ∧ -(n : Int) + 1 = ((151 - n : Nat) : Int) - 150 := by omega
theorem tN8 (a b : Int) : ∃ x y : Nat, (a - b - 0).toNat = x ∧ (0 - (a - b)).toNat = y ∧ (-149 ≤ a → -149 ≤ b → x + (b + 149).toNat = y + (a + 149).toNat) := ⟨_, _, rfl, rfl, fun _ _ => by omega⟩
theorem fdiv_v {u w : Nat} (h0 : 0 < u) (hu : u ≤ w) (hw : w < 2 ^ 24) : FP.fdiv (FP.i2f (nI u)) (FP.i2f (nI w)) = FV (fbc u w) (fbe u w) := by
  obtain ⟨cu, qu, v1, q1, m1⟩ := i2f_v (show u < 2 ^ 24 by omega)
  obtain ⟨cw, qw, v2, q2, m2⟩ := i2f_v hw
  have hw0 : 0 < w := Nat.lt_of_lt_of_le h0 hu
  obtain ⟨h1, h2, h3, h4⟩ := fbN_ok h0 hu hw
  obtain ⟨c1, c2, c3⟩ := fbC_ok h0 hu hw
  have hcw : cw ≠ 0 := fun e => by
    rw [e, Nat.zero_mul] at m2
    have : 0 < w * 2 ^ 149 := Nat.mul_pos hw0 (Nat.two_pow_pos _)
    exact absurd m2.symm (Nat.ne_of_gt this)
  have hval : FP.Core.quotient FP.Core.b32 (.fin false cu qu) (.fin false cw qw) = FD (fbc u w) (fbe u w) := by
    show (if cw = 0 then _ else FP.Core.roundRatio FP.Core.b32 (false != false) cu cw (qu - qw)) = _
    rw [if_neg hcw]
    have e1 : FP.Core.roundRatio FP.Core.b32 (false != false) cu cw (qu - qw) = FP.Core.roundRatio FP.Core.b32 false u w 0 := by
      refine FP.Core.roundRatio_congr (Nat.pos_of_ne_zero hcw) hw0 ?_
      obtain ⟨x, y, ex, ey, hxy⟩ := tN8 qu qw
      rw [ex, ey]
      exact mulx (Nat.two_pow_pos 149) m1 m2 (hxy q1 q2)
    rw [e1]
    have hq : FP.Core.quantum FP.Core.b32 u w 0 = -(fbN u w : Int) := by
      refine FP.Core.quantum_eq h0 hw0 (tN5 h1) ?_ (Or.inr ?_)
      · show FP.Core.Below u w (-(fbN u w : Int) - 0 + ((24 : Nat) : Int))
        rw [tN3, FP.Core.below_iff]
        exact c3
      · show ¬ FP.Core.Below u w (-(fbN u w : Int) - 0 + (((24 : Nat) : Int) - 1))
        rw [tN4, FP.Core.below_iff]
        exact Nat.not_lt.mpr h2
    unfold FP.Core.roundRatio
    rw [if_neg (Nat.ne_of_gt h0), hq]
    unfold FP.Core.roundAt FP.Core.unitsNum FP.Core.unitsDen
    rw [tN1, tN2, Nat.pow_zero, Nat.mul_one]
    show FP.Core.settle FP.Core.b32 false (fbC u w) _ = _
    unfold FP.Core.settle FD fbc fbe
    by_cases hc : fbC u w < 2 ^ 24
    · rw [if_pos (show fbC u w < 2 ^ FP.Core.b32.p from hc), if_pos hc, if_pos hc]
      unfold FP.Core.bound
      rw [if_pos (show -(fbN u w : Int) ≤ FP.Core.b32.qmax from (tN6 h1).1), ← (tN7 h1).1]
    · rw [if_neg (show ¬ fbC u w < 2 ^ FP.Core.b32.p from hc), if_neg hc, if_neg hc]
      unfold FP.Core.bound
      rw [if_pos (show -(fbN u w : Int) + 1 ≤ FP.Core.b32.qmax from (tN6 h1).2), ← (tN7 h1).2]
      rfl
  show FP.Core.of32 (FP.Core.quotient FP.Core.b32 (FP.Core.val32 (FP.i2f (nI u))) (FP.Core.val32 (FP.i2f (nI w)))) = _
  rw [v1, v2, hval]
  rfl
theorem fmul_k {c e k : Nat} {y : UInt32} (h : fOk c e) (he : e + k ≤ 254) (hy : FP.Core.val32 y = .fin false (2 ^ 23) ((k : Int) - 23)) : FP.fmul (FV c e) y = FV c (e + k) := by
  show FP.Core.of32 (FP.Core.round FP.Core.b32 (FP.Core.exactProduct (FP.Core.val32 (FV c e)) (FP.Core.val32 y))) = _
  rw [FV_val h, hy]
  show FP.Core.of32 (FP.Core.roundRatio FP.Core.b32 (false != false) (c * 2 ^ 23) 1 (((e : Int) - 150) + ((k : Int) - 23))) = _
  unfold FV
  refine congrArg _ ?_
  refine FP.Core.roundRatio_exact (s := false) FP.Core.good_b32 (by decide) (FD_fits ⟨h.1, h.2.1, by have := h.2.2.1; omega, he⟩) ?_
  rw [show (((e : Int) - 150) + ((k : Int) - 23) - (((e + k : Nat) : Int) - 150)).toNat = 0 by omega, show ((((e + k : Nat) : Int) - 150) - (((e : Int) - 150) + ((k : Int) - 23))).toNat = 23 by omega]
  simp
theorem cmp_lt {a b : Int} (h : a < b) : compare a b = Ordering.lt := by
  show (if a < b then Ordering.lt else if a = b then Ordering.eq else Ordering.gt) = _
  rw [if_pos h]
theorem cmp_ge {a b : Int} (h : ¬ a < b) : compare a b = Ordering.eq ∨ compare a b = Ordering.gt := by
  show (if a < b then Ordering.lt else if a = b then Ordering.eq else Ordering.gt) = _ ∨ (if a < b then Ordering.lt else if a = b then Ordering.eq else Ordering.gt) = _
  rw [if_neg h]
  split
  · exact Or.inl rfl
  · exact Or.inr rfl
theorem fcmp_1 {c e : Nat} (h : fOk c e) (he : e ≤ 127) : (e < 127 → Op.cmpValue (FP.fcmp (FV c e) FP.fconst1) .g = -1) ∧ (e = 127 → 0 ≤ Op.cmpValue (FP.fcmp (FV c e) FP.fconst1) .g) := by
  have e0 : FP.fcmp (FV c e) FP.fconst1 = some (compare ((c : Int)) ((2 ^ 23 * 2 ^ (127 - e) : Nat) : Int)) := by
    show FP.Core.order (FP.Core.val32 (FV c e)) (FP.Core.val32 FP.Core.fconst1) = _
    rw [FV_val h, FP.Core.val32_fconst1]
    show some (compare (FP.Core.signed false (FP.Core.inUnits c ((e : Int) - 150) (min ((e : Int) - 150) (-23)))) (FP.Core.signed false (FP.Core.inUnits (2 ^ 23) (-23) (min ((e : Int) - 150) (-23))))) = _
    rw [show min ((e : Int) - 150) (-23) = (e : Int) - 150 by omega]
    unfold FP.Core.inUnits FP.Core.signed
    rw [show ((e : Int) - 150 - ((e : Int) - 150)).toNat = 0 by omega, show (-23 - ((e : Int) - 150)).toNat = 127 - e by omega]
    simp
  rw [e0]
  refine ⟨fun hlt => ?_, fun heq => ?_⟩
  · have h2 : 2 ^ 23 * 2 ^ 1 ≤ 2 ^ 23 * 2 ^ (127 - e) := Nat.mul_le_mul_left _ (Nat.pow_le_pow_right (by decide) (by omega))
    have h3 : (c : Int) < ((2 ^ 23 * 2 ^ (127 - e) : Nat) : Int) := by have := h.2.1; omega
    rw [cmp_lt h3]
    rfl
  · have h2 : ¬ (c : Int) < ((2 ^ 23 * 2 ^ (127 - e) : Nat) : Int) := by rw [heq]; have := h.1; omega
    rcases cmp_ge h2 with hc | hc
    · rw [hc]; decide
    · rw [hc]; decide
theorem f2i_v {c : Nat} (h : fOk c 150) : FP.f2i (FV c 150) = nI c := by
  show FP.Core.toI (FP.Core.val32 (FV c 150)) = _
  rw [FV_val h]
  unfold FD FP.Core.toI FP.Core.toInt FP.Core.truncate FP.Core.signed
  rw [show ((150 : Nat) : Int) - 150 = 0 by decide]
  show Int32.ofInt (max (-2 ^ 31) (min (2 ^ 31 - 1) ((c * 2 ^ 0 / 2 ^ 0 : Nat) : Int))) = _
  rw [Nat.pow_zero, Nat.mul_one, Nat.div_one, show max (-2 ^ 31 : Int) (min (2 ^ 31 - 1) (c : Int)) = (c : Int) by have := h.2.1; omega]
  rfl
theorem val_2 : FP.Core.val32 FP.fconst2 = .fin false (2 ^ 23) (((1 : Nat) : Int) - 23) := by decide +kernel
theorem val_23 : FP.Core.val32 1258291200 = .fin false (2 ^ 23) (((23 : Nat) : Int) - 23) := by decide +kernel
