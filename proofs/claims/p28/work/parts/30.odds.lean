/-! places among the rich, shares, odds -/
theorem near_lt {a b k : Nat} (hb : 0 < b) (h : 2 * a + b < 2 * (k * b)) : FP.Core.nearest a b < k := by
  have e := Nat.div_add_mod a b
  have hr := Nat.mod_lt a hb
  have m1 : ∀ q, b * q < b * k → q < k := fun q hq => Nat.lt_of_mul_lt_mul_left hq
  have kb : k * b = b * k := Nat.mul_comm k b
  unfold FP.Core.nearest
  split
  · exact m1 _ (by omega)
  · split
    · exact m1 _ (by rw [Nat.mul_add, Nat.mul_one]; omega)
    · have h2 : a / b % 2 ≤ 1 := by omega
      have h3 : a / b + 1 < k := m1 _ (by rw [Nat.mul_add, Nat.mul_one]; omega)
      omega
section FBV
variable {u w : Nat}
theorem fbV_1 (h0 : 0 < u) (hu : u < 2 ^ 24) : fbV u u = 1065353216 := by
  obtain ⟨h1, h2, h3, h4⟩ := fbN_ok h0 (Nat.le_refl u) hu
  have hN : fbN u u = 23 := by
    rcases Nat.lt_or_ge 23 (fbN u u) with q | q
    · exact absurd (h3 23 q) (Nat.lt_irrefl _)
    · omega
  unfold fbV fbC
  rw [if_neg (by omega), hN, Nat.mul_comm u, FP.Core.nearest_exact _ h0]
  decide
theorem fbV_h (h0 : 0 < u) (hu : 2 * u < 2 ^ 24) : fbV u (2 * u) = 1056964608 := by
  obtain ⟨h1, h2, h3, h4⟩ := fbN_ok h0 (show u ≤ 2 * u by omega) hu
  have hN : fbN u (2 * u) = 24 := by
    rcases Nat.lt_or_ge 24 (fbN u (2 * u)) with q | q
    · have := h3 24 q
      omega
    · rcases (show fbN u (2 * u) = 23 ∨ fbN u (2 * u) = 24 by omega) with z | z
      · rw [z] at h2; omega
      · exact z
  unfold fbV fbC
  rw [if_neg (by omega), hN, show u * 2 ^ 24 = 2 ^ 23 * (2 * u) by omega, FP.Core.nearest_exact _ (by omega)]
  decide
theorem fbV_mid (h0 : 0 < u) (hu : u < w) (hw : w < 2 ^ 24) : ∃ x : Nat, fbV u w = nI x ∧ 0 < x ∧ x < 1065353216 ∧ (2 * u < w → x < 1056964608) ∧ (w < 2 * u → 1056964608 ≤ x) := by
  obtain ⟨h1, h2, h3, h4⟩ := fbN_ok h0 (Nat.le_of_lt hu) hw
  obtain ⟨c1, c2, c3⟩ := fbC_ok h0 (Nat.le_of_lt hu) hw
  have n24 : 24 ≤ fbN u w := by
    rcases Nat.lt_or_ge (fbN u w) 24 with q | q
    · have e : fbN u w = 23 := by omega
      rw [e] at h2; omega
    · exact q
  have lt24 : fbN u w = 24 → fbC u w < 2 ^ 24 := fun e => by
    unfold fbC
    rw [e]
    exact near_lt (by omega) (by omega)
  have lt25 : 2 * u < w → fbN u w = 25 → fbC u w < 2 ^ 24 := fun q e => by
    unfold fbC
    rw [e]
    exact near_lt (by omega) (by omega)
  refine ⟨(150 - fbN u w) * 2 ^ 23 + (fbC u w - 2 ^ 23), by unfold fbV; rw [if_neg (by omega)], by omega, ?_, fun q => ?_, fun q => ?_⟩
  · rcases Nat.lt_or_ge 24 (fbN u w) with z | z
    · omega
    · have := lt24 (by omega)
      omega
  · have n25 : 25 ≤ fbN u w := by
      rcases Nat.lt_or_ge (fbN u w) 25 with z | z
      · have e : fbN u w = 24 := by omega
        rw [e] at h2; omega
      · exact z
    rcases Nat.lt_or_ge 25 (fbN u w) with z | z
    · omega
    · have := lt25 q (by omega)
      omega
  · have e : fbN u w = 24 := by
      rcases Nat.lt_or_ge 24 (fbN u w) with z | z
      · have := h3 24 z
        omega
      · omega
    omega
end FBV
/-! rich -/
theorem sumN_lt {p q : Nat → Nat} {j : Nat} : ∀ {n : Nat}, (∀ i, i < n → p i ≤ q i) → j < n → p j < q j → sumN p n < sumN q n
  | 0, _, h, _ => absurd h (Nat.not_lt_zero j)
  | n + 1, h, hj, hl => by
    show sumN p n + p n < sumN q n + q n
    by_cases e : j = n
    · subst e
      have := sumN_mono (p := p) (q := q) (n := j) (fun i hi => h i (by omega))
      omega
    · have := sumN_lt (n := n) (fun i hi => h i (by omega)) (by omega) hl
      have := h n (by omega)
      omega
def rkN (p : Nat → Nat) (j : Nat) : Nat := sumN (fun i => if p j < p i ∨ (p i = p j ∧ i < j) then 1 else 0) 5
theorem rk_lt {p : Nat → Nat} {j k : Nat} (hj : j < 5) (h : p k < p j ∨ (p j = p k ∧ j < k)) : rkN p j < rkN p k := by
  refine sumN_lt (j := j) (fun i _ => ?_) hj ?_
  · by_cases q : p j < p i ∨ (p i = p j ∧ i < j)
    · rw [if_pos q, if_pos (by omega)]; omega
    · rw [if_neg q]; omega
  · rw [if_neg (by omega), if_pos h]; omega
theorem rk_ne {p : Nat → Nat} {j k : Nat} (hj : j < 5) (hk : k < 5) (h : j ≠ k) : rkN p j ≠ rkN p k := by
  by_cases q : p k < p j ∨ (p j = p k ∧ j < k)
  · have := rk_lt (p := p) hj q; omega
  · have := rk_lt (p := p) (j := k) (k := j) hk (by omega); omega
theorem fstF_first {p : Nat → Bool} : ∀ {k : Nat}, (∀ j, j < k → ¬ p j = true) → fstF p k = k
  | 0, _ => rfl
  | k + 1, h => fstF_no (fstF_first (fun j hj => h j (by omega))) (h k (by omega))
/-- the place of an oracle -/
def lPl (O : Nat → Int32) (k : Nat) : Nat → Int32 := sumF 0 (fun i => if O (10 * k + 2) < O (10 * i + 2) ∨ (O (10 * i + 2) = O (10 * k + 2) ∧ nI i < nI k) then 1 else 0)
theorem lPl_N {O : Nat → Int32} {p : Nat → Nat} (hp : lpu O p) (hs : ∀ i, i < 5 → p i < 2 ^ 30) {k : Nat} (hk : k < 5) : lPl O k 5 = nI (rkN p k) := sumF_N (fun i hi => by
  have a := hs i hi
  have b := hs k hk
  have e : (O (10 * k + 2) < O (10 * i + 2) ∨ (O (10 * i + 2) = O (10 * k + 2) ∧ nI i < nI k)) ↔ (p k < p i ∨ (p i = p k ∧ i < k)) := by
    rw [hp i hi, hp k hk, nI_ltI (by omega) (by omega), nI_eq (by omega) (by omega), nI_ltI (by omega) (by omega)]
  by_cases q : p k < p i ∨ (p i = p k ∧ i < k)
  · rw [if_pos (e.mpr q), if_pos q]; rfl
  · rw [if_neg (fun z => q (e.mp z)), if_neg q]; rfl)
section RS
variable {l : Launch} {X : fX} {μ : fM} {Q O T V w : Nat → Int32} {m B y : Nat}
theorem c5_rich (K : KM μ Q O T V w m B y) (hB : B < 2 ^ 24) {k : Nat} (hk : k < 5) : Ct l X yX5_rich cX5_rich 3 (some .int) 2 [ra X 0, .int (lPl O k 5)] (put5 μ 0 Q O T V w) (some (.int (nI k))) (put5 μ 0 Q O T V w) := by
  rw [K.2.self]
  have h := ct_X5_rich (l := l) (X := X) K.gst (p := lPl O k 5)
  obtain ⟨p, hp, hs⟩ := K.1.2.1.2.2.1
  have hpl : ∀ i, i < 5 → p i < 2 ^ 30 := fun i hi => by have := sumN_le (p := p) hi; omega
  have er : ∀ j, j < 5 → rcF μ 5 j = nI (rkN p j) := fun j hj => by
    rw [← lPl_N hp hpl hj]
    unfold rcF lPl
    exact sumF_cg (fun i hi => by
      have e1 : μ.1 (iO 0 j) 2 = O (10 * j + 2) := K.1.1.ro hj (p := 2) (by decide)
      have e2 : μ.1 (iO 0 i) 2 = O (10 * i + 2) := K.1.1.ro hi (p := 2) (by decide)
      rw [e1, e2])
  have rk5 : ∀ j, rkN p j ≤ 5 := fun j => by
    have := sumN_c (p := fun i => if p j < p i ∨ (p i = p j ∧ i < j) then 1 else 0) (c := 1) (n := 5) (fun i _ => by split <;> omega)
    unfold rkN
    omega
  have e : cRich μ 5 (lPl O k 5) = (nI k, μ) := by
    rw [lPl_N hp hpl hk]
    have hf : fstF (fun j => decide (rcF μ 5 j = nI (rkN p k))) 5 = k := by
      refine fstF_at (i := k) (fstF_first (fun j hj => ?_)) ?_ hk
      · rw [decide_eq_true_eq, er j (by omega)]
        intro q
        exact rk_ne (p := p) (show j < 5 by omega) hk (by omega) ((nI_eq (by have := rk5 j; omega) (by have := rk5 k; omega)).mp q)
      · rw [decide_eq_true_eq, er k hk]
    unfold cRich
    rw [if_neg (fun q => q (nI_pos' (by have := rk5 k; omega))), hf, if_pos hk]
  rw [e] at h
  exact h
/-- the share of an oracle -/
def lSh (O : Nat → Int32) (k : Nat) : Int32 := shV (fun p => O (10 * k + (p - 1)))
theorem c5_share (K : KM μ Q O T V w m B y) (hy : y < 2 ^ 24) {k : Nat} (hk : k < 5) : Ct l X yX5_share cX5_share 4 (some .int) 2 [ra X 0, .int (nI k)] (put5 μ 0 Q O T V w) (some (.int (lSh O k))) (put5 μ 0 Q O T V w) := by
  rw [K.2.self]
  have e45 : ∀ i, i < 5 → μ.1 (iO 0 i) 5 = O (10 * i + 4) ∧ μ.1 (iO 0 i) 6 = O (10 * i + 5) := fun i hi => ⟨(K.1.1.2.2.2.2.1 i hi).2.1 4 (by decide) (by decide), (K.1.1.2.2.2.2.1 i hi).2.1 5 (by decide) (by decide)⟩
  have h := ct_X5_share (l := l) (X := X) K.gst (fun i hi => by
    obtain ⟨a, b, hab, ea, eb⟩ := (K.1.2.1.2.1 i hi).2.2.2.2.2.1
    exact ⟨a, b, by omega, by rw [(e45 i hi).1]; exact ea, by rw [(e45 i hi).2]; exact eb⟩) (o := nI k)
  have e : cShare μ (nI k) = (lSh O k, μ) := by
    unfold cShare lSh shV
    rw [K.n5, if_neg (tne (wi5 k hk)), ix_n (by omega), (e45 k hk).1, (e45 k hk).2]
  rw [e] at h
  exact h
theorem lSh_f {a b k : Nat} (hab : a + b < 2 ^ 24) (ea : O (10 * k + 4) = nI a) (eb : O (10 * k + 5) = nI b) : (a + b = 0 → lSh O k = -1000004) ∧ (0 < a + b → ¬ lSh O k = -1000004) ∧ (b = 0 → 0 < a → lSh O k = 1065353216) ∧ (a = b → 0 < a → lSh O k = 1056964608) := by
  have e : lSh O k = if a + b = 0 then -1000004 else fbV a (a + b) := by
    show (if O (10 * k + 4) + O (10 * k + 5) ≤ 0 then kNone else fbV (ix (O (10 * k + 4))) (ix (O (10 * k + 4) + O (10 * k + 5)))) = _
    rw [ea, eb, nI_add, ix_n (by omega), ix_n (by omega)]
    by_cases z : a + b = 0
    · rw [if_pos z, if_pos (by rw [z]; decide)]; rfl
    · rw [if_neg z, if_neg (nI_nle (by omega) (by omega))]
  rw [e]
  refine ⟨fun z => if_pos z, fun z q => ?_, fun z h0 => ?_, fun z h0 => ?_⟩
  · rw [if_neg (by omega)] at q
    rcases Nat.eq_zero_or_pos a with a0 | a0
    · unfold fbV at q
      rw [if_pos a0] at q
      exact absurd q (by decide)
    · by_cases b0 : b = 0
      · rw [b0, Nat.add_zero, fbV_1 a0 (by omega)] at q
        exact absurd q (by decide)
      · obtain ⟨x, x1, x2, x3, -⟩ := fbV_mid a0 (show a < a + b by omega) hab
        rw [x1] at q
        exact absurd (show nI x < 0 by rw [q]; decide) (nI_pos (by omega))
  · rw [if_neg (by omega), z, Nat.add_zero]
    exact fbV_1 h0 (by omega)
  · rw [if_neg (by omega), ← z, show a + a = 2 * a by omega]
    exact fbV_h h0 (by omega)
/-- all that is staked, and what is staked on taken -/
def lAl (Q O T : Nat → Int32) (a : Int32) : Nat → Int32 := sumF 0 (fun i => lS Q O T a i)
def lOn (Q O T : Nat → Int32) (a : Int32) : Nat → Int32 := sumF 0 (fun i => if lY Q O T a i = 1 then lS Q O T a i else 0)
theorem sumN_two (w : Nat → Int32) (s : Nat → Nat) : ∀ n, sumN s n = sumN (fun i => if w i = 1 then s i else 0) n + sumN (fun i => if w i = 1 then 0 else s i) n
  | 0 => rfl
  | n + 1 => by
    show sumN s n + s n = (sumN _ n + (if w n = 1 then s n else 0)) + (sumN _ n + (if w n = 1 then 0 else s n))
    rw [sumN_two w s n]
    split <;> omega
theorem sumF_two {g w : Nat → Int32} {s : Nat → Nat} {n : Nat} (h : ∀ i, i < n → g i = nI (s i)) : sumF 0 g n = nI (sumN (fun i => if w i = 1 then s i else 0) n + sumN (fun i => if w i = 1 then 0 else s i) n) := by
  rw [sumF_N h, sumN_two w s n]
theorem c5_odds (K : KM μ Q O T V w m B y) (hB : B < 2 ^ 24) {a : Nat} (ha : a < 64) : ∃ xa ya : Nat, xa + ya < 2 ^ 24 ∧ lAl Q O T (nI a) 5 = nI (xa + ya) ∧ lOn Q O T (nI a) 5 = nI xa ∧
    Ct l X yX5_odds cX5_odds 4 (some .int) 4 [ra X 0, .int (nI a)] (put5 μ 0 Q O T V w) (some (.int (odV xa ya))) (put5 (fore μ 0 5 (nI a)) 0 Q O T V w) := by
  rw [K.2.self, (KM_fore (nI a) K).2.self]
  obtain ⟨p, hp, hs⟩ := K.1.2.1.2.2.1
  have hN := fun i (hi : i < 5) => lS_N (a := nI a) K.1.2.1 hB hp hs hi
  have hK := (K.H hB).K
  refine ⟨sumN (fun i => if lY Q O T (nI a) i = 1 then ix (lS Q O T (nI a) i) else 0) 5, sumN (fun i => if lY Q O T (nI a) i = 1 then 0 else ix (lS Q O T (nI a) i)) 5, ?_, ?_, ?_, ?_⟩
  · have b1 := sumN_c (p := fun i => if lY Q O T (nI a) i = 1 then ix (lS Q O T (nI a) i) else 0) (c := 100) (n := 5) (fun i hi => by have := (hN i hi).2.2.1; split <;> omega)
    have b2 := sumN_c (p := fun i => if lY Q O T (nI a) i = 1 then 0 else ix (lS Q O T (nI a) i)) (c := 100) (n := 5) (fun i hi => by have := (hN i hi).2.2.1; split <;> omega)
    omega
  · exact sumF_two (fun i hi => (hN i hi).1)
  · refine sumF_N (fun i hi => ?_)
    split
    · exact (hN i hi).1
    · rfl
  · have h := ct_X5_odds (l := l) (X := X) K.gst (a := nI a) (xa := sumN (fun i => if lY Q O T (nI a) i = 1 then ix (lS Q O T (nI a) i) else 0) 5) (ya := sumN (fun i => if lY Q O T (nI a) i = 1 then 0 else ix (lS Q O T (nI a) i)) 5) (by
      have b1 := sumN_c (p := fun i => if lY Q O T (nI a) i = 1 then ix (lS Q O T (nI a) i) else 0) (c := 100) (n := 5) (fun i hi => by have := (hN i hi).2.2.1; split <;> omega)
      have b2 := sumN_c (p := fun i => if lY Q O T (nI a) i = 1 then 0 else ix (lS Q O T (nI a) i)) (c := 100) (n := 5) (fun i hi => by have := (hN i hi).2.2.1; split <;> omega)
      omega) (fun _ => ⟨sumF_N (fun i hi => by
        rw [(fo_l K.1.1 hK (nI a) hi).1, (fo_l K.1.1 hK (nI a) hi).2]
        split
        · exact (hN i hi).1
        · rfl), sumF_N (fun i hi => by
        rw [(fo_l K.1.1 hK (nI a) hi).1, (fo_l K.1.1 hK (nI a) hi).2]
        rcases lY_01 K.1.2.1 (nI a) hi with q | q
        · rw [q, if_pos rfl, if_neg (by decide)]
          exact (hN i hi).1
        · rw [q, if_neg (by decide), if_pos rfl]
          rfl)⟩)
    unfold cOdds at h
    rw [if_neg (tne (isA64 a ha))] at h
    exact h
theorem odV_f {xa ya : Nat} (h : xa + ya < 2 ^ 24) : (xa + ya = 0 → odV xa ya = -1000004) ∧ (0 < xa + ya → xa = 0 → odV xa ya = 0) ∧ (0 < xa → ya = 0 → odV xa ya = 1065353216) ∧ (0 < xa → xa = ya → odV xa ya = 1056964608) ∧
    (0 < xa → 0 < ya → ∃ x : Nat, odV xa ya = nI x ∧ 0 < x ∧ x < 1065353216 ∧ (2 * xa < xa + ya → x < 1056964608) ∧ (xa + ya < 2 * xa → 1056964608 ≤ x)) := by
  unfold odV
  refine ⟨fun z => if_pos z, fun z q => ?_, fun z q => ?_, fun z q => ?_, fun z q => ?_⟩
  · rw [if_neg (by omega)]
    unfold fbV
    rw [if_pos q]
  · rw [if_neg (by omega), q, Nat.add_zero]
    exact fbV_1 z (by omega)
  · rw [if_neg (by omega), ← q, show xa + xa = 2 * xa by omega]
    exact fbV_h z (by omega)
  · rw [if_neg (by omega)]
    exact fbV_mid z (by omega) h
end RS
