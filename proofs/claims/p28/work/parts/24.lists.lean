/-! numbers, and loans as lists: rows of the claim whole -/
def sumN (p : Nat → Nat) : Nat → Nat
  | 0 => 0
  | n + 1 => sumN p n + p n
def updN (p : Nat → Nat) (i v : Nat) : Nat → Nat := fun j => if j = i then v else p j
theorem sumN_cg {p q : Nat → Nat} : ∀ {n : Nat}, (∀ i, i < n → p i = q i) → sumN p n = sumN q n
  | 0, _ => rfl
  | n + 1, h => by
    show sumN p n + p n = sumN q n + q n
    rw [sumN_cg (fun i hi => h i (Nat.lt_succ_of_lt hi)), h n (Nat.lt_succ_self n)]
theorem sumN_upd {p : Nat → Nat} {i v : Nat} : ∀ {n : Nat}, i < n → sumN (updN p i v) n + p i = sumN p n + v
  | 0, h => absurd h (Nat.not_lt_zero i)
  | n + 1, h => by
    show sumN (updN p i v) n + updN p i v n + p i = sumN p n + p n + v
    by_cases hi : i = n
    · subst hi
      rw [sumN_cg (q := p) (fun j hj => by unfold updN; rw [if_neg (by omega)])]
      unfold updN
      rw [if_pos rfl]
      omega
    · have ih := sumN_upd (p := p) (v := v) (show i < n by omega)
      have e : updN p i v n = p n := by unfold updN; rw [if_neg (fun q => hi q.symm)]
      omega
theorem sumN_le {p : Nat → Nat} {i : Nat} : ∀ {n : Nat}, i < n → p i ≤ sumN p n
  | 0, h => absurd h (Nat.not_lt_zero i)
  | n + 1, h => by
    show p i ≤ sumN p n + p n
    by_cases hi : i = n
    · rw [hi]; omega
    · have := sumN_le (p := p) (show i < n by omega); omega
theorem sumN_mono {p q : Nat → Nat} : ∀ {n : Nat}, (∀ i, i < n → p i ≤ q i) → sumN p n ≤ sumN q n
  | 0, _ => Nat.le_refl 0
  | n + 1, h => by
    have := sumN_mono (n := n) (fun i hi => h i (Nat.lt_succ_of_lt hi))
    have h2 := h n (Nat.lt_succ_self n)
    show sumN p n + p n ≤ sumN q n + q n
    omega
theorem sumN_c {p : Nat → Nat} {c : Nat} : ∀ {n : Nat}, (∀ i, i < n → p i ≤ c) → sumN p n ≤ n * c
  | 0, _ => by show 0 ≤ _; omega
  | n + 1, h => by
    have := sumN_c (n := n) (fun i hi => h i (Nat.lt_succ_of_lt hi))
    have h2 := h n (Nat.lt_succ_self n)
    show sumN p n + p n ≤ _
    rw [Nat.succ_mul]
    omega
theorem sumN_sub {p w : Nat → Nat} : ∀ {n : Nat}, (∀ i, i < n → w i ≤ p i) → sumN (fun i => p i - w i) n + sumN w n = sumN p n
  | 0, _ => rfl
  | n + 1, h => by
    have ih := sumN_sub (n := n) (fun i hi => h i (Nat.lt_succ_of_lt hi))
    have h2 := h n (Nat.lt_succ_self n)
    show sumN (fun i => p i - w i) n + (p n - w n) + (sumN w n + w n) = sumN p n + p n
    omega
theorem sumN_div (L R : Nat) (q : Nat → Nat) : ∀ n, sumN (fun o => L * q o / R) n * R ≤ L * sumN q n
  | 0 => by show 0 * R ≤ _; omega
  | n + 1 => by
    have ih := sumN_div L R q n
    have h := Nat.div_mul_le_self (L * q n) R
    show (sumN (fun o => L * q o / R) n + L * q n / R) * R ≤ L * (sumN q n + q n)
    rw [Nat.add_mul, Nat.mul_add]
    omega
theorem sumF_N {f : Nat → Int32} {p : Nat → Nat} : ∀ {n : Nat}, (∀ i, i < n → f i = nI (p i)) → sumF 0 f n = nI (sumN p n)
  | 0, _ => rfl
  | n + 1, h => by
    show sumF 0 f n + f n = nI (sumN p n + p n)
    rw [sumF_N (fun i hi => h i (Nat.lt_succ_of_lt hi)), h n (Nat.lt_succ_self n), nI_add]
theorem nI_sub' {a c : Nat} (h : c ≤ a) : nI a + - nI c = nI (a - c) := by rw [← Int32.sub_eq_add_neg, pk_sub h]
theorem oStake_N {f t : Nat → Int32} {u p : Nat} {a hi : Int32} (hu : 1 ≤ u) (hu2 : u ≤ 50) (hp : p < 2 ^ 24) (e : f 2 = nI p) (hin : oIn f = true) : ∃ s : Nat, 1 ≤ s ∧ s ≤ p ∧ s ≤ 100 ∧ oStake f t (nI u) a hi = nI s := by
  have hp0 : 1 ≤ p := by
    rcases Nat.eq_zero_or_pos p with h | h
    · exfalso
      unfold oIn oRuin at hin
      rw [e, h] at hin
      simp [show nI 0 = (0 : Int32) from rfl] at hin
    · exact h
  have e2 : (if oSure f t a hi = true then 2 * nI u else nI u) = nI (if oSure f t a hi = true then 2 * u else u) := by
    split
    · rw [show (2 : Int32) = nI 2 by decide, pk_mul]
    · rfl
  unfold oStake
  rw [if_pos hin, e2, e]
  have h1 : 1 ≤ (if oSure f t a hi = true then 2 * u else u) ∧ (if oSure f t a hi = true then 2 * u else u) ≤ 100 := by split <;> omega
  generalize (if oSure f t a hi = true then 2 * u else u) = v at h1
  by_cases h : v < p
  · rw [if_pos (nI_lt h (by omega))]
    exact ⟨v, h1.1, by omega, h1.2, rfl⟩
  · rw [if_neg (nI_nlt (by omega) (by omega))]
    exact ⟨p, hp0, Nat.le_refl p, by omega, rfl⟩
theorem oStake_0 {f t : Nat → Int32} {u a hi : Int32} (hin : ¬ oIn f = true) : oStake f t u a hi = 0 := by unfold oStake; rw [if_neg hin]
theorem oTab_cg {f f' : Nat → Int32} (h : f' 0 = f 0) : oTab f' = oTab f := by unfold oTab; rw [h]
theorem oSlot_cg {f f' : Nat → Int32} (h0 : f' 0 = f 0) (h1 : f' 1 = f 1) (a hi : Int32) : oSlot f' a hi = oSlot f a hi := by unfold oSlot oMask; rw [h0, h1]
theorem oSize_cg {f f' : Nat → Int32} (h0 : f' 0 = f 0) (h1 : f' 1 = f 1) : oSize f' = oSize f := by unfold oSize; rw [oTab_cg h0, h1]
theorem oSeat_cg {f f' : Nat → Int32} (h : f' 3 = f 3) : oSeat f' = oSeat f := by unfold oSeat; rw [h]
theorem oRuin_cg {f f' : Nat → Int32} (h : f' 2 = f 2) : oRuin f' = oRuin f := by unfold oRuin; rw [h]
abbrev Ln : Type := Int32 × Int32 × Int32
def cTr (τ : fM) (s l : Nat) : Ln := (τ.1 (iL s l) 0, τ.1 (iL s l) 1, τ.1 (iL s l) 2)
def cLs (τ : fM) (s m : Nat) : List Ln := (List.range m).map (cTr τ s)
def pos (x : Ln) : Bool := !decide (x.2.2 ≤ 0)
abbrev pyZ : Type := Int32 × List Ln × (Nat → Int32)
def pyC (q : Int32) (x : Ln) : Int32 := if x.2.2 ≤ q then x.2.2 else q
def dl (d : Nat → Int32) (i : Nat) (v : Int32) : Nat → Int32 := fun j => if j = i then d j + v else d j
def pyS (e : Nat) (z : pyZ) (x : Ln) : pyZ := if x.2.1 = nI e then (z.1 - pyC z.1 x, z.2.1 ++ [(x.1, x.2.1, x.2.2 - pyC z.1 x)], dl (dl z.2.2 e (- pyC z.1 x)) x.1.toNatClampNeg (pyC z.1 x)) else (z.1, z.2.1 ++ [x], z.2.2)
def pyF (e : Nat) (q : Int32) (L : List Ln) : pyZ := L.foldl (pyS e) (q, [], fun _ => 0)
theorem pyF_s (e : Nat) (q : Int32) (f : Nat → Ln) (l : Nat) : pyF e q ((List.range (l + 1)).map f) = pyS e (pyF e q ((List.range l).map f)) (f l) := by
  unfold pyF
  rw [List.range_succ, List.map_append, List.foldl_append]
  rfl
theorem map_s {α : Type} (f : Nat → α) (l : Nat) : (List.range (l + 1)).map f = (List.range l).map f ++ [f l] := by rw [List.range_succ, List.map_append]; rfl
theorem map_cg {α : Type} {f g : Nat → α} {n : Nat} (h : ∀ i, i < n → f i = g i) : (List.range n).map f = (List.range n).map g := List.map_congr_left (fun i hi => h i (List.mem_range.mp hi))
theorem map_inj {α : Type} {f g : Nat → α} {a b : Nat} (h : (List.range a).map f = (List.range b).map g) : a = b ∧ ∀ i, i < a → f i = g i := by
  have hl : a = b := by
    have := congrArg List.length h
    simpa using this
  subst hl
  refine ⟨rfl, fun i hi => ?_⟩
  have := congrArg (fun L => L[i]?) h
  simpa [hi] using this
theorem dl_0 (d : Nat → Int32) (i : Nat) : dl d i 0 = d := by
  funext j
  unfold dl
  split
  · rw [Int32.add_zero]
  · rfl
theorem neg0 : - (0 : Int32) = 0 := by decide
theorem pyS_0 {e : Nat} {z : pyZ} {x : Ln} (h : pyC z.1 x = 0) : pyS e z x = (z.1, z.2.1 ++ [x], z.2.2) := by
  unfold pyS
  rw [h]
  split
  · rw [neg0, dl_0, dl_0, Int32.sub_zero, Int32.sub_zero]
  · rfl
theorem pyS_t {e : Nat} {z : pyZ} {x : Ln} (h : x.2.1 = nI e) : pyS e z x = (z.1 - pyC z.1 x, z.2.1 ++ [(x.1, x.2.1, x.2.2 - pyC z.1 x)], dl (dl z.2.2 e (- pyC z.1 x)) x.1.toNatClampNeg (pyC z.1 x)) := if_pos h
theorem pyS_f {e : Nat} {z : pyZ} {x : Ln} (h : ¬ x.2.1 = nI e) : pyS e z x = (z.1, z.2.1 ++ [x], z.2.2) := if_neg h
theorem pyC_N {q w : Nat} {x : Ln} (hx : x.2.2 = nI w) (hq : q < 2 ^ 30) (hw : w < 2 ^ 30) : pyC (nI q) x = nI (min w q) := by
  unfold pyC
  rw [hx]
  by_cases h : w ≤ q
  · rw [if_pos (nI_le h (by omega)), Nat.min_eq_left h]
  · rw [if_neg (nI_ge (by omega) (by omega)), Nat.min_eq_right (by omega)]
def owN (L : List Ln) : Prop := ∀ x, x ∈ L → ∃ w : Nat, w < 2 ^ 30 ∧ x.2.2 = nI w
theorem owN_app {A B : List Ln} (ha : owN A) (hb : owN B) : owN (A ++ B) := fun x hx => (List.mem_append.mp hx).elim (ha x) (hb x)
theorem pyS_N {e q : Nat} {z : pyZ} {x : Ln} {w : Nat} (hz : z.1 = nI q) (hq : q < 2 ^ 30) (hx : x.2.2 = nI w) (hw : w < 2 ^ 30) (hL : owN z.2.1) : (∃ q', q' ≤ q ∧ (pyS e z x).1 = nI q') ∧ owN (pyS e z x).2.1 := by
  unfold pyS
  split
  · rw [hz, pyC_N hx hq hw]
    refine ⟨⟨q - min w q, by omega, pk_sub (Nat.min_le_right _ _)⟩, owN_app hL (fun y hy => ?_)⟩
    rw [List.mem_singleton.mp hy]
    exact ⟨w - min w q, by omega, by rw [hx, pk_sub (Nat.min_le_left _ _)]⟩
  · exact ⟨⟨q, Nat.le_refl q, hz⟩, owN_app hL (fun y hy => by rw [List.mem_singleton.mp hy]; exact ⟨w, hw, hx⟩)⟩
theorem pyF_flt {e : Nat} : ∀ (L : List Ln), owN L → ∀ (q : Nat), q < 2 ^ 30 → ∀ (A B : List Ln) (d : Nat → Int32), A.filter pos = B.filter pos →
    (L.foldl (pyS e) (nI q, A, d)).1 = ((L.filter pos).foldl (pyS e) (nI q, B, d)).1 ∧ (L.foldl (pyS e) (nI q, A, d)).2.1.filter pos = ((L.filter pos).foldl (pyS e) (nI q, B, d)).2.1.filter pos ∧ (L.foldl (pyS e) (nI q, A, d)).2.2 = ((L.filter pos).foldl (pyS e) (nI q, B, d)).2.2
  | [], _, q, _, A, B, d, h => ⟨rfl, h, rfl⟩
  | x :: L, hL, q, hq, A, B, d, h => by
    obtain ⟨w, hw, ew⟩ := hL x List.mem_cons_self
    have hL' : owN L := fun y hy => hL y (List.mem_cons_of_mem _ hy)
    have hC : pyC (nI q) x = nI (min w q) := pyC_N ew hq hw
    rw [List.foldl_cons]
    by_cases hp : pos x = true
    · rw [List.filter_cons_of_pos hp, List.foldl_cons]
      by_cases hd : x.2.1 = nI e
      · have key : ∀ C : List Ln, pyS e (nI q, C, d) x = (nI (q - min w q), C ++ [(x.1, x.2.1, x.2.2 - nI (min w q))], dl (dl d e (- nI (min w q))) x.1.toNatClampNeg (nI (min w q))) := fun C => by
          rw [pyS_t hd]
          dsimp only
          rw [hC, pk_sub (Nat.min_le_right _ _)]
        rw [key A, key B]
        exact pyF_flt (e := e) L hL' (q - min w q) (by omega) (A ++ [(x.1, x.2.1, x.2.2 - nI (min w q))]) (B ++ [(x.1, x.2.1, x.2.2 - nI (min w q))]) _ (by rw [List.filter_append, List.filter_append, h])
      · have key : ∀ C : List Ln, pyS e (nI q, C, d) x = (nI q, C ++ [x], d) := fun C => pyS_f hd
        rw [key A, key B]
        exact pyF_flt (e := e) L hL' q hq (A ++ [x]) (B ++ [x]) d (by rw [List.filter_append, List.filter_append, h])
    · rw [List.filter_cons_of_neg hp]
      have hw0 : x.2.2 ≤ 0 := by
        unfold pos at hp
        simpa using hp
      have hw' : w = 0 := by
        rcases Nat.eq_zero_or_pos w with z | z
        · exact z
        · rw [ew] at hw0; exact absurd hw0 (nI_nle z (by omega))
      have h0 : pyC (nI q) x = 0 := by rw [hC, hw', Nat.zero_min]; rfl
      rw [show pyS e (nI q, A, d) x = (nI q, A ++ [x], d) from pyS_0 h0]
      exact pyF_flt (e := e) L hL' q hq (A ++ [x]) B d (by rw [List.filter_append, h, show [x].filter pos = [] from by rw [List.filter_cons_of_neg hp]; rfl, List.append_nil])
theorem cTr_cg {σ τ : fM} {s l : Nat} (h : τ.1 (iL s l) = σ.1 (iL s l)) : cTr τ s l = cTr σ s l := by unfold cTr; rw [h]
theorem puO (σ : fM) (s i j : Nat) (v : Int32) : (pu σ (iO s i) 2 v).1 (iO s j) 2 = if j = i then v else σ.1 (iO s j) 2 := by
  by_cases h : j = i
  · rw [if_pos h, h, pu_upd, upd_s]
  · rw [if_neg h, pu_ne _ (fun e => h (iO_inj s _ _ e))]
theorem puLO (σ : fM) (s l j p q : Nat) (hj : j < 6) (v : Int32) : (pu σ (iL s l) p v).1 (iO s j) q = σ.1 (iO s j) q := by rw [pu_ne _ (by unfold iO iL; omega)]
def cpI (τ : fM) (s e : Nat) (q0 : Int32) (l : Nat) (z : fM × Int32) : Prop :=
  z.2 = (pyF e q0 ((List.range l).map (cTr τ s))).1 ∧ (List.range l).map (cTr z.1 s) = (pyF e q0 ((List.range l).map (cTr τ s))).2.1 ∧ (∀ q, l ≤ q → z.1.1 (iL s q) = τ.1 (iL s q)) ∧ (∀ j, j < 6 → z.1.1 (iO s j) 2 = τ.1 (iO s j) 2 + (pyF e q0 ((List.range l).map (cTr τ s))).2.2 j) ∧ (∃ q : Nat, q < 2 ^ 30 ∧ z.2 = nI q) ∧ owN (pyF e q0 ((List.range l).map (cTr τ s))).2.1
theorem c_pay {τ : fM} {s e m q0 : Nat} (he : e < 6) (hm : m ≤ 8) (hc : crd τ s m) (hq : q0 < 2 ^ 30) (hw : owN (cLs τ s m)) : ∀ l, l ≤ m → cpI τ s e (nI q0) l (payF s e (τ, nI q0) l)
  | 0, _ => ⟨rfl, rfl, fun _ _ => rfl, fun j _ => by show _ = _ + (0 : Int32); rw [Int32.add_zero]; rfl, ⟨q0, hq, rfl⟩, fun x hx => by cases hx⟩
  | l + 1, h => by
    obtain ⟨i1, i2, i3, i4, ⟨q, hq1, i5⟩, i6⟩ := c_pay he hm hc hq hw l (by omega)
    obtain ⟨w, hw30, ew⟩ : ∃ w : Nat, w < 2 ^ 30 ∧ (cTr τ s l).2.2 = nI w := hw _ (List.mem_map.mpr ⟨l, List.mem_range.mpr (by omega), rfl⟩)
    obtain ⟨c, hc6, ec⟩ := hc l (by omega)
    have eL := i3 l (Nat.le_refl l)
    have eTr : cTr (payF s e (τ, nI q0) l).1 s l = cTr τ s l := cTr_cg eL
    have hN := pyS_N (e := e) (i1.symm.trans i5) hq1 ew hw30 i6
    have hC : pyC (nI q) (cTr τ s l) = nI (min w q) := pyC_N ew hq1 hw30
    unfold cpI
    rw [pyF_s, map_s]
    show (payStep s e l (payF s e (τ, nI q0) l)).2 = _ ∧ _ ∧ (∀ q, _ → (payStep s e l (payF s e (τ, nI q0) l)).1.1 _ = _) ∧ (∀ j, _ → (payStep s e l (payF s e (τ, nI q0) l)).1.1 _ _ = _) ∧ (∃ q : Nat, q < 2 ^ 30 ∧ (payStep s e l (payF s e (τ, nI q0) l)).2 = nI q) ∧ _
    show _ ∧ (List.range l).map (cTr (payStep s e l (payF s e (τ, nI q0) l)).1 s) ++ [cTr (payStep s e l (payF s e (τ, nI q0) l)).1 s l] = _ ∧ _
    generalize payF s e (τ, nI q0) l = z at i1 i2 i3 i4 i5 eL eTr
    generalize pyF e (nI q0) ((List.range l).map (cTr τ s)) = F at i1 i2 i4 i6 hN
    have hF1 : F.1 = nI q := i1.symm.trans i5
    -- nothing is paid
    have none : payStep s e l z = z → pyS e F (cTr τ s l) = (F.1, F.2.1 ++ [cTr τ s l], F.2.2) → (payStep s e l z).2 = (pyS e F (cTr τ s l)).1 ∧ (List.range l).map (cTr (payStep s e l z).1 s) ++ [cTr (payStep s e l z).1 s l] = (pyS e F (cTr τ s l)).2.1 ∧ (∀ q, l + 1 ≤ q → (payStep s e l z).1.1 (iL s q) = τ.1 (iL s q)) ∧ (∀ j, j < 6 → (payStep s e l z).1.1 (iO s j) 2 = τ.1 (iO s j) 2 + (pyS e F (cTr τ s l)).2.2 j) ∧ (∃ q : Nat, q < 2 ^ 30 ∧ (payStep s e l z).2 = nI q) ∧ owN (pyS e F (cTr τ s l)).2.1 := fun e1 e2 => by
      have hN2 := hN.2
      rw [e2] at hN2 ⊢
      rw [e1]
      exact ⟨i1, by rw [i2, eTr], fun q hq => i3 q (by omega), i4, ⟨q, hq1, i5⟩, hN2⟩
    by_cases h0 : z.2 ≤ 0
    · have hq0 : q = 0 := by
        rcases Nat.eq_zero_or_pos q with y | y
        · exact y
        · rw [i5] at h0; exact absurd h0 (nI_nle y (by omega))
      exact none (by unfold payStep; rw [if_pos h0]) (pyS_0 (by rw [hF1, hC, hq0, Nat.min_zero]; rfl))
    · by_cases hd : z.1.1 (iL s l) 1 = nI e
      · have hd' : (cTr τ s l).2.1 = nI e := by rw [← eTr]; exact hd
        have ecz : z.1.1 (iL s l) 0 = nI c := by rw [eL]; exact ec
        have ewz : z.1.1 (iL s l) 2 = nI w := by rw [eL]; exact ew
        have hmin : (if z.1.1 (iL s l) 2 < z.2 then z.1.1 (iL s l) 2 else z.2) = nI (min w q) := by
          rw [ewz, i5]
          by_cases hlt : w < q
          · rw [if_pos (nI_lt hlt (by omega)), Nat.min_eq_left (by omega)]
          · rw [if_neg (nI_nlt (by omega) (by omega)), Nat.min_eq_right (by omega)]
        have eP : payStep s e l z = (pu (pu (pu z.1 (iL s l) 2 (nI w - nI (min w q))) (iO s e) 2 (z.1.1 (iO s e) 2 - nI (min w q))) (iO s c) 2 ((pu (pu z.1 (iL s l) 2 (nI w - nI (min w q))) (iO s e) 2 (z.1.1 (iO s e) 2 - nI (min w q))).1 (iO s c) 2 + nI (min w q)), z.2 - nI (min w q)) := by
          unfold payStep
          rw [if_neg h0, if_neg (fun q => q hd)]
          dsimp only
          rw [hmin, ecz, nI_clamp (by omega), ewz, pu_ne (iO s e) (iL_O s l s e (by omega) he).symm]
        have eY : pyS e F (cTr τ s l) = (F.1 - nI (min w q), F.2.1 ++ [((cTr τ s l).1, (cTr τ s l).2.1, nI w - nI (min w q))], dl (dl F.2.2 e (- nI (min w q))) c (nI (min w q))) := by
          unfold pyS
          rw [if_pos hd', hF1, hC, ew, show (cTr τ s l).1 = nI c from ec, nI_clamp (by omega)]
        have hN2 := hN
        rw [eY] at hN2 ⊢
        rw [eP]
        have nL : ∀ q2, q2 ≠ l → (pu (pu (pu z.1 (iL s l) 2 (nI w - nI (min w q))) (iO s e) 2 (z.1.1 (iO s e) 2 - nI (min w q))) (iO s c) 2 ((pu (pu z.1 (iL s l) 2 (nI w - nI (min w q))) (iO s e) 2 (z.1.1 (iO s e) 2 - nI (min w q))).1 (iO s c) 2 + nI (min w q))).1 (iL s q2) = z.1.1 (iL s q2) := fun q2 hne => by
          rw [pu_ne _ (by unfold iO iL; omega), pu_ne _ (by unfold iO iL; omega), pu_ne _ (fun x => hne (iL_inj s _ _ x))]
        have nl : ∀ k, (pu (pu (pu z.1 (iL s l) 2 (nI w - nI (min w q))) (iO s e) 2 (z.1.1 (iO s e) 2 - nI (min w q))) (iO s c) 2 ((pu (pu z.1 (iL s l) 2 (nI w - nI (min w q))) (iO s e) 2 (z.1.1 (iO s e) 2 - nI (min w q))).1 (iO s c) 2 + nI (min w q))).1 (iL s l) k = upd (z.1.1 (iL s l)) 2 (nI w - nI (min w q)) k := fun k => by
          rw [pu_ne _ (by unfold iO iL; omega), pu_ne _ (by unfold iO iL; omega), pu_upd]
        have nO : ∀ j, j < 6 → (pu (pu (pu z.1 (iL s l) 2 (nI w - nI (min w q))) (iO s e) 2 (z.1.1 (iO s e) 2 - nI (min w q))) (iO s c) 2 ((pu (pu z.1 (iL s l) 2 (nI w - nI (min w q))) (iO s e) 2 (z.1.1 (iO s e) 2 - nI (min w q))).1 (iO s c) 2 + nI (min w q))).1 (iO s j) 2 = if j = c then (if c = e then z.1.1 (iO s e) 2 - nI (min w q) else z.1.1 (iO s c) 2) + nI (min w q) else if j = e then z.1.1 (iO s e) 2 - nI (min w q) else z.1.1 (iO s j) 2 := fun j hj => by
          rw [puO, puO, puO, puLO _ _ _ _ _ _ hc6, puLO _ _ _ _ _ _ hj]
        generalize pu (pu (pu z.1 (iL s l) 2 (nI w - nI (min w q))) (iO s e) 2 (z.1.1 (iO s e) 2 - nI (min w q))) (iO s c) 2 ((pu (pu z.1 (iL s l) 2 (nI w - nI (min w q))) (iO s e) 2 (z.1.1 (iO s e) 2 - nI (min w q))).1 (iO s c) 2 + nI (min w q)) = P at nL nl nO
        refine ⟨by dsimp only; rw [i1], ?_, fun q2 hq2 => (nL q2 (by omega)).trans (i3 q2 (by omega)), fun j hj => ?_, ⟨q - min w q, by omega, by dsimp only; rw [i5, pk_sub (Nat.min_le_right _ _)]⟩, hN2.2⟩
        · dsimp only
          rw [map_cg (f := cTr P s) (g := cTr z.1 s) (fun i hi => cTr_cg (nL i (by omega))), i2]
          refine congrArg (fun y => F.2.1 ++ [y]) ?_
          show (P.1 (iL s l) 0, P.1 (iL s l) 1, P.1 (iL s l) 2) = (τ.1 (iL s l) 0, τ.1 (iL s l) 1, nI w - nI (min w q))
          rw [nl, nl, nl, upd_n _ _ _ _ (by decide), upd_n _ _ _ _ (by decide), upd_s, eL]
        · dsimp only
          rw [nO j hj]
          unfold dl
          have hj4 := i4 j hj
          by_cases hjc : j = c
          · rw [if_pos hjc, if_pos hjc]
            by_cases hje : j = e
            · rw [if_pos (by omega), if_pos hje, ← hje, hj4, Int32.sub_eq_add_neg, Int32.add_assoc, Int32.add_assoc, Int32.add_assoc]
            · rw [if_neg (by omega), if_neg hje, ← hjc, hj4, Int32.add_assoc]
          · rw [if_neg hjc, if_neg hjc]
            by_cases hje : j = e
            · rw [if_pos hje, if_pos hje, ← hje, hj4, Int32.sub_eq_add_neg, Int32.add_assoc]
            · rw [if_neg hje, if_neg hje, hj4]
      · exact none (by unfold payStep; rw [if_neg h0, if_pos hd]) (by unfold pyS; rw [if_neg (by rw [← eTr]; exact hd)])

theorem drop_ls {s : Nat} {σ : fM} {m : Nat} (hm : m ≤ 8) : ∀ l, l ≤ m → (List.range (dropF s (σ, 0) l).2).map (cTr (dropF s (σ, 0) l).1 s) = ((List.range l).map (cTr σ s)).filter pos
  | 0, _ => rfl
  | l + 1, h => by
    have ih := drop_ls (s := s) (σ := σ) hm l (by omega)
    obtain ⟨h1, -⟩ := dropF_L (s := s) (σ := σ) hm l (by omega)
    rw [map_s, List.filter_append, ← ih]
    show (List.range (dropStep s l (dropF s (σ, 0) l)).2).map (cTr (dropStep s l (dropF s (σ, 0) l)).1 s) = _
    generalize dropF s (σ, 0) l = z at h1 ih
    have eL : z.1.1 (iL s l) = σ.1 (iL s l) := h1 l (Nat.le_refl l)
    unfold dropStep
    by_cases hw : z.1.1 (iL s l) 2 ≤ 0
    · rw [if_pos hw, List.filter_cons_of_neg (by unfold pos cTr; rw [← eL, decide_eq_true hw]; decide)]
      exact (List.append_nil _).symm
    · rw [if_neg hw, List.filter_cons_of_pos (by unfold pos cTr; rw [← eL, decide_eq_false hw]; rfl)]
      show (List.range (z.2 + 1)).map (cTr (puR z.1 (iL s z.2) (lCopy (z.1.1 (iL s l)) (z.1.1 (iL s z.2)))) s) = _
      rw [map_s, map_cg (g := cTr z.1 s) (fun i hi => cTr_cg (puR_ne _ (fun e => by have := iL_inj s _ _ e; omega)))]
      refine congrArg (fun y => (List.range z.2).map (cTr z.1 s) ++ [y]) ?_
      unfold cTr
      rw [puR_self, lCopy_j _ _ (by decide), lCopy_j _ _ (by decide), lCopy_j _ _ (by decide), eL]
def dwF (sd sk : Nat → Int32) (k : Int32) (j : Nat) : Int32 := if sd j = k then 0 else sk j
theorem cLs_O (σ : fM) (s m i : Nat) (hi : i < 6) (v : Int32) : cLs (pu σ (iO s i) 2 v) s m = cLs σ s m := map_cg (fun l _ => cTr_cg (pu_ne _ (by unfold iO iL; omega)))
theorem add_subc (a b : Int32) : a + b - b = a := by rw [Int32.sub_eq_add_neg, Int32.add_assoc, Int32.add_right_neg, Int32.add_zero]
theorem sumF_cg {a : Int32} {f g : Nat → Int32} : ∀ {n : Nat}, (∀ i, i < n → f i = g i) → sumF a f n = sumF a g n
  | 0, _ => rfl
  | n + 1, h => by
    show sumF a f n + f n = sumF a g n + g n
    rw [sumF_cg (fun i hi => h i (Nat.lt_succ_of_lt hi)), h n (Nat.lt_succ_self n)]
theorem frm2.T {s : Nat} {σ τ : fM} (h : frm2 s σ τ) (i : Nat) (hi : i < 6) : τ.1 (iT s i) = σ.1 (iT s i) := by
  funext j
  exact h.2 _ j (fun _ => ⟨fun q _ => (iO_T s q s i).symm, fun l _ => by unfold iT iL; omega⟩)
theorem drop_2 (s : Nat) (σ : fM) : ∀ l, (dropF s (σ, 0) l).1.2 = σ.2
  | 0 => rfl
  | l + 1 => by
    show (dropStep s l (dropF s (σ, 0) l)).1.2 = _
    unfold dropStep
    split
    · exact drop_2 s σ l
    · exact drop_2 s σ l
theorem setl_rest {σ : fM} {s n m : Nat} (k : Int32) (hc : cnt σ s n m) (hcr : crd σ s m) : (setlM σ s n m k).2 = σ.2 ∧ (∀ i, i < 6 → (setlM σ s n m k).1 (iT s i) = σ.1 (iT s i)) ∧ (setlM σ s n m k).1 (iSet s) = σ.1 (iSet s) ∧ ∀ j, ¬ j = 4 → ¬ j = 5 → ¬ j = 8 → (setlM σ s n m k).1 (iS s) j = σ.1 (iS s) j := by
  have hf := setlZ_frm k hc hcr
  unfold setlM
  split
  · exact ⟨rfl, fun _ _ => rfl, rfl, fun _ _ _ _ => rfl⟩
  · split
    · refine ⟨?_, fun i hi => ?_, ?_, fun j h4 h5 h8 => ?_⟩
      · unfold dropM
        show (dropF s _ m).1.2 = _
        rw [drop_2]
        exact hf.1
      · unfold dropM
        rw [pu_ne _ (iT_S s i s hi), dropF_ne (fun l hl => (iL_T s l s i hl hi).symm) m hc.2.2.2, pu_ne _ (iT_S s i s hi), hf.T i hi, pu_ne _ (iT_S s i s hi)]
      · unfold dropM
        rw [pu_ne _ (iS_Set s s).symm, dropF_ne (fun l hl => (iL_Set s l s hl).symm) m hc.2.2.2, pu_ne _ (iS_Set s s).symm]
        funext j
        rw [hf.Set, pu_ne _ (iS_Set s s).symm]
      · unfold dropM
        rw [pu_upd, upd_n _ _ _ _ h4, dropF_S s hc.2.2.2, pu_upd, upd_n _ _ _ _ h5, hf.S, pu_upd, upd_n _ _ _ _ h8]
    · exact ⟨rfl, fun _ _ => rfl, rfl, fun _ _ _ _ => rfl⟩
theorem neg_addc (a b : Int32) : a + - b + b = a := by rw [Int32.add_assoc, Int32.add_left_neg, Int32.add_zero]
theorem oNote_v (f : Nat → Int32) (w : Int32) (p : Nat) (hp : p < 9) : oNote f w p = if p = 8 then (if f 2 = 0 then f 8 + 1 else f 8) else if p = 7 then (2 * f 7 + (if w = 0 then 0 else 1)) &&& 65535 else if p = (if w = 0 then 6 else 5) then f p + 1 else f p := by
  unfold oNote
  rcases (show p = 0 ∨ p = 1 ∨ p = 2 ∨ p = 3 ∨ p = 4 ∨ p = 5 ∨ p = 6 ∨ p = 7 ∨ p = 8 by omega) with rfl | rfl | rfl | rfl | rfl | rfl | rfl | rfl | rfl <;> by_cases hw : w = 0 <;> by_cases h2 : f 2 = 0 <;> simp [upd, hw, h2]
theorem iS_inj {a b : Nat} (h : iS a = iS b) : a = b := by unfold iS at h; omega
theorem keepM_1 {σ : fM} {f z n m : Nat} (hn : n ≤ 6) (hm : m ≤ 8) (hp : pst σ f z) : pst (keepM σ f z n m) (if z < 4 then f else (f + 1) % 4) (if z < 4 then z + 1 else z) := by
  obtain ⟨h1, h2, h3, h4⟩ := hp
  have hc : (copyM σ (2 + (f + z) % 4) 0 n m).1 1 = σ.1 1 := copyM_ne hn hm (by omega)
  unfold keepM
  try dsimp only
  by_cases hz : z < 4
  · rw [if_pos hz, if_pos hz, if_pos hz]
    exact ⟨by rw [pu_upd, upd_n _ _ _ _ (by decide), hc]; exact h1, by rw [pu_upd, upd_s], h3, by omega⟩
  · rw [if_neg hz, if_neg hz, if_neg hz]
    exact ⟨by rw [pu_upd, upd_s], by rw [pu_upd, upd_n _ _ _ _ (by decide), hc]; exact h2, Nat.mod_lt _ (by decide), h4⟩
theorem keepM_q {σ : fM} {f z n m q : Nat} (hq : q ≠ 1) : (keepM σ f z n m).1 q = (copyM σ (2 + (f + z) % 4) 0 n m).1 q := by
  unfold keepM
  try dsimp only
  split
  · exact pu_ne _ hq
  · exact pu_ne _ hq
