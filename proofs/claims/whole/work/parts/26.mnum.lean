/-! the model: purses and loans behind a branch, as numbers -/
def sumN (p : Nat → Nat) : Nat → Nat
  | 0 => 0
  | n + 1 => sumN p n + p n
def updN (p : Nat → Nat) (i v : Nat) : Nat → Nat := fun j => if j = i then v else p j
theorem sumN_cg {p q : Nat → Nat} : ∀ {n : Nat}, (∀ i, i < n → p i = q i) → sumN p n = sumN q n
  | 0, _ => rfl
  | n + 1, h => by
    show sumN p n + p n = sumN q n + q n
    rw [sumN_cg (fun i hi => h i (Nat.lt_succ_of_lt hi)), h n (Nat.lt_succ_self n)]
theorem sumN_upd {p : Nat → Nat} {i v : Nat} : ∀ {n : Nat}, i < n → sumN (updN p i v) n + p i = sumN p n + v
  | 0, h => absurd h (Nat.not_lt_zero i)
  | n + 1, h => by
    show sumN (updN p i v) n + updN p i v n + p i = sumN p n + p n + v
    by_cases hi : i = n
    · subst hi
      rw [sumN_cg (q := p) (fun j hj => by unfold updN; rw [if_neg (by omega)])]
      unfold updN
      rw [if_pos rfl]
      omega
    · have ih := sumN_upd (p := p) (v := v) (show i < n by omega)
      have e : updN p i v n = p n := by unfold updN; rw [if_neg (fun q => hi q.symm)]
      omega
theorem sumN_le {p : Nat → Nat} {i : Nat} : ∀ {n : Nat}, i < n → p i ≤ sumN p n
  | 0, h => absurd h (Nat.not_lt_zero i)
  | n + 1, h => by
    show p i ≤ sumN p n + p n
    by_cases hi : i = n
    · rw [hi]; omega
    · have := sumN_le (p := p) (show i < n by omega); omega
theorem sumN_mono {p q : Nat → Nat} : ∀ {n : Nat}, (∀ i, i < n → p i ≤ q i) → sumN p n ≤ sumN q n
  | 0, _ => Nat.le_refl 0
  | n + 1, h => by
    have := sumN_mono (n := n) (fun i hi => h i (Nat.lt_succ_of_lt hi))
    have h2 := h n (Nat.lt_succ_self n)
    show sumN p n + p n ≤ sumN q n + q n
    omega
theorem sumN_c {p : Nat → Nat} {c : Nat} : ∀ {n : Nat}, (∀ i, i < n → p i ≤ c) → sumN p n ≤ n * c
  | 0, _ => by show 0 ≤ _; omega
  | n + 1, h => by
    have := sumN_c (n := n) (fun i hi => h i (Nat.lt_succ_of_lt hi))
    have h2 := h n (Nat.lt_succ_self n)
    show sumN p n + p n ≤ _
    rw [Nat.succ_mul]
    omega
theorem sumN_sub {p w : Nat → Nat} : ∀ {n : Nat}, (∀ i, i < n → w i ≤ p i) → sumN (fun i => p i - w i) n + sumN w n = sumN p n
  | 0, _ => rfl
  | n + 1, h => by
    have ih := sumN_sub (n := n) (fun i hi => h i (Nat.lt_succ_of_lt hi))
    have h2 := h n (Nat.lt_succ_self n)
    show sumN (fun i => p i - w i) n + (p n - w n) + (sumN w n + w n) = sumN p n + p n
    omega
theorem sumN_div (L R : Nat) (q : Nat → Nat) : ∀ n, sumN (fun o => L * q o / R) n * R ≤ L * sumN q n
  | 0 => by show 0 * R ≤ _; omega
  | n + 1 => by
    have ih := sumN_div L R q n
    have h := Nat.div_mul_le_self (L * q n) R
    show (sumN (fun o => L * q o / R) n + L * q n / R) * R ≤ L * (sumN q n + q n)
    rw [Nat.add_mul, Nat.mul_add]
    omega
theorem sumF_N {f : Nat → Int32} {p : Nat → Nat} : ∀ {n : Nat}, (∀ i, i < n → f i = nI (p i)) → sumF 0 f n = nI (sumN p n)
  | 0, _ => rfl
  | n + 1, h => by
    show sumF 0 f n + f n = nI (sumN p n + p n)
    rw [sumF_N (fun i hi => h i (Nat.lt_succ_of_lt hi)), h n (Nat.lt_succ_self n), nI_add]
theorem nI_sub' {a c : Nat} (h : c ≤ a) : nI a + - nI c = nI (a - c) := by rw [← Int32.sub_eq_add_neg, pk_sub h]
/-- the purses are these numbers -/
def pus (r : Nat → Int32) (n : Nat) (p : Nat → Nat) : Prop := ∀ i, i < n → mo r i 2 = nI (p i)
theorem mo_addR (r : Nat → Int32) (i j : Nat) (v : Int32) : mo (addR r i 2 v) j 2 = if j = i then mo r i 2 + v else mo r j 2 := by
  unfold addR mo upd
  by_cases h : j = i
  · rw [if_pos h, if_pos (by omega)]
  · rw [if_neg h, if_neg (by omega)]
theorem pus_v {r : Nat → Int32} {n i w : Nat} {p : Nat → Nat} {v : Int32} (h : pus r n p) (hv : mo r i 2 + v = nI w) : pus (addR r i 2 v) n (updN p i w) := fun j hj => by
  rw [mo_addR]
  unfold updN
  split
  · exact hv
  · exact h j hj
theorem pus_sub {r : Nat → Int32} {n i c : Nat} {p : Nat → Nat} (h : pus r n p) (hi : i < n) (hc : c ≤ p i) : pus (addR r i 2 (- nI c)) n (updN p i (p i - c)) := pus_v h (by rw [h i hi, nI_sub' hc])
theorem pus_add {r : Nat → Int32} {n i c : Nat} {p : Nat → Nat} (h : pus r n p) (hi : i < n) : pus (addR r i 2 (nI c)) n (updN p i (p i + c)) := pus_v h (by rw [h i hi, nI_add])
/-- loans as they should be -/
def lgo (r : Nat → Int32) (n m : Nat) : Prop := ∀ l, l < m → (∃ c : Nat, c < n ∧ ml r l 0 = nI c) ∧ (∃ d : Nat, d < n ∧ ml r l 1 = nI d) ∧ ∃ w : Nat, 1 ≤ w ∧ w ≤ 9999 ∧ ml r l 2 = nI w
theorem lgo_cr {r : Nat → Int32} {n m : Nat} (hn : n ≤ 6) (h : lgo r n m) : mcr r m := fun l hl => by
  obtain ⟨⟨c, h1, h2⟩, -⟩ := h l hl
  exact ⟨c, by omega, h2⟩
theorem lgo_cg {r r' : Nat → Int32} {n m : Nat} (h : lgo r n m) (e : ∀ l j, l < m → j < 3 → ml r' l j = ml r l j) : lgo r' n m := fun l hl => by
  rw [e l 0 hl (by decide), e l 1 hl (by decide), e l 2 hl (by decide)]
  exact h l hl
def mpJ (n o : Nat) (p0 : Nat → Nat) (z : mpZ) : Prop := ∃ (p : Nat → Nat) (q : Nat), pus z.1 n p ∧ z.2.1 = nI q ∧ q ≤ p o ∧ sumN p n = sumN p0 n ∧ lgo z.1 n z.2.2 ∧ ∀ j, j ≠ o → p0 j ≤ p j
theorem pus_ne {r r' : Nat → Int32} {n : Nat} {p : Nat → Nat} (h : pus r n p) (e : ∀ i, i < n → r' (73 + 42 * i + 2) = r (73 + 42 * i + 2)) : pus r' n p := fun i hi => (e i hi).trans (h i hi)
theorem mpF_J {r : Nat → Int32} {n m o g : Nat} {p0 : Nat → Nat} (hn6 : n ≤ 6) (hm8 : m ≤ 8) (ho : o < n) (hp : pus r n p0) (hl : lgo r n m) (hg : g ≤ p0 o) (hS : sumN p0 n < 2 ^ 24) : ∀ l, l ≤ m → mpJ n o p0 (mpF o (r, nI g, 0) l)
  | 0, _ => ⟨p0, g, hp, rfl, hg, rfl, fun l h => absurd h (Nat.not_lt_zero l), fun _ _ => Nat.le_refl _⟩
  | l + 1, h => by
    have ih := mpF_J hn6 hm8 ho hp hl hg hS l (by omega)
    have hI := mpF_I (r := r) (o := o) (m := m) (g := nI g) (by omega) (lgo_cr hn6 hl) l (by omega)
    show mpJ n o _ (mpStep o l (mpF o (r, nI g, 0) l))
    generalize mpF o (r, nI g, 0) l = z at ih hI
    obtain ⟨p, q, h1, h2, h3, h4, h5, h6⟩ := ih
    obtain ⟨i1, i2, -⟩ := hI
    have eL : ∀ j, j < 3 → ml z.1 l j = ml r l j := fun j hj => i2 _ (notP_l l j) (Or.inr (by omega))
    obtain ⟨⟨c, hc, ec⟩, ⟨d, hd, ed⟩, w, hw1, hw2, ew⟩ := hl l (by omega)
    rw [← eL 0 (by decide)] at ec
    rw [← eL 1 (by decide)] at ed
    rw [← eL 2 (by decide)] at ew
    have hq : q < 2 ^ 24 := by have := sumN_le (p := p) ho; omega
    -- what is paid
    have key : ∃ x : Nat, x ≤ w ∧ x ≤ q ∧ mpP o l z = nI x ∧ ∃ p' : Nat → Nat, pus (mpR o l z) n p' ∧ sumN p' n = sumN p n ∧ q - x ≤ p' o ∧ (∀ j, j ≠ o → p j ≤ p' j) ∧ (if ml z.1 l 1 = nI o then z.2.1 - mpP o l z else z.2.1) = nI (q - x) := by
      by_cases hdo : ml z.1 l 1 = nI o
      · have hP : mpP o l z = nI (min w q) := by
          unfold mpP
          rw [if_pos hdo, ew, h2]
          by_cases hwq : w ≤ q
          · rw [if_pos (nI_le hwq (by omega)), Nat.min_eq_left hwq]
          · rw [if_neg (nI_ge (by omega) (by omega)), Nat.min_eq_right (by omega)]
        refine ⟨min w q, Nat.min_le_left _ _, Nat.min_le_right _ _, hP, ?_⟩
        have hx : min w q ≤ q := Nat.min_le_right _ _
        generalize min w q = x at hP hx
        have a1 := pus_sub (c := x) h1 ho (by omega)
        have a2 := pus_add (c := x) a1 hc
        have s1 := sumN_upd (p := p) (v := p o - x) ho
        have s2 := sumN_upd (p := updN p o (p o - x)) (v := updN p o (p o - x) c + x) hc
        refine ⟨updN (updN p o (p o - x)) c (updN p o (p o - x) c + x), ?_, ?_, ?_, fun j hj => ?_, ?_⟩
        · unfold mpR
          rw [if_pos hdo, hP, ec, nI_clamp (by omega)]
          exact a2
        · omega
        · have : p o - x ≤ updN (updN p o (p o - x)) c (updN p o (p o - x) c + x) o := by
            unfold updN
            by_cases hco : o = c
            · rw [if_pos hco, if_pos hco.symm]; omega
            · rw [if_neg hco, if_pos rfl]; omega
          omega
        · have : updN p o (p o - x) j = p j := by unfold updN; rw [if_neg hj]
          show p j ≤ updN (updN p o (p o - x)) c (updN p o (p o - x) c + x) j
          unfold updN at this ⊢
          by_cases hjc : j = c
          · rw [if_pos hjc, ← hjc, if_neg hj]; omega
          · rw [if_neg hjc, if_neg hj]; omega
        · rw [if_pos hdo, hP, h2, pk_sub hx]
      · refine ⟨0, by omega, by omega, by unfold mpP; rw [if_neg hdo]; rfl, p, by unfold mpR; rw [if_neg hdo]; exact h1, rfl, by omega, fun _ _ => Nat.le_refl _, by rw [if_neg hdo, h2]; rfl⟩
    obtain ⟨x, hx1, hx2, hP, p', b1, b2, b3, b5, b4⟩ := key
    have hR : ∀ {k : Nat}, notP k → mpR o l z k = z.1 k := fun hk => mpR_ne (by omega) ⟨c, by omega, ec⟩ hk
    have hW : mpW o l z = nI (w - x) := by unfold mpW; rw [ew, hP, pk_sub hx1]
    have hlR : lgo (mpR o l z) n z.2.2 := lgo_cg h5 (fun l' j _ _ => hR (notP_l l' j))
    unfold mpStep
    by_cases hw0 : mpW o l z ≤ 0
    · rw [if_pos hw0, if_pos hw0]
      exact ⟨p', q - x, b1, b4, b3, b2.trans h4, hlR, fun j hj => Nat.le_trans (h6 j hj) (b5 j hj)⟩
    · rw [if_neg hw0, if_neg hw0]
      have hwx : 1 ≤ w - x := by
        rw [hW] at hw0
        exact Nat.one_le_iff_ne_zero.mpr (fun e => hw0 (by rw [e]; decide))
      refine ⟨p', q - x, pus_ne b1 (fun i hi => put3_ne (by omega)), b4, b3, b2.trans h4, fun l' hl' => ?_, fun j hj => Nat.le_trans (h6 j hj) (b5 j hj)⟩
      have hl2 : l' < z.2.2 + 1 := hl'
      show (∃ c : Nat, c < n ∧ ml (put3 _ _ _ _ _) l' 0 = nI c) ∧ (∃ d : Nat, d < n ∧ ml (put3 _ _ _ _ _) l' 1 = nI d) ∧ ∃ w : Nat, 1 ≤ w ∧ w ≤ 9999 ∧ ml (put3 _ _ _ _ _) l' 2 = nI w
      by_cases hlz : l' = z.2.2
      · subst hlz
        obtain ⟨e0, e1, e2⟩ := put3_at (mpR o l z) z.2.2 (ml z.1 l 0) (ml z.1 l 1) (mpW o l z)
        rw [e0, e1, e2]
        exact ⟨⟨c, hc, ec⟩, ⟨d, hd, ed⟩, w - x, hwx, by omega, hW⟩
      · have en : ∀ j, j < 3 → ml (put3 (mpR o l z) z.2.2 (ml z.1 l 0) (ml z.1 l 1) (mpW o l z)) l' j = ml (mpR o l z) l' j := fun j hj => put3_ne (by omega)
        rw [en 0 (by decide), en 1 (by decide), en 2 (by decide)]
        exact hlR l' (by omega)
theorem mpay_J {r : Nat → Int32} {n m o g sh : Nat} {p : Nat → Nat} (hn6 : n ≤ 6) (hm8 : m ≤ 8) (ho : o < n) (hp : pus r n p) (hl : lgo r n m) (hsh : sh ≤ 100) (h2 : r 2 = nI sh) (hg : g ≤ p o) (hg2 : g < 2 ^ 20) (hS : sumN p n < 2 ^ 24) :
    ∃ p' : Nat → Nat, pus (mpay r m o (nI g)).1 n p' ∧ sumN p' n = sumN p n ∧ lgo (mpay r m o (nI g)).1 n (mpay r m o (nI g)).2 ∧ ∀ j, j ≠ o → p j ≤ p' j := by
  have hsg : g * sh / 100 ≤ g := by
    have : g * sh ≤ g * 100 := Nat.mul_le_mul_left g hsh
    omega
  have hlt : g * sh < 2 ^ 31 := by
    have : g * sh ≤ 2 ^ 20 * 100 := Nat.mul_le_mul (by omega) hsh
    omega
  have e : nI g * r 2 / 100 = nI (g * sh / 100) := by rw [h2, pk_mul, show (100 : Int32) = nI 100 by decide, pk_div hlt (by decide) (by decide)]
  obtain ⟨p', q, a1, -, -, a4, a5, a6⟩ := mpF_J hn6 hm8 ho hp hl (Nat.le_trans hsg hg) hS m (Nat.le_refl m)
  have hz : (mpF o (r, nI (g * sh / 100), 0) m).2.2 ≤ 8 := by
    have := (mpF_I (r := r) (o := o) (m := m) (g := nI (g * sh / 100)) (by omega) (lgo_cr hn6 hl) m (Nat.le_refl m)).1
    omega
  unfold mpay
  rw [e]
  dsimp only
  exact ⟨p', pus_ne a1 (fun i hi => upd_n _ _ _ _ (by omega)), a4, lgo_cg a5 (fun l j _ _ => upd_n _ _ _ _ (by omega)), a6⟩
/-- what is staked by those who bet -/
def sto (tp sk : Nat → Int32) (n : Nat) (p s : Nat → Nat) : Prop := ∀ o, o < n → tp o = 1 → s o ≤ p o ∧ s o ≤ 100 ∧ sk o = nI (s o)
def wrN (tp sd : Nat → Int32) (k : Int32) (s : Nat → Nat) (o : Nat) : Nat := if tp o = 1 then (if sd o = k then 0 else s o) else 0
def rtN (tp sd : Nat → Int32) (k : Int32) (s : Nat → Nat) (o : Nat) : Nat := if tp o = 1 then (if sd o = k then s o else 0) else 0
section BETS
variable {tp sd sk r : Nat → Int32} {k : Int32} {n m : Nat} {p s : Nat → Nat}
theorem mbW_N (hs : sto tp sk n p s) : mbW tp sd sk k n = nI (sumN (wrN tp sd k s) n) := sumF_N (fun i hi => by
  unfold wrN
  by_cases ht : tp i = 1
  · rw [if_pos ht, if_pos ht]
    split
    · rfl
    · exact (hs i hi ht).2.2
  · rw [if_neg ht, if_neg ht]; rfl)
theorem mbR_N (hs : sto tp sk n p s) : mbR tp sd sk k n = nI (sumN (rtN tp sd k s) n) := sumF_N (fun i hi => by
  unfold rtN
  by_cases ht : tp i = 1
  · rw [if_pos ht, if_pos ht]
    split
    · exact (hs i hi ht).2.2
    · rfl
  · rw [if_neg ht, if_neg ht]; rfl)
theorem wrN_le (hs : sto tp sk n p s) {o : Nat} (ho : o < n) : wrN tp sd k s o ≤ p o ∧ wrN tp sd k s o ≤ 100 := by
  unfold wrN
  split
  · rename_i ht
    obtain ⟨h1, h2, -⟩ := hs o ho ht
    split <;> omega
  · omega
theorem rtN_le (hs : sto tp sk n p s) {o : Nat} (ho : o < n) : rtN tp sd k s o ≤ 100 := by
  unfold rtN
  split
  · rename_i ht
    obtain ⟨h1, h2, -⟩ := hs o ho ht
    split <;> omega
  · omega
theorem mb1_J (hs : sto tp sk n p s) (hp : pus r n p) : ∀ i, i ≤ n → pus (mb1 tp sd sk k r i) n (fun j => if j < i then p j - wrN tp sd k s j else p j)
  | 0, _ => fun j hj => by dsimp only; rw [if_neg (Nat.not_lt_zero j)]; exact hp j hj
  | i + 1, h => by
    have ih := mb1_J hs hp i (by omega)
    have hw := (wrN_le (sd := sd) (k := k) hs (show i < n by omega)).1
    have e : (if tp i = 1 then (if sd i = k then 0 else - sk i) else 0) = - nI (wrN tp sd k s i) := by
      unfold wrN
      by_cases ht : tp i = 1
      · rw [if_pos ht, if_pos ht]
        split
        · rfl
        · rw [(hs i (by omega) ht).2.2]
      · rw [if_neg ht, if_neg ht]; rfl
    intro j hj
    show mo (addR (mb1 tp sd sk k r i) i 2 _) j 2 = _
    rw [e, mo_addR]
    dsimp only
    have ihi := ih i (by omega)
    have ihj := ih j hj
    dsimp only at ihi ihj
    rw [if_neg (Nat.lt_irrefl i)] at ihi
    by_cases hji : j = i
    · rw [if_pos hji, if_pos (by omega), ihi, nI_sub' hw, hji]
    · rw [if_neg hji, ihj]
      by_cases h2 : j < i
      · rw [if_pos h2, if_pos (by omega)]
      · rw [if_neg h2, if_neg (by omega)]
/-- purses and loans behind the bets -/
theorem mbM_J (hn6 : n ≤ 6) (hm8 : m ≤ 8) (h8 : r 8 = nI m) (hs : sto tp sk n p s) (hp : pus r n p) (hl : lgo r n m) (hc : ∃ c : Nat, c ≤ 50 ∧ r 1 = nI c) (hsh : ∃ c : Nat, c ≤ 100 ∧ r 2 = nI c) (hS : sumN p n < 2 ^ 24 - 2 ^ 12) :
    ∃ p' : Nat → Nat, pus (mbM tp sd sk r n m k) n p' ∧ sumN p' n ≤ sumN p n ∧ lgo (mbM tp sd sk r n m k) n (mbN tp sd sk r n m k) ∧ ∀ j, j < n → ¬ tp j = 1 → p j ≤ p' j := by
  have hW := mbW_N (sd := sd) (k := k) hs
  have hR := mbR_N (sd := sd) (k := k) hs
  have w6 : sumN (wrN tp sd k s) n ≤ 600 := by
    have := sumN_c (p := wrN tp sd k s) (c := 100) (n := n) (fun i hi => (wrN_le hs hi).2)
    omega
  have r6 : sumN (rtN tp sd k s) n ≤ 600 := by
    have := sumN_c (p := rtN tp sd k s) (c := 100) (n := n) (fun i hi => rtN_le hs hi)
    omega
  have hsub := sumN_sub (p := p) (w := wrN tp sd k s) (n := n) (fun i hi => (wrN_le hs hi).1)
  have h1 := mb1_J (sd := sd) (k := k) hs hp n (Nat.le_refl n)
  have h1' : pus (mb1 tp sd sk k r n) n (fun j => p j - wrN tp sd k s j) := fun j hj => by
    have := h1 j hj
    dsimp only at this ⊢
    rw [if_pos hj] at this
    exact this
  generalize hw : sumN (wrN tp sd k s) n = Wn at hW w6 hsub
  generalize hr : sumN (rtN tp sd k s) n = Rn at hR r6
  unfold mbM mbN
  by_cases hw0 : mbW tp sd sk k n = 0
  · rw [if_pos hw0, if_pos hw0]
    exact ⟨p, hp, Nat.le_refl _, hl, fun _ _ _ => Nat.le_refl _⟩
  · rw [if_neg hw0, if_neg hw0]
    by_cases hr0 : mbR tp sd sk k n = 0
    · rw [if_pos hr0, if_pos hr0]
      exact ⟨p, hp, Nat.le_refl _, hl, fun _ _ _ => Nat.le_refl _⟩
    · rw [if_neg hr0, if_neg hr0]
      have hRpos : 0 < Rn := Nat.pos_of_ne_zero (fun e => hr0 (by rw [hR, e]; rfl))
      obtain ⟨c, hc50, ec⟩ := hc
      obtain ⟨sh, hsh100, esh⟩ := hsh
      have hLe : mbLeft tp sd sk r n k = nI (Wn - Wn * c / 100) := by
        have : Wn * c ≤ 600 * 50 := Nat.mul_le_mul w6 hc50
        unfold mbLeft
        rw [hW, ec, pk_mul, show (100 : Int32) = nI 100 by decide, pk_div (by omega) (by decide) (by decide), pk_sub (by
          have : Wn * c ≤ Wn * 100 := Nat.mul_le_mul_left Wn (by omega)
          omega)]
      generalize hLv : Wn - Wn * c / 100 = Lv at hLe
      have hLv6 : Lv ≤ Wn := by omega
      have hg : ∀ o, o < n → mbG tp sd sk k (mbLeft tp sd sk r n k) (mbR tp sd sk k n) o = nI (Lv * rtN tp sd k s o / Rn) := fun o ho => by
        unfold mbG rtN
        by_cases ht : tp o = 1
        · rw [if_pos ht, if_pos ht]
          by_cases hd : sd o = k
          · obtain ⟨b1, b2, b3⟩ := hs o ho ht
            have : Lv * s o ≤ 600 * 100 := Nat.mul_le_mul (by omega) b2
            rw [if_pos hd, if_pos hd, hLe, hR, b3, pk_mul, pk_div (by omega) hRpos (by omega)]
          · rw [if_neg hd, if_neg hd, Nat.mul_zero, Nat.zero_div]; rfl
        · rw [if_neg ht, if_neg ht, Nat.mul_zero, Nat.zero_div]; rfl
      have gle : ∀ i, i ≤ n → sumN (fun o => Lv * rtN tp sd k s o / Rn) i ≤ Lv := fun i hi => by
        have h := sumN_div Lv Rn (rtN tp sd k s) i
        have h2 : sumN (rtN tp sd k s) i ≤ Rn := by
          have : ∀ j, sumN (rtN tp sd k s) i ≤ sumN (rtN tp sd k s) (i + j) := fun j => by
            induction j with
            | zero => exact Nat.le_refl _
            | succ j ih => exact Nat.le_trans ih (Nat.le_add_right _ _)
          have h3 := this (n - i)
          rw [show i + (n - i) = n by omega, hr] at h3
          exact h3
        have h4 : Lv * sumN (rtN tp sd k s) i ≤ Lv * Rn := Nat.mul_le_mul_left Lv h2
        exact Nat.le_of_mul_le_mul_right (Nat.le_trans h h4) hRpos
      -- the second round
      have key : ∀ i, i ≤ n → ∃ pz : Nat → Nat, pus (mbZ tp sd sk r n m k i).1 n pz ∧ sumN pz n = sumN (fun j => p j - wrN tp sd k s j) n + sumN (fun o => Lv * rtN tp sd k s o / Rn) i ∧ lgo (mbZ tp sd sk r n m k i).1 n (mbZ tp sd sk r n m k i).2.2 ∧ ∀ j, j < n → ¬ tp j = 1 → p j ≤ pz j := by
        intro i
        induction i with
        | zero => intro _; exact ⟨_, h1', rfl, lgo_cg hl (fun l j _ _ => mb1_ne (notP_l l j) n hn6), fun j hj ht => by unfold wrN; rw [if_neg ht]; exact Nat.le_refl _⟩
        | succ i ih =>
          intro hi
          obtain ⟨pz, a1, a2, a3, a4⟩ := ih (by omega)
          have hI := mbZ_I (tp := tp) (sd := sd) (sk := sk) (k := k) hn6 hm8 h8 (lgo_cr hn6 hl) i (by omega)
          have hgi := hg i (by omega)
          have hle := gle i (by omega)
          have hle1 := gle (i + 1) hi
          have hsum1 : sumN (fun o => Lv * rtN tp sd k s o / Rn) (i + 1) = sumN (fun o => Lv * rtN tp sd k s o / Rn) i + Lv * rtN tp sd k s i / Rn := rfl
          show ∃ pz : Nat → Nat, pus (mb2Step tp sd sk k _ _ i (mbZ tp sd sk r n m k i)).1 n pz ∧ _ ∧ lgo (mb2Step tp sd sk k _ _ i (mbZ tp sd sk r n m k i)).1 n (mb2Step tp sd sk k _ _ i (mbZ tp sd sk r n m k i)).2.2 ∧ _
          generalize mbZ tp sd sk r n m k i = z at a1 a3 hI
          unfold mb2Step
          rw [hgi]
          have hgi' := hgi
          generalize Lv * rtN tp sd k s i / Rn = g at hsum1 hgi hgi'
          by_cases h0 : nI g ≤ 0
          · rw [if_pos h0]
            have hg0 : g = 0 := by
              rcases Nat.eq_zero_or_pos g with e | e
              · exact e
              · exact absurd h0 (nI_nle e (by omega))
            exact ⟨pz, a1, by rw [hsum1, hg0, a2]; rfl, a3, a4⟩
          · rw [if_neg h0]
            have hin : i < n := by omega
            have b1 := pus_add (c := g) a1 hin
            have b2 := sumN_upd (p := pz) (v := pz i + g) hin
            obtain ⟨p', c1, c2, c3, c4⟩ := mpay_J (g := g) (sh := sh) hn6 (by have := hI.2.1; omega) hin b1 (lgo_cg a3 (fun l j _ _ => addR_ne (by omega))) hsh100 ((addR_ne (by omega)).trans ((hI.2.2.2 2 (notP_lo (by decide)) (by decide) (by decide)).trans esh)) (by unfold updN; rw [if_pos rfl]; omega) (by omega) (by omega)
            refine ⟨p', c1, by rw [c2, hsum1]; omega, c3, fun j hj ht => ?_⟩
            have hji : j ≠ i := fun e => by
              rw [e] at ht
              have h0' := hg i hin
              unfold mbG at h0'
              rw [if_neg ht] at h0'
              rw [← hgi'] at h0
              exact h0 (by unfold mbG; rw [if_neg ht]; decide)
            have := c4 j hji
            have e2 : updN pz i (pz i + g) j = pz j := by unfold updN; rw [if_neg hji]
            have := a4 j hj ht
            omega
      obtain ⟨pz, a1, a2, a3, a4⟩ := key n (Nat.le_refl n)
      have hle := gle n (Nat.le_refl n)
      exact ⟨pz, pus_ne a1 (fun i hi => by rw [upd_n _ _ _ _ (by omega), upd_n _ _ _ _ (by omega)]), by omega, lgo_cg a3 (fun l j _ _ => by unfold ml; rw [upd_n _ _ _ _ (by omega), upd_n _ _ _ _ (by omega)]), a4⟩
end BETS
