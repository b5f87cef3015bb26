/-! the law's branch -/
/-- words, stakes and purses ahead of it -/
def lw1 (Q O T : Nat → Int32) (a : Int32) (w : Nat → Int32) : Nat → Nat → Int32
  | 0 => w
  | i + 1 => upd (upd (upd (lw1 Q O T a w i) i (lY Q O T a i)) (5 + i) (lS Q O T a i)) (10 + i) (O (10 * i + 2))
theorem lw1_at {Q O T : Nat → Int32} {a : Int32} {w : Nat → Int32} {i : Nat} : ∀ {n : Nat}, i < n → n ≤ 5 → lw1 Q O T a w n i = lY Q O T a i ∧ lw1 Q O T a w n (5 + i) = lS Q O T a i ∧ lw1 Q O T a w n (10 + i) = O (10 * i + 2)
  | 0, h, _ => absurd h (Nat.not_lt_zero _)
  | n + 1, h, h5 => by
    show upd (upd (upd (lw1 Q O T a w n) n _) (5 + n) _) (10 + n) _ i = _ ∧ upd (upd (upd (lw1 Q O T a w n) n _) (5 + n) _) (10 + n) _ (5 + i) = _ ∧ upd (upd (upd (lw1 Q O T a w n) n _) (5 + n) _) (10 + n) _ (10 + i) = _
    by_cases hi : i = n
    · subst hi
      refine ⟨?_, ?_, ?_⟩
      · rw [upd_n _ _ _ _ (by omega), upd_n _ _ _ _ (by omega), upd_s]
      · rw [upd_n _ _ _ _ (by omega), upd_s]
      · rw [upd_s]
    · obtain ⟨a1, a2, a3⟩ := lw1_at (Q := Q) (O := O) (T := T) (a := a) (w := w) (show i < n by omega) (by omega)
      refine ⟨?_, ?_, ?_⟩
      · rw [upd_n _ _ _ _ (by omega), upd_n _ _ _ _ (by omega), upd_n _ _ _ _ (by omega)]; exact a1
      · rw [upd_n _ _ _ _ (by omega), upd_n _ _ _ _ (by omega), upd_n _ _ _ _ (by omega)]; exact a2
      · rw [upd_n _ _ _ _ (by omega), upd_n _ _ _ _ (by omega), upd_n _ _ _ _ (by omega)]; exact a3
def lWr (Q O T : Nat → Int32) (a tk : Int32) : Nat → Int32 := sumF 0 (fun i => if lY Q O T a i = tk then 0 else lS Q O T a i)
def lRi (Q O T : Nat → Int32) (a tk : Int32) : Nat → Int32 := sumF 0 (fun i => if lY Q O T a i = tk then lS Q O T a i else 0)
/-- those that are wrong pay -/
def lo1 (O w : Nat → Int32) (tk : Int32) : Nat → Nat → Int32
  | 0 => O
  | i + 1 => upd (lo1 O w tk i) (10 * i + 2) (lo1 O w tk i (10 * i + 2) - (if w i = tk then 0 else w (5 + i)))
/-- those that are right get: the house, the rows, the number of loans -/
abbrev lbT : Type := Int32 × (Nat → Int32) × (Nat → Int32) × (Nat → Int32) × Nat
def lbG (w : Nat → Int32) (tk W R : Int32) (i : Nat) (z : lbT) : Int32 := if w i = tk then (W - W * z.2.1 1 / 100) * w (5 + i) / R else 0
def lbO (w : Nat → Int32) (tk W R : Int32) (i : Nat) (z : lbT) : Nat → Int32 := upd z.2.2.1 (10 * i + 2) (z.2.2.1 (10 * i + 2) + lbG w tk W R i z)
def lbS (w : Nat → Int32) (tk W R : Int32) (i : Nat) (z : lbT) : lbT := if lbG w tk W R i z = 0 then z else
  (z.1 - lbG w tk W R i z, upd z.2.1 7 (nI (lpY z.2.1 (lbO w tk W R i z) z.2.2.2.1 z.2.2.2.2 i (lbG w tk W R i z)).2), (lpZ z.2.1 (lbO w tk W R i z) z.2.2.2.1 z.2.2.2.2 i (lbG w tk W R i z)).2.1, (lpY z.2.1 (lbO w tk W R i z) z.2.2.2.1 z.2.2.2.2 i (lbG w tk W R i z)).1, (lpY z.2.1 (lbO w tk W R i z) z.2.2.2.1 z.2.2.2.2 i (lbG w tk W R i z)).2)
def lbF (w : Nat → Int32) (tk W R : Int32) (z : lbT) : Nat → lbT
  | 0 => z
  | i + 1 => lbS w tk W R i (lbF w tk W R z i)
/-- loans are well: their number, their creditors -/
def lcr (Q V : Nat → Int32) (m : Nat) : Prop := Q 7 = nI m ∧ m ≤ 8 ∧ ∀ l, l < m → ∃ c : Nat, c < 5 ∧ V (3 * l) = nI c
theorem cp3_at (V : Nat → Int32) {a l : Nat} (h : a ≤ l) {j : Nat} (hj : j < 3) : cp3 V a l (3 * a + j) = V (3 * l + j) := by
  unfold cp3
  try dsimp only
  by_cases e : a = l
  · subst e
    rcases (show j = 0 ∨ j = 1 ∨ j = 2 by omega) with rfl | rfl | rfl
    · rw [upd_n _ _ _ _ (by omega), upd_n _ _ _ _ (by omega), upd_s]
    · rw [upd_n _ _ _ _ (by omega), upd_s, upd_n _ _ _ _ (by omega)]
    · rw [upd_s, upd_n _ _ _ _ (by omega), upd_n _ _ _ _ (by omega)]
  · rcases (show j = 0 ∨ j = 1 ∨ j = 2 by omega) with rfl | rfl | rfl
    · rw [upd_n _ _ _ _ (by omega), upd_n _ _ _ _ (by omega), upd_s]
    · rw [upd_n _ _ _ _ (by omega), upd_s, upd_n _ _ _ _ (by omega)]
    · rw [upd_s, upd_n _ _ _ _ (by omega), upd_n _ _ _ _ (by omega)]
theorem cp3_ne (V : Nat → Int32) {a l j : Nat} (h : ∀ i, i < 3 → j ≠ 3 * a + i) : cp3 V a l j = V j := by
  unfold cp3
  try dsimp only
  rw [upd_n _ _ _ _ (h 2 (by decide)), upd_n _ _ _ _ (h 1 (by decide)), upd_n _ _ _ _ (h 0 (by decide))]
/-- the loans that stay are some of those that were there -/
theorem ldF_V (V : Nat → Int32) : ∀ l, (∀ q j, l ≤ q → j < 3 → (ldF V l).1 (3 * q + j) = V (3 * q + j)) ∧ ∀ q, q < (ldF V l).2 → ∃ r, r < l ∧ ∀ j, j < 3 → (ldF V l).1 (3 * q + j) = V (3 * r + j)
  | 0 => ⟨fun _ _ _ _ => rfl, fun q h => absurd h (Nat.not_lt_zero q)⟩
  | l + 1 => by
    obtain ⟨h1, h2⟩ := ldF_V V l
    have hle := ldF_le V l
    show (∀ q j, l + 1 ≤ q → j < 3 → (ldS l (ldF V l)).1 (3 * q + j) = _) ∧ ∀ q, q < (ldS l (ldF V l)).2 → ∃ r, r < l + 1 ∧ ∀ j, j < 3 → (ldS l (ldF V l)).1 (3 * q + j) = _
    generalize ldF V l = z at h1 h2 hle
    unfold ldS
    split
    · exact ⟨fun q j hq hj => h1 q j (by omega) hj, fun q hq => by obtain ⟨r, hr, e⟩ := h2 q hq; exact ⟨r, by omega, e⟩⟩
    · refine ⟨fun q j hq hj => ?_, fun q hq => ?_⟩
      · show cp3 z.1 z.2 l _ = _
        rw [cp3_ne _ (fun i hi => by omega)]
        exact h1 q j (by omega) hj
      · have hq' : q < z.2 + 1 := hq
        by_cases hqz : q = z.2
        · subst hqz
          exact ⟨l, by omega, fun j hj => (cp3_at z.1 hle hj).trans (h1 l j (Nat.le_refl l) hj)⟩
        · obtain ⟨r, hr, e⟩ := h2 q (by omega)
          exact ⟨r, by omega, fun j hj => (cp3_ne z.1 (fun i hi => by omega)).trans (e j hj)⟩
theorem lpF_O (k : Nat) (z : lpT) (hcr : ∀ l, ∃ c : Nat, (z.2.2 (3 * l)).toNatClampNeg = c) {j : Nat} (h : j % 10 ≠ 2) : ∀ l, (lpF k z l).2.1 j = z.2.1 j
  | 0 => rfl
  | l + 1 => by
    show (lpS k l (lpF k z l)).2.1 j = _
    rw [← lpF_O k z hcr h l]
    unfold lpS
    split
    · show upd (upd _ _ _) _ _ j = _
      rw [upd_n _ _ _ _ (by omega), upd_n _ _ _ _ (by omega)]
    · rfl
theorem lpZ_O {Q O V : Nat → Int32} {m k : Nat} {g : Int32} {j : Nat} (h : j % 10 ≠ 2) : (lpZ Q O V m k g).2.1 j = O j := lpF_O k _ (fun l => ⟨_, rfl⟩) h m
theorem lcr_pay {Q O V : Nat → Int32} {m k : Nat} {g : Int32} (h : lcr Q V m) : lcr (upd Q 7 (nI (lpY Q O V m k g).2)) (lpY Q O V m k g).1 (lpY Q O V m k g).2 := by
  have hle := ldF_le (lpZ Q O V m k g).2.2 m
  have hle' : (lpY Q O V m k g).2 ≤ m := hle
  refine ⟨upd_s _ _ _, by have := h.2.1; omega, fun l hl => ?_⟩
  obtain ⟨r, hr, e⟩ := (ldF_V (lpZ Q O V m k g).2.2 m).2 l hl
  obtain ⟨c, h1, h2⟩ := h.2.2 r hr
  have e0 : (lpY Q O V m k g).1 (3 * l) = (lpZ Q O V m k g).2.2 (3 * r) := e 0 (by decide)
  refine ⟨c, h1, ?_⟩
  rw [e0]
  unfold lpZ
  rw [lpF_V k _ (by omega) m]
  exact h2
theorem lbF_I {w : Nat → Int32} {tk W R : Int32} {z : lbT} (h : lcr z.2.1 z.2.2.2.1 z.2.2.2.2) : ∀ i, lcr (lbF w tk W R z i).2.1 (lbF w tk W R z i).2.2.2.1 (lbF w tk W R z i).2.2.2.2 ∧ (∀ j, j % 10 ≠ 2 → (lbF w tk W R z i).2.2.1 j = z.2.2.1 j) ∧ (∀ j, j ≠ 7 → (lbF w tk W R z i).2.1 j = z.2.1 j) ∧ (lbF w tk W R z i).2.2.2.2 ≤ z.2.2.2.2
  | 0 => ⟨h, fun _ _ => rfl, fun _ _ => rfl, Nat.le_refl _⟩
  | i + 1 => by
    obtain ⟨h1, h2, h3, h4⟩ := lbF_I (w := w) (tk := tk) (W := W) (R := R) h i
    show lcr (lbS w tk W R i (lbF w tk W R z i)).2.1 (lbS w tk W R i (lbF w tk W R z i)).2.2.2.1 (lbS w tk W R i (lbF w tk W R z i)).2.2.2.2 ∧ (∀ j, j % 10 ≠ 2 → (lbS w tk W R i (lbF w tk W R z i)).2.2.1 j = _) ∧ (∀ j, j ≠ 7 → (lbS w tk W R i (lbF w tk W R z i)).2.1 j = _) ∧ (lbS w tk W R i (lbF w tk W R z i)).2.2.2.2 ≤ _
    generalize lbF w tk W R z i = y at h1 h2 h3 h4
    unfold lbS
    split
    · exact ⟨h1, h2, h3, h4⟩
    · refine ⟨lcr_pay h1, fun j hj => ?_, fun j hj => ?_, Nat.le_trans (ldF_le _ _) h4⟩
      · show (lpZ _ _ _ _ _ _).2.1 j = _
        rw [lpZ_O hj]
        unfold lbO
        rw [upd_n _ _ _ _ (by omega)]
        exact h2 j hj
      · show upd _ 7 _ j = _
        rw [upd_n _ _ _ _ hj]
        exact h3 j hj
theorem lo1_ne {O w : Nat → Int32} {tk : Int32} {j : Nat} (h : j % 10 ≠ 2) : ∀ i, lo1 O w tk i j = O j
  | 0 => rfl
  | i + 1 => by
    show upd _ _ _ j = _
    rw [upd_n _ _ _ _ (by omega)]
    exact lo1_ne h i
theorem lK_cg {O O' : Nat → Int32} (h : lK O) (e : ∀ j, j % 10 < 2 → O' j = O j) : lK O' := fun k hk => by
  rw [e _ (by omega), e _ (by omega)]
  exact h k hk
/-- records -/
def lrA (w : Nat → Int32) (tk : Int32) (i : Nat) (O : Nat → Int32) : Nat → Int32 := if O (10 * i + 3) < 0 then O else if w (10 + i) ≤ 0 then O else
  let O1 := upd O (10 * i + 4) (O (10 * i + 4) + (if w i = tk then 1 else 0))
  let O2 := upd O1 (10 * i + 5) (O1 (10 * i + 5) + (if w i = tk then 0 else 1))
  upd O2 (10 * i + 6) (((O2 (10 * i + 6) <<< (1 &&& 31)) ||| (if w i = tk then 1 else 0)) &&& 65535)
def lrB (w : Nat → Int32) (i : Nat) (O : Nat → Int32) : Nat → Int32 := upd O (10 * i + 7) (O (10 * i + 7) + (if w (10 + i) ≤ 0 then 0 else if O (10 * i + 2) = 0 then 1 else 0))
def lqv (tk c : Int32) : Int32 := if tk = 1 ∧ c < 3 then 1 else if tk = 0 ∧ 0 < c then -1 else 0
def lrT (a hi tk : Int32) (i : Nat) (O T : Nat → Int32) : Nat → Int32 := if oTab (ro O i) = true then upd T (8 * i + (oSlot (ro O i) a hi).toNatClampNeg) (T (8 * i + (oSlot (ro O i) a hi).toNatClampNeg) + lqv tk (T (8 * i + (oSlot (ro O i) a hi).toNatClampNeg))) else T
def lrF (w : Nat → Int32) (tk a hi : Int32) (z : (Nat → Int32) × (Nat → Int32)) : Nat → (Nat → Int32) × (Nat → Int32)
  | 0 => z
  | i + 1 => (lrB w i (lrA w tk i (lrF w tk a hi z i).1), lrT a hi tk i (lrB w i (lrA w tk i (lrF w tk a hi z i).1)) (lrF w tk a hi z i).2)
theorem lrA_ne {w O : Nat → Int32} {tk : Int32} {i j : Nat} (h : j % 10 < 4 ∨ j / 10 ≠ i) (h7 : j % 10 < 8) : lrA w tk i O j = O j := by
  unfold lrA
  split
  · rfl
  · split
    · rfl
    · dsimp only
      rw [upd_n _ _ _ _ (by omega), upd_n _ _ _ _ (by omega), upd_n _ _ _ _ (by omega)]
theorem lrF_K {w : Nat → Int32} {tk a hi : Int32} {z : (Nat → Int32) × (Nat → Int32)} : ∀ i, ∀ j, j % 10 < 4 → (lrF w tk a hi z i).1 j = z.1 j
  | 0, _, _ => rfl
  | i + 1, j, hj => by
    show lrB w i (lrA w tk i (lrF w tk a hi z i).1) j = _
    unfold lrB
    rw [upd_n _ _ _ _ (by omega), lrA_ne (Or.inl hj) (by omega)]
    exact lrF_K i j hj
/-- what is left, behind a branch -/
def lEQ (Q : Nat → Int32) (tk : Int32) : Nat → Int32 := upd (upd Q 3 (((Q 3 <<< (1 &&& 31)) ||| tk) &&& 255)) 5 (Q 5 + 1)

set_option maxRecDepth 100000 in
set_option maxHeartbeats 4000000 in
theorem sb_1 {l : Launch} {x : fC} {X : fX} {σ : fM} {b : Nat} {Q O T V w : Nat → Int32} {a tk : Int32} (h : Ok l x X cL_branch RL 3) (hL : xL x = 13) (hb : bk X b) (hH : lH O T) (K : G x X (put5 σ b Q O T V (lw1 Q O T a w 5)) [(0, .int a), (1, .int tk), (2, ra X (qI b)), (3, ra X (oI b)), (4, ra X (tI b)), (5, ra X (vI b)), (6, ra X 154), (7, .int (lWr Q O T a tk 5)), (8, .int (lRi Q O T a tk 5)), (9, .int (nI 5))] [] 120) : G x X (put5 σ b Q O T V w) [(0, .int a), (1, .int tk), (2, ra X (qI b)), (3, ra X (oI b)), (4, ra X (tI b)), (5, ra X (vI b)), (6, ra X 154)] [] 0 := by
  have LOOP : ∀ (q i : Nat), i + q = 5 → G x X (put5 σ b Q O T V (lw1 Q O T a w i)) [(0, .int a), (1, .int tk), (2, ra X (qI b)), (3, ra X (oI b)), (4, ra X (tI b)), (5, ra X (vI b)), (6, ra X 154), (7, .int (lWr Q O T a tk i)), (8, .int (lRi Q O T a tk i)), (9, .int (nI i))] [] 9 := by
    intro q
    induction q with
    | zero =>
      intro i hi 
      have hie : i = 5 := by omega
      rw [hie]
      refine g_iload h dL_branch_9 rfl ?_
      refine g_iconst (v := nI 5) h dL_branch_11 (by decide) ?_
      refine g_icge h 120 dL_branch_12 (by decide) (fun c12 => ?_) (fun c12 => absurd (Int32.le_refl _) c12)
      exact K
    | succ q ih =>
      intro i hi 
      have hlt : i < 5 := by omega
      refine g_iload h dL_branch_9 rfl ?_
      refine g_iconst (v := nI 5) h dL_branch_11 (by decide) ?_
      refine g_icge h 120 dL_branch_12 (by decide) (fun c12 => absurd c12 (nI_ge hlt (by decide))) (fun c12 => ?_)
      refine g_aload h dL_branch_15 rfl ?_
      refine g_iload h dL_branch_17 rfl ?_
      refine g_iload h dL_branch_19 rfl ?_
      refine g_iload_n h dL_branch_21 rfl ?_
      refine g_aload_n h dL_branch_22 rfl ?_
      refine g_aload_n h dL_branch_23 rfl ?_
      refine g_aload h dL_branch_24 rfl ?_
      refine clL_27 h (ct_L_says hb hH hlt) rfl dL_branch_26 rfl (Nat.le_of_ble_eq_true rfl) (by decide) ?_
      refine g_stw h (by omega) dL_branch_29 ?_
      refine g_aload h dL_branch_30 rfl ?_
      refine g_iconst (v := nI 5) h dL_branch_32 (by decide) ?_
      refine g_iload h dL_branch_33 rfl ?_
      refine g_iaddN h dL_branch_35 ?_
      refine g_iload h dL_branch_36 rfl ?_
      refine g_iload_n h dL_branch_38 rfl ?_
      refine g_aload_n h dL_branch_39 rfl ?_
      refine g_aload_n h dL_branch_40 rfl ?_
      refine g_aload h dL_branch_41 rfl ?_
      refine clL_30 h (ct_L_stake hb hH hlt) rfl dL_branch_43 rfl (Nat.le_of_ble_eq_true rfl) (by decide) ?_
      refine g_stw h (by omega) dL_branch_46 ?_
      refine g_aload h dL_branch_47 rfl ?_
      refine g_bipush (v := nI 10) h dL_branch_49 (by decide) ?_
      refine g_iload h dL_branch_51 rfl ?_
      refine g_iaddN h dL_branch_53 ?_
      refine g_aload_n h dL_branch_54 rfl ?_
      refine g_bipush (v := nI 10) h dL_branch_55 (by decide) ?_
      refine g_iload h dL_branch_57 rfl ?_
      refine g_imulN h dL_branch_59 ?_
      refine g_iconst (v := nI 2) h dL_branch_60 (by decide) ?_
      refine g_iaddN h dL_branch_61 ?_
      refine g_ldo h hb (by omega) dL_branch_62 ?_
      refine g_stw h (by omega) dL_branch_63 ?_
      refine g_iload h dL_branch_64 rfl ?_
      refine g_aload h dL_branch_66 rfl ?_
      refine g_iload h dL_branch_68 rfl ?_
      refine g_ldw h (by omega) dL_branch_70 ?_
      refine g_top (lY Q O T a i) (by rw [upd_n _ _ _ _ (by omega), upd_n _ _ _ _ (by omega), upd_s]) ?_
      refine g_iload_n h dL_branch_71 rfl ?_
      refine g_iceq h 85 dL_branch_72 (by decide) (fun c72 => ?_) (fun c72 => ?_)
      · refine g_iconst (v := 0) h dL_branch_85 (by decide) ?_
        refine g_iadd h dL_branch_86 ?_
        refine g_istore h dL_branch_87 (by rw [hL]; decide) ?_
        refine g_iload h dL_branch_89 rfl ?_
        refine g_aload h dL_branch_91 rfl ?_
        refine g_iload h dL_branch_93 rfl ?_
        refine g_ldw h (by omega) dL_branch_95 ?_
        refine g_top (lY Q O T a i) (by rw [upd_n _ _ _ _ (by omega), upd_n _ _ _ _ (by omega), upd_s]) ?_
        refine g_iload_n h dL_branch_96 rfl ?_
        refine g_icne h 110 dL_branch_97 (by decide) (fun c97 => absurd c72 c97) (fun c97 => ?_)
        refine g_aload h dL_branch_100 rfl ?_
        refine g_iconst (v := nI 5) h dL_branch_102 (by decide) ?_
        refine g_iload h dL_branch_103 rfl ?_
        refine g_iaddN h dL_branch_105 ?_
        refine g_ldw h (by omega) dL_branch_106 ?_
        refine g_top (lS Q O T a i) (by rw [upd_n _ _ _ _ (by omega), upd_s]) ?_
        refine g_goto h 111 dL_branch_107 (by decide) ?_
        refine g_iadd h dL_branch_111 ?_
        refine g_istore h dL_branch_112 (by rw [hL]; decide) ?_
        refine g_iincN h dL_branch_114 rfl (by rw [hL]; decide) ?_
        refine g_goto h 9 dL_branch_117 (by decide) ?_
        refine g_mem (put5 σ b Q O T V (lw1 Q O T a w (i + 1))) rfl ?_
        refine g_sub [(0, .int a), (1, .int tk), (2, ra X (qI b)), (3, ra X (oI b)), (4, ra X (tI b)), (5, ra X (vI b)), (6, ra X 154), (7, .int (lWr Q O T a tk (i + 1))), (8, .int (lRi Q O T a tk (i + 1))), (9, .int (nI (i + 1)))] ⟨rfl, rfl, rfl, rfl, rfl, rfl, rfl, (congrArg (fun z => some (Value.int z)) (by show _ = lWr Q O T a tk i + (if _ then _ else _); first | (simp [c12, c72, c97]; done) | (simp_all; done))), (congrArg (fun z => some (Value.int z)) (by show _ = lRi Q O T a tk i + (if _ then _ else _); first | (simp [c12, c72, c97]; done) | (simp_all; done))), rfl, trivial⟩ ?_
        exact ih (i + 1) (by omega)
      · refine g_aload h dL_branch_75 rfl ?_
        refine g_iconst (v := nI 5) h dL_branch_77 (by decide) ?_
        refine g_iload h dL_branch_78 rfl ?_
        refine g_iaddN h dL_branch_80 ?_
        refine g_ldw h (by omega) dL_branch_81 ?_
        refine g_top (lS Q O T a i) (by rw [upd_n _ _ _ _ (by omega), upd_s]) ?_
        refine g_goto h 86 dL_branch_82 (by decide) ?_
        refine g_iadd h dL_branch_86 ?_
        refine g_istore h dL_branch_87 (by rw [hL]; decide) ?_
        refine g_iload h dL_branch_89 rfl ?_
        refine g_aload h dL_branch_91 rfl ?_
        refine g_iload h dL_branch_93 rfl ?_
        refine g_ldw h (by omega) dL_branch_95 ?_
        refine g_top (lY Q O T a i) (by rw [upd_n _ _ _ _ (by omega), upd_n _ _ _ _ (by omega), upd_s]) ?_
        refine g_iload_n h dL_branch_96 rfl ?_
        refine g_icne h 110 dL_branch_97 (by decide) (fun c97 => ?_) (fun c97 => absurd c97 c72)
        refine g_iconst (v := 0) h dL_branch_110 (by decide) ?_
        refine g_iadd h dL_branch_111 ?_
        refine g_istore h dL_branch_112 (by rw [hL]; decide) ?_
        refine g_iincN h dL_branch_114 rfl (by rw [hL]; decide) ?_
        refine g_goto h 9 dL_branch_117 (by decide) ?_
        refine g_mem (put5 σ b Q O T V (lw1 Q O T a w (i + 1))) rfl ?_
        refine g_sub [(0, .int a), (1, .int tk), (2, ra X (qI b)), (3, ra X (oI b)), (4, ra X (tI b)), (5, ra X (vI b)), (6, ra X 154), (7, .int (lWr Q O T a tk (i + 1))), (8, .int (lRi Q O T a tk (i + 1))), (9, .int (nI (i + 1)))] ⟨rfl, rfl, rfl, rfl, rfl, rfl, rfl, (congrArg (fun z => some (Value.int z)) (by show _ = lWr Q O T a tk i + (if _ then _ else _); first | (simp [c12, c72, c97]; done) | (simp_all; done))), (congrArg (fun z => some (Value.int z)) (by show _ = lRi Q O T a tk i + (if _ then _ else _); first | (simp [c12, c72, c97]; done) | (simp_all; done))), rfl, trivial⟩ ?_
        exact ih (i + 1) (by omega)
  refine g_iconst (v := 0) h dL_branch_0 (by decide) ?_
  refine g_istore h dL_branch_1 (by rw [hL]; decide) ?_
  refine g_iconst (v := 0) h dL_branch_3 (by decide) ?_
  refine g_istore h dL_branch_4 (by rw [hL]; decide) ?_
  refine g_iconst (v := nI 0) h dL_branch_6 (by decide) ?_
  refine g_istore h dL_branch_7 (by rw [hL]; decide) ?_
  refine g_sub [(0, .int a), (1, .int tk), (2, ra X (qI b)), (3, ra X (oI b)), (4, ra X (tI b)), (5, ra X (vI b)), (6, ra X 154), (7, .int (lWr Q O T a tk 0)), (8, .int (lRi Q O T a tk 0)), (9, .int (nI 0))] ⟨rfl, rfl, rfl, rfl, rfl, rfl, rfl, rfl, rfl, rfl, trivial⟩ ?_
  exact LOOP 5 0 (by omega)

def lBt (W R : Int32) : Bool := decide (0 < W) && decide (0 < R)

set_option maxRecDepth 100000 in
set_option maxHeartbeats 4000000 in
theorem sb_2 {l : Launch} {x : fC} {X : fX} {σ : fM} {b : Nat} {Q O T V w : Nat → Int32} {a tk : Int32} (h : Ok l x X cL_branch RL 3) (hL : xL x = 13) (hb : bk X b) {W R : Int32} (K : G x X (put5 σ b Q O T V w) [(0, .int a), (1, .int tk), (2, ra X (qI b)), (3, ra X (oI b)), (4, ra X (tI b)), (5, ra X (vI b)), (6, ra X 154), (7, .int W), (8, .int R)] [.int (bi (lBt W R))] 135) : G x X (put5 σ b Q O T V w) [(0, .int a), (1, .int tk), (2, ra X (qI b)), (3, ra X (oI b)), (4, ra X (tI b)), (5, ra X (vI b)), (6, ra X 154), (7, .int W), (8, .int R)] [] 120 := by
  refine g_iload h dL_branch_120 rfl ?_
  refine g_ifle h 134 dL_branch_122 (by decide) (fun c122 => ?_) (fun c122 => ?_)
  · refine g_iconst (v := 0) h dL_branch_134 (by decide) ?_
    refine g_sub [(0, .int a), (1, .int tk), (2, ra X (qI b)), (3, ra X (oI b)), (4, ra X (tI b)), (5, ra X (vI b)), (6, ra X 154), (7, .int W), (8, .int R)] ⟨rfl, rfl, rfl, rfl, rfl, rfl, rfl, rfl, rfl, trivial⟩ ?_
    exact g_st [.int (bi (lBt W R))] (by unfold lBt; rw [decide_eq_false (Int32.not_lt.mpr c122)]; rfl) K
  · refine g_iload h dL_branch_125 rfl ?_
    refine g_ifle h 134 dL_branch_127 (by decide) (fun c127 => ?_) (fun c127 => ?_)
    · refine g_iconst (v := 0) h dL_branch_134 (by decide) ?_
      refine g_sub [(0, .int a), (1, .int tk), (2, ra X (qI b)), (3, ra X (oI b)), (4, ra X (tI b)), (5, ra X (vI b)), (6, ra X 154), (7, .int W), (8, .int R)] ⟨rfl, rfl, rfl, rfl, rfl, rfl, rfl, rfl, rfl, trivial⟩ ?_
      exact g_st [.int (bi (lBt W R))] (by unfold lBt; rw [decide_eq_true (Int32.not_le.mp c122), decide_eq_false (Int32.not_lt.mpr c127)]; rfl) K
    · refine g_iconst (v := 1) h dL_branch_130 (by decide) ?_
      refine g_goto h 135 dL_branch_131 (by decide) ?_
      refine g_sub [(0, .int a), (1, .int tk), (2, ra X (qI b)), (3, ra X (oI b)), (4, ra X (tI b)), (5, ra X (vI b)), (6, ra X 154), (7, .int W), (8, .int R)] ⟨rfl, rfl, rfl, rfl, rfl, rfl, rfl, rfl, rfl, trivial⟩ ?_
      exact g_st [.int (bi (lBt W R))] (by unfold lBt; rw [decide_eq_true (Int32.not_le.mp c122), decide_eq_true (Int32.not_le.mp c127)]; rfl) K

set_option maxRecDepth 100000 in
set_option maxHeartbeats 4000000 in
theorem sb_3 {l : Launch} {x : fC} {X : fX} {σ : fM} {b : Nat} {Q O T V w : Nat → Int32} {a tk : Int32} (h : Ok l x X cL_branch RL 3) (hL : xL x = 13) (hb : bk X b) {W R : Int32} (K : G x X (put5 σ b Q (lo1 O w tk 5) T V w) [(0, .int a), (1, .int tk), (2, ra X (qI b)), (3, ra X (oI b)), (4, ra X (tI b)), (5, ra X (vI b)), (6, ra X 154), (7, .int W), (8, .int R), (9, .int (bi true)), (10, .int W), (11, .int (nI 5))] [] 193) : G x X (put5 σ b Q O T V w) [(0, .int a), (1, .int tk), (2, ra X (qI b)), (3, ra X (oI b)), (4, ra X (tI b)), (5, ra X (vI b)), (6, ra X 154), (7, .int W), (8, .int R)] [.int (bi true)] 135 := by
  have LOOP : ∀ (q i : Nat), i + q = 5 → G x X (put5 σ b Q (lo1 O w tk i) T V w) [(0, .int a), (1, .int tk), (2, ra X (qI b)), (3, ra X (oI b)), (4, ra X (tI b)), (5, ra X (vI b)), (6, ra X 154), (7, .int W), (8, .int R), (9, .int (bi true)), (10, .int W), (11, .int (nI i))] [] 144 := by
    intro q
    induction q with
    | zero =>
      intro i hi 
      have hie : i = 5 := by omega
      rw [hie]
      refine g_iload h dL_branch_144 rfl ?_
      refine g_iconst (v := nI 5) h dL_branch_146 (by decide) ?_
      refine g_icge h 193 dL_branch_147 (by decide) (fun c147 => ?_) (fun c147 => absurd (Int32.le_refl _) c147)
      exact K
    | succ q ih =>
      intro i hi 
      have hlt : i < 5 := by omega
      refine g_iload h dL_branch_144 rfl ?_
      refine g_iconst (v := nI 5) h dL_branch_146 (by decide) ?_
      refine g_icge h 193 dL_branch_147 (by decide) (fun c147 => absurd c147 (nI_ge hlt (by decide))) (fun c147 => ?_)
      refine g_iload h dL_branch_150 rfl ?_
      refine g_ifeqB h 193 dL_branch_152 (by decide) (fun c152 => absurd c152 (by decide)) (fun c152 => ?_)
      refine g_aload_n h dL_branch_155 rfl ?_
      refine g_bipush (v := nI 10) h dL_branch_156 (by decide) ?_
      refine g_iload h dL_branch_158 rfl ?_
      refine g_imulN h dL_branch_160 ?_
      refine g_iconst (v := nI 2) h dL_branch_161 (by decide) ?_
      refine g_iaddN h dL_branch_162 ?_
      refine g_dup2 h dL_branch_163 rfl rfl ?_
      refine g_ldo h hb (by omega) dL_branch_164 ?_
      refine g_aload h dL_branch_165 rfl ?_
      refine g_iload h dL_branch_167 rfl ?_
      refine g_ldw h (by omega) dL_branch_169 ?_
      refine g_iload_n h dL_branch_170 rfl ?_
      refine g_iceq h 184 dL_branch_171 (by decide) (fun c171 => ?_) (fun c171 => ?_)
      · refine g_iconst (v := 0) h dL_branch_184 (by decide) ?_
        refine g_isub h dL_branch_185 ?_
        refine g_sto h hb (by omega) dL_branch_186 ?_
        refine g_iincN h dL_branch_187 rfl (by rw [hL]; decide) ?_
        refine g_goto h 144 dL_branch_190 (by decide) ?_
        refine g_mem (put5 σ b Q (lo1 O w tk (i + 1)) T V w) (by show _ = (put5 σ b Q (upd (lo1 O w tk i) (10 * i + 2) (lo1 O w tk i (10 * i + 2) - (if w i = tk then 0 else w (5 + i)))) T V w); first | (rw [if_pos c171]; done) | (rw [if_neg c171]; done)) ?_
        refine g_sub [(0, .int a), (1, .int tk), (2, ra X (qI b)), (3, ra X (oI b)), (4, ra X (tI b)), (5, ra X (vI b)), (6, ra X 154), (7, .int W), (8, .int R), (9, .int (bi true)), (10, .int W), (11, .int (nI (i + 1)))] ⟨rfl, rfl, rfl, rfl, rfl, rfl, rfl, rfl, rfl, rfl, rfl, rfl, trivial⟩ ?_
        exact ih (i + 1) (by omega)
      · refine g_aload h dL_branch_174 rfl ?_
        refine g_iconst (v := nI 5) h dL_branch_176 (by decide) ?_
        refine g_iload h dL_branch_177 rfl ?_
        refine g_iaddN h dL_branch_179 ?_
        refine g_ldw h (by omega) dL_branch_180 ?_
        refine g_goto h 185 dL_branch_181 (by decide) ?_
        refine g_isub h dL_branch_185 ?_
        refine g_sto h hb (by omega) dL_branch_186 ?_
        refine g_iincN h dL_branch_187 rfl (by rw [hL]; decide) ?_
        refine g_goto h 144 dL_branch_190 (by decide) ?_
        refine g_mem (put5 σ b Q (lo1 O w tk (i + 1)) T V w) (by show _ = (put5 σ b Q (upd (lo1 O w tk i) (10 * i + 2) (lo1 O w tk i (10 * i + 2) - (if w i = tk then 0 else w (5 + i)))) T V w); first | (rw [if_pos c171]; done) | (rw [if_neg c171]; done)) ?_
        refine g_sub [(0, .int a), (1, .int tk), (2, ra X (qI b)), (3, ra X (oI b)), (4, ra X (tI b)), (5, ra X (vI b)), (6, ra X 154), (7, .int W), (8, .int R), (9, .int (bi true)), (10, .int W), (11, .int (nI (i + 1)))] ⟨rfl, rfl, rfl, rfl, rfl, rfl, rfl, rfl, rfl, rfl, rfl, rfl, trivial⟩ ?_
        exact ih (i + 1) (by omega)
  refine g_istore h dL_branch_135 (by rw [hL]; decide) ?_
  refine g_iload h dL_branch_137 rfl ?_
  refine g_istore h dL_branch_139 (by rw [hL]; decide) ?_
  refine g_iconst (v := nI 0) h dL_branch_141 (by decide) ?_
  refine g_istore h dL_branch_142 (by rw [hL]; decide) ?_
  refine g_sub [(0, .int a), (1, .int tk), (2, ra X (qI b)), (3, ra X (oI b)), (4, ra X (tI b)), (5, ra X (vI b)), (6, ra X 154), (7, .int W), (8, .int R), (9, .int (bi true)), (10, .int W), (11, .int (nI 0))] ⟨rfl, rfl, rfl, rfl, rfl, rfl, rfl, rfl, rfl, rfl, rfl, rfl, trivial⟩ ?_
  exact LOOP 5 0 (by omega)

set_option maxRecDepth 100000 in
set_option maxHeartbeats 4000000 in
theorem sb_4 {l : Launch} {x : fC} {X : fX} {σ : fM} {b : Nat} {Q O T V w : Nat → Int32} {a tk : Int32} (h : Ok l x X cL_branch RL 3) (hL : xL x = 13) (hb : bk X b) {W R : Int32} {m : Nat} (hR0 : ¬ R = 0) (hcr : lcr Q V m) (K : G x X (put5 σ b (lbF w tk W R (W, Q, O, V, m) 5).2.1 (lbF w tk W R (W, Q, O, V, m) 5).2.2.1 T (lbF w tk W R (W, Q, O, V, m) 5).2.2.2.1 w) [(0, .int a), (1, .int tk), (2, ra X (qI b)), (3, ra X (oI b)), (4, ra X (tI b)), (5, ra X (vI b)), (6, ra X 154), (7, .int W), (8, .int R), (9, .int (bi true)), (10, .int (lbF w tk W R (W, Q, O, V, m) 5).1), (11, .int (nI 5))] [] 291) : G x X (put5 σ b Q O T V w) [(0, .int a), (1, .int tk), (2, ra X (qI b)), (3, ra X (oI b)), (4, ra X (tI b)), (5, ra X (vI b)), (6, ra X 154), (7, .int W), (8, .int R), (9, .int (bi true)), (10, .int W), (11, .int (nI 5))] [] 193 := by
  have LOOP : ∀ (q i : Nat), i + q = 5 → G x X (put5 σ b (lbF w tk W R (W, Q, O, V, m) i).2.1 (lbF w tk W R (W, Q, O, V, m) i).2.2.1 T (lbF w tk W R (W, Q, O, V, m) i).2.2.2.1 w) [(0, .int a), (1, .int tk), (2, ra X (qI b)), (3, ra X (oI b)), (4, ra X (tI b)), (5, ra X (vI b)), (6, ra X 154), (7, .int W), (8, .int R), (9, .int (bi true)), (10, .int (lbF w tk W R (W, Q, O, V, m) i).1), (11, .int (nI i))] [] 196 := by
    intro q
    induction q with
    | zero =>
      intro i hi 
      have hie : i = 5 := by omega
      rw [hie]
      refine g_iload h dL_branch_196 rfl ?_
      refine g_iconst (v := nI 5) h dL_branch_198 (by decide) ?_
      refine g_icge h 291 dL_branch_199 (by decide) (fun c199 => ?_) (fun c199 => absurd (Int32.le_refl _) c199)
      exact K
    | succ q ih =>
      intro i hi 
      have hlt : i < 5 := by omega
      have hI := lbF_I (w := w) (tk := tk) (W := W) (R := R) (z := (W, Q, O, V, m)) hcr i
      refine g_iload h dL_branch_196 rfl ?_
      refine g_iconst (v := nI 5) h dL_branch_198 (by decide) ?_
      refine g_icge h 291 dL_branch_199 (by decide) (fun c199 => absurd c199 (nI_ge hlt (by decide))) (fun c199 => ?_)
      refine g_iload h dL_branch_202 rfl ?_
      refine g_ifeqB h 291 dL_branch_204 (by decide) (fun c204 => absurd c204 (by decide)) (fun c204 => ?_)
      refine g_aload h dL_branch_207 rfl ?_
      refine g_iload h dL_branch_209 rfl ?_
      refine g_ldw h (by omega) dL_branch_211 ?_
      refine g_iload_n h dL_branch_212 rfl ?_
      refine g_icne h 242 dL_branch_213 (by decide) (fun c213 => ?_) (fun c213 => ?_)
      · refine g_iconst (v := 0) h dL_branch_242 (by decide) ?_
        refine g_top (lbG w tk W R i (lbF w tk W R (W, Q, O, V, m) i)) (by unfold lbG; first | (rw [if_pos c213]; done) | (rw [if_neg c213]; done)) ?_
        refine g_istore h dL_branch_243 (by rw [hL]; decide) ?_
        refine g_iload h dL_branch_245 rfl ?_
        refine g_ifne h 253 dL_branch_247 (by decide) (fun c247 => ?_) (fun c247 => ?_)
        · have hg0 := c247
          refine g_iload h dL_branch_253 rfl ?_
          refine g_iload h dL_branch_255 rfl ?_
          refine g_isub h dL_branch_257 ?_
          refine g_istore h dL_branch_258 (by rw [hL]; decide) ?_
          refine g_aload_n h dL_branch_260 rfl ?_
          refine g_bipush (v := nI 10) h dL_branch_261 (by decide) ?_
          refine g_iload h dL_branch_263 rfl ?_
          refine g_imulN h dL_branch_265 ?_
          refine g_iconst (v := nI 2) h dL_branch_266 (by decide) ?_
          refine g_iaddN h dL_branch_267 ?_
          refine g_dup2 h dL_branch_268 rfl rfl ?_
          refine g_ldo h hb (by omega) dL_branch_269 ?_
          refine g_iload h dL_branch_270 rfl ?_
          refine g_iadd h dL_branch_272 ?_
          refine g_sto h hb (by omega) dL_branch_273 ?_
          refine g_iload h dL_branch_274 rfl ?_
          refine g_iload h dL_branch_276 rfl ?_
          refine g_aload_n h dL_branch_278 rfl ?_
          refine g_aload_n h dL_branch_279 rfl ?_
          refine g_aload h dL_branch_280 rfl ?_
          refine clL_33 h (ct_L_pays hb hI.1.1 hI.1.2.1 hI.1.2.2 hlt) rfl dL_branch_282 rfl (Nat.le_of_ble_eq_true rfl) (by decide) ?_
          refine g_iincN h dL_branch_285 rfl (by rw [hL]; decide) ?_
          refine g_goto h 196 dL_branch_288 (by decide) ?_
          refine g_mem (put5 σ b (lbF w tk W R (W, Q, O, V, m) (i + 1)).2.1 (lbF w tk W R (W, Q, O, V, m) (i + 1)).2.2.1 T (lbF w tk W R (W, Q, O, V, m) (i + 1)).2.2.2.1 w) (by show _ = (put5 σ b (lbS w tk W R i (lbF w tk W R (W, Q, O, V, m) i)).2.1 (lbS w tk W R i (lbF w tk W R (W, Q, O, V, m) i)).2.2.1 T (lbS w tk W R i (lbF w tk W R (W, Q, O, V, m) i)).2.2.2.1 w); unfold lbS; rw [if_neg hg0]; try rfl) ?_
          refine g_sub [(0, .int a), (1, .int tk), (2, ra X (qI b)), (3, ra X (oI b)), (4, ra X (tI b)), (5, ra X (vI b)), (6, ra X 154), (7, .int W), (8, .int R), (9, .int (bi true)), (10, .int (lbF w tk W R (W, Q, O, V, m) (i + 1)).1), (11, .int (nI (i + 1)))] ⟨rfl, rfl, rfl, rfl, rfl, rfl, rfl, rfl, rfl, rfl, (congrArg (fun z => some (Value.int z)) (by show _ = (lbS w tk W R i (lbF w tk W R (W, Q, O, V, m) i)).1; unfold lbS; rw [if_neg hg0]; try rfl)), rfl, trivial⟩ ?_
          exact ih (i + 1) (by omega)
        · have hg0 : (lbG w tk W R i (lbF w tk W R (W, Q, O, V, m) i)) = 0 := c247
          refine g_goto h 285 dL_branch_250 (by decide) ?_
          refine g_iincN h dL_branch_285 rfl (by rw [hL]; decide) ?_
          refine g_goto h 196 dL_branch_288 (by decide) ?_
          refine g_mem (put5 σ b (lbF w tk W R (W, Q, O, V, m) (i + 1)).2.1 (lbF w tk W R (W, Q, O, V, m) (i + 1)).2.2.1 T (lbF w tk W R (W, Q, O, V, m) (i + 1)).2.2.2.1 w) (by show _ = (put5 σ b (lbS w tk W R i (lbF w tk W R (W, Q, O, V, m) i)).2.1 (lbS w tk W R i (lbF w tk W R (W, Q, O, V, m) i)).2.2.1 T (lbS w tk W R i (lbF w tk W R (W, Q, O, V, m) i)).2.2.2.1 w); unfold lbS; rw [if_pos hg0]) ?_
          refine g_sub [(0, .int a), (1, .int tk), (2, ra X (qI b)), (3, ra X (oI b)), (4, ra X (tI b)), (5, ra X (vI b)), (6, ra X 154), (7, .int W), (8, .int R), (9, .int (bi true)), (10, .int (lbF w tk W R (W, Q, O, V, m) (i + 1)).1), (11, .int (nI (i + 1)))] ⟨rfl, rfl, rfl, rfl, rfl, rfl, rfl, rfl, rfl, rfl, (congrArg (fun z => some (Value.int z)) (by show _ = (lbS w tk W R i (lbF w tk W R (W, Q, O, V, m) i)).1; unfold lbS; rw [if_pos hg0])), rfl, trivial⟩ ?_
          exact ih (i + 1) (by omega)
      · refine g_iload h dL_branch_216 rfl ?_
        refine g_iload h dL_branch_218 rfl ?_
        refine g_aload_n h dL_branch_220 rfl ?_
        refine g_iconst (v := nI 1) h dL_branch_221 (by decide) ?_
        refine g_ldq h hb (by omega) dL_branch_222 ?_
        refine g_imul h dL_branch_223 ?_
        refine g_bipush (v := 100) h dL_branch_224 (by decide) ?_
        refine g_idiv h dL_branch_226 (by decide) ?_
        refine g_isub h dL_branch_227 ?_
        refine g_aload h dL_branch_228 rfl ?_
        refine g_iconst (v := nI 5) h dL_branch_230 (by decide) ?_
        refine g_iload h dL_branch_231 rfl ?_
        refine g_iaddN h dL_branch_233 ?_
        refine g_ldw h (by omega) dL_branch_234 ?_
        refine g_imul h dL_branch_235 ?_
        refine g_iload h dL_branch_236 rfl ?_
        refine g_idiv h dL_branch_238 hR0 ?_
        refine g_goto h 243 dL_branch_239 (by decide) ?_
        refine g_top (lbG w tk W R i (lbF w tk W R (W, Q, O, V, m) i)) (by unfold lbG; first | (rw [if_pos c213]; done) | (rw [if_neg c213]; done)) ?_
        refine g_istore h dL_branch_243 (by rw [hL]; decide) ?_
        refine g_iload h dL_branch_245 rfl ?_
        refine g_ifne h 253 dL_branch_247 (by decide) (fun c247 => ?_) (fun c247 => ?_)
        · have hg0 := c247
          refine g_iload h dL_branch_253 rfl ?_
          refine g_iload h dL_branch_255 rfl ?_
          refine g_isub h dL_branch_257 ?_
          refine g_istore h dL_branch_258 (by rw [hL]; decide) ?_
          refine g_aload_n h dL_branch_260 rfl ?_
          refine g_bipush (v := nI 10) h dL_branch_261 (by decide) ?_
          refine g_iload h dL_branch_263 rfl ?_
          refine g_imulN h dL_branch_265 ?_
          refine g_iconst (v := nI 2) h dL_branch_266 (by decide) ?_
          refine g_iaddN h dL_branch_267 ?_
          refine g_dup2 h dL_branch_268 rfl rfl ?_
          refine g_ldo h hb (by omega) dL_branch_269 ?_
          refine g_iload h dL_branch_270 rfl ?_
          refine g_iadd h dL_branch_272 ?_
          refine g_sto h hb (by omega) dL_branch_273 ?_
          refine g_iload h dL_branch_274 rfl ?_
          refine g_iload h dL_branch_276 rfl ?_
          refine g_aload_n h dL_branch_278 rfl ?_
          refine g_aload_n h dL_branch_279 rfl ?_
          refine g_aload h dL_branch_280 rfl ?_
          refine clL_33 h (ct_L_pays hb hI.1.1 hI.1.2.1 hI.1.2.2 hlt) rfl dL_branch_282 rfl (Nat.le_of_ble_eq_true rfl) (by decide) ?_
          refine g_iincN h dL_branch_285 rfl (by rw [hL]; decide) ?_
          refine g_goto h 196 dL_branch_288 (by decide) ?_
          refine g_mem (put5 σ b (lbF w tk W R (W, Q, O, V, m) (i + 1)).2.1 (lbF w tk W R (W, Q, O, V, m) (i + 1)).2.2.1 T (lbF w tk W R (W, Q, O, V, m) (i + 1)).2.2.2.1 w) (by show _ = (put5 σ b (lbS w tk W R i (lbF w tk W R (W, Q, O, V, m) i)).2.1 (lbS w tk W R i (lbF w tk W R (W, Q, O, V, m) i)).2.2.1 T (lbS w tk W R i (lbF w tk W R (W, Q, O, V, m) i)).2.2.2.1 w); unfold lbS; rw [if_neg hg0]; try rfl) ?_
          refine g_sub [(0, .int a), (1, .int tk), (2, ra X (qI b)), (3, ra X (oI b)), (4, ra X (tI b)), (5, ra X (vI b)), (6, ra X 154), (7, .int W), (8, .int R), (9, .int (bi true)), (10, .int (lbF w tk W R (W, Q, O, V, m) (i + 1)).1), (11, .int (nI (i + 1)))] ⟨rfl, rfl, rfl, rfl, rfl, rfl, rfl, rfl, rfl, rfl, (congrArg (fun z => some (Value.int z)) (by show _ = (lbS w tk W R i (lbF w tk W R (W, Q, O, V, m) i)).1; unfold lbS; rw [if_neg hg0]; try rfl)), rfl, trivial⟩ ?_
          exact ih (i + 1) (by omega)
        · have hg0 : (lbG w tk W R i (lbF w tk W R (W, Q, O, V, m) i)) = 0 := c247
          refine g_goto h 285 dL_branch_250 (by decide) ?_
          refine g_iincN h dL_branch_285 rfl (by rw [hL]; decide) ?_
          refine g_goto h 196 dL_branch_288 (by decide) ?_
          refine g_mem (put5 σ b (lbF w tk W R (W, Q, O, V, m) (i + 1)).2.1 (lbF w tk W R (W, Q, O, V, m) (i + 1)).2.2.1 T (lbF w tk W R (W, Q, O, V, m) (i + 1)).2.2.2.1 w) (by show _ = (put5 σ b (lbS w tk W R i (lbF w tk W R (W, Q, O, V, m) i)).2.1 (lbS w tk W R i (lbF w tk W R (W, Q, O, V, m) i)).2.2.1 T (lbS w tk W R i (lbF w tk W R (W, Q, O, V, m) i)).2.2.2.1 w); unfold lbS; rw [if_pos hg0]) ?_
          refine g_sub [(0, .int a), (1, .int tk), (2, ra X (qI b)), (3, ra X (oI b)), (4, ra X (tI b)), (5, ra X (vI b)), (6, ra X 154), (7, .int W), (8, .int R), (9, .int (bi true)), (10, .int (lbF w tk W R (W, Q, O, V, m) (i + 1)).1), (11, .int (nI (i + 1)))] ⟨rfl, rfl, rfl, rfl, rfl, rfl, rfl, rfl, rfl, rfl, (congrArg (fun z => some (Value.int z)) (by show _ = (lbS w tk W R i (lbF w tk W R (W, Q, O, V, m) i)).1; unfold lbS; rw [if_pos hg0])), rfl, trivial⟩ ?_
          exact ih (i + 1) (by omega)
  refine g_iconst (v := nI 0) h dL_branch_193 (by decide) ?_
  refine g_istore h dL_branch_194 (by rw [hL]; decide) ?_
  refine g_sub [(0, .int a), (1, .int tk), (2, ra X (qI b)), (3, ra X (oI b)), (4, ra X (tI b)), (5, ra X (vI b)), (6, ra X 154), (7, .int W), (8, .int R), (9, .int (bi true)), (10, .int (lbF w tk W R (W, Q, O, V, m) 0).1), (11, .int (nI 0))] ⟨rfl, rfl, rfl, rfl, rfl, rfl, rfl, rfl, rfl, rfl, rfl, rfl, trivial⟩ ?_
  exact LOOP 5 0 (by omega)

set_option maxRecDepth 100000 in
set_option maxHeartbeats 4000000 in
theorem sb_5 {l : Launch} {x : fC} {X : fX} {σ : fM} {b : Nat} {Q O T V w : Nat → Int32} {a tk : Int32} (h : Ok l x X cL_branch RL 3) (hL : xL x = 13) (hb : bk X b) {W hs : Int32} (K : G x X (put5 σ b (upd (upd Q 4 (Q 4 + hs)) 6 (upd Q 4 (Q 4 + hs) 6 + 1)) O T V w) [(0, .int a), (1, .int tk), (2, ra X (qI b)), (3, ra X (oI b)), (4, ra X (tI b)), (5, ra X (vI b)), (6, ra X 154), (7, .int W), (9, .int (bi true))] [] 325) : G x X (put5 σ b Q O T V w) [(0, .int a), (1, .int tk), (2, ra X (qI b)), (3, ra X (oI b)), (4, ra X (tI b)), (5, ra X (vI b)), (6, ra X 154), (7, .int W), (9, .int (bi true)), (10, .int hs)] [] 291 := by
  refine g_aload_n h dL_branch_291 rfl ?_
  refine g_iconst (v := nI 4) h dL_branch_292 (by decide) ?_
  refine g_dup2 h dL_branch_293 rfl rfl ?_
  refine g_ldq h hb (by omega) dL_branch_294 ?_
  refine g_iload h dL_branch_295 rfl ?_
  refine g_ifeqB h 305 dL_branch_297 (by decide) (fun c297 => absurd c297 (by decide)) (fun c297 => ?_)
  refine g_iload h dL_branch_300 rfl ?_
  refine g_goto h 306 dL_branch_302 (by decide) ?_
  refine g_iadd h dL_branch_306 ?_
  refine g_stq h hb (by omega) dL_branch_307 ?_
  refine g_aload_n h dL_branch_308 rfl ?_
  refine g_bipush (v := nI 6) h dL_branch_309 (by decide) ?_
  refine g_dup2 h dL_branch_311 rfl rfl ?_
  refine g_ldq h hb (by omega) dL_branch_312 ?_
  refine g_iload h dL_branch_313 rfl ?_
  refine g_ifeqB h 322 dL_branch_315 (by decide) (fun c315 => absurd c315 (by decide)) (fun c315 => ?_)
  refine g_iconst (v := 1) h dL_branch_318 (by decide) ?_
  refine g_goto h 323 dL_branch_319 (by decide) ?_
  refine g_iadd h dL_branch_323 ?_
  refine g_stq h hb (by omega) dL_branch_324 ?_
  refine g_sub [(0, .int a), (1, .int tk), (2, ra X (qI b)), (3, ra X (oI b)), (4, ra X (tI b)), (5, ra X (vI b)), (6, ra X 154), (7, .int W), (9, .int (bi true))] ⟨rfl, rfl, rfl, rfl, rfl, rfl, rfl, rfl, rfl, trivial⟩ ?_
  exact K

theorem upd_id (f : Nat → Int32) (j : Nat) : upd f j (f j) = f := by
  funext k
  unfold upd
  split
  · rename_i e; rw [e]
  · rfl

set_option maxRecDepth 100000 in
set_option maxHeartbeats 4000000 in
theorem sb_6 {l : Launch} {x : fC} {X : fX} {σ : fM} {b : Nat} {Q O T V w : Nat → Int32} {a tk : Int32} (h : Ok l x X cL_branch RL 3) (hL : xL x = 13) (hb : bk X b) {W R : Int32} (K : G x X (put5 σ b Q O T V w) [(0, .int a), (1, .int tk), (2, ra X (qI b)), (3, ra X (oI b)), (4, ra X (tI b)), (5, ra X (vI b)), (6, ra X 154), (7, .int W), (9, .int (bi false))] [] 325) : G x X (put5 σ b Q O T V w) [(0, .int a), (1, .int tk), (2, ra X (qI b)), (3, ra X (oI b)), (4, ra X (tI b)), (5, ra X (vI b)), (6, ra X 154), (7, .int W), (8, .int R)] [.int (bi false)] 135 := by
  refine g_istore h dL_branch_135 (by rw [hL]; decide) ?_
  refine g_iload h dL_branch_137 rfl ?_
  refine g_istore h dL_branch_139 (by rw [hL]; decide) ?_
  refine g_iconst (v := nI 0) h dL_branch_141 (by decide) ?_
  refine g_istore h dL_branch_142 (by rw [hL]; decide) ?_
  refine g_iload h dL_branch_144 rfl ?_
  refine g_iconst (v := nI 5) h dL_branch_146 (by decide) ?_
  refine g_icge h 193 dL_branch_147 (by decide) (fun c147 => absurd c147 (by decide)) (fun c147 => ?_)
  refine g_iload h dL_branch_150 rfl ?_
  refine g_ifeqB h 193 dL_branch_152 (by decide) (fun c152 => ?_) (fun c152 => absurd c152 (by decide))
  refine g_iconst (v := nI 0) h dL_branch_193 (by decide) ?_
  refine g_istore h dL_branch_194 (by rw [hL]; decide) ?_
  refine g_iload h dL_branch_196 rfl ?_
  refine g_iconst (v := nI 5) h dL_branch_198 (by decide) ?_
  refine g_icge h 291 dL_branch_199 (by decide) (fun c199 => absurd c199 (by decide)) (fun c199 => ?_)
  refine g_iload h dL_branch_202 rfl ?_
  refine g_ifeqB h 291 dL_branch_204 (by decide) (fun c204 => ?_) (fun c204 => absurd c204 (by decide))
  refine g_aload_n h dL_branch_291 rfl ?_
  refine g_iconst (v := nI 4) h dL_branch_292 (by decide) ?_
  refine g_dup2 h dL_branch_293 rfl rfl ?_
  refine g_ldq h hb (by omega) dL_branch_294 ?_
  refine g_iload h dL_branch_295 rfl ?_
  refine g_ifeqB h 305 dL_branch_297 (by decide) (fun c297 => ?_) (fun c297 => absurd c297 (by decide))
  refine g_iconst (v := 0) h dL_branch_305 (by decide) ?_
  refine g_iadd h dL_branch_306 ?_
  refine g_stq h hb (by omega) dL_branch_307 ?_
  refine g_aload_n h dL_branch_308 rfl ?_
  refine g_bipush (v := nI 6) h dL_branch_309 (by decide) ?_
  refine g_dup2 h dL_branch_311 rfl rfl ?_
  refine g_ldq h hb (by omega) dL_branch_312 ?_
  refine g_iload h dL_branch_313 rfl ?_
  refine g_ifeqB h 322 dL_branch_315 (by decide) (fun c315 => ?_) (fun c315 => absurd c315 (by decide))
  refine g_iconst (v := 0) h dL_branch_322 (by decide) ?_
  refine g_iadd h dL_branch_323 ?_
  refine g_stq h hb (by omega) dL_branch_324 ?_
  refine g_mem (put5 σ b Q O T V w) (by rw [Int32.add_zero, Int32.add_zero, upd_id, upd_id]) ?_
  refine g_sub [(0, .int a), (1, .int tk), (2, ra X (qI b)), (3, ra X (oI b)), (4, ra X (tI b)), (5, ra X (vI b)), (6, ra X 154), (7, .int W), (9, .int (bi false))] ⟨rfl, rfl, rfl, rfl, rfl, rfl, rfl, rfl, rfl, trivial⟩ ?_
  exact K

set_option maxRecDepth 100000 in
set_option maxHeartbeats 4000000 in
theorem sb_7 {l : Launch} {x : fC} {X : fX} {σ : fM} {b : Nat} {Q O T V w : Nat → Int32} {a tk : Int32} (h : Ok l x X cL_branch RL 3) (hL : xL x = 13) (hb : bk X b) {W : Int32} {bt : Bool} {i : Nat} (hi : i < 5) (K : G x X (put5 σ b Q (lrA w tk i O) T V w) [(0, .int a), (1, .int tk), (2, ra X (qI b)), (3, ra X (oI b)), (4, ra X (tI b)), (5, ra X (vI b)), (6, ra X 154), (7, .int W), (9, .int (bi bt)), (11, .int (nI i))] [] 453) : G x X (put5 σ b Q O T V w) [(0, .int a), (1, .int tk), (2, ra X (qI b)), (3, ra X (oI b)), (4, ra X (tI b)), (5, ra X (vI b)), (6, ra X 154), (7, .int W), (9, .int (bi bt)), (11, .int (nI i))] [] 334 := by
  refine g_aload_n h dL_branch_334 rfl ?_
  refine g_bipush (v := nI 10) h dL_branch_335 (by decide) ?_
  refine g_iload h dL_branch_337 rfl ?_
  refine g_imulN h dL_branch_339 ?_
  refine g_iconst (v := nI 3) h dL_branch_340 (by decide) ?_
  refine g_iaddN h dL_branch_341 ?_
  refine g_ldo h hb (by omega) dL_branch_342 ?_
  refine g_iflt h 453 dL_branch_343 (by decide) (fun c343 => ?_) (fun c343 => ?_)
  · refine g_mem (put5 σ b Q (lrA w tk i O) T V w) (by unfold lrA; rw [if_pos c343]) ?_
    refine g_sub [(0, .int a), (1, .int tk), (2, ra X (qI b)), (3, ra X (oI b)), (4, ra X (tI b)), (5, ra X (vI b)), (6, ra X 154), (7, .int W), (9, .int (bi bt)), (11, .int (nI i))] ⟨rfl, rfl, rfl, rfl, rfl, rfl, rfl, rfl, rfl, rfl, trivial⟩ ?_
    exact K
  · refine g_aload h dL_branch_346 rfl ?_
    refine g_bipush (v := nI 10) h dL_branch_348 (by decide) ?_
    refine g_iload h dL_branch_350 rfl ?_
    refine g_iaddN h dL_branch_352 ?_
    refine g_ldw h (by omega) dL_branch_353 ?_
    refine g_ifle h 453 dL_branch_354 (by decide) (fun c354 => ?_) (fun c354 => ?_)
    · refine g_mem (put5 σ b Q (lrA w tk i O) T V w) (by unfold lrA; rw [if_neg c343, if_pos c354]) ?_
      refine g_sub [(0, .int a), (1, .int tk), (2, ra X (qI b)), (3, ra X (oI b)), (4, ra X (tI b)), (5, ra X (vI b)), (6, ra X 154), (7, .int W), (9, .int (bi bt)), (11, .int (nI i))] ⟨rfl, rfl, rfl, rfl, rfl, rfl, rfl, rfl, rfl, rfl, trivial⟩ ?_
      exact K
    · refine g_aload h dL_branch_357 rfl ?_
      refine g_iload h dL_branch_359 rfl ?_
      refine g_ldw h (by omega) dL_branch_361 ?_
      refine g_iload_n h dL_branch_362 rfl ?_
      refine g_icne h 370 dL_branch_363 (by decide) (fun c363 => ?_) (fun c363 => ?_)
      · refine g_iconst (v := 0) h dL_branch_370 (by decide) ?_
        refine g_istore h dL_branch_371 (by rw [hL]; decide) ?_
        refine g_aload_n h dL_branch_373 rfl ?_
        refine g_bipush (v := nI 10) h dL_branch_374 (by decide) ?_
        refine g_iload h dL_branch_376 rfl ?_
        refine g_imulN h dL_branch_378 ?_
        refine g_iconst (v := nI 4) h dL_branch_379 (by decide) ?_
        refine g_iaddN h dL_branch_380 ?_
        refine g_dup2 h dL_branch_381 rfl rfl ?_
        refine g_ldo h hb (by omega) dL_branch_382 ?_
        refine g_iload h dL_branch_383 rfl ?_
        refine g_ifeq h 392 dL_branch_385 (by decide) (fun c385 => ?_) (fun c385 => absurd rfl c385)
        refine g_iconst (v := 0) h dL_branch_392 (by decide) ?_
        refine g_iadd h dL_branch_393 ?_
        refine g_sto h hb (by omega) dL_branch_394 ?_
        refine g_aload_n h dL_branch_395 rfl ?_
        refine g_bipush (v := nI 10) h dL_branch_396 (by decide) ?_
        refine g_iload h dL_branch_398 rfl ?_
        refine g_imulN h dL_branch_400 ?_
        refine g_iconst (v := nI 5) h dL_branch_401 (by decide) ?_
        refine g_iaddN h dL_branch_402 ?_
        refine g_dup2 h dL_branch_403 rfl rfl ?_
        refine g_ldo h hb (by omega) dL_branch_404 ?_
        refine g_iload h dL_branch_405 rfl ?_
        refine g_ifeq h 414 dL_branch_407 (by decide) (fun c407 => ?_) (fun c407 => absurd rfl c407)
        refine g_iconst (v := 1) h dL_branch_414 (by decide) ?_
        refine g_iadd h dL_branch_415 ?_
        refine g_sto h hb (by omega) dL_branch_416 ?_
        refine g_aload_n h dL_branch_417 rfl ?_
        refine g_bipush (v := nI 10) h dL_branch_418 (by decide) ?_
        refine g_iload h dL_branch_420 rfl ?_
        refine g_imulN h dL_branch_422 ?_
        refine g_bipush (v := nI 6) h dL_branch_423 (by decide) ?_
        refine g_iaddN h dL_branch_425 ?_
        refine g_aload_n h dL_branch_426 rfl ?_
        refine g_bipush (v := nI 10) h dL_branch_427 (by decide) ?_
        refine g_iload h dL_branch_429 rfl ?_
        refine g_imulN h dL_branch_431 ?_
        refine g_bipush (v := nI 6) h dL_branch_432 (by decide) ?_
        refine g_iaddN h dL_branch_434 ?_
        refine g_ldo h hb (by omega) dL_branch_435 ?_
        refine g_iconst (v := 1) h dL_branch_436 (by decide) ?_
        refine g_ishl h dL_branch_437 ?_
        refine g_iload h dL_branch_438 rfl ?_
        refine g_ifeq h 447 dL_branch_440 (by decide) (fun c440 => ?_) (fun c440 => absurd rfl c440)
        refine g_iconst (v := 0) h dL_branch_447 (by decide) ?_
        refine g_ior h dL_branch_448 ?_
        refine g_ldc h (65535) (lw_in 414 (by decide +kernel) rfl) dL_branch_449 ?_
        refine g_iand h dL_branch_451 ?_
        refine g_sto h hb (by omega) dL_branch_452 ?_
        refine g_mem (put5 σ b Q (lrA w tk i O) T V w) (by unfold lrA; rw [if_neg c343, if_neg c354]; dsimp only; simp only [if_neg c363, if_true, if_false]) ?_
        refine g_sub [(0, .int a), (1, .int tk), (2, ra X (qI b)), (3, ra X (oI b)), (4, ra X (tI b)), (5, ra X (vI b)), (6, ra X 154), (7, .int W), (9, .int (bi bt)), (11, .int (nI i))] ⟨rfl, rfl, rfl, rfl, rfl, rfl, rfl, rfl, rfl, rfl, trivial⟩ ?_
        exact K
      · refine g_iconst (v := 1) h dL_branch_366 (by decide) ?_
        refine g_goto h 371 dL_branch_367 (by decide) ?_
        refine g_istore h dL_branch_371 (by rw [hL]; decide) ?_
        refine g_aload_n h dL_branch_373 rfl ?_
        refine g_bipush (v := nI 10) h dL_branch_374 (by decide) ?_
        refine g_iload h dL_branch_376 rfl ?_
        refine g_imulN h dL_branch_378 ?_
        refine g_iconst (v := nI 4) h dL_branch_379 (by decide) ?_
        refine g_iaddN h dL_branch_380 ?_
        refine g_dup2 h dL_branch_381 rfl rfl ?_
        refine g_ldo h hb (by omega) dL_branch_382 ?_
        refine g_iload h dL_branch_383 rfl ?_
        refine g_ifeq h 392 dL_branch_385 (by decide) (fun c385 => absurd c385 (by decide)) (fun c385 => ?_)
        refine g_iconst (v := 1) h dL_branch_388 (by decide) ?_
        refine g_goto h 393 dL_branch_389 (by decide) ?_
        refine g_iadd h dL_branch_393 ?_
        refine g_sto h hb (by omega) dL_branch_394 ?_
        refine g_aload_n h dL_branch_395 rfl ?_
        refine g_bipush (v := nI 10) h dL_branch_396 (by decide) ?_
        refine g_iload h dL_branch_398 rfl ?_
        refine g_imulN h dL_branch_400 ?_
        refine g_iconst (v := nI 5) h dL_branch_401 (by decide) ?_
        refine g_iaddN h dL_branch_402 ?_
        refine g_dup2 h dL_branch_403 rfl rfl ?_
        refine g_ldo h hb (by omega) dL_branch_404 ?_
        refine g_iload h dL_branch_405 rfl ?_
        refine g_ifeq h 414 dL_branch_407 (by decide) (fun c407 => absurd c407 (by decide)) (fun c407 => ?_)
        refine g_iconst (v := 0) h dL_branch_410 (by decide) ?_
        refine g_goto h 415 dL_branch_411 (by decide) ?_
        refine g_iadd h dL_branch_415 ?_
        refine g_sto h hb (by omega) dL_branch_416 ?_
        refine g_aload_n h dL_branch_417 rfl ?_
        refine g_bipush (v := nI 10) h dL_branch_418 (by decide) ?_
        refine g_iload h dL_branch_420 rfl ?_
        refine g_imulN h dL_branch_422 ?_
        refine g_bipush (v := nI 6) h dL_branch_423 (by decide) ?_
        refine g_iaddN h dL_branch_425 ?_
        refine g_aload_n h dL_branch_426 rfl ?_
        refine g_bipush (v := nI 10) h dL_branch_427 (by decide) ?_
        refine g_iload h dL_branch_429 rfl ?_
        refine g_imulN h dL_branch_431 ?_
        refine g_bipush (v := nI 6) h dL_branch_432 (by decide) ?_
        refine g_iaddN h dL_branch_434 ?_
        refine g_ldo h hb (by omega) dL_branch_435 ?_
        refine g_iconst (v := 1) h dL_branch_436 (by decide) ?_
        refine g_ishl h dL_branch_437 ?_
        refine g_iload h dL_branch_438 rfl ?_
        refine g_ifeq h 447 dL_branch_440 (by decide) (fun c440 => absurd c440 (by decide)) (fun c440 => ?_)
        refine g_iconst (v := 1) h dL_branch_443 (by decide) ?_
        refine g_goto h 448 dL_branch_444 (by decide) ?_
        refine g_ior h dL_branch_448 ?_
        refine g_ldc h (65535) (lw_in 414 (by decide +kernel) rfl) dL_branch_449 ?_
        refine g_iand h dL_branch_451 ?_
        refine g_sto h hb (by omega) dL_branch_452 ?_
        refine g_mem (put5 σ b Q (lrA w tk i O) T V w) (by unfold lrA; rw [if_neg c343, if_neg c354]; dsimp only; simp only [if_pos c363, if_true, if_false]) ?_
        refine g_sub [(0, .int a), (1, .int tk), (2, ra X (qI b)), (3, ra X (oI b)), (4, ra X (tI b)), (5, ra X (vI b)), (6, ra X 154), (7, .int W), (9, .int (bi bt)), (11, .int (nI i))] ⟨rfl, rfl, rfl, rfl, rfl, rfl, rfl, rfl, rfl, rfl, trivial⟩ ?_
        exact K

set_option maxRecDepth 100000 in
set_option maxHeartbeats 4000000 in
theorem sb_8 {l : Launch} {x : fC} {X : fX} {σ : fM} {b : Nat} {Q O T V w : Nat → Int32} {a tk : Int32} (h : Ok l x X cL_branch RL 3) (hL : xL x = 13) (hb : bk X b) {W : Int32} {bt : Bool} {i : Nat} (hi : i < 5) (K : G x X (put5 σ b Q (lrB w i O) T V w) [(0, .int a), (1, .int tk), (2, ra X (qI b)), (3, ra X (oI b)), (4, ra X (tI b)), (5, ra X (vI b)), (6, ra X 154), (7, .int W), (9, .int (bi bt)), (11, .int (nI i))] [] 494) : G x X (put5 σ b Q O T V w) [(0, .int a), (1, .int tk), (2, ra X (qI b)), (3, ra X (oI b)), (4, ra X (tI b)), (5, ra X (vI b)), (6, ra X 154), (7, .int W), (9, .int (bi bt)), (11, .int (nI i))] [] 453 := by
  refine g_aload_n h dL_branch_453 rfl ?_
  refine g_bipush (v := nI 10) h dL_branch_454 (by decide) ?_
  refine g_iload h dL_branch_456 rfl ?_
  refine g_imulN h dL_branch_458 ?_
  refine g_bipush (v := nI 7) h dL_branch_459 (by decide) ?_
  refine g_iaddN h dL_branch_461 ?_
  refine g_dup2 h dL_branch_462 rfl rfl ?_
  refine g_ldo h hb (by omega) dL_branch_463 ?_
  refine g_aload h dL_branch_464 rfl ?_
  refine g_bipush (v := nI 10) h dL_branch_466 (by decide) ?_
  refine g_iload h dL_branch_468 rfl ?_
  refine g_iaddN h dL_branch_470 ?_
  refine g_ldw h (by omega) dL_branch_471 ?_
  refine g_ifle h 491 dL_branch_472 (by decide) (fun c472 => ?_) (fun c472 => ?_)
  · refine g_iconst (v := 0) h dL_branch_491 (by decide) ?_
    refine g_iadd h dL_branch_492 ?_
    refine g_sto h hb (by omega) dL_branch_493 ?_
    refine g_mem (put5 σ b Q (lrB w i O) T V w) (by unfold lrB; first | (rw [if_pos c472]; done) | (rw [if_neg c472, if_neg c484]; done) | (rw [if_neg c472, if_pos c484]; done)) ?_
    refine g_sub [(0, .int a), (1, .int tk), (2, ra X (qI b)), (3, ra X (oI b)), (4, ra X (tI b)), (5, ra X (vI b)), (6, ra X 154), (7, .int W), (9, .int (bi bt)), (11, .int (nI i))] ⟨rfl, rfl, rfl, rfl, rfl, rfl, rfl, rfl, rfl, rfl, trivial⟩ ?_
    exact K
  · refine g_aload_n h dL_branch_475 rfl ?_
    refine g_bipush (v := nI 10) h dL_branch_476 (by decide) ?_
    refine g_iload h dL_branch_478 rfl ?_
    refine g_imulN h dL_branch_480 ?_
    refine g_iconst (v := nI 2) h dL_branch_481 (by decide) ?_
    refine g_iaddN h dL_branch_482 ?_
    refine g_ldo h hb (by omega) dL_branch_483 ?_
    refine g_ifne h 491 dL_branch_484 (by decide) (fun c484 => ?_) (fun c484 => ?_)
    · refine g_iconst (v := 0) h dL_branch_491 (by decide) ?_
      refine g_iadd h dL_branch_492 ?_
      refine g_sto h hb (by omega) dL_branch_493 ?_
      refine g_mem (put5 σ b Q (lrB w i O) T V w) (by unfold lrB; first | (rw [if_pos c472]; done) | (rw [if_neg c472, if_neg c484]; done) | (rw [if_neg c472, if_pos c484]; done)) ?_
      refine g_sub [(0, .int a), (1, .int tk), (2, ra X (qI b)), (3, ra X (oI b)), (4, ra X (tI b)), (5, ra X (vI b)), (6, ra X 154), (7, .int W), (9, .int (bi bt)), (11, .int (nI i))] ⟨rfl, rfl, rfl, rfl, rfl, rfl, rfl, rfl, rfl, rfl, trivial⟩ ?_
      exact K
    · refine g_iconst (v := 1) h dL_branch_487 (by decide) ?_
      refine g_goto h 492 dL_branch_488 (by decide) ?_
      refine g_iadd h dL_branch_492 ?_
      refine g_sto h hb (by omega) dL_branch_493 ?_
      refine g_mem (put5 σ b Q (lrB w i O) T V w) (by unfold lrB; first | (rw [if_pos c472]; done) | (rw [if_neg c472, if_neg c484]; done) | (rw [if_neg c472, if_pos c484]; done)) ?_
      refine g_sub [(0, .int a), (1, .int tk), (2, ra X (qI b)), (3, ra X (oI b)), (4, ra X (tI b)), (5, ra X (vI b)), (6, ra X 154), (7, .int W), (9, .int (bi bt)), (11, .int (nI i))] ⟨rfl, rfl, rfl, rfl, rfl, rfl, rfl, rfl, rfl, rfl, trivial⟩ ?_
      exact K

set_option maxRecDepth 100000 in
set_option maxHeartbeats 4000000 in
theorem sb_9 {l : Launch} {x : fC} {X : fX} {σ : fM} {b : Nat} {Q O T V w : Nat → Int32} {a tk : Int32} (h : Ok l x X cL_branch RL 3) (hL : xL x = 13) (hb : bk X b) {W : Int32} {bt : Bool} {i : Nat} (hi : i < 5) (hK : lK O) (K : G x X (put5 σ b Q O (lrT a (Q 3) tk i O T) V w) [(0, .int a), (1, .int tk), (2, ra X (qI b)), (3, ra X (oI b)), (4, ra X (tI b)), (5, ra X (vI b)), (6, ra X 154), (7, .int W), (9, .int (bi bt)), (11, .int (nI i))] [] 565) : G x X (put5 σ b Q O T V w) [(0, .int a), (1, .int tk), (2, ra X (qI b)), (3, ra X (oI b)), (4, ra X (tI b)), (5, ra X (vI b)), (6, ra X 154), (7, .int W), (9, .int (bi bt)), (11, .int (nI i))] [] 494 := by
  obtain ⟨js, hjs, ejs⟩ := lSlot hK hi a (Q 3)
  refine g_iload h dL_branch_494 rfl ?_
  refine g_aload_n h dL_branch_496 rfl ?_
  refine clL_24 h (ct_L_table hb hK hi) rfl dL_branch_497 rfl (Nat.le_of_ble_eq_true rfl) (by decide) ?_
  refine g_ifneB h 506 dL_branch_500 (by decide) (fun c500 => ?_) (fun c500 => ?_)
  · refine g_bipush (v := nI 8) h dL_branch_506 (by decide) ?_
    refine g_iload h dL_branch_508 rfl ?_
    refine g_imulN h dL_branch_510 ?_
    refine g_iload h dL_branch_511 rfl ?_
    refine g_iload_n h dL_branch_513 rfl ?_
    refine g_aload_n h dL_branch_514 rfl ?_
    refine g_aload_n h dL_branch_515 rfl ?_
    refine clL_10 h (ct_L_index hb hi) rfl dL_branch_516 rfl (Nat.le_of_ble_eq_true rfl) (by decide) ?_
    refine g_top (nI js) ejs ?_
    refine g_iaddN h dL_branch_519 ?_
    refine g_istore h dL_branch_520 (by rw [hL]; decide) ?_
    refine g_aload h dL_branch_522 rfl ?_
    refine g_iload h dL_branch_524 rfl ?_
    refine g_dup2 h dL_branch_526 rfl rfl ?_
    refine g_ldt h hb (by omega) dL_branch_527 ?_
    refine g_iload_n h dL_branch_528 rfl ?_
    refine g_iconst (v := 1) h dL_branch_529 (by decide) ?_
    refine g_icne h 546 dL_branch_530 (by decide) (fun c530 => ?_) (fun c530 => ?_)
    · refine g_iload_n h dL_branch_546 rfl ?_
      refine g_ifne h 562 dL_branch_547 (by decide) (fun c547 => ?_) (fun c547 => ?_)
      · refine g_iconst (v := 0) h dL_branch_562 (by decide) ?_
        refine g_iadd h dL_branch_563 ?_
        refine g_stt h hb (by omega) dL_branch_564 ?_
        refine g_mem (put5 σ b Q O (lrT a (Q 3) tk i O T) V w) (by unfold lrT lqv; rw [if_pos c500, ejs, nI_clamp (by omega), if_neg (fun q => c530 q.1), if_neg (fun q => c547 q.1)]; try rfl) ?_
        refine g_sub [(0, .int a), (1, .int tk), (2, ra X (qI b)), (3, ra X (oI b)), (4, ra X (tI b)), (5, ra X (vI b)), (6, ra X 154), (7, .int W), (9, .int (bi bt)), (11, .int (nI i))] ⟨rfl, rfl, rfl, rfl, rfl, rfl, rfl, rfl, rfl, rfl, trivial⟩ ?_
        exact K
      · refine g_aload h dL_branch_550 rfl ?_
        refine g_iload h dL_branch_552 rfl ?_
        refine g_ldt h hb (by omega) dL_branch_554 ?_
        refine g_ifle h 562 dL_branch_555 (by decide) (fun c555 => ?_) (fun c555 => ?_)
        · refine g_iconst (v := 0) h dL_branch_562 (by decide) ?_
          refine g_iadd h dL_branch_563 ?_
          refine g_stt h hb (by omega) dL_branch_564 ?_
          refine g_mem (put5 σ b Q O (lrT a (Q 3) tk i O T) V w) (by unfold lrT lqv; rw [if_pos c500, ejs, nI_clamp (by omega), if_neg (fun q => c530 q.1), if_neg (fun q => absurd q.2 (Int32.not_lt.mpr c555))]; try rfl) ?_
          refine g_sub [(0, .int a), (1, .int tk), (2, ra X (qI b)), (3, ra X (oI b)), (4, ra X (tI b)), (5, ra X (vI b)), (6, ra X 154), (7, .int W), (9, .int (bi bt)), (11, .int (nI i))] ⟨rfl, rfl, rfl, rfl, rfl, rfl, rfl, rfl, rfl, rfl, trivial⟩ ?_
          exact K
        · refine g_iconst (v := (-1)) h dL_branch_558 (by decide) ?_
          refine g_goto h 563 dL_branch_559 (by decide) ?_
          refine g_iadd h dL_branch_563 ?_
          refine g_stt h hb (by omega) dL_branch_564 ?_
          refine g_mem (put5 σ b Q O (lrT a (Q 3) tk i O T) V w) (by unfold lrT lqv; rw [if_pos c500, ejs, nI_clamp (by omega), if_neg (fun q => c530 q.1), if_pos ⟨c547, Int32.not_le.mp c555⟩]; try rfl) ?_
          refine g_sub [(0, .int a), (1, .int tk), (2, ra X (qI b)), (3, ra X (oI b)), (4, ra X (tI b)), (5, ra X (vI b)), (6, ra X 154), (7, .int W), (9, .int (bi bt)), (11, .int (nI i))] ⟨rfl, rfl, rfl, rfl, rfl, rfl, rfl, rfl, rfl, rfl, trivial⟩ ?_
          exact K
    · refine g_aload h dL_branch_533 rfl ?_
      refine g_iload h dL_branch_535 rfl ?_
      refine g_ldt h hb (by omega) dL_branch_537 ?_
      refine g_iconst (v := 3) h dL_branch_538 (by decide) ?_
      refine g_icge h 546 dL_branch_539 (by decide) (fun c539 => ?_) (fun c539 => ?_)
      · refine g_iload_n h dL_branch_546 rfl ?_
        refine g_ifne h 562 dL_branch_547 (by decide) (fun c547 => ?_) (fun c547 => absurd (c530.symm.trans c547) (by decide))
        refine g_iconst (v := 0) h dL_branch_562 (by decide) ?_
        refine g_iadd h dL_branch_563 ?_
        refine g_stt h hb (by omega) dL_branch_564 ?_
        refine g_mem (put5 σ b Q O (lrT a (Q 3) tk i O T) V w) (by unfold lrT lqv; rw [if_pos c500, ejs, nI_clamp (by omega), if_neg (fun q => absurd q.2 (Int32.not_lt.mpr c539)), if_neg (fun q => c547 q.1)]; try rfl) ?_
        refine g_sub [(0, .int a), (1, .int tk), (2, ra X (qI b)), (3, ra X (oI b)), (4, ra X (tI b)), (5, ra X (vI b)), (6, ra X 154), (7, .int W), (9, .int (bi bt)), (11, .int (nI i))] ⟨rfl, rfl, rfl, rfl, rfl, rfl, rfl, rfl, rfl, rfl, trivial⟩ ?_
        exact K
      · refine g_iconst (v := 1) h dL_branch_542 (by decide) ?_
        refine g_goto h 563 dL_branch_543 (by decide) ?_
        refine g_iadd h dL_branch_563 ?_
        refine g_stt h hb (by omega) dL_branch_564 ?_
        refine g_mem (put5 σ b Q O (lrT a (Q 3) tk i O T) V w) (by unfold lrT lqv; rw [if_pos c500, ejs, nI_clamp (by omega), if_pos ⟨c530, Int32.not_le.mp c539⟩]; try rfl) ?_
        refine g_sub [(0, .int a), (1, .int tk), (2, ra X (qI b)), (3, ra X (oI b)), (4, ra X (tI b)), (5, ra X (vI b)), (6, ra X 154), (7, .int W), (9, .int (bi bt)), (11, .int (nI i))] ⟨rfl, rfl, rfl, rfl, rfl, rfl, rfl, rfl, rfl, rfl, trivial⟩ ?_
        exact K
  · refine g_goto h 565 dL_branch_503 (by decide) ?_
    refine g_mem (put5 σ b Q O (lrT a (Q 3) tk i O T) V w) (by unfold lrT; rw [if_neg (by rw [c500]; decide)]) ?_
    refine g_sub [(0, .int a), (1, .int tk), (2, ra X (qI b)), (3, ra X (oI b)), (4, ra X (tI b)), (5, ra X (vI b)), (6, ra X 154), (7, .int W), (9, .int (bi bt)), (11, .int (nI i))] ⟨rfl, rfl, rfl, rfl, rfl, rfl, rfl, rfl, rfl, rfl, trivial⟩ ?_
    exact K

set_option maxRecDepth 100000 in
set_option maxHeartbeats 4000000 in
theorem sb_10 {l : Launch} {x : fC} {X : fX} {σ : fM} {b : Nat} {Q O T V w : Nat → Int32} {a tk : Int32} (h : Ok l x X cL_branch RL 3) (hL : xL x = 13) (hb : bk X b) {W : Int32} {bt : Bool} (hK : lK O) (K : G x X (put5 σ b Q (lrF w tk a (Q 3) (O, T) 5).1 (lrF w tk a (Q 3) (O, T) 5).2 V w) [(0, .int a), (1, .int tk), (2, ra X (qI b)), (3, ra X (oI b)), (4, ra X (tI b)), (5, ra X (vI b)), (6, ra X 154), (7, .int W), (9, .int (bi bt)), (11, .int (nI 5))] [] 571) : G x X (put5 σ b Q O T V w) [(0, .int a), (1, .int tk), (2, ra X (qI b)), (3, ra X (oI b)), (4, ra X (tI b)), (5, ra X (vI b)), (6, ra X 154), (7, .int W), (9, .int (bi bt))] [] 325 := by
  have LOOP : ∀ (q i : Nat), i + q = 5 → G x X (put5 σ b Q (lrF w tk a (Q 3) (O, T) i).1 (lrF w tk a (Q 3) (O, T) i).2 V w) [(0, .int a), (1, .int tk), (2, ra X (qI b)), (3, ra X (oI b)), (4, ra X (tI b)), (5, ra X (vI b)), (6, ra X 154), (7, .int W), (9, .int (bi bt)), (11, .int (nI i))] [] 328 := by
    intro q
    induction q with
    | zero =>
      intro i hi 
      have hie : i = 5 := by omega
      rw [hie]
      refine g_iload h dL_branch_328 rfl ?_
      refine g_iconst (v := nI 5) h dL_branch_330 (by decide) ?_
      refine g_icge h 571 dL_branch_331 (by decide) (fun c331 => ?_) (fun c331 => absurd (Int32.le_refl _) c331)
      exact K
    | succ q ih =>
      intro i hi 
      have hlt : i < 5 := by omega
      refine g_iload h dL_branch_328 rfl ?_
      refine g_iconst (v := nI 5) h dL_branch_330 (by decide) ?_
      refine g_icge h 571 dL_branch_331 (by decide) (fun c331 => absurd c331 (nI_ge hlt (by decide))) (fun c331 => ?_)
      refine sb_7 h hL hb hlt ?_
      refine sb_8 h hL hb hlt ?_
      refine sb_9 h hL hb hlt ?_ ?_
      · exact lK_cg hK (fun j hj => by
          unfold lrB
          rw [upd_n _ _ _ _ (by omega), lrA_ne (Or.inl (by omega)) (by omega)]
          exact lrF_K i j (by omega))
      refine g_iincN h dL_branch_565 rfl (by rw [hL]; decide) ?_
      refine g_goto h 328 dL_branch_568 (by decide) ?_
      refine g_mem (put5 σ b Q (lrF w tk a (Q 3) (O, T) (i + 1)).1 (lrF w tk a (Q 3) (O, T) (i + 1)).2 V w) rfl ?_
      refine g_sub [(0, .int a), (1, .int tk), (2, ra X (qI b)), (3, ra X (oI b)), (4, ra X (tI b)), (5, ra X (vI b)), (6, ra X 154), (7, .int W), (9, .int (bi bt)), (11, .int (nI (i + 1)))] ⟨rfl, rfl, rfl, rfl, rfl, rfl, rfl, rfl, rfl, rfl, trivial⟩ ?_
      exact ih (i + 1) (by omega)
  refine g_iconst (v := nI 0) h dL_branch_325 (by decide) ?_
  refine g_istore h dL_branch_326 (by rw [hL]; decide) ?_
  refine g_sub [(0, .int a), (1, .int tk), (2, ra X (qI b)), (3, ra X (oI b)), (4, ra X (tI b)), (5, ra X (vI b)), (6, ra X 154), (7, .int W), (9, .int (bi bt)), (11, .int (nI 0))] ⟨rfl, rfl, rfl, rfl, rfl, rfl, rfl, rfl, rfl, rfl, trivial⟩ ?_
  exact LOOP 5 0 (by omega)

/-- the rows behind a branch, and its answer -/
def lbZ (Q O T V : Nat → Int32) (m : Nat) (a tk : Int32) (w : Nat → Int32) : lbT := lbF (lw1 Q O T a w 5) tk (lWr Q O T a tk 5) (lRi Q O T a tk 5) (lWr Q O T a tk 5, Q, lo1 O (lw1 Q O T a w 5) tk 5, V, m) 5
def lbt (Q O T : Nat → Int32) (a tk : Int32) : Bool := lBt (lWr Q O T a tk 5) (lRi Q O T a tk 5)
/-- house, settings, oracles, loans, their number behind the bets -/
def lbB (Q O T V : Nat → Int32) (m : Nat) (a tk : Int32) (w : Nat → Int32) : (Nat → Int32) × (Nat → Int32) × (Nat → Int32) × Nat :=
  if lbt Q O T a tk = true then (upd (upd (lbZ Q O T V m a tk w).2.1 4 ((lbZ Q O T V m a tk w).2.1 4 + (lbZ Q O T V m a tk w).1)) 6 (upd (lbZ Q O T V m a tk w).2.1 4 ((lbZ Q O T V m a tk w).2.1 4 + (lbZ Q O T V m a tk w).1) 6 + 1), (lbZ Q O T V m a tk w).2.2.1, (lbZ Q O T V m a tk w).2.2.2.1, (lbZ Q O T V m a tk w).2.2.2.2)
  else (Q, O, V, m)
def brV (Q O T : Nat → Int32) (a tk : Int32) : Int32 := if lbt Q O T a tk = true then lWr Q O T a tk 5 else 0
def brQ (Q O T V : Nat → Int32) (m : Nat) (a tk : Int32) (w : Nat → Int32) : Nat → Int32 := lEQ (lbB Q O T V m a tk w).1 tk
def brR (Q O T V : Nat → Int32) (m : Nat) (a tk : Int32) (w : Nat → Int32) : (Nat → Int32) × (Nat → Int32) := lrF (lw1 Q O T a w 5) tk a ((lbB Q O T V m a tk w).1 3) ((lbB Q O T V m a tk w).2.1, T) 5
def brM (σ : fM) (b : Nat) (Q O T V : Nat → Int32) (m : Nat) (a tk : Int32) (w : Nat → Int32) : fM :=
  put5 σ b (brQ Q O T V m a tk w) (brR Q O T V m a tk w).1 (brR Q O T V m a tk w).2 (lbB Q O T V m a tk w).2.2.1 (lw1 Q O T a w 5)

set_option maxRecDepth 100000 in
set_option maxHeartbeats 4000000 in
theorem ct_L_branch {l : Launch} {X : fX} {σ : fM} {b : Nat} {Q O T V w : Nat → Int32} (hb : bk X b) {m : Nat} (hH : lH O T) (hcr : lcr Q V m) {a tk : Int32} : Ct l X yL_branch cL_branch 13 (some .int) 3 [.int a, .int tk, ra X (qI b), ra X (oI b), ra X (tI b), ra X (vI b), ra X 154] (put5 σ b Q O T V w) (some (.int (brV Q O T a tk))) (brM σ b Q O T V m a tk w) := by
  refine Ct.of RL rfl (by decide) (Nat.le_of_ble_eq_true rfl) ?_
  intro x hL h hr
  refine g_sub [(0, .int a), (1, .int tk), (2, ra X (qI b)), (3, ra X (oI b)), (4, ra X (tI b)), (5, ra X (vI b)), (6, ra X 154)] ⟨rfl, rfl, rfl, rfl, rfl, rfl, rfl, trivial⟩ ?_
  have END : G x X (put5 σ b (lbB Q O T V m a tk w).1 (lrF (lw1 Q O T a w 5) tk a ((lbB Q O T V m a tk w).1 3) ((lbB Q O T V m a tk w).2.1, T) 5).1 (lrF (lw1 Q O T a w 5) tk a ((lbB Q O T V m a tk w).1 3) ((lbB Q O T V m a tk w).2.1, T) 5).2 (lbB Q O T V m a tk w).2.2.1 (lw1 Q O T a w 5)) [(0, .int a), (1, .int tk), (2, ra X (qI b)), (3, ra X (oI b)), (4, ra X (tI b)), (5, ra X (vI b)), (6, ra X 154), (7, .int (lWr Q O T a tk 5)), (9, .int (bi (lbt Q O T a tk))), (11, .int (nI 5))] [] 571 := by
    refine g_aload_n h dL_branch_571 rfl ?_
    refine g_iconst (v := nI 3) h dL_branch_572 (by decide) ?_
    refine g_aload_n h dL_branch_573 rfl ?_
    refine g_iconst (v := nI 3) h dL_branch_574 (by decide) ?_
    refine g_ldq h hb (by omega) dL_branch_575 ?_
    refine g_iconst (v := 1) h dL_branch_576 (by decide) ?_
    refine g_ishl h dL_branch_577 ?_
    refine g_iload_n h dL_branch_578 rfl ?_
    refine g_ior h dL_branch_579 ?_
    refine g_sipush (v := 255) h dL_branch_580 (by decide) ?_
    refine g_iand h dL_branch_583 ?_
    refine g_stq h hb (by omega) dL_branch_584 ?_
    refine g_aload_n h dL_branch_585 rfl ?_
    refine g_iconst (v := nI 5) h dL_branch_586 (by decide) ?_
    refine g_dup2 h dL_branch_587 rfl rfl ?_
    refine g_ldq h hb (by omega) dL_branch_588 ?_
    refine g_iconst (v := 1) h dL_branch_589 (by decide) ?_
    refine g_iadd h dL_branch_590 ?_
    refine g_stq h hb (by omega) dL_branch_591 ?_
    refine g_iload h dL_branch_592 rfl ?_
    refine g_ifeqB h 602 dL_branch_594 (by decide) (fun c594 => ?_) (fun c594 => ?_)
    · refine g_iconst (v := 0) h dL_branch_602 (by decide) ?_
      exact g_iret h hr dL_branch_603 (by unfold brV; first | (rw [if_pos c594]; done) | (rw [if_neg (by rw [c594]; decide)]; done)) (by unfold brM brQ brR lEQ; rw [upd_n _ _ _ _ (by decide)])
    · refine g_iload h dL_branch_597 rfl ?_
      refine g_goto h 603 dL_branch_599 (by decide) ?_
      exact g_iret h hr dL_branch_603 (by unfold brV; first | (rw [if_pos c594]; done) | (rw [if_neg (by rw [c594]; decide)]; done)) (by unfold brM brQ brR lEQ; rw [upd_n _ _ _ _ (by decide)])
  have hKB : lK (lbB Q O T V m a tk w).2.1 := by
    refine lK_cg hH.K (fun j hj => ?_)
    unfold lbB
    split
    · show (lbF _ _ _ _ _ 5).2.2.1 j = _
      rw [(lbF_I (z := (lWr Q O T a tk 5, Q, lo1 O (lw1 Q O T a w 5) tk 5, V, m)) hcr 5).2.1 j (by omega)]
      exact lo1_ne (by omega) 5
    · rfl
  have MIDK : G x X (put5 σ b (lbB Q O T V m a tk w).1 (lbB Q O T V m a tk w).2.1 T (lbB Q O T V m a tk w).2.2.1 (lw1 Q O T a w 5)) [(0, .int a), (1, .int tk), (2, ra X (qI b)), (3, ra X (oI b)), (4, ra X (tI b)), (5, ra X (vI b)), (6, ra X 154), (7, .int (lWr Q O T a tk 5)), (9, .int (bi (lbt Q O T a tk)))] [] 325 := sb_10 h hL hb hKB END
  refine sb_1 h hL hb hH ?_
  refine g_sub [(0, .int a), (1, .int tk), (2, ra X (qI b)), (3, ra X (oI b)), (4, ra X (tI b)), (5, ra X (vI b)), (6, ra X 154), (7, .int (lWr Q O T a tk 5)), (8, .int (lRi Q O T a tk 5))] ⟨rfl, rfl, rfl, rfl, rfl, rfl, rfl, rfl, rfl, trivial⟩ ?_
  refine sb_2 h hL hb ?_
  cases hbt : lBt (lWr Q O T a tk 5) (lRi Q O T a tk 5) with
  | false =>
    refine sb_6 h hL hb ?_
    have e : lbt Q O T a tk = false := hbt
    have eB : (lbB Q O T V m a tk w) = (Q, O, V, m) := by unfold lbB; rw [if_neg (by rw [e]; decide)]
    rw [eB, e] at MIDK
    exact MIDK
  | true =>
    have e : lbt Q O T a tk = true := hbt
    have hR0 : ¬ lRi Q O T a tk 5 = 0 := fun q => by
      unfold lBt at hbt
      rw [q] at hbt
      simp at hbt
    refine sb_3 h hL hb ?_
    refine sb_4 h hL hb hR0 hcr ?_
    refine g_sub [(0, .int a), (1, .int tk), (2, ra X (qI b)), (3, ra X (oI b)), (4, ra X (tI b)), (5, ra X (vI b)), (6, ra X 154), (7, .int (lWr Q O T a tk 5)), (9, .int (bi true)), (10, .int (lbZ Q O T V m a tk w).1)] ⟨rfl, rfl, rfl, rfl, rfl, rfl, rfl, rfl, rfl, rfl, trivial⟩ ?_
    refine sb_5 h hL hb ?_
    unfold lbB at MIDK
    rw [if_pos e, e] at MIDK
    exact MIDK
