/-! good states: what a copy, a branch keeps of them -/
def gst (σ : fM) (s n m : Nat) : Prop := cnt σ s n m ∧ crd σ s m ∧ ∀ i, i < n → oGood (σ.1 (iO s i))
theorem cpyO_O {s s2 : Nat} (hss : s2 ≠ s) (σ : fM) {i : Nat} : ∀ {n : Nat}, i < n → n ≤ 6 → (cpyO s s2 σ n).1 (iO s i) = oCopy (σ.1 (iO s2 i)) (σ.1 (iO s i)) ∧ (cpyO s s2 σ n).1 (iT s i) = cpy (σ.1 (iT s2 i)) (σ.1 (iT s i)) 32
  | 0, h, _ => absurd h (Nat.not_lt_zero _)
  | n + 1, h, h6 => by
    by_cases hi : i = n
    · subst hi
      have e1 : (cpyO s s2 σ i).1 (iO s2 i) = σ.1 (iO s2 i) := cpyO_ne (fun j hj => ⟨by unfold iO; omega, by unfold iO iT; omega⟩)
      have e2 : (cpyO s s2 σ i).1 (iT s2 i) = σ.1 (iT s2 i) := cpyO_ne (fun j hj => ⟨by unfold iO iT; omega, by unfold iT; omega⟩)
      have e3 : (cpyO s s2 σ i).1 (iO s i) = σ.1 (iO s i) := cpyO_ne (fun j hj => ⟨by unfold iO; omega, by unfold iO iT; omega⟩)
      have e4 : (cpyO s s2 σ i).1 (iT s i) = σ.1 (iT s i) := cpyO_ne (fun j hj => ⟨by unfold iO iT; omega, by unfold iT; omega⟩)
      constructor
      · show (puR (puR (cpyO s s2 σ i) _ _) _ _).1 (iO s i) = _
        rw [puR_ne _ (iO_T s i s i), puR_self, e1, e3]
      · show (puR (puR (cpyO s s2 σ i) _ _) _ _).1 (iT s i) = _
        rw [puR_self, e2, e4]
    · obtain ⟨h1, h2⟩ := cpyO_O hss σ (n := n) (by omega : i < n) (by omega)
      constructor
      · show (puR (puR (cpyO s s2 σ n) _ _) _ _).1 (iO s i) = _
        rw [puR_ne _ (iO_T s i s n), puR_ne _ (by unfold iO; omega), h1]
      · show (puR (puR (cpyO s s2 σ n) _ _) _ _).1 (iT s i) = _
        rw [puR_ne _ (by unfold iT; omega), puR_ne _ (iO_T s n s i).symm, h2]
theorem cpyL_L {s s2 : Nat} (hss : s2 ≠ s) (σ : fM) {i : Nat} : ∀ {n : Nat}, i < n → n ≤ 8 → (cpyL s s2 σ n).1 (iL s i) = lCopy (σ.1 (iL s2 i)) (σ.1 (iL s i))
  | 0, h, _ => absurd h (Nat.not_lt_zero _)
  | n + 1, h, h6 => by
    by_cases hi : i = n
    · subst hi
      have e1 : (cpyL s s2 σ i).1 (iL s2 i) = σ.1 (iL s2 i) := cpyL_ne (fun j hj => by unfold iL; omega)
      have e3 : (cpyL s s2 σ i).1 (iL s i) = σ.1 (iL s i) := cpyL_ne (fun j hj => by unfold iL; omega)
      show (puR (cpyL s s2 σ i) _ _).1 (iL s i) = _
      rw [puR_self, e1, e3]
    · show (puR (cpyL s s2 σ n) _ _).1 (iL s i) = _
      rw [puR_ne _ (by unfold iL; omega), cpyL_L hss σ (n := n) (by omega : i < n) (by omega)]
theorem cpyO_2 (s s2 : Nat) (σ : fM) : ∀ n, (cpyO s s2 σ n).2 = σ.2
  | 0 => rfl
  | n + 1 => cpyO_2 s s2 σ n
theorem cpyL_2 (s s2 : Nat) (σ : fM) : ∀ n, (cpyL s s2 σ n).2 = σ.2
  | 0 => rfl
  | n + 1 => cpyL_2 s s2 σ n
section COPY
variable {σ : fM} {s s2 n m : Nat}
theorem copyM_O (hss : s2 ≠ s) (hn : n ≤ 6) (hm : m ≤ 8) {i : Nat} (hi : i < n) : (copyM σ s s2 n m).1 (iO s i) = oCopy (σ.1 (iO s2 i)) (σ.1 (iO s i)) := by
  have e1 := iO_S s i s (by omega)
  have e2 := iO_Set s i s (by omega)
  unfold copyM
  dsimp only
  show (pu _ (iS s) 8 _).1 _ = _
  rw [pu_ne _ e1, pu_ne _ e1, pu_ne _ e1, pu_ne _ e1, puR_ne _ e2, cpyL_ne (fun j hj => iL_O s j s i (by omega) (by omega)), pu_ne _ e1, (cpyO_O hss _ hi hn).1, pu_ne _ e1, pu_ne _ (iO_S s2 i s (by omega))]
theorem copyM_T (hss : s2 ≠ s) (hn : n ≤ 6) (hm : m ≤ 8) {i : Nat} (hi : i < n) : (copyM σ s s2 n m).1 (iT s i) = cpy (σ.1 (iT s2 i)) (σ.1 (iT s i)) 32 := by
  have e1 := iT_S s i s (by omega)
  have e2 := iT_Set s i s (by omega)
  unfold copyM
  dsimp only
  show (pu _ (iS s) 8 _).1 _ = _
  rw [pu_ne _ e1, pu_ne _ e1, pu_ne _ e1, pu_ne _ e1, puR_ne _ e2, cpyL_ne (fun j hj => iL_T s j s i (by omega) (by omega)), pu_ne _ e1, (cpyO_O hss _ hi hn).2, pu_ne _ e1, pu_ne _ (iT_S s2 i s (by omega))]
theorem copyM_L (hss : s2 ≠ s) (hn : n ≤ 6) (hm : m ≤ 8) {i : Nat} (hi : i < m) : (copyM σ s s2 n m).1 (iL s i) = lCopy (σ.1 (iL s2 i)) (σ.1 (iL s i)) := by
  have e1 := iL_S s i s (by omega)
  have e2 := iL_Set s i s (by omega)
  have e3 : ∀ s', (cpyO s s2 (pu σ (iS s) 3 (σ.1 (iS s2) 3)) n).1 (iL s' i) = σ.1 (iL s' i) := fun s' => by
    rw [cpyO_ne (fun j hj => ⟨(iL_O s' i s j (by omega) (by omega)).symm, (iL_T s' i s j (by omega) (by omega)).symm⟩), pu_ne _ (iL_S s' i s (by omega))]
  unfold copyM
  dsimp only
  show (pu _ (iS s) 8 _).1 _ = _
  rw [pu_ne _ e1, pu_ne _ e1, pu_ne _ e1, pu_ne _ e1, puR_ne _ e2, cpyL_L hss _ hi hm, pu_ne _ e1, pu_ne _ (iL_S s2 i s (by omega)), e3, e3]
theorem copyM_Set (hn : n ≤ 6) (hm : m ≤ 8) : (copyM σ s s2 n m).1 (iSet s) = cpy (σ.1 (iSet s2)) (σ.1 (iSet s)) 3 := by
  have e1 := (iS_Set s s).symm
  have e3 : ∀ s', (cpyL s s2 (pu (cpyO s s2 (pu σ (iS s) 3 (σ.1 (iS s2) 3)) n) (iS s) 4 ((cpyO s s2 (pu σ (iS s) 3 (σ.1 (iS s2) 3)) n).1 (iS s2) 4)) m).1 (iSet s') = σ.1 (iSet s') := fun s' => by
    rw [cpyL_ne (fun j hj => iL_Set s j s' (by omega)), pu_ne _ (iS_Set s s').symm, cpyO_ne (fun j hj => ⟨iO_Set s j s' (by omega), iT_Set s j s' (by omega)⟩), pu_ne _ (iS_Set s s').symm]
  unfold copyM
  dsimp only
  show (pu _ (iS s) 8 _).1 _ = _
  rw [pu_ne _ e1, pu_ne _ e1, pu_ne _ e1, pu_ne _ e1, puR_self, e3, e3]
theorem copyM_S (hss : s2 ≠ s) (hn : n ≤ 6) (hm : m ≤ 8) {j : Nat} (h3 : 3 ≤ j) (h8 : j ≤ 8) : (copyM σ s s2 n m).1 (iS s) j = σ.1 (iS s2) j := by
  have ne : iS s2 ≠ iS s := by unfold iS; omega
  have eO : ∀ (τ : fM) (s' : Nat), (cpyO s s2 τ n).1 (iS s') = τ.1 (iS s') := fun τ s' => cpyO_ne (fun j hj => ⟨iO_S s j s' (by omega), iT_S s j s' (by omega)⟩)
  have eL : ∀ (τ : fM) (s' : Nat), (cpyL s s2 τ m).1 (iS s') = τ.1 (iS s') := fun τ s' => cpyL_ne (fun j hj => iL_S s j s' (by omega))
  unfold copyM
  dsimp only
  show (pu _ (iS s) 8 _).1 _ _ = _
  simp only [pu_puR, puR_puR, puR_self, puR_ne _ ne, puR_ne _ (iS_Set s s), puR_ne _ (iS_Set s2 s), eO, eL]
  unfold upd
  rcases (show j = 3 ∨ j = 4 ∨ j = 5 ∨ j = 6 ∨ j = 7 ∨ j = 8 by omega) with rfl | rfl | rfl | rfl | rfl | rfl <;> rfl
theorem copyM_2 : (copyM σ s s2 n m).2 (iS s) = σ.2 (iS s2) := by
  unfold copyM
  dsimp only
  show (if iS s = iS s then _ else _) = _
  rw [if_pos rfl]
  show (cpyL s s2 _ m).2 _ = _
  rw [cpyL_2]
  show (cpyO s s2 _ n).2 _ = _
  rw [cpyO_2]
  rfl
theorem oCopy_j (f g : Nat → Int32) {j : Nat} (h : j < 9) : oCopy f g j = f j := by
  unfold oCopy upd
  rcases (show j = 0 ∨ j = 1 ∨ j = 2 ∨ j = 3 ∨ j = 4 ∨ j = 5 ∨ j = 6 ∨ j = 7 ∨ j = 8 by omega) with rfl | rfl | rfl | rfl | rfl | rfl | rfl | rfl | rfl <;> rfl
theorem lCopy_j (f g : Nat → Int32) {j : Nat} (h : j < 3) : lCopy f g j = f j := by
  unfold lCopy upd
  rcases (show j = 0 ∨ j = 1 ∨ j = 2 by omega) with rfl | rfl | rfl <;> rfl
theorem gst_copy (hss : s2 ≠ s) (h : gst σ s2 n m) : gst (copyM σ s s2 n m) s n m := by
  obtain ⟨hc, hr, hg⟩ := h
  have hn := hc.2.2.1
  have hm := hc.2.2.2
  refine ⟨⟨by rw [copyM_S hss hn hm (by decide) (by decide)]; exact hc.1, by rw [copyM_S hss hn hm (by decide) (by decide)]; exact hc.2.1, hn, hm⟩, fun l hl => ?_, fun i hi => ?_⟩
  · rw [copyM_L hss hn hm hl, lCopy_j _ _ (by decide)]
    exact hr l hl
  · rw [copyM_O hss hn hm hi]
    exact oGood_cg (oCopy_j _ _ (by decide)) (oCopy_j _ _ (by decide)) (hg i hi)
end COPY
/-- the loans that are kept are some of those that were there -/
theorem dropF_L {s : Nat} {σ : fM} {m : Nat} (hm : m ≤ 8) : ∀ l, l ≤ m → (∀ q, l ≤ q → (dropF s (σ, 0) l).1.1 (iL s q) = σ.1 (iL s q)) ∧ ∀ q, q < (dropF s (σ, 0) l).2 → ∃ r, r < l ∧ ∀ j, j < 3 → (dropF s (σ, 0) l).1.1 (iL s q) j = σ.1 (iL s r) j
  | 0, _ => ⟨fun _ _ => rfl, fun q h => absurd h (Nat.not_lt_zero q)⟩
  | l + 1, h => by
    obtain ⟨h1, h2⟩ := dropF_L hm l (by omega)
    have hle := dropF_le s σ l
    show (∀ q, l + 1 ≤ q → (dropStep s l (dropF s (σ, 0) l)).1.1 (iL s q) = _) ∧ ∀ q, q < (dropStep s l (dropF s (σ, 0) l)).2 → ∃ r, r < l + 1 ∧ ∀ j, j < 3 → (dropStep s l (dropF s (σ, 0) l)).1.1 (iL s q) j = _
    generalize dropF s (σ, 0) l = z at h1 h2 hle
    unfold dropStep
    split
    · exact ⟨fun q hq => h1 q (by omega), fun q hq => by obtain ⟨r, hr, e⟩ := h2 q hq; exact ⟨r, by omega, e⟩⟩
    · refine ⟨fun q hq => ?_, fun q hq => ?_⟩
      · show (puR _ _ _).1 _ = _
        rw [puR_ne _ (by unfold iL; omega)]
        exact h1 q (by omega)
      · by_cases hqz : q = z.2
        · subst hqz
          refine ⟨l, by omega, fun j hj => ?_⟩
          show (puR _ _ _).1 _ _ = _
          rw [puR_self, lCopy_j _ _ hj, h1 l (Nat.le_refl l)]
        · have hq' : q < z.2 + 1 := hq
          obtain ⟨r, hr, e⟩ := h2 q (by omega)
          refine ⟨r, by omega, fun j hj => ?_⟩
          show (puR _ _ _).1 _ _ = _
          rw [puR_ne _ (by unfold iL; omega)]
          exact e j hj
theorem drop_L {s : Nat} {σ : fM} {m : Nat} (hm : m ≤ 8) {q : Nat} (hq : q < (dropF s (σ, 0) m).2) : ∃ r, r < m ∧ ∀ j, j < 3 → (dropM σ s m).1 (iL s q) j = σ.1 (iL s r) j := by
  have hle := dropF_le s σ m
  obtain ⟨r, hr, e⟩ := (dropF_L hm m (Nat.le_refl m)).2 q hq
  refine ⟨r, hr, fun j hj => ?_⟩
  unfold dropM
  rw [pu_ne _ (iL_S s q s (by omega))]
  exact e j hj
theorem setl_crd {σ : fM} {s n m : Nat} (k : Int32) (hc : cnt σ s n m) (hcr : crd σ s m) : crd (setlM σ s n m k) s (setlN σ s n m k) := by
  unfold setlM setlN
  split
  · exact hcr
  · split
    · intro q hq
      obtain ⟨r, hr, e⟩ := drop_L hc.2.2.2 hq
      rw [e 0 (by decide)]
      exact crd_S ((setlZ_frm k hc hcr).crd (crd_S hcr hc.2.2.2 _ _)) hc.2.2.2 _ _ r hr
    · exact hcr
/-- how many loans there are behind a branch -/
def runN (σ : fM) (s n m : Nat) (a k : Int32) : Nat := setlN (fore σ s n a) s n m k
theorem learn_ne {σ : fM} {s n : Nat} {a k : Int32} {q : Nat} (h : ∀ i, i < n → iT s i ≠ q) (hS : q ≠ iS s) : (learnM σ s n a k).1 q = σ.1 q := by
  unfold learnM
  show (puR _ _ _).1 q = _
  rw [puR_ne _ hS, setF_ne h]
theorem learn_S {σ : fM} {s n : Nat} {a k : Int32} : (learnM σ s n a k).1 (iS s) = lrnS (σ.1 (iS s)) k := by
  unfold learnM
  show (puR _ _ _).1 (iS s) = _
  rw [puR_self]
theorem gst_run {σ : fM} {s n m : Nat} (a k : Int32) (h : gst σ s n m) : gst (runM σ s n m a k) s n (runN σ s n m a k) := by
  obtain ⟨hc, hr, hg⟩ := h
  have hn := hc.2.2.1
  have hm := hc.2.2.2
  have hc1 := fore_cnt a hc
  have hr1 := fore_crd a hn hm hr
  have hc2 := setl_cnt k hc1 hr1
  have hr2 := setl_crd k hc1 hr1
  have hc3 := keep_cnt k hc2
  have hm2 : runN σ s n m a k ≤ 8 := hc2.2.2.2
  refine ⟨⟨?_, ?_, hn, hm2⟩, fun l hl => ?_, fun i hi => ?_⟩
  · unfold runM
    rw [learn_S]
    show upd (upd _ 6 _) 7 _ 3 = _
    rw [upd_n _ _ _ _ (by decide), upd_n _ _ _ _ (by decide)]
    exact hc3.1
  · unfold runM
    rw [learn_S]
    show upd (upd _ 6 _) 7 _ 4 = _
    rw [upd_n _ _ _ _ (by decide), upd_n _ _ _ _ (by decide)]
    exact hc3.2.1
  · unfold runM
    rw [learn_ne (fun i hi => (iL_T s l s i (by omega) (by omega)).symm) (iL_S s l s (by omega)), setF_ne (fun i hi => (iL_O s l s i (by omega) (by omega)).symm)]
    exact hr2 l hl
  · unfold runM
    rw [learn_ne (fun j hj => (iO_T s i s j).symm) (iO_S s i s (by omega))]
    have e : ∀ j, j < 2 → (setF (setlM (fore σ s n a) s n m k) (iO s) (kept (setlM (fore σ s n a) s n m k) s k) n).1 (iO s i) j = σ.1 (iO s i) j := fun j hj => by
      rw [setF_at (iO_inj s) hi, kept_01 _ _ _ _ _ (by omega), setl_O k hc1 hr1 (by omega) (by omega), fore_O a hi, foR2_n _ _ _ _ _ _ (by omega) (by omega)]
    exact oGood_cg (e 0 (by decide)) (e 1 (by decide)) (hg i hi)
