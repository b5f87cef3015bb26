/-! the model: orders are done -/
def mdoZ (σ : fM) (n m a w k : Nat) : Nat → fM × Nat
  | 0 => (σ, m)
  | i + 1 => (mcM (mdoZ σ n m a w k i).1 n (mdoZ σ n m a w k i).2 a (wayW (nI w) (nI i) (nI k)), mcC (mdoZ σ n m a w k i).1 n (mdoZ σ n m a w k i).2 a (wayW (nI w) (nI i) (nI k)))
def mdoM (σ : fM) (n m w a k : Nat) : Int32 × fM × Nat := if w = 4 then (0, pu σ 151 1 (σ.1 150 12), m) else (nI k, mdoZ σ n m a w k k)
theorem par2 {i : Nat} (h : i < 2 ^ 31) : nI i - nI i / 2 * 2 = nI i &&& 1 := by
  rw [show (2 : Int32) = nI 2 by decide, pk_rem h (by decide) (by decide), pk_andN (k := 1) (by omega) (by decide)]
theorem wayW_01 {w i k : Nat} (hi : i < 2 ^ 31) : wayW (nI w) (nI i) (nI k) = 0 ∨ wayW (nI w) (nI i) (nI k) = 1 := by
  unfold wayW
  split
  · exact Or.inr rfl
  · split
    · rw [pk_andN (k := 1) (by omega) (by decide)]
      rcases (show i % 2 ^ 1 = 0 ∨ i % 2 ^ 1 = 1 by omega) with e | e
      · rw [e]; exact Or.inr (by decide)
      · rw [e]; exact Or.inl (by decide)
    · split
      · split
        · exact Or.inr rfl
        · exact Or.inl rfl
      · exact Or.inl rfl
theorem mdoZ_G {σ : fM} {n m B y a w k : Nat} (g : mG (σ.1 151) n m B y) (hB : B < 2 ^ 24 - 2 ^ 12) (ha : a < 64) (hy : y + 100 < 2 ^ 24) : ∀ i, i ≤ 100 → mG ((mdoZ σ n m a w k i).1.1 151) n (mdoZ σ n m a w k i).2 B (y + i) ∧ ∀ q, q ≠ 151 → (q < 155 ∨ 158 < q) → (mdoZ σ n m a w k i).1.1 q = σ.1 q
  | 0, _ => ⟨g, fun _ _ _ => rfl⟩
  | i + 1, hi => by
    obtain ⟨h1, h2⟩ := mdoZ_G (w := w) (k := k) g hB ha hy i (by omega)
    refine ⟨?_, fun q hq hq2 => (mcM_ne hq hq2).trans (h2 q hq hq2)⟩
    show mG ((mcM _ n _ a _).1 151) n (mcC _ n _ a _) B (y + (i + 1))
    rw [mcM_151]
    exact mG_mc h1 hB ha (wayW_01 (by omega)) (show y + i < 2 ^ 24 by omega)
theorem mG_up {r : Nat → Int32} {n m B y y' : Nat} (g : mG r n m B y) (h : y ≤ y') : mG r n m B y' := by
  obtain ⟨a1, a2, a3, a4, a5, a6⟩ := g
  refine ⟨a1, a2, a3, fun i hi => ⟨(a4 i hi).1, (a4 i hi).2.1, ?_⟩, a5, a6⟩
  obtain ⟨x, z, h1, h2, h3⟩ := (a4 i hi).2.2
  exact ⟨x, z, by omega, h2, h3⟩
theorem mG_cut {r : Nat → Int32} {n m B y c : Nat} (g : mG r n m B y) (hc : c ≤ 50) : mG (upd r 1 (nI c)) n m B y := by
  obtain ⟨⟨hn, hn6, hm, hm8⟩, ⟨hv, h1, h2⟩, ⟨⟨u, u1, u2, u3⟩, -, s, s1, s2⟩, hor, ⟨p, p1, p2⟩, hl⟩ := g
  have ne : ∀ q, q ≠ 1 → upd r 1 (nI c) q = r q := fun q hq => upd_n _ _ _ _ hq
  have em : ∀ i p, mo (upd r 1 (nI c)) i p = mo r i p := fun i p => ne _ (by omega)
  refine ⟨⟨(ne 7 (by decide)).trans hn, hn6, (ne 8 (by decide)).trans hm, hm8⟩, ⟨hv, h1, (ne 3 (by decide)).trans h2⟩, ⟨⟨u, u1, u2, (ne 0 (by decide)).trans u3⟩, ⟨c, hc, upd_s _ _ _⟩, s, s1, (ne 2 (by decide)).trans s2⟩, fun i hi => ?_, ⟨p, fun i hi => (em i 2).trans (p1 i hi), p2⟩, lgo_cg hl (fun l j hl hj => ne _ (by omega))⟩
  obtain ⟨⟨k0, k1, k2, k3⟩, ⟨v, v1, v2⟩, x, y, q1, q2, q3⟩ := hor i hi
  exact ⟨⟨by rw [em i 0]; exact k0, oGood_cg (em i 0) (em i 1) k1, fun q hq => by rw [show mt (upd r 1 (nI c)) i q = mt r i q from em i (10 + q)]; exact k2 q hq, by rw [em i 0, em i 1]; exact k3⟩, ⟨v, v1, (em i 7).trans v2⟩, x, y, q1, (em i 5).trans q2, (em i 6).trans q3⟩
theorem mdoM_G {σ : fM} {n m B y a w k : Nat} (g : mG (σ.1 151) n m B y) (hB : B < 2 ^ 24 - 2 ^ 12) (hy : y + 100 < 2 ^ 24) (h4 : w = 4 → ∃ c : Nat, c ≤ 50 ∧ σ.1 150 12 = nI c) (h : ¬ w = 4 → a < 64 ∧ k ≤ 40) : mG ((mdoM σ n m w a k).2.1.1 151) n (mdoM σ n m w a k).2.2 B (y + 40) ∧ ∀ q, q ≠ 151 → (q < 155 ∨ 158 < q) → (mdoM σ n m w a k).2.1.1 q = σ.1 q := by
  unfold mdoM
  by_cases hw : w = 4
  · rw [if_pos hw]
    obtain ⟨c, hc, ec⟩ := h4 hw
    refine ⟨?_, fun q hq _ => pu_ne _ hq⟩
    show mG ((pu σ 151 1 (σ.1 150 12)).1 151) n m B (y + 40)
    rw [pu_upd, ec]
    exact mG_up (mG_cut g hc) (by omega)
  · rw [if_neg hw]
    obtain ⟨ha, hk⟩ := h hw
    obtain ⟨h1, h2⟩ := mdoZ_G (w := w) (k := k) g hB ha hy k (by omega)
    exact ⟨mG_up h1 (by omega), h2⟩

set_option maxRecDepth 100000 in
set_option maxHeartbeats 4000000 in
theorem ct_X6_does {l : Launch} {X : fX} {σ : fM} {n m B y : Nat} (g : mG (σ.1 151) n m B y) (hB : B < 2 ^ 24 - 2 ^ 12) (hy : y + 100 < 2 ^ 24) {w a k : Nat} (hw : w ≤ 4) (hw5 : σ.1 150 11 = nI w) (hK : ¬ w = 4 → a < 64 ∧ k ≤ 40 ∧ σ.1 150 12 = nI a ∧ σ.1 150 13 = nI k) : Ct l X yX6_does cX6_does 3 (some .int) 8 [ra X 150] σ (some (.int (mdoM σ n m w a k).1)) (mdoM σ n m w a k).2.1 := by
  refine Ct.of RX6 rfl (by decide) (Nat.le_of_ble_eq_true rfl) ?_
  intro x hL h hr
  refine g_sub [(0, ra X 150)] ⟨rfl, trivial⟩ ?_
  refine g_aload_n h dX6_does_0 rfl ?_
  refine gf6_162 h  dX6_does_1 ?_
  refine g_top (nI w) hw5 ?_
  refine g_iconst (v := 4) h dX6_does_4 (by decide) ?_
  refine g_icne h 20 dX6_does_5 (by decide) (fun c5 => ?_) (fun c5 => ?_)
  · have hw4 : ¬ w = 4 := fun e => c5 (by rw [e]; decide)
    obtain ⟨ha, hk40, h12, h13⟩ := hK hw4
    refine g_iconst (v := 0) h dX6_does_20 (by decide) ?_
    refine g_istore_n h dX6_does_21 (by rw [hL]; decide) ?_
    rcases (show w = 0 ∨ w = 1 ∨ w = 2 ∨ w = 3 by omega) with rfl | rfl | rfl | rfl
    · have LOOP : ∀ (q i : Nat), i + q = k → G x X (mdoZ σ n m a 0 k i).1 [(0, ra X 150), (1, .int (nI i))] [] 22 := by
        intro q
        induction q with
        | zero =>
          intro i hi 
          have hie : i = k := by omega
          rw [hie]
          have f13 : (mdoZ σ n m a 0 k k).1.1 150 13 = nI k := by rw [(mdoZ_G (w := 0) (k := k) g hB ha hy k (by omega)).2 150 (by decide) (by decide)]; exact h13
          refine g_iload_n h dX6_does_22 rfl ?_
          refine g_aload_n h dX6_does_23 rfl ?_
          refine gf6_168 h  dX6_does_24 ?_
          refine g_top (nI k) f13 ?_
          refine g_icge h 101 dX6_does_27 (by decide) (fun c27 => ?_) (fun c27 => absurd (Int32.le_refl _) c27)
          refine g_aload_n h dX6_does_101 rfl ?_
          refine gf6_168 h  dX6_does_102 ?_
          refine g_top (nI k) f13 ?_
          exact g_iret h hr dX6_does_105 (by unfold mdoM; rw [if_neg (by decide)]) (by unfold mdoM; rw [if_neg (by decide)])
        | succ q ih =>
          intro i hi 
          have hlt : i < k := by omega
          obtain ⟨gi, ne⟩ := mdoZ_G (w := 0) (k := k) g hB ha hy i (by omega)
          have f11 : (mdoZ σ n m a 0 k i).1.1 150 11 = nI 0 := by rw [ne 150 (by decide) (by decide)]; exact hw5
          have f12 : (mdoZ σ n m a 0 k i).1.1 150 12 = nI a := by rw [ne 150 (by decide) (by decide)]; exact h12
          have f13 : (mdoZ σ n m a 0 k i).1.1 150 13 = nI k := by rw [ne 150 (by decide) (by decide)]; exact h13
          refine g_iload_n h dX6_does_22 rfl ?_
          refine g_aload_n h dX6_does_23 rfl ?_
          refine gf6_168 h  dX6_does_24 ?_
          refine g_top (nI k) f13 ?_
          refine g_icge h 101 dX6_does_27 (by decide) (fun c27 => absurd c27 (nI_ge hlt (by omega))) (fun c27 => ?_)
          refine g_aload_n h dX6_does_30 rfl ?_
          refine gf6_162 h  dX6_does_31 ?_
          refine g_top (nI 0) f11 ?_
          refine g_ifne h 41 dX6_does_34 (by decide) (fun c34 => absurd (by decide) c34) (fun c34 => ?_)
          refine g_iconst (v := 1) h dX6_does_37 (by decide) ?_
          refine g_goto h 84 dX6_does_38 (by decide) ?_
          refine g_top (wayW (nI 0) (nI i) (nI k)) (by unfold wayW; rw [if_pos (by decide)]) ?_
          refine g_istore_n h dX6_does_84 (by rw [hL]; decide) ?_
          refine g_aload_n h dX6_does_85 rfl ?_
          refine g_aload_n h dX6_does_86 rfl ?_
          refine gf6_165 h  dX6_does_87 ?_
          refine g_top (nI a) f12 ?_
          refine g_iload_n h dX6_does_90 rfl ?_
          refine cl6_123 h  (ct_X6_comes (n := n) (m := (mdoZ σ n m a 0 k i).2) (a := a) (gi.gd (by omega)) gi.cr ha) rfl dX6_does_91 rfl (Nat.le_of_ble_eq_true rfl) (by decide) ?_
          refine g_pop h dX6_does_94 rfl ?_
          refine g_iincN h dX6_does_95 rfl (by rw [hL]; decide) ?_
          refine g_goto h 22 dX6_does_98 (by decide) ?_
          refine g_mem (mdoZ σ n m a 0 k (i + 1)).1 rfl ?_
          refine g_sub [(0, ra X 150), (1, .int (nI (i + 1)))] ⟨rfl, rfl, trivial⟩ ?_
          exact ih (i + 1) (by omega)
      refine g_mem (mdoZ σ n m a 0 k 0).1 rfl ?_
      refine g_sub [(0, ra X 150), (1, .int (nI 0))] ⟨rfl, lk_0, trivial⟩ ?_
      exact LOOP k 0 (by omega)
    · have LOOP : ∀ (q i : Nat), i + q = k → G x X (mdoZ σ n m a 1 k i).1 [(0, ra X 150), (1, .int (nI i))] [] 22 := by
        intro q
        induction q with
        | zero =>
          intro i hi 
          have hie : i = k := by omega
          rw [hie]
          have f13 : (mdoZ σ n m a 1 k k).1.1 150 13 = nI k := by rw [(mdoZ_G (w := 1) (k := k) g hB ha hy k (by omega)).2 150 (by decide) (by decide)]; exact h13
          refine g_iload_n h dX6_does_22 rfl ?_
          refine g_aload_n h dX6_does_23 rfl ?_
          refine gf6_168 h  dX6_does_24 ?_
          refine g_top (nI k) f13 ?_
          refine g_icge h 101 dX6_does_27 (by decide) (fun c27 => ?_) (fun c27 => absurd (Int32.le_refl _) c27)
          refine g_aload_n h dX6_does_101 rfl ?_
          refine gf6_168 h  dX6_does_102 ?_
          refine g_top (nI k) f13 ?_
          exact g_iret h hr dX6_does_105 (by unfold mdoM; rw [if_neg (by decide)]) (by unfold mdoM; rw [if_neg (by decide)])
        | succ q ih =>
          intro i hi 
          have hlt : i < k := by omega
          obtain ⟨gi, ne⟩ := mdoZ_G (w := 1) (k := k) g hB ha hy i (by omega)
          have f11 : (mdoZ σ n m a 1 k i).1.1 150 11 = nI 1 := by rw [ne 150 (by decide) (by decide)]; exact hw5
          have f12 : (mdoZ σ n m a 1 k i).1.1 150 12 = nI a := by rw [ne 150 (by decide) (by decide)]; exact h12
          have f13 : (mdoZ σ n m a 1 k i).1.1 150 13 = nI k := by rw [ne 150 (by decide) (by decide)]; exact h13
          refine g_iload_n h dX6_does_22 rfl ?_
          refine g_aload_n h dX6_does_23 rfl ?_
          refine gf6_168 h  dX6_does_24 ?_
          refine g_top (nI k) f13 ?_
          refine g_icge h 101 dX6_does_27 (by decide) (fun c27 => absurd c27 (nI_ge hlt (by omega))) (fun c27 => ?_)
          refine g_aload_n h dX6_does_30 rfl ?_
          refine gf6_162 h  dX6_does_31 ?_
          refine g_top (nI 1) f11 ?_
          refine g_ifne h 41 dX6_does_34 (by decide) (fun c34 => ?_) (fun c34 => absurd c34 (by decide))
          refine g_aload_n h dX6_does_41 rfl ?_
          refine gf6_162 h  dX6_does_42 ?_
          refine g_top (nI 1) f11 ?_
          refine g_iconst (v := 1) h dX6_does_45 (by decide) ?_
          refine g_icne h 53 dX6_does_46 (by decide) (fun c46 => absurd (by decide) c46) (fun c46 => ?_)
          refine g_iconst (v := 0) h dX6_does_49 (by decide) ?_
          refine g_goto h 84 dX6_does_50 (by decide) ?_
          refine g_top (wayW (nI 1) (nI i) (nI k)) (by unfold wayW; rw [if_neg (by decide), if_neg (by decide), if_neg (by decide)]) ?_
          refine g_istore_n h dX6_does_84 (by rw [hL]; decide) ?_
          refine g_aload_n h dX6_does_85 rfl ?_
          refine g_aload_n h dX6_does_86 rfl ?_
          refine gf6_165 h  dX6_does_87 ?_
          refine g_top (nI a) f12 ?_
          refine g_iload_n h dX6_does_90 rfl ?_
          refine cl6_123 h  (ct_X6_comes (n := n) (m := (mdoZ σ n m a 1 k i).2) (a := a) (gi.gd (by omega)) gi.cr ha) rfl dX6_does_91 rfl (Nat.le_of_ble_eq_true rfl) (by decide) ?_
          refine g_pop h dX6_does_94 rfl ?_
          refine g_iincN h dX6_does_95 rfl (by rw [hL]; decide) ?_
          refine g_goto h 22 dX6_does_98 (by decide) ?_
          refine g_mem (mdoZ σ n m a 1 k (i + 1)).1 rfl ?_
          refine g_sub [(0, ra X 150), (1, .int (nI (i + 1)))] ⟨rfl, rfl, trivial⟩ ?_
          exact ih (i + 1) (by omega)
      refine g_mem (mdoZ σ n m a 1 k 0).1 rfl ?_
      refine g_sub [(0, ra X 150), (1, .int (nI 0))] ⟨rfl, lk_0, trivial⟩ ?_
      exact LOOP k 0 (by omega)
    · have LOOP : ∀ (q i : Nat), i + q = k → G x X (mdoZ σ n m a 2 k i).1 [(0, ra X 150), (1, .int (nI i))] [] 22 := by
        intro q
        induction q with
        | zero =>
          intro i hi 
          have hie : i = k := by omega
          rw [hie]
          have f13 : (mdoZ σ n m a 2 k k).1.1 150 13 = nI k := by rw [(mdoZ_G (w := 2) (k := k) g hB ha hy k (by omega)).2 150 (by decide) (by decide)]; exact h13
          refine g_iload_n h dX6_does_22 rfl ?_
          refine g_aload_n h dX6_does_23 rfl ?_
          refine gf6_168 h  dX6_does_24 ?_
          refine g_top (nI k) f13 ?_
          refine g_icge h 101 dX6_does_27 (by decide) (fun c27 => ?_) (fun c27 => absurd (Int32.le_refl _) c27)
          refine g_aload_n h dX6_does_101 rfl ?_
          refine gf6_168 h  dX6_does_102 ?_
          refine g_top (nI k) f13 ?_
          exact g_iret h hr dX6_does_105 (by unfold mdoM; rw [if_neg (by decide)]) (by unfold mdoM; rw [if_neg (by decide)])
        | succ q ih =>
          intro i hi 
          have hlt : i < k := by omega
          obtain ⟨gi, ne⟩ := mdoZ_G (w := 2) (k := k) g hB ha hy i (by omega)
          have f11 : (mdoZ σ n m a 2 k i).1.1 150 11 = nI 2 := by rw [ne 150 (by decide) (by decide)]; exact hw5
          have f12 : (mdoZ σ n m a 2 k i).1.1 150 12 = nI a := by rw [ne 150 (by decide) (by decide)]; exact h12
          have f13 : (mdoZ σ n m a 2 k i).1.1 150 13 = nI k := by rw [ne 150 (by decide) (by decide)]; exact h13
          refine g_iload_n h dX6_does_22 rfl ?_
          refine g_aload_n h dX6_does_23 rfl ?_
          refine gf6_168 h  dX6_does_24 ?_
          refine g_top (nI k) f13 ?_
          refine g_icge h 101 dX6_does_27 (by decide) (fun c27 => absurd c27 (nI_ge hlt (by omega))) (fun c27 => ?_)
          refine g_aload_n h dX6_does_30 rfl ?_
          refine gf6_162 h  dX6_does_31 ?_
          refine g_top (nI 2) f11 ?_
          refine g_ifne h 41 dX6_does_34 (by decide) (fun c34 => ?_) (fun c34 => absurd c34 (by decide))
          refine g_aload_n h dX6_does_41 rfl ?_
          refine gf6_162 h  dX6_does_42 ?_
          refine g_top (nI 2) f11 ?_
          refine g_iconst (v := 1) h dX6_does_45 (by decide) ?_
          refine g_icne h 53 dX6_does_46 (by decide) (fun c46 => ?_) (fun c46 => absurd c46 (by decide))
          refine g_aload_n h dX6_does_53 rfl ?_
          refine gf6_162 h  dX6_does_54 ?_
          refine g_top (nI 2) f11 ?_
          refine g_iconst (v := 2) h dX6_does_57 (by decide) ?_
          refine g_icne h 69 dX6_does_58 (by decide) (fun c58 => absurd (by decide) c58) (fun c58 => ?_)
          refine g_iconst (v := 1) h dX6_does_61 (by decide) ?_
          refine g_iload_n h dX6_does_62 rfl ?_
          refine g_iconst (v := 2) h dX6_does_63 (by decide) ?_
          refine g_irem h dX6_does_64 (by decide) ?_
          refine g_isub h dX6_does_65 ?_
          refine g_goto h 84 dX6_does_66 (by decide) ?_
          refine g_top (wayW (nI 2) (nI i) (nI k)) (by unfold wayW; rw [if_neg (by decide), if_pos (by decide), par2 (by omega)]) ?_
          refine g_istore_n h dX6_does_84 (by rw [hL]; decide) ?_
          refine g_aload_n h dX6_does_85 rfl ?_
          refine g_aload_n h dX6_does_86 rfl ?_
          refine gf6_165 h  dX6_does_87 ?_
          refine g_top (nI a) f12 ?_
          refine g_iload_n h dX6_does_90 rfl ?_
          refine cl6_123 h  (ct_X6_comes (n := n) (m := (mdoZ σ n m a 2 k i).2) (a := a) (gi.gd (by omega)) gi.cr ha) rfl dX6_does_91 rfl (Nat.le_of_ble_eq_true rfl) (by decide) ?_
          refine g_pop h dX6_does_94 rfl ?_
          refine g_iincN h dX6_does_95 rfl (by rw [hL]; decide) ?_
          refine g_goto h 22 dX6_does_98 (by decide) ?_
          refine g_mem (mdoZ σ n m a 2 k (i + 1)).1 rfl ?_
          refine g_sub [(0, ra X 150), (1, .int (nI (i + 1)))] ⟨rfl, rfl, trivial⟩ ?_
          exact ih (i + 1) (by omega)
      refine g_mem (mdoZ σ n m a 2 k 0).1 rfl ?_
      refine g_sub [(0, ra X 150), (1, .int (nI 0))] ⟨rfl, lk_0, trivial⟩ ?_
      exact LOOP k 0 (by omega)
    · have LOOP : ∀ (q i : Nat), i + q = k → G x X (mdoZ σ n m a 3 k i).1 [(0, ra X 150), (1, .int (nI i))] [] 22 := by
        intro q
        induction q with
        | zero =>
          intro i hi 
          have hie : i = k := by omega
          rw [hie]
          have f13 : (mdoZ σ n m a 3 k k).1.1 150 13 = nI k := by rw [(mdoZ_G (w := 3) (k := k) g hB ha hy k (by omega)).2 150 (by decide) (by decide)]; exact h13
          refine g_iload_n h dX6_does_22 rfl ?_
          refine g_aload_n h dX6_does_23 rfl ?_
          refine gf6_168 h  dX6_does_24 ?_
          refine g_top (nI k) f13 ?_
          refine g_icge h 101 dX6_does_27 (by decide) (fun c27 => ?_) (fun c27 => absurd (Int32.le_refl _) c27)
          refine g_aload_n h dX6_does_101 rfl ?_
          refine gf6_168 h  dX6_does_102 ?_
          refine g_top (nI k) f13 ?_
          exact g_iret h hr dX6_does_105 (by unfold mdoM; rw [if_neg (by decide)]) (by unfold mdoM; rw [if_neg (by decide)])
        | succ q ih =>
          intro i hi 
          have hlt : i < k := by omega
          obtain ⟨gi, ne⟩ := mdoZ_G (w := 3) (k := k) g hB ha hy i (by omega)
          have f11 : (mdoZ σ n m a 3 k i).1.1 150 11 = nI 3 := by rw [ne 150 (by decide) (by decide)]; exact hw5
          have f12 : (mdoZ σ n m a 3 k i).1.1 150 12 = nI a := by rw [ne 150 (by decide) (by decide)]; exact h12
          have f13 : (mdoZ σ n m a 3 k i).1.1 150 13 = nI k := by rw [ne 150 (by decide) (by decide)]; exact h13
          refine g_iload_n h dX6_does_22 rfl ?_
          refine g_aload_n h dX6_does_23 rfl ?_
          refine gf6_168 h  dX6_does_24 ?_
          refine g_top (nI k) f13 ?_
          refine g_icge h 101 dX6_does_27 (by decide) (fun c27 => absurd c27 (nI_ge hlt (by omega))) (fun c27 => ?_)
          refine g_aload_n h dX6_does_30 rfl ?_
          refine gf6_162 h  dX6_does_31 ?_
          refine g_top (nI 3) f11 ?_
          refine g_ifne h 41 dX6_does_34 (by decide) (fun c34 => ?_) (fun c34 => absurd c34 (by decide))
          refine g_aload_n h dX6_does_41 rfl ?_
          refine gf6_162 h  dX6_does_42 ?_
          refine g_top (nI 3) f11 ?_
          refine g_iconst (v := 1) h dX6_does_45 (by decide) ?_
          refine g_icne h 53 dX6_does_46 (by decide) (fun c46 => ?_) (fun c46 => absurd c46 (by decide))
          refine g_aload_n h dX6_does_53 rfl ?_
          refine gf6_162 h  dX6_does_54 ?_
          refine g_top (nI 3) f11 ?_
          refine g_iconst (v := 2) h dX6_does_57 (by decide) ?_
          refine g_icne h 69 dX6_does_58 (by decide) (fun c58 => ?_) (fun c58 => absurd c58 (by decide))
          refine g_iload_n h dX6_does_69 rfl ?_
          refine g_iconst (v := 1) h dX6_does_70 (by decide) ?_
          refine g_iadd h dX6_does_71 ?_
          refine g_aload_n h dX6_does_72 rfl ?_
          refine gf6_168 h  dX6_does_73 ?_
          refine g_st [.int (nI k), .int (nI (i + 1))] (by rw [f13, nI_1]) ?_
          refine g_icge h 83 dX6_does_76 (by decide) (fun c76 => ?_) (fun c76 => ?_)
          · have c76 : ¬ nI i < nI k - 1 := by
              have := (nI_leI (by omega) (by omega)).mp c76
              rw [show k = (k - 1) + 1 by omega, nI_pred]
              exact nI_nlt (by omega) (by omega)
            refine g_iconst (v := 0) h dX6_does_83 (by decide) ?_
            refine g_top (wayW (nI 3) (nI i) (nI k)) (by unfold wayW; rw [if_neg (by decide), if_neg (by decide), if_pos (by decide)]; first | (rw [if_pos c76]; done) | (rw [if_neg c76]; done)) ?_
            refine g_istore_n h dX6_does_84 (by rw [hL]; decide) ?_
            refine g_aload_n h dX6_does_85 rfl ?_
            refine g_aload_n h dX6_does_86 rfl ?_
            refine gf6_165 h  dX6_does_87 ?_
            refine g_top (nI a) f12 ?_
            refine g_iload_n h dX6_does_90 rfl ?_
            refine cl6_123 h  (ct_X6_comes (n := n) (m := (mdoZ σ n m a 3 k i).2) (a := a) (gi.gd (by omega)) gi.cr ha) rfl dX6_does_91 rfl (Nat.le_of_ble_eq_true rfl) (by decide) ?_
            refine g_pop h dX6_does_94 rfl ?_
            refine g_iincN h dX6_does_95 rfl (by rw [hL]; decide) ?_
            refine g_goto h 22 dX6_does_98 (by decide) ?_
            refine g_mem (mdoZ σ n m a 3 k (i + 1)).1 rfl ?_
            refine g_sub [(0, ra X 150), (1, .int (nI (i + 1)))] ⟨rfl, rfl, trivial⟩ ?_
            exact ih (i + 1) (by omega)
          · have c76 : nI i < nI k - 1 := by
              have := Nat.not_le.mp (fun q => c76 (nI_le q (by omega)))
              rw [show k = (k - 1) + 1 by omega, nI_pred]
              exact nI_lt (by omega) (by omega)
            refine g_iconst (v := 1) h dX6_does_79 (by decide) ?_
            refine g_goto h 84 dX6_does_80 (by decide) ?_
            refine g_top (wayW (nI 3) (nI i) (nI k)) (by unfold wayW; rw [if_neg (by decide), if_neg (by decide), if_pos (by decide)]; first | (rw [if_pos c76]; done) | (rw [if_neg c76]; done)) ?_
            refine g_istore_n h dX6_does_84 (by rw [hL]; decide) ?_
            refine g_aload_n h dX6_does_85 rfl ?_
            refine g_aload_n h dX6_does_86 rfl ?_
            refine gf6_165 h  dX6_does_87 ?_
            refine g_top (nI a) f12 ?_
            refine g_iload_n h dX6_does_90 rfl ?_
            refine cl6_123 h  (ct_X6_comes (n := n) (m := (mdoZ σ n m a 3 k i).2) (a := a) (gi.gd (by omega)) gi.cr ha) rfl dX6_does_91 rfl (Nat.le_of_ble_eq_true rfl) (by decide) ?_
            refine g_pop h dX6_does_94 rfl ?_
            refine g_iincN h dX6_does_95 rfl (by rw [hL]; decide) ?_
            refine g_goto h 22 dX6_does_98 (by decide) ?_
            refine g_mem (mdoZ σ n m a 3 k (i + 1)).1 rfl ?_
            refine g_sub [(0, ra X 150), (1, .int (nI (i + 1)))] ⟨rfl, rfl, trivial⟩ ?_
            exact ih (i + 1) (by omega)
      refine g_mem (mdoZ σ n m a 3 k 0).1 rfl ?_
      refine g_sub [(0, ra X 150), (1, .int (nI 0))] ⟨rfl, lk_0, trivial⟩ ?_
      exact LOOP k 0 (by omega)
  · have hw4 : w = 4 := (nI_eq (b := 4) (by omega) (by decide)).mp c5
    refine g_aload_n h dX6_does_8 rfl ?_
    refine gf6_7 h  dX6_does_9 ?_
    refine g_iconst (v := 1) h dX6_does_12 (by decide) ?_
    refine g_aload_n h dX6_does_13 rfl ?_
    refine gf6_165 h  dX6_does_14 ?_
    refine g_iastN h (k := 151) (by decide) (enc_151 X) (show (1 : Int32) = nI 1 by decide) (by decide) (by decide) dX6_does_17 ?_
    refine g_iconst (v := 0) h dX6_does_18 (by decide) ?_
    exact g_iret h hr dX6_does_19 (by unfold mdoM; rw [if_pos hw4]) (by unfold mdoM; rw [if_pos hw4])

def aOf (g : Nat → Int32) (p : Nat) : Nat := (pV1 g p).toNatClampNeg
def mplD (g : Nat → Int32) (n p : Nat) (z : fM × Int32 × Nat) : Int32 × fM × Nat := mdoM (puR z.1 150 (mroR (z.1.1 150) g p)) n z.2.2 (wOf g p) (aOf g p) (kOf g p)
theorem mplD_e (g : Nat → Int32) (n p : Nat) (z : fM × Int32 × Nat) : mplD g n p z = mdoM (puR z.1 150 (mroR (z.1.1 150) g p)) n z.2.2 (wOf g p) (aOf g p) (kOf g p) := by unfold mplD; rfl
def mplS (D : Int32 × fM × Nat) (v e : Int32) : fM × Int32 × Nat := (pu D.2.1 150 10 e, v + D.1, D.2.2)
theorem mplS_1 (D : Int32 × fM × Nat) (v e : Int32) : (mplS D v e).1 = pu D.2.1 150 10 e := rfl
theorem mplS_2 (D : Int32 × fM × Nat) (v e : Int32) : (mplS D v e).2.1 = v + D.1 := rfl
theorem mplS_3 (D : Int32 × fM × Nat) (v e : Int32) : (mplS D v e).2.2 = D.2.2 := rfl
def mplZ (σ : fM) (g : Nat → Int32) (n m : Nat) : Nat → fM × Int32 × Nat
  | 0 => (σ, 0, m)
  | i + 1 => mplS (mplD g n (ps g i) (mplZ σ g n m i)) (mplZ σ g n m i).2.1 (nI (ps g (i + 1)))
theorem mplZ_s {σ : fM} {g : Nat → Int32} {n m i : Nat} : mplZ σ g n m (i + 1) = mplS (mplD g n (ps g i) (mplZ σ g n m i)) (mplZ σ g n m i).2.1 (nI (ps g (i + 1))) := by rw [mplZ]
/-- what holds behind i orders -/
def mplI (g : Nat → Int32) (t n B y : Nat) (z : fM × Int32 × Nat) (i : Nat) : Prop := mG (z.1.1 151) n z.2.2 B y ∧ mtx z.1 t ∧ chm z.1 t = g ∧ z.1.1 150 10 = nI (ps g i)
/-- an order without a fault: its first number -/
theorem pR_a {g : Nat → Int32} {p : Nat} (h : pR g p = 0) : (wOf g p = 4 → ∃ c : Nat, c ≤ 50 ∧ mf1 g p = nI c) ∧ (¬ wOf g p = 4 → aOf g p < 64 ∧ kOf g p ≤ 40 ∧ mf1 g p = nI (aOf g p) ∧ mf2 g p = nI (kOf g p)) := by
  obtain ⟨hF, w, hw, hW, hwo, h4, hn⟩ := pR_0 h
  obtain ⟨hw1, o1, o2⟩ := pF_ok hF
  have e1 : mf1 g p = pV1 g p := by unfold mf1; rw [if_neg hw1, if_pos o1]
  rw [hwo, e1]
  refine ⟨fun q => ?_, fun q => ?_⟩
  · obtain ⟨j, hj, e⟩ := wi_ix (n := 50) (by decide) (by decide) (h4 q)
    exact ⟨j, hj, e⟩
  · obtain ⟨a1, -, a3, a4⟩ := hn q
    obtain ⟨j, hj, e⟩ := wi_A a1
    have hW4 : ¬ pW g p = 4 := fun z => q ((nI_eq (b := 4) (by omega) (by decide)).mp (hW.symm.trans z))
    have ej : aOf g p = j := by unfold aOf; rw [e]; exact nI_clamp (by omega)
    refine ⟨by omega, a3, by rw [ej]; exact e, ?_⟩
    unfold mf2
    rw [if_neg hw1, if_neg (by rw [o1]; decide), if_neg hW4, if_pos (o2.resolve_left hW4)]
    exact a4
theorem mpl_D {g : Nat → Int32} {t n B y i : Nat} {z : fM × Int32 × Nat} (hI : mplI g t n B y z i) (hB : B < 2 ^ 24 - 2 ^ 12) (hy : y + 100 < 2 ^ 24) (hR : pR g (ps g i) = 0) :
    mG ((mplD g n (ps g i) z).2.1.1 151) n (mplD g n (ps g i) z).2.2 B (y + 40) ∧ (∀ q, q ≠ 150 → q ≠ 151 → (q < 155 ∨ 158 < q) → (mplD g n (ps g i) z).2.1.1 q = z.1.1 q) ∧ (mplD g n (ps g i) z).2.1.1 150 = mroR (z.1.1 150) g (ps g i) := by
  obtain ⟨g1, -, -, -⟩ := hI
  obtain ⟨h4, hn⟩ := pR_a hR
  rw [mplD_e]
  obtain ⟨a1, a2⟩ := mdoM_G (σ := puR z.1 150 (mroR (z.1.1 150) g (ps g i))) (a := aOf g (ps g i)) (w := wOf g (ps g i)) (k := kOf g (ps g i)) (by rw [puR_ne _ (by decide)]; exact g1) hB hy
    (fun q => by
      obtain ⟨c, hc, e⟩ := h4 q
      exact ⟨c, hc, by rw [puR_self]; exact (mroR_v _ _ _).2.1.trans e⟩) (fun q => ⟨(hn q).1, (hn q).2.1⟩)
  refine ⟨a1, fun q h1 h2 h3 => ?_, ?_⟩
  · rw [a2 q h2 h3, puR_ne _ h1]
  · rw [a2 150 (by decide) (by decide), puR_self]
theorem mpl_I {σ : fM} {g : Nat → Int32} {t n m B y i : Nat} (hI : mplI g t n B y (mplZ σ g n m i) i) (hB : B < 2 ^ 24 - 2 ^ 12) (hy : y + 100 < 2 ^ 24) (hR : pR g (ps g i) = 0) : mplI g t n B (y + 40) (mplZ σ g n m (i + 1)) (i + 1) := by
  obtain ⟨d1, d2, d3⟩ := mpl_D hI hB hy hR
  obtain ⟨-, h2, h3, -⟩ := hI
  rw [mplZ_s]
  unfold mplI
  rw [mplS_1, mplS_3]
  generalize mplD g n (ps g i) (mplZ σ g n m i) = D at d1 d2 d3
  refine ⟨by rw [pu_ne _ (by decide)]; exact d1, ⟨by rw [m150_n (by decide), d3, mroR_n (by decide)]; exact h2.1, h2.2⟩, ?_, m150_s⟩
  rw [chm_pu, ← h3]
  funext q
  unfold chm
  rw [d2 154 (by decide) (by decide) (by decide)]
def mplB (σ : fM) (z t : Nat) : fM := pu (mrec (puR σ 150 (mhfR (σ.1 150) (chm σ t) t)) z) 150 10 0
def mPlay (σ : fM) (z n m t : Nat) : Int32 × fM := if hasF (chm σ t) t = true then (kNot, puR σ 150 (mhfR (σ.1 150) (chm σ t) t))
  else ((mplZ (mplB σ z t) (chm σ t) n m (fti (chm σ t) t)).2.1, (mplZ (mplB σ z t) (chm σ t) n m (fti (chm σ t) t)).1)
theorem mrec_150 {σ : fM} {z j : Nat} (h : ¬ j = 3) : (mrec σ z).1 150 j = σ.1 150 j := by
  unfold mrec
  split
  · rw [m150_n h, puR_ne _ (by decide)]
  · rw [m150_n h, puR_ne _ (by decide)]
theorem mplB_I {σ : fM} {z t n m B y : Nat} (g : mG (σ.1 151) n m B y) (ht : mtx σ t) : mplI (chm σ t) t n B y (mplZ (mplB σ z t) (chm σ t) n m 0) 0 := by
  show mplI _ t n B y (mplB σ z t, 0, m) 0
  unfold mplI mplB
  dsimp only
  refine ⟨by rw [pu_ne _ (by decide), mrec_151, puR_ne _ (by decide)]; exact g, ⟨by rw [m150_n (by decide), mrec_150 (by decide), puR_self, mhfR_n (by decide)]; exact ht.1, ht.2⟩, ?_, m150_s⟩
  rw [chm_pu]
  funext q
  unfold chm
  rw [mrec_ne (by decide) (by decide), puR_ne _ (by decide)]

set_option maxRecDepth 100000 in
set_option maxHeartbeats 4000000 in
theorem ct_X6_play {l : Launch} {X : fX} {σ : fM} {t : Nat} (ht : mtx σ t) {z n m B y : Nat} (hz : mrc σ z) (g : mG (σ.1 151) n m B y) (hB : B < 2 ^ 24 - 2 ^ 12) (hy : y + 4000 < 2 ^ 24) : Ct l X yX6_play cX6_play 2 (some .int) 9 [ra X 150] σ (some (.int (mPlay σ z n m t).1)) (mPlay σ z n m t).2 := by
  refine Ct.of RX6 rfl (by decide) (Nat.le_of_ble_eq_true rfl) ?_
  intro x hL h hr
  refine g_sub [(0, ra X 150)] ⟨rfl, trivial⟩ ?_
  have h80t := ht.2
  refine g_aload_n h dX6_play_0 rfl ?_
  refine cl6_188 h  (ct_X6_hasFault ht) rfl dX6_play_1 rfl (Nat.le_of_ble_eq_true rfl) (by decide) ?_
  refine g_ifeqB h 10 dX6_play_4 (by decide) (fun c4 => ?_) (fun c4 => ?_)
  · have LOOP : ∀ (q i : Nat), i + q = 80 → fstF (psQ (chm σ t) t) i = i → mplI (chm σ t) t n B (y + 40 * i) (mplZ (mplB σ z t) (chm σ t) n m i) i → G x X (mplZ (mplB σ z t) (chm σ t) n m i).1 [(0, ra X 150), (1, .int (mplZ (mplB σ z t) (chm σ t) n m i).2.1)] [] 21 := by
      intro q
      induction q with
      | zero =>
        intro i hi hfi hI
        have hie : i = 80 := by omega
        rw [hie] at hfi hI ⊢
        obtain ⟨i1, i2, i3, i4⟩ := id hI
        have hpl := ps_le (chm σ t) 80
        have h80 := ps_ge hfi
        have hpt80 : t ≤ ps (chm σ t) 80 := by omega
        have e80 : fti (chm σ t) t = 80 := fstF_at (p := psQ (chm σ t) t) hfi (by unfold psQ; rw [decide_eq_true hpt80]; rfl) (by decide)
        refine g_aload_n h dX6_play_21 rfl ?_
        refine gf6_146 h  dX6_play_22 ?_
        refine g_top (nI (ps (chm σ t) 80)) i4 ?_
        refine g_aload_n h dX6_play_25 rfl ?_
        refine gf6_140 h  dX6_play_26 ?_
        refine g_top (nI t) i2.1 ?_
        refine g_icge h 55 dX6_play_29 (by decide) (fun c29 => ?_) (fun c29 => absurd (nI_le hpt80 (by omega)) c29)
        refine g_iload_n h dX6_play_55 rfl ?_
        exact g_iret h hr dX6_play_56 (by unfold mPlay; rw [c4, if_neg (by decide), e80]) (by unfold mPlay; rw [c4, if_neg (by decide), e80])
      | succ q ih =>
        intro i hi hfi hI
        have hlt : i < 80 := by omega
        obtain ⟨i1, i2, i3, i4⟩ := id hI
        have hpl := ps_le (chm σ t) i
        refine g_aload_n h dX6_play_21 rfl ?_
        refine gf6_146 h  dX6_play_22 ?_
        refine g_top (nI (ps (chm σ t) i)) i4 ?_
        refine g_aload_n h dX6_play_25 rfl ?_
        refine gf6_140 h  dX6_play_26 ?_
        refine g_top (nI t) i2.1 ?_
        refine g_icge h 55 dX6_play_29 (by decide) (fun c29 => ?_) (fun c29 => ?_)
        · have hpt : t ≤ ps (chm σ t) i := (nI_leI (by omega) (by omega)).mp c29
          have e : fti (chm σ t) t = i := fstF_at (p := psQ (chm σ t) t) hfi (by unfold psQ; rw [decide_eq_true hpt]; rfl) (by omega)
          refine g_iload_n h dX6_play_55 rfl ?_
          exact g_iret h hr dX6_play_56 (by unfold mPlay; rw [c4, if_neg (by decide), e]) (by unfold mPlay; rw [c4, if_neg (by decide), e])
        · have hpt : ps (chm σ t) i < t := Nat.not_le.mp (fun q => c29 (nI_le q (by omega)))
          have hR : pR (chm σ t) (ps (chm σ t) i) = 0 := by
            by_cases hR : pR (chm σ t) (ps (chm σ t) i) = 0
            · exact hR
            · have e : fti (chm σ t) t = i := fstF_at (p := psQ (chm σ t) t) hfi (by unfold psQ; rw [decide_eq_false hR]; simp) (by omega)
              exact absurd c4 (by unfold hasF; rw [e, decide_eq_true hpt]; decide)
          obtain ⟨hF, w, hw, hW, hwo, -, -⟩ := pR_0 hR
          obtain ⟨-, hn2⟩ := pR_a hR
          obtain ⟨d1, d2, d3⟩ := mpl_D hI hB (by omega) hR
          refine g_aload_n h dX6_play_32 rfl ?_
          refine cl6_185 h  (ct_X6_readsOrder (p := ps (chm σ t) i) i2 (by omega) i4) rfl dX6_play_33 rfl (Nat.le_of_ble_eq_true rfl) (by decide) ?_
          refine g_mem (puR (mplZ (mplB σ z t) (chm σ t) n m i).1 150 (mroR ((mplZ (mplB σ z t) (chm σ t) n m i).1.1 150) (chm σ t) (ps (chm σ t) i))) (by rw [i3]) ?_
          refine g_pop h dX6_play_36 rfl ?_
          refine g_iload_n h dX6_play_37 rfl ?_
          refine g_aload_n h dX6_play_38 rfl ?_
          refine cl6_191 h  (ct_X6_does (w := wOf (chm σ t) (ps (chm σ t) i)) (a := aOf (chm σ t) (ps (chm σ t) i)) (k := kOf (chm σ t) (ps (chm σ t) i)) (m := (mplZ (mplB σ z t) (chm σ t) n m i).2.2) (y := y + 40 * i) (by rw [puR_ne _ (by decide)]; exact i1) hB (by omega) (by rw [hwo]; exact hw) (by rw [puR_self, hwo]; exact (mroR_v _ _ _).1.trans hW) (fun h4 => ⟨(hn2 h4).1, (hn2 h4).2.1, by rw [puR_self]; exact (mroR_v _ _ _).2.1.trans (hn2 h4).2.2.1, by rw [puR_self]; exact (mroR_v _ _ _).2.2.1.trans (hn2 h4).2.2.2⟩)) rfl dX6_play_39 rfl (Nat.le_of_ble_eq_true rfl) (by decide) ?_
          refine g_mem (mplD (chm σ t) n (ps (chm σ t) i) (mplZ (mplB σ z t) (chm σ t) n m i)).2.1 (by rw [mplD_e]) ?_
          refine g_top (mplD (chm σ t) n (ps (chm σ t) i) (mplZ (mplB σ z t) (chm σ t) n m i)).1 (by rw [mplD_e]) ?_
          refine g_iadd h dX6_play_42 ?_
          refine g_istore_n h dX6_play_43 (by rw [hL]; decide) ?_
          refine g_aload_n h dX6_play_44 rfl ?_
          refine g_aload_n h dX6_play_45 rfl ?_
          refine gf6_153 h  dX6_play_46 ?_
          refine g_top (nI (ps (chm σ t) (i + 1))) (by rw [d3]; exact (mroR_v _ _ _).2.2.2.1) ?_
          refine gp6_146 h  dX6_play_49 ?_
          refine g_goto h 21 dX6_play_52 (by decide) ?_
          refine g_mem (mplZ (mplB σ z t) (chm σ t) n m (i + 1)).1 (by rw [mplZ_s, mplS_1]) ?_
          refine g_sub [(0, ra X 150), (1, .int (mplZ (mplB σ z t) (chm σ t) n m (i + 1)).2.1)] ⟨rfl, (congrArg (fun z => some (Value.int z)) (by rw [mplZ_s, mplS_2])), trivial⟩ ?_
          exact ih (i + 1) (by omega) (fstF_no hfi (by unfold psQ; rw [decide_eq_false (Nat.not_le.mpr hpt), decide_eq_true hR]; decide)) (by rw [show y + 40 * (i + 1) = y + 40 * i + 40 by omega]; exact mpl_I hI hB (by omega) hR)
    refine g_aload_n h dX6_play_10 rfl ?_
    refine cl6_78 h  (ct_X6_record (z := z) ⟨by rw [puR_self, mhfR_n (by decide)]; exact hz.1, hz.2⟩) rfl dX6_play_11 rfl (Nat.le_of_ble_eq_true rfl) (by decide) ?_
    refine g_iconst (v := 0) h dX6_play_14 (by decide) ?_
    refine g_istore_n h dX6_play_15 (by rw [hL]; decide) ?_
    refine g_aload_n h dX6_play_16 rfl ?_
    refine g_iconst (v := 0) h dX6_play_17 (by decide) ?_
    refine gp6_146 h  dX6_play_18 ?_
    refine g_mem (mplZ (mplB σ z t) (chm σ t) n m 0).1 rfl ?_
    refine g_sub [(0, ra X 150), (1, .int (mplZ (mplB σ z t) (chm σ t) n m 0).2.1)] ⟨rfl, rfl, trivial⟩ ?_
    exact LOOP 80 0 (by omega) rfl (mplB_I g ht)
  · refine g_ldc h (-1000002) (lw_in 733 (by decide +kernel) rfl) dX6_play_7 ?_
    exact g_iret h hr dX6_play_9 (by unfold mPlay; rw [if_pos c4]; rfl) (by unfold mPlay; rw [if_pos c4])