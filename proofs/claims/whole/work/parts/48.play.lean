/-! class and model: play -/
section PLAY
variable {σ : fM} {n m f z t B y : Nat}
theorem doZ_out {q : Nat} (a w k : Int32) (hg : gst σ 0 n m) (hq : q < 6 ∨ 30 ≤ q) : ∀ i, (doZ σ n m a w k i).1.1 q = σ.1 q
  | 0 => rfl
  | i + 1 => (run_out a _ (doZ_ok a w k hg i).1 (by omega)).trans (doZ_out a w k hg hq i)
theorem doZ_2n {q : Nat} (a w k : Int32) (hg : gst σ 0 n m) (hq : q ≠ iS 0) : ∀ i, (doZ σ n m a w k i).1.2 q = σ.2 q
  | 0 => rfl
  | i + 1 => (run_2n a _ (doZ_ok a w k hg i).1 hq).trans (doZ_2n a w k hg hq i)
theorem doM_out {q : Nat} (w k : Nat) (hg : gst σ 0 n m) (hq : q < 6 ∨ 30 ≤ q) : (doM σ n m w k).2.1.1 q = σ.1 q := by
  unfold doM
  split
  · exact pu_ne _ (by unfold iSet; omega)
  · exact doZ_out _ _ _ hg hq _
theorem doM_2n {q : Nat} (w k : Nat) (hg : gst σ 0 n m) (hq : q ≠ iS 0) : (doM σ n m w k).2.1.2 q = σ.2 q := by
  unfold doM
  split
  · rfl
  · exact doZ_2n _ _ _ hg hq _
theorem mdoZ_2 {a w k : Nat} : ∀ i, (mdoZ σ n m a w k i).1.2 = σ.2
  | 0 => rfl
  | i + 1 => mcM_2.trans (mdoZ_2 i)
theorem mdoM_2 {a w k : Nat} : (mdoM σ n m w a k).2.1.2 = σ.2 := by
  unfold mdoM
  split
  · rfl
  · exact mdoZ_2 _
theorem do_eq {ρ μ : fM} {a w k : Nat} (T : sT ρ 0 (μ.1 151) n m B y) (hB : B < 2 ^ 24 - 2 ^ 12) (hy : y + 100 < 2 ^ 24) (ha : a < 64) : ∀ i, i ≤ 40 → (doZ ρ n m (nI a) (nI w) (nI k) i).2 = (mdoZ μ n m a w k i).2 ∧ sT (doZ ρ n m (nI a) (nI w) (nI k) i).1 0 ((mdoZ μ n m a w k i).1.1 151) n (doZ ρ n m (nI a) (nI w) (nI k) i).2 B (y + i)
  | 0, _ => ⟨rfl, T⟩
  | i + 1, hi => by
    obtain ⟨e, T'⟩ := do_eq (w := w) (k := k) T hB hy ha i (by omega)
    obtain ⟨-, r2, r3⟩ := run_eq T' hB (by omega) ha (wayW_01 (w := w) (i := i) (k := k) (by omega)) (σM := (mdoZ μ n m a w k i).1) rfl
    have e2 : (doZ ρ n m (nI a) (nI w) (nI k) (i + 1)).2 = (mdoZ μ n m a w k (i + 1)).2 := by
      show runN _ 0 n _ (nI a) _ = mcC _ n _ a _
      rw [r2, e]
    refine ⟨e2, ?_⟩
    show sT (runM _ 0 n _ (nI a) _) 0 ((mcM _ n _ a _).1 151) n (runN _ 0 n _ (nI a) _) B (y + i + 1)
    rw [mcM_151, r2]
    rw [← e]
    exact r3
theorem pV1_m {g : Nat → Int32} {p : Nat} (h : pR g p = 0) : mf1 g p = pV1 g p := by
  obtain ⟨hF, w, hw, hW, hwo, h4, hn⟩ := pR_0 h
  obtain ⟨hw1, o1, o2⟩ := pF_ok hF
  unfold mf1
  rw [if_neg hw1, if_pos o1]
theorem ply_D {c μ : fM} {g : Nat → Int32} {p : Nat} {v v' : Int32} (T : sT c 0 (μ.1 151) n m B y) (hch : chr c t = g) (hR : pR g p = 0) (hB : B < 2 ^ 24 - 2 ^ 12) (hy : y + 100 < 2 ^ 24) :
    (plD g t n p (c, v, m)).1 = (mplD g n p (μ, v', m)).1 ∧ (plD g t n p (c, v, m)).2.2 = (mplD g n p (μ, v', m)).2.2 ∧ sT (plD g t n p (c, v, m)).2.1 0 ((mplD g n p (μ, v', m)).2.1.1 151) n (plD g t n p (c, v, m)).2.2 B (y + 40) ∧
    (∀ q, q ≠ 3 → q ≠ 5 → q < 6 ∨ 30 ≤ q → (plD g t n p (c, v, m)).2.1.1 q = c.1 q) ∧ (∀ q, q ≠ iS 0 → (plD g t n p (c, v, m)).2.1.2 q = c.2 q) ∧ (mplD g n p (μ, v', m)).2.1.2 = μ.2 := by
  obtain ⟨ho, h5⟩ := roM_o c t p
  obtain ⟨hF, w, hw, hW, hwo, h4, hn⟩ := pR_0 hR
  obtain ⟨k4, kn⟩ := pR_a hR
  rw [hch] at ho h5
  have h5 := (h5 hF).1
  have gr : gst (roM c t p) 0 n m := gst_ord ho (sT_gst T)
  have Tr : sT (roM c t p) 0 (μ.1 151) n m B y := sT_cg (by decide) (fun q a b => ho.2.1 q (by omega) (by omega)) (by rw [ho.1]) (fun _ _ => rfl) T
  rw [plD_e, mplD_e]
  dsimp only
  have e151 : (puR μ 150 (mroR (μ.1 150) g p)).1 151 = μ.1 151 := puR_ne _ (by decide)
  refine ⟨?_, ?_, ?_, fun q a b d => by rw [doM_out _ _ gr d, ho.2.1 q a b], fun q hq => by rw [doM_2n _ _ gr hq, ho.1], by rw [mdoM_2]; rfl⟩
  · unfold doM mdoM
    by_cases q : wOf g p = 4
    · rw [if_pos q, if_pos q]
    · rw [if_neg q, if_neg q]
  · unfold doM mdoM
    by_cases q : wOf g p = 4
    · rw [if_pos q, if_pos q]
    · obtain ⟨x1, x2, x3, -⟩ := kn q
      rw [if_neg q, if_neg q]
      dsimp only
      rw [h5, ← pV1_m hR, x3]
      exact (do_eq (by rw [e151]; exact Tr) hB hy x1 _ x2).1
  · unfold doM mdoM
    by_cases q : wOf g p = 4
    · rw [if_pos q, if_pos q]
      dsimp only
      obtain ⟨u, hu, eu⟩ := k4 q
      rw [h5, puR_self, (mroR_v _ _ _).2.1, ← pV1_m hR, pu_upd, e151]
      refine sT_up (sT_set Tr (by decide) ?_) (Nat.le_refl _) (Nat.le_add_right _ _)
      obtain ⟨s0, s1, s2⟩ := T.2.1.2.2.1
      exact ⟨by rw [upd_n _ _ _ _ (by decide)]; exact s0, ⟨u, hu, by rw [upd_s]; exact eu⟩, by rw [upd_n _ _ _ _ (by decide)]; exact s2⟩
    · obtain ⟨x1, x2, x3, -⟩ := kn q
      rw [if_neg q, if_neg q]
      dsimp only
      rw [h5, ← pV1_m hR, x3]
      exact sT_up (do_eq (by rw [e151]; exact Tr) hB hy x1 _ x2).2 (Nat.le_refl _) (by omega)
theorem pu_2 (σ : fM) (k j : Nat) (v : Int32) : (pu σ k j v).2 = σ.2 := rfl
/-- class and model, behind i orders -/
def plyI (K X : fM) (g : Nat → Int32) (t n B y i : Nat) (C M : fM × Int32 × Nat) : Prop :=
  C.2.1 = M.2.1 ∧ C.2.2 = M.2.2 ∧ sT C.1 0 (M.1.1 151) n C.2.2 B y ∧ mplI g t n B y M i ∧ tx C.1 t ∧ chr C.1 t = g ∧ (∀ q, q ≠ 3 → q ≠ 5 → q < 6 ∨ 30 ≤ q → C.1.1 q = K.1 q) ∧ (∀ q, q ≠ iS 0 → C.1.2 q = K.2 q) ∧ (∀ q, q ≠ 150 → q ≠ 151 → q < 155 ∨ 158 < q → M.1.1 q = X.1 q) ∧ M.1.2 = X.2 ∧ ∀ j, j < 10 → M.1.1 150 j = X.1 150 j
theorem ply_s {K X : fM} {g : Nat → Int32} {i : Nat} (gK : gst K 0 n m) (tK : tx K t) (cK : chr K t = g) (I : plyI K X g t n B y i (plZ K g t n m i) (mplZ X g n m i)) (hR : pR g (ps g i) = 0) (hB : B < 2 ^ 24 - 2 ^ 12) (hy : y + 100 < 2 ^ 24) :
    plyI K X g t n B (y + 40) (i + 1) (plZ K g t n m (i + 1)) (mplZ X g n m (i + 1)) := by
  have hI' := mpl_I (σ := X) (m := m) I.2.2.2.1 hB hy hR
  have ok := plZ_ok g gK tK cK (i + 1)
  obtain ⟨i1, i2, i3, i4, i5, i6, i7, i8, i9, i10, i11⟩ := I
  have D2 := mpl_D i4 hB hy hR
  rw [plZ_s] at ok ⊢
  rw [mplZ_s] at hI' ⊢
  generalize plZ K g t n m i = C at i1 i2 i3 i5 i6 i7 i8 ok ⊢
  generalize mplZ X g n m i = M at i1 i2 i3 i4 i9 i10 i11 hI' D2 ⊢
  obtain ⟨c, v, m1⟩ := C
  obtain ⟨μ, v', m2⟩ := M
  dsimp only at i1 i2 i3 i5 i6 i7 i8 i9 i10 i11
  subst i1
  subst i2
  obtain ⟨d1, d2, d3, d4, d5, d6⟩ := ply_D (v := v) (v' := v) i3 i6 hR hB hy
  obtain ⟨-, f2, f3⟩ := D2
  unfold plyI
  rw [plS_1, plS_2, plS_3] at *
  rw [mplS_1, mplS_2, mplS_3] at *
  refine ⟨by rw [d1], d2, by rw [pu_ne _ (by decide)]; exact d3, hI', ok.2.1, ok.2.2, fun q a b d => (d4 q a b d).trans (i7 q a b d), fun q hq => (d5 q hq).trans (i8 q hq), fun q a b d => by rw [pu_ne _ a]; exact (f2 q a b d).trans (i9 q a b d), by rw [pu_2, d6, i10], fun j hj => ?_⟩
  rw [m150_n (by omega), f3, mroR_n (by omega)]
  exact i11 j hj
theorem ply_n {K X : fM} {g : Nat → Int32} (gK : gst K 0 n m) (tK : tx K t) (cK : chr K t = g) (T : sT K 0 (X.1 151) n m B y) (hI : mplI g t n B y (mplZ X g n m 0) 0) (hB : B < 2 ^ 24 - 2 ^ 12) (hy : y + 4000 < 2 ^ 24) : ∀ i, i ≤ 81 → (∀ j, j < i → pR g (ps g j) = 0) → plyI K X g t n B (y + 40 * i) i (plZ K g t n m i) (mplZ X g n m i)
  | 0, _, _ => ⟨rfl, rfl, T, hI, tK, cK, fun _ _ _ _ => rfl, fun _ _ => rfl, fun _ _ _ _ => rfl, rfl, fun _ _ => rfl⟩
  | i + 1, hi, h => ply_s (y := y + 40 * i) gK tK cK (ply_n gK tK cK T hI hB hy i (by omega) (fun j hj => h j (by omega))) (h i (by omega)) hB (by omega)
theorem eq_play (h1 : P1 σ n m B y) (h2 : P2 σ f z B y) (h3 : P3 σ t) (hB : B < 2 ^ 24 - 2 ^ 12) (hy : y + 4000 < 2 ^ 24) : Eqv (cPlay σ f z n m t) (fun τ => mPlay τ z n m t) B y := by
  unfold Eqv cPlay mPlay
  by_cases hf : hasF (chr σ t) t = true
  · rw [if_pos hf]
    dsimp only
    rw [(P3_hfR h3).2, if_pos hf]
    refine ⟨rfl, ?_⟩
    rw [← (P3_hfR h3).2]
    exact Kv_hf h1 h2 h3
  · rw [if_neg hf]
    dsimp only
    have t80 := h3.1.2.1
    have e151 := fun q (hq : 150 ≤ q) => (hfR_o σ t).2.1 q (by omega) (by omega)
    -- the state behind the look for a fault
    have k1 : P1 (hfR σ t) n m B y := P1_cg (fun q a b => (hfR_o σ t).2.1 q (by omega) (by omega)) (by rw [(hfR_o σ t).1]) (fun q hq => by rw [e151 151 (by decide)]) h1
    have k2 : P2 (hfR σ t) f z B y := P2_cg ((hfR_o σ t).2.1 1 (by decide) (by decide)) (by rw [e151 150 (by decide)]) (fun q a b => (hfR_o σ t).2.1 q (by omega) (by omega)) (fun s hs => by rw [(hfR_o σ t).1]) (e151 153 (by decide)) h2
    have k3 := (P3_hfR h3).1
    have kt := hfR_tx h3.1
    have K := P1_keep (f := f) (z := z) k1
    have gK := sT_gst K
    have tK := keep_tx (f := f) (z := z) k1.n6 k1.m8 kt.1
    have cK : chr (keepM (hfR σ t) f z n m) t = chr σ t := tK.2.trans kt.2
    have K150 : ∀ q, 150 ≤ q → (keepM (hfR σ t) f z n m).1 q = σ.1 q := fun q hq => by rw [keepM_ne k1.n6 k1.m8 (by omega) (Or.inr hq), e151 q hq]
    have hN : ∀ j, j < fti (chr σ t) t → pR (chr σ t) (ps (chr σ t) j) = 0 := fun j hj => by
      have := fstF_pre (p := psQ (chr σ t) t) (n := 81) hj
      unfold psQ at this
      simp only [Bool.or_eq_false_iff, Bool.not_eq_false', decide_eq_true_eq] at this
      exact this.2
    have hN81 : fti (chr σ t) t ≤ 81 := fstF_le _ 81
    generalize hNN : fti (chr σ t) t = N at hN hN81
    -- whatever the class's last memory, the model starts from it
    have key : ∀ c : fM, (∀ q, 150 ≤ q → c.1 q = σ.1 q) → plyI (keepM (hfR σ t) f z n m) (mplB c z t) (chr σ t) t n B (y + 40 * N) N (plZ (keepM (hfR σ t) f z n m) (chr σ t) t n m N) (mplZ (mplB c z t) (chr σ t) n m N) ∧ chm c t = chr σ t := fun c hc => by
      have ec : chm c t = chr σ t := by
        rw [← P3_ch h3]
        funext q
        unfold chm
        rw [hc 154 (by decide)]
      have mc : mtx c t := ⟨by rw [hc 150 (by decide)]; exact h3.2.1, t80⟩
      have gc : mG (c.1 151) n m B y := by rw [hc 151 (by decide)]; exact h1.2.1
      have I0 := mplB_I (z := z) gc mc
      rw [ec] at I0
      have x151 : (mplB c z t).1 151 = σ.1 151 := by
        unfold mplB
        rw [pu_ne _ (by decide), mrec_151, puR_ne _ (by decide), hc 151 (by decide)]
      exact ⟨ply_n gK tK.1 cK (by rw [x151, ← e151 151 (by decide)]; exact K) I0 hB hy N hN81 hN, ec⟩
    have C150 : ∀ q, 150 ≤ q → (plZ (keepM (hfR σ t) f z n m) (chr σ t) t n m N).1.1 q = σ.1 q := fun q hq => by
      rw [(key σ (fun _ _ => rfl)).1.2.2.2.2.2.2.1 q (by omega) (by omega) (by omega), K150 q hq]
    obtain ⟨I, ec⟩ := key _ C150
    generalize plZ (keepM (hfR σ t) f z n m) (chr σ t) t n m N = C at I ec C150 ⊢
    rw [ec, if_neg hf, hNN]
    dsimp only
    obtain ⟨i1, i2, i3, i4, i5, i6, i7, i8, i9, i10, i11⟩ := I
    generalize mplZ (mplB C.1 z t) (chr σ t) n m N = M at i1 i2 i3 i4 i9 i10 i11 ⊢
    refine ⟨i1, ?_⟩
    have xlo : ∀ q, q < 150 → M.1.1 q = C.1.1 q := fun q hq => by
      rw [i9 q (by omega) (by omega) (by omega)]
      unfold mplB
      rw [pu_ne _ (by omega), mrec_ne (by omega) (by omega), puR_ne _ (by omega)]
    have x2 : M.1.2 = C.1.2 := by
      rw [i10]
      show (mrec _ _).2 = _
      rw [mrec_2]
      rfl
    have r1 := mrec_cg (σ := hfR σ t) (τ := puR C.1 150 (mhfR (C.1.1 150) (chm C.1 t) t)) (z := z) (by rw [puR_ne _ (by decide), C150 151 (by decide), e151 151 (by decide)]) (by rw [puR_ne _ (by decide), C150 153 (by decide), e151 153 (by decide)])
    obtain ⟨f', z', q2⟩ := P2_keep (τ := M.1) k1 k2 (by rw [xlo 1 (by decide), i7 1 (by decide) (by decide) (by decide)]) (fun q a b => by rw [xlo q b, i7 q (by omega) (by omega) (by omega)]) (fun s hs => by rw [x2, i8 _ (fun x => by have := iS_inj x; omega)])
      (by
        rw [i11 3 (by decide)]
        unfold mplB
        rw [m150_n (by decide)]
        exact r1.2)
      (by
        rw [i9 153 (by decide) (by decide) (by decide)]
        unfold mplB
        rw [pu_ne _ (by decide)]
        exact r1.1)
    refine ⟨n, C.2.2, f', z', t, ?_, P2_up q2 (Nat.le_add_right _ _) (Nat.le_add_right _ _), ?_, ?_, fun j hj => ?_⟩
    · exact sT_up (sT_cg (by decide) (fun q a b => xlo q (by omega)) (by rw [x2]) (fun _ _ => rfl) i3) (Nat.le_add_right _ _) (by omega)
    · exact tx_cg (xlo 4 (by decide)) (by rw [xlo 3 (by decide)]) i5
    · rw [i11 5 (by decide)]
      unfold mplB
      rw [m150_n (by decide), mrec_150 (by decide), puR_self, mhfR_n (by decide), C150 150 (by decide)]
      exact h3.2.1
    · rw [i9 154 (by decide) (by decide) (by decide), xlo 4 (by decide)]
      unfold mplB
      rw [pu_ne _ (by decide), mrec_ne (by decide) (by decide), puR_ne _ (by decide), C150 154 (by decide), h3.2.2 j hj]
      have e4 := congrFun i6 j
      unfold chr at e4
      rw [if_pos hj, if_pos hj] at e4
      exact e4.symm
end PLAY
