/-! class and law: a branch keeps the relation -/
section RUN
variable {σ : fM} {s m B y : Nat} {a tk : Int32} {Q O T V w : Nat → Int32}
theorem lbB_C : lbB Q O T V m a tk w = lbC (lw1 Q O T a w 5) tk (lWr Q O T a tk 5) (lRi Q O T a tk 5) Q O V m := rfl
theorem in_iff {O T : Nat → Int32} (hH : lH O T) {i p : Nat} (hi : i < 5) (hp : p < 2 ^ 30) (ep : O (10 * i + 2) = nI p) : oIn (ro O i) = true ↔ (¬ O (10 * i + 3) < 0 ∧ 0 < p) := by
  obtain ⟨e3, -⟩ := lH_s hH hi
  unfold oIn oSeat oRuin
  rw [ro_p, ro_p, Bool.and_eq_true, decide_eq_true_eq, Bool.not_eq_true', decide_eq_false_iff_not, e3, ep]
  constructor
  · rintro ⟨h1, h2⟩
    exact ⟨h1, Nat.pos_of_ne_zero (fun q => h2 (by rw [q]; rfl))⟩
  · rintro ⟨h1, h2⟩
    exact ⟨h1, fun q => absurd ((nI_eq (b := 0) (by omega) (by decide)).mp q) (by omega)⟩
set_option maxHeartbeats 4000000 in
theorem lrun (h : lrl σ s Q O T V m) (g : lgd Q O T V m B y) (hB : B < 2 ^ 24 - 2 ^ 12) (hk : tk = 0 ∨ tk = 1) :
    runV σ s 5 a tk = brV Q O T a tk ∧ runN σ s 5 m a tk = (lbB Q O T V m a tk w).2.2.2 ∧
    lrl (runM σ s 5 m a tk) s (brQ Q O T V m a tk w) (brR Q O T V m a tk w).1 (brR Q O T V m a tk w).2 (lbB Q O T V m a tk w).2.2.1 (lbB Q O T V m a tk w).2.2.2 ∧
    lgd (brQ Q O T V m a tk w) (brR Q O T V m a tk w).1 (brR Q O T V m a tk w).2 (lbB Q O T V m a tk w).2.2.1 (lbB Q O T V m a tk w).2.2.2 B (y + 1) := by
  have hH := g.H (by omega)
  have hK := hH.K
  have gs := lrl_gst h g
  obtain ⟨hc, h7, ⟨e5, e6, e7, e8⟩, hW, hO, hL⟩ := id h
  obtain ⟨⟨hu, hcut, hsh, hv, hhv, ehv⟩, hor, ⟨p, hp, hpB⟩, hl⟩ := id g
  have hm8 := hc.2.2.2
  have hc1 := fore_cnt a hc
  have hr1 := fore_crd a (show 5 ≤ 6 by decide) hm8 gs.2.1
  have fS : (fore σ s 5 a).1 (iS s) = σ.1 (iS s) := fore_ne _ (fun i hi => iO_S s i s (by omega))
  have fW : (fore σ s 5 a).1 (iSet s) = σ.1 (iSet s) := fore_ne _ (fun i hi => iO_Set s i s (by omega))
  have fT : ∀ i, i < 5 → (fore σ s 5 a).1 (iT s i) = σ.1 (iT s i) := fun i hi => fore_ne _ (fun j hj => iO_T s j s i)
  have fL : ∀ l, l < m → (fore σ s 5 a).1 (iL s l) = σ.1 (iL s l) := fun l hl2 => fore_ne _ (fun i hi => (iL_O s l s i (by omega) (by omega)).symm)
  have fO : ∀ i, i < 5 → ∀ j, ¬ j = 9 → ¬ j = 10 → (fore σ s 5 a).1 (iO s i) j = σ.1 (iO s i) j := fun i hi j h9 h10 => by rw [fore_O _ hi, foR2_n _ _ _ _ _ _ h9 h10]
  have hstk : ∀ i, i < 5 → lS Q O T a i = nI (ix (lS Q O T a i)) ∧ ix (lS Q O T a i) ≤ p i ∧ ix (lS Q O T a i) ≤ 100 := fun i hi => by
    obtain ⟨a1, a2, a3, -⟩ := lS_N g (by omega) a hp hpB hi
    exact ⟨a1, a2, a3⟩
  obtain ⟨⟨s1, s2, s3, s4, s5, s6⟩, ⟨t1, t2, t3, t4⟩, ⟨p', n1, n2, n3⟩, n4⟩ := lset_eq (τ := fore σ s 5 a) (s := s) (m := m) (Q := Q) (O := O) (V := V) (Y := lY Q O T a) (S := lS Q O T a) (w := lw1 Q O T a w 5) (k := tk) (p := p) (st := fun i => ix (lS Q O T a i)) hc1
    (fun i hi => ⟨by rw [fO i hi 2 (by decide) (by decide)]; exact (hO i hi).1 2 (by decide), (fo_l h hK a hi).1, (fo_l h hK a hi).2⟩)
    (fun l hl2 j hj => by rw [fL l hl2]; exact hL l hl2 j hj) (fun j hj => by rw [fW]; exact hW j hj) (by rw [fS]; exact e5) (by rw [fS]; exact e8) h7
    (fun i hi => ⟨(lw1_at hi (Nat.le_refl 5)).1, (lw1_at hi (Nat.le_refl 5)).2.1⟩) (fun i hi => lY_01 g a hi) hk hstk hp (by omega) hl hcut hsh rfl rfl
  rw [show lbC (lw1 Q O T a w 5) tk (sumF 0 (fun i => if lY Q O T a i = tk then 0 else lS Q O T a i) 5) (sumF 0 (fun i => if lY Q O T a i = tk then lS Q O T a i else 0) 5) Q O V m = lbB Q O T V m a tk w from rfl] at s2 s3 s4 s5 s6 t1 t2 t3 t4 n1 n4
  have hv1 : runV σ s 5 a tk = brV Q O T a tk := s1
  have hn1 : runN σ s 5 m a tk = (lbB Q O T V m a tk w).2.2.2 := s2
  obtain ⟨r1, r2, r3, r4⟩ := setl_rest tk hc1 hr1
  have tO : ∀ i, i < 5 → ∀ j, ¬ j = 2 → (setlM (fore σ s 5 a) s 5 m tk).1 (iO s i) j = (fore σ s 5 a).1 (iO s i) j := fun i hi j hj => setl_O tk hc1 hr1 (by omega) hj
  have hc2 := setl_cnt tk hc1 hr1
  have hc3 := keep_cnt tk hc2
  -- the class's rows
  have Kk : ∀ i, i < 5 → (setF (setlM (fore σ s 5 a) s 5 m tk) (iO s) (kept (setlM (fore σ s 5 a) s 5 m tk) s tk) 5).1 (iO s i) = kept (setlM (fore σ s 5 a) s 5 m tk) s tk i := fun i hi => setF_at (iO_inj s) hi
  have Kn : ∀ q, (∀ i, i < 5 → iO s i ≠ q) → (setF (setlM (fore σ s 5 a) s 5 m tk) (iO s) (kept (setlM (fore σ s 5 a) s 5 m tk) s tk) 5).1 q = (setlM (fore σ s 5 a) s 5 m tk).1 q := fun q hq => setF_ne hq
  have KS := Kn (iS s) (fun i hi => iO_S s i s (by omega))
  have F4 : ∀ i, i < 5 → ∀ q, q < 4 → (setlM (fore σ s 5 a) s 5 m tk).1 (iO s i) q = (lbB Q O T V m a tk w).2.1 (10 * i + q) := fun i hi q hq => by
    by_cases h2 : q = 2
    · rw [h2]; exact s3 i hi
    · rw [tO i hi q h2, fO i hi q (by omega) (by omega), t4 _ (by omega)]
      exact (hO i hi).1 q hq
  have F8 : ∀ i, i < 5 → ∀ q, 4 ≤ q → q < 8 → (setlM (fore σ s 5 a) s 5 m tk).1 (iO s i) (q + 1) = (lbB Q O T V m a tk w).2.1 (10 * i + q) := fun i hi q h4 h8 => by
    rw [tO i hi (q + 1) (by omega), fO i hi (q + 1) (by omega) (by omega), t4 _ (by omega)]
    exact (hO i hi).2.1 q h4 h8
  have REC : ∀ i, i < 5 → (∀ q, q < 4 → kept (setlM (fore σ s 5 a) s 5 m tk) s tk i q = (brR Q O T V m a tk w).1 (10 * i + q)) ∧ ∀ q, 4 ≤ q → q < 8 → kept (setlM (fore σ s 5 a) s 5 m tk) s tk i (q + 1) = (brR Q O T V m a tk w).1 (10 * i + q) := fun i hi => by
    obtain ⟨-, -, -, -, ⟨v, hv6, ev⟩, -, -⟩ := hor i hi
    obtain ⟨w1, w2, w3⟩ := lw1_at (Q := Q) (O := O) (T := T) (a := a) (w := w) hi (Nat.le_refl 5)
    obtain ⟨x1, x2, x3, x4⟩ := lS_N g (by omega) a hp hpB hi
    have hle := sumN_le (p := p) hi
    have hle' := sumN_le (p := p') hi
    have hS0 : ¬ lS Q O T a i ≤ 0 ↔ 1 ≤ ix (lS Q O T a i) := by
      constructor
      · intro q
        exact Nat.pos_of_ne_zero (fun z => q (by rw [x1, z]; decide))
      · intro q
        rw [x1]
        exact nI_nle (by omega) (by omega)
    have R := lrec_eq (f := (setlM (fore σ s 5 a) s 5 m tk).1 (iO s i)) (O := (lbB Q O T V m a tk w).2.1) (w := lw1 Q O T a w 5) (tk := tk) (Y := lY Q O T a i) (S := lS Q O T a i) (i := i) (v := v) (pb := p i) (pa := p' i)
      (F4 i hi) (F8 i hi) w1 (w3.trans (hp i hi)) hv6 (by rw [t4 _ (by omega)]; exact ev) (by omega) (by omega) (n1 i hi)
      (by rw [hS0, ← x4, in_iff hH hi (by omega) (hp i hi), t4 _ (by omega)]) (fun q => n3 i hi (by
        rcases Nat.eq_zero_or_pos (ix (lS Q O T a i)) with z | z
        · exact z
        · exact absurd q (hS0.mpr z)))
    have e9 : (setlM (fore σ s 5 a) s 5 m tk).1 (iO s i) 9 = lY Q O T a i := by rw [tO i hi 9 (by decide)]; exact (fo_l h hK a hi).1
    have e10 : (setlM (fore σ s 5 a) s 5 m tk).1 (iO s i) 10 = lS Q O T a i := by rw [tO i hi 10 (by decide)]; exact (fo_l h hK a hi).2
    unfold kept
    rw [e9, e10]
    refine ⟨fun q hq => (R.1 q hq).trans ?_, fun q h4 h8 => (R.2 q h4 h8).trans ?_⟩
    · unfold brR
      rw [lrF_v 5 (Nat.le_refl 5) q (by omega), if_pos hi]
    · unfold brR
      rw [lrF_v 5 (Nat.le_refl 5) q (by omega), if_pos hi]
  have hK' : lK (lbB Q O T V m a tk w).2.1 := lK_cg hK (fun j hj => t4 j (by omega))
  have B3 : (lbB Q O T V m a tk w).1 3 = Q 3 := t1 3 (by decide) (by decide) (by decide)
  have R4 : ∀ i, i < 5 → ∀ q, q < 4 → (brR Q O T V m a tk w).1 (10 * i + q) = (lbB Q O T V m a tk w).2.1 (10 * i + q) := fun i hi q hq => lrF_K 5 _ (by omega)
  have RT : ∀ i, i < 5 → ∀ q, q < 8 → (brR Q O T V m a tk w).2 (8 * i + q) = if oTab (ro O i) = true ∧ q = (oSlot (ro O i) a (Q 3)).toNatClampNeg then T (8 * i + q) + lqv tk (T (8 * i + q)) else T (8 * i + q) := fun i hi q hq => by
    have eT := oTab_cg (f := ro O i) (f' := ro (lbB Q O T V m a tk w).2.1 i) (t4 _ (by omega))
    have eS := oSlot_cg (f := ro O i) (f' := ro (lbB Q O T V m a tk w).2.1 i) (t4 _ (by omega)) (t4 _ (by omega)) a (Q 3)
    unfold brR
    rw [B3, lrF_t hK' hi hq 5 (Nat.le_refl 5), if_pos hi]
    show (if oTab (ro (lbB Q O T V m a tk w).2.1 i) = true ∧ q = (oSlot (ro (lbB Q O T V m a tk w).2.1 i) a (Q 3)).toNatClampNeg then _ else _) = _
    rw [eT, eS]
  have hkk : ∃ kk : Nat, kk ≤ 1 ∧ tk = nI kk := by
    rcases hk with e | e
    · exact ⟨0, by decide, e⟩
    · exact ⟨1, by decide, e⟩
  obtain ⟨kk, hk1, ek⟩ := hkk
  have Q3 : brQ Q O T V m a tk w 3 = nI ((2 * hv + kk) % 256) := by
    unfold brQ lEQ
    rw [upd_n _ _ _ _ (by decide), upd_s, B3, ehv, ek, or_bit hv (by omega) hk1, pk_andN (k := 8) (by omega) (by decide)]
  have Qr : ∀ j, j ≠ 3 → j ≠ 5 → brQ Q O T V m a tk w j = (lbB Q O T V m a tk w).1 j := fun j h3 h5 => by
    unfold brQ lEQ
    rw [upd_n _ _ _ _ h5, upd_n _ _ _ _ h3]
  refine ⟨hv1, hn1, ⟨⟨?_, ?_, by decide, by omega⟩, ?_, ⟨?_, ?_, ?_, ?_⟩, fun j hj => ?_, fun i hi => ⟨fun q hq => ?_, fun q h4 h8 => ?_, fun q hq => ?_⟩, fun l hl2 j hj => ?_⟩, ⟨⟨?_, ?_, ?_, ?_⟩, fun i hi => ⟨?_, ?_, ?_, ?_, ?_, ?_, fun q hq => ?_⟩, ⟨p', fun i hi => ?_, by omega⟩, n4⟩⟩
  · unfold runM
    rw [learn_S]
    show upd (upd _ 6 _) 7 _ 3 = _
    rw [upd_n _ _ _ _ (by decide), upd_n _ _ _ _ (by decide)]
    exact hc3.1
  · unfold runM
    rw [learn_S]
    show upd (upd _ 6 _) 7 _ 4 = _
    rw [upd_n _ _ _ _ (by decide), upd_n _ _ _ _ (by decide), ← s2]
    exact hc3.2.1
  · rw [Qr 7 (by decide) (by decide)]; exact t2
  · unfold runM
    rw [learn_S]
    show upd (upd _ 6 _) 7 _ 5 = _
    rw [upd_n _ _ _ _ (by decide), upd_n _ _ _ _ (by decide), KS, s5, Qr 4 (by decide) (by decide)]
  · unfold runM
    rw [learn_S]
    show upd (upd _ 6 _) 7 _ 6 = _
    rw [upd_n _ _ _ _ (by decide), upd_s, KS, r4 6 (by decide) (by decide) (by decide), fS, e6, Q3, ehv, ek, show (2 : Int32) = nI 2 by decide, pk_mul, nI_add, pk_andN (k := 8) (by omega) (by decide)]
  · unfold runM
    rw [learn_S]
    show upd (upd _ 6 _) 7 _ 7 = _
    unfold brQ lEQ
    rw [upd_s, KS, r4 7 (by decide) (by decide) (by decide), fS, e7, upd_s, t1 5 (by decide) (by decide) (by decide)]
  · unfold runM
    rw [learn_S]
    show upd (upd _ 6 _) 7 _ 8 = _
    rw [upd_n _ _ _ _ (by decide), upd_n _ _ _ _ (by decide), KS, s6, Qr 6 (by decide) (by decide)]
  · unfold runM
    rw [learn_ne (fun i hi => iT_Set s i s (by omega)) (iS_Set s s).symm, Kn _ (fun i hi => iO_Set s i s (by omega)), r3, fW, hW j hj, Qr j (by omega) (by omega), t1 j (by omega) (by omega) (by omega)]
  · unfold runM
    rw [learn_ne (fun j hj => (iO_T s i s j).symm) (iO_S s i s (by omega)), Kk i hi]
    exact (REC i hi).1 q hq
  · unfold runM
    rw [learn_ne (fun j hj => (iO_T s i s j).symm) (iO_S s i s (by omega)), Kk i hi]
    exact (REC i hi).2 q h4 h8
  · rw [RT i hi q hq]
    unfold runM learnM
    show (puR _ _ _).1 (iT s i) q = _
    rw [puR_ne _ (iT_S s i s (by omega)), setF_at (iT_inj s) hi]
    have kT : (setF (setlM (fore σ s 5 a) s 5 m tk) (iO s) (kept (setlM (fore σ s 5 a) s 5 m tk) s tk) 5).1 (iT s i) = σ.1 (iT s i) := by rw [Kn _ (fun j hj => iO_T s j s i), r2 i (by omega), fT i hi]
    have kO : ∀ q, q < 2 → (setF (setlM (fore σ s 5 a) s 5 m tk) (iO s) (kept (setlM (fore σ s 5 a) s 5 m tk) s tk) 5).1 (iO s i) q = ro O i q := fun q hq => by rw [Kk i hi, (REC i hi).1 q (by omega), R4 i hi q (by omega), t4 _ (by omega)]; rfl
    have kS : (setF (setlM (fore σ s 5 a) s 5 m tk) (iO s) (kept (setlM (fore σ s 5 a) s 5 m tk) s tk) 5).1 (iS s) 6 = Q 3 := by rw [KS, r4 6 (by decide) (by decide) (by decide), fS, e6]
    obtain ⟨js, hjs, ejs⟩ := lSlot hK hi a (Q 3)
    unfold lrn
    rw [kT, oTab_cg (kO 0 (by decide)), oSlot_cg (kO 0 (by decide)) (kO 1 (by decide)), kS, ejs, nI_clamp (by omega)]
    by_cases hT : oTab (ro O i) = true
    · rw [if_pos hT]
      by_cases hq2 : q = js
      · subst hq2
        rw [upd_s, if_pos ⟨hT, rfl⟩, (hO i hi).2.2 q hq]
        exact (lrn_q ((hor i hi).2.2.2.2.2.2 q hq) hk).1
      · rw [upd_n _ _ _ _ hq2, if_neg (fun z => hq2 z.2)]
        exact (hO i hi).2.2 q hq
    · rw [if_neg hT, if_neg (fun z => hT z.1)]
      exact (hO i hi).2.2 q hq
  · unfold runM
    rw [learn_ne (fun i hi => (iL_T s l s i (by omega) (by omega)).symm) (iL_S s l s (by omega)), Kn _ (fun i hi => (iL_O s l s i (by omega) (by omega)).symm)]
    exact s4 l hl2 j hj
  · rw [Qr 0 (by decide) (by decide), t1 0 (by decide) (by decide) (by decide)]; exact hu
  · rw [Qr 1 (by decide) (by decide), t1 1 (by decide) (by decide) (by decide)]; exact hcut
  · rw [Qr 2 (by decide) (by decide), t1 2 (by decide) (by decide) (by decide)]; exact hsh
  · exact ⟨_, Nat.mod_lt _ (by decide), Q3⟩
  · have e := R4 i hi 0 (by decide)
    rw [Nat.add_zero] at e
    rw [e, t4 _ (by omega)]; exact (hor i hi).1
  · rw [R4 i hi 1 (by decide), t4 _ (by omega)]; exact (hor i hi).2.1
  · have e := R4 i hi 0 (by decide)
    rw [Nat.add_zero] at e
    rw [e, R4 i hi 1 (by decide), t4 _ (by omega), t4 _ (by omega)]; exact (hor i hi).2.2.1
  · rw [R4 i hi 3 (by decide), t4 _ (by omega)]; exact (hor i hi).2.2.2.1
  · obtain ⟨v, hv6, ev⟩ := (hor i hi).2.2.2.2.1
    unfold brR
    rw [lrF_v 5 (Nat.le_refl 5) 6 (by decide), if_pos hi, lr_v (by decide), if_neg (by decide)]
    split
    · exact ⟨v, hv6, by rw [t4 _ (by omega)]; exact ev⟩
    · rw [if_neg (by decide), if_neg (by decide), if_pos rfl]
      obtain ⟨b, hb, eb⟩ : ∃ b : Nat, b ≤ 1 ∧ (if lw1 Q O T a w 5 i = tk then (1 : Int32) else 0) = nI b := by
        split
        · exact ⟨1, by decide, rfl⟩
        · exact ⟨0, by decide, rfl⟩
      exact ⟨(2 * v + b) % 65536, Nat.mod_lt _ (by decide), by show ((_ <<< _) ||| _) &&& _ = _; rw [t4 _ (by omega), ev, eb, or_bit v (by omega) hb, pk_andN (k := 16) (by omega) (by decide)]⟩
  · obtain ⟨x, z, hxz, ex, ez⟩ := (hor i hi).2.2.2.2.2.1
    have E4 : (brR Q O T V m a tk w).1 (10 * i + 4) = if (lbB Q O T V m a tk w).2.1 (10 * i + 3) < 0 ∨ lw1 Q O T a w 5 (10 + i) ≤ 0 then nI x else nI x + (if lw1 Q O T a w 5 i = tk then 1 else 0) := by
      unfold brR
      rw [lrF_v 5 (Nat.le_refl 5) 4 (by decide), if_pos hi, lr_v (by decide), if_neg (by decide), if_pos (show 4 = 4 from rfl), ← ex, ← t4 (10 * i + 4) (by omega)]
    have E5 : (brR Q O T V m a tk w).1 (10 * i + 5) = if (lbB Q O T V m a tk w).2.1 (10 * i + 3) < 0 ∨ lw1 Q O T a w 5 (10 + i) ≤ 0 then nI z else nI z + (if lw1 Q O T a w 5 i = tk then 0 else 1) := by
      unfold brR
      rw [lrF_v 5 (Nat.le_refl 5) 5 (by decide), if_pos hi, lr_v (by decide), if_neg (by decide), if_neg (show ¬ (5 = 4) by decide), if_pos (show 5 = 5 from rfl), ← ez, ← t4 (10 * i + 5) (by omega)]
    rw [E4, E5]
    by_cases q : (lbB Q O T V m a tk w).2.1 (10 * i + 3) < 0 ∨ lw1 Q O T a w 5 (10 + i) ≤ 0
    · rw [if_pos q, if_pos q]
      exact ⟨x, z, by omega, rfl, rfl⟩
    · rw [if_neg q, if_neg q]
      by_cases q2 : lw1 Q O T a w 5 i = tk
      · rw [if_pos q2, if_pos q2]
        exact ⟨x + 1, z, by omega, by rw [nI_1], by rw [Int32.add_zero]⟩
      · rw [if_neg q2, if_neg q2]
        exact ⟨x, z + 1, by omega, by rw [Int32.add_zero], by rw [nI_1]⟩
  · rw [RT i hi q hq]
    have c := lrn_q ((hor i hi).2.2.2.2.2.2 q hq) hk
    split
    · rw [← c.1]; exact c.2
    · exact (hor i hi).2.2.2.2.2.2 q hq
  · rw [R4 i hi 2 (by decide)]; exact n1 i hi
end RUN
