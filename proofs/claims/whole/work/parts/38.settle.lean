/-! class and model: bets -/
theorem mTr_cg {r r' : Nat → Int32} {l : Nat} (h : ∀ j, j < 3 → r' (325 + 3 * l + j) = r (325 + 3 * l + j)) : mTr r' l = mTr r l := by
  unfold mTr ml
  rw [h 0 (by decide), h 1 (by decide), h 2 (by decide)]
def mpJJ (r : Nat → Int32) (o : Nat) (q0 : Int32) (l : Nat) (z : mpZ) : Prop := z.2.1 = (pyF o q0 ((List.range l).map (mTr r))).1 ∧ mLs z.1 z.2.2 = (pyF o q0 ((List.range l).map (mTr r))).2.1.filter pos ∧ ∀ j, j < 6 → mo z.1 j 2 = mo r j 2 + (pyF o q0 ((List.range l).map (mTr r))).2.2 j
theorem m_pay {r : Nat → Int32} {o m : Nat} {q0 : Int32} (ho : o < 6) (hcr : mcr r m) : ∀ l, l ≤ m → mpJJ r o q0 l (mpF o (r, q0, 0) l)
  | 0, _ => ⟨rfl, rfl, fun j _ => by show _ = _ + (0 : Int32); rw [Int32.add_zero]; rfl⟩
  | l + 1, h => by
    obtain ⟨i1, i2, i3⟩ := m_pay (q0 := q0) ho hcr l (by omega)
    have hI := mpF_I (g := q0) ho hcr l (by omega)
    have hc := hI.cr hcr (by omega)
    unfold mpJJ
    rw [pyF_s]
    show (mpStep o l (mpF o (r, q0, 0) l)).2.1 = _ ∧ mLs (mpStep o l (mpF o (r, q0, 0) l)).1 (mpStep o l (mpF o (r, q0, 0) l)).2.2 = _ ∧ ∀ j, _ → mo (mpStep o l (mpF o (r, q0, 0) l)).1 j 2 = _
    generalize mpF o (r, q0, 0) l = z at i1 i2 i3 hI hc
    generalize pyF o q0 ((List.range l).map (mTr r)) = F at i1 i2 i3
    obtain ⟨hle, hne, -⟩ := hI
    have eL : ∀ j, j < 3 → ml z.1 l j = ml r l j := fun j hj => hne _ (notP_l l j) (Or.inr (by omega))
    have hR : ∀ {k : Nat}, notP k → mpR o l z k = z.1 k := fun hk => mpR_ne ho hc hk
    have lR : mLs (mpR o l z) z.2.2 = mLs z.1 z.2.2 := map_cg (fun q _ => mTr_cg (fun j _ => hR (notP_l q j)))
    -- the list behind the step, for what is owed then
    have key : ∀ y : Ln, y = (ml r l 0, ml r l 1, mpW o l z) → mLs (mpStep o l z).1 (mpStep o l z).2.2 = (F.2.1 ++ [y]).filter pos := fun y hy => by
      have ey : y.2.2 = mpW o l z := by rw [hy]
      unfold mpStep
      rw [List.filter_append, ← i2]
      by_cases hw : mpW o l z ≤ 0
      · rw [if_pos hw, if_pos hw, List.filter_cons_of_neg (by unfold pos; rw [ey, decide_eq_true hw]; decide)]
        show mLs (mpR o l z) z.2.2 = _ ++ []
        rw [List.append_nil, lR]
      · rw [if_neg hw, if_neg hw, List.filter_cons_of_pos (by unfold pos; rw [ey, decide_eq_false hw]; rfl)]
        show mLs (put3 (mpR o l z) z.2.2 (ml z.1 l 0) (ml z.1 l 1) (mpW o l z)) (z.2.2 + 1) = _ ++ [y]
        obtain ⟨a0, a1, a2⟩ := put3_at (mpR o l z) z.2.2 (ml z.1 l 0) (ml z.1 l 1) (mpW o l z)
        unfold mLs
        rw [map_s, show mTr (put3 (mpR o l z) z.2.2 (ml z.1 l 0) (ml z.1 l 1) (mpW o l z)) z.2.2 = y from by unfold mTr; rw [a0, a1, a2, eL 0 (by decide), eL 1 (by decide), hy]]
        exact congrArg (· ++ [y]) ((map_cg (fun q hq => mTr_cg (fun j hj => put3_ne (by omega)))).trans lR)
    by_cases hd : ml r l 1 = nI o
    · have hd2 : ml z.1 l 1 = nI o := (eL 1 (by decide)).trans hd
      have hP : mpP o l z = pyC F.1 (mTr r l) := by
        unfold mpP pyC
        rw [if_pos hd2, eL 2 (by decide), i1]
        rfl
      have hY := pyS_t (e := o) (z := F) (x := mTr r l) hd
      rw [hY]
      refine ⟨?_, ?_, fun j hj => ?_⟩
      · show (if ml z.1 l 1 = nI o then z.2.1 - mpP o l z else z.2.1) = _
        rw [if_pos hd2, hP, i1]
      · refine key _ ?_
        unfold mpW
        rw [hP, eL 2 (by decide)]
        rfl
      · have e1 : mo (mpStep o l z).1 j 2 = mo (mpR o l z) j 2 := by
          unfold mpStep
          dsimp only
          split
          · rfl
          · exact put3_ne (by omega)
        rw [e1]
        have ec : (ml z.1 l 0).toNatClampNeg = (mTr r l).1.toNatClampNeg := by rw [eL 0 (by decide)]; rfl
        unfold mpR
        rw [if_pos hd2, hP, mo_addR, mo_addR, mo_addR, ec]
        dsimp only
        unfold dl
        have hj3 := i3 j hj
        generalize (mTr r l).1.toNatClampNeg = c
        generalize pyC F.1 (mTr r l) = x
        by_cases hjc : j = c
        · rw [if_pos hjc, if_pos hjc]
          by_cases hje : j = o
          · rw [if_pos (by omega), if_pos hje, ← hje, hj3, Int32.add_assoc, Int32.add_assoc, Int32.add_assoc]
          · rw [if_neg (by omega), if_neg hje, ← hjc, hj3, Int32.add_assoc]
        · rw [if_neg hjc, if_neg hjc]
          by_cases hje : j = o
          · rw [if_pos hje, if_pos hje, ← hje, hj3, Int32.add_assoc]
          · rw [if_neg hje, if_neg hje, hj3]
    · have hd2 : ¬ ml z.1 l 1 = nI o := fun q => hd ((eL 1 (by decide)).symm.trans q)
      have hP : mpP o l z = 0 := by unfold mpP; rw [if_neg hd2]
      have hY := pyS_f (e := o) (z := F) (x := mTr r l) hd
      rw [hY]
      refine ⟨?_, ?_, fun j hj => ?_⟩
      · show (if ml z.1 l 1 = nI o then z.2.1 - mpP o l z else z.2.1) = _
        rw [if_neg hd2]; exact i1
      · refine key _ ?_
        unfold mpW
        rw [hP, eL 2 (by decide), Int32.sub_zero]
        rfl
      · have e1 : mo (mpStep o l z).1 j 2 = mo (mpR o l z) j 2 := by
          unfold mpStep
          dsimp only
          split
          · rfl
          · exact put3_ne (by omega)
        rw [e1]
        unfold mpR
        rw [if_neg hd2]
        exact i3 j hj
/-- the class drops what is paid back -/
theorem drop_ls {s : Nat} {σ : fM} {m : Nat} (hm : m ≤ 8) : ∀ l, l ≤ m → (List.range (dropF s (σ, 0) l).2).map (cTr (dropF s (σ, 0) l).1 s) = ((List.range l).map (cTr σ s)).filter pos
  | 0, _ => rfl
  | l + 1, h => by
    have ih := drop_ls (s := s) (σ := σ) hm l (by omega)
    obtain ⟨h1, -⟩ := dropF_L (s := s) (σ := σ) hm l (by omega)
    rw [map_s, List.filter_append, ← ih]
    show (List.range (dropStep s l (dropF s (σ, 0) l)).2).map (cTr (dropStep s l (dropF s (σ, 0) l)).1 s) = _
    generalize dropF s (σ, 0) l = z at h1 ih
    have eL : z.1.1 (iL s l) = σ.1 (iL s l) := h1 l (Nat.le_refl l)
    unfold dropStep
    by_cases hw : z.1.1 (iL s l) 2 ≤ 0
    · rw [if_pos hw, List.filter_cons_of_neg (by unfold pos cTr; rw [← eL, decide_eq_true hw]; decide)]
      exact (List.append_nil _).symm
    · rw [if_neg hw, List.filter_cons_of_pos (by unfold pos cTr; rw [← eL, decide_eq_false hw]; rfl)]
      show (List.range (z.2 + 1)).map (cTr (puR z.1 (iL s z.2) (lCopy (z.1.1 (iL s l)) (z.1.1 (iL s z.2)))) s) = _
      rw [map_s, map_cg (g := cTr z.1 s) (fun i hi => cTr_cg (puR_ne _ (fun e => by have := iL_inj s _ _ e; omega)))]
      refine congrArg (fun y => (List.range z.2).map (cTr z.1 s) ++ [y]) ?_
      unfold cTr
      rw [puR_self, lCopy_j _ _ (by decide), lCopy_j _ _ (by decide), lCopy_j _ _ (by decide), eL]
/-- what those that are wrong still have to pay -/
def dwF (sd sk : Nat → Int32) (k : Int32) (j : Nat) : Int32 := if sd j = k then 0 else sk j
def slI (s n m : Nat) (sd sk : Nat → Int32) (k W : Int32) (i : Nat) (Z : fM × Int32) (z : mpZ) : Prop :=
  (∀ j, j < n → Z.1.1 (iO s j) 2 = mo z.1 j 2 + (if j < i then 0 else dwF sd sk k j)) ∧ (cLs Z.1 s m).filter pos = mLs z.1 z.2.2 ∧ owN (cLs Z.1 s m) ∧ z.2.1 = W - Z.2
theorem cLs_O (σ : fM) (s m i : Nat) (hi : i < 6) (v : Int32) : cLs (pu σ (iO s i) 2 v) s m = cLs σ s m := map_cg (fun l _ => cTr_cg (pu_ne _ (by unfold iO iL; omega)))
theorem mLs_addR (r : Nat → Int32) (m i : Nat) (hi : i < 6) (v : Int32) : mLs (addR r i 2 v) m = mLs r m := map_cg (fun l _ => mTr_cg (fun j _ => addR_ne (by omega)))
theorem add_subc (a b : Int32) : a + b - b = a := by rw [Int32.sub_eq_add_neg, Int32.add_assoc, Int32.add_right_neg, Int32.add_zero]
section SETL
variable {τ0 : fM} {s n m : Nat} {tp sd sk r0 : Nat → Int32} {k left right W : Int32}
/-- one turn of the bets -/
theorem setl_step {Z : fM × Int32} {z : mpZ} {i sh : Nat} (hi : i < n) (hn6 : n ≤ 6) (hm8 : m ≤ 8) (hI : slI s n m sd sk k W i Z z) (hf : frm2 s τ0 Z.1) (hcr : crd τ0 s m) (hmi : mb2I r0 m z)
    (hsd : τ0.1 (iO s i) 9 = sd i) (hsk : τ0.1 (iO s i) 10 = sk i) (h0 : ¬ tp i = 1 → sk i = 0) (hgot : sd i = k → ∃ g : Nat, g < 2 ^ 20 ∧ left * sk i / right = nI g) (hsh : sh ≤ 100) (hc2 : τ0.1 (iSet s) 2 = nI sh) (hr2 : r0 2 = nI sh) :
    slI s n m sd sk k W (i + 1) (setlStep s m k left right i Z) (mb2Step tp sd sk k left right i z) := by
  obtain ⟨i1, i2, i3, i4⟩ := hI
  have e9 : Z.1.1 (iO s i) 9 = sd i := (hf.n2 _ _ (by decide)).trans hsd
  have e10 : Z.1.1 (iO s i) 10 = sk i := (hf.n2 _ _ (by decide)).trans hsk
  have hi1 := i1 i hi
  rw [if_neg (Nat.lt_irrefl i)] at hi1
  unfold setlStep
  rw [e9, e10]
  by_cases hk : sd i = k
  · rw [if_neg (fun q => q hk)]
    obtain ⟨g, hg, eg⟩ := hgot hk
    rw [eg]
    have hd0 : dwF sd sk k i = 0 := if_pos hk
    rw [hd0, Int32.add_zero] at hi1
    by_cases hgz : g = 0 ∨ ¬ tp i = 1
    · -- nothing is got
      have hg0 : nI g = 0 := by
        rcases hgz with e | e
        · rw [e]; rfl
        · rw [← eg, h0 e, Int32.mul_zero, Int32.zero_div]
      have hG : mbG tp sd sk k left right i = 0 := by
        unfold mbG
        by_cases ht : tp i = 1
        · rw [if_pos ht, if_pos hk, eg, hg0]
        · rw [if_neg ht]
      have ez : mb2Step tp sd sk k left right i z = z := by unfold mb2Step; rw [hG, if_pos (Int32.le_refl _)]
      have eP : payM (pu Z.1 (iO s i) 2 (Z.1.1 (iO s i) 2 + nI g)) s m i (nI g) = pu Z.1 (iO s i) 2 (Z.1.1 (iO s i) 2 + nI g) := by
        unfold payM
        rw [payF_stop (l := 0) (by show (nI g * _ / 100 : Int32) ≤ 0; rw [hg0, Int32.zero_mul, Int32.zero_div]; exact Int32.le_refl _) m (Nat.zero_le m)]
        rfl
      rw [ez, eP, hg0]
      refine ⟨fun j hj => ?_, by rw [cLs_O _ _ _ _ (by omega)]; exact i2, by rw [cLs_O _ _ _ _ (by omega)]; exact i3, by dsimp only; rw [Int32.add_zero]; exact i4⟩
      dsimp only
      rw [puO]
      by_cases hji : j = i
      · rw [if_pos hji, if_pos (by omega), Int32.add_zero, Int32.add_zero, hi1, hji]
      · rw [if_neg hji, i1 j hj]
        by_cases hlt : j < i
        · rw [if_pos hlt, if_pos (by omega)]
        · rw [if_neg hlt, if_neg (by omega)]
    · have hg1 : 0 < g := Nat.pos_of_ne_zero (fun e => hgz (Or.inl e))
      have ht : tp i = 1 := Classical.byContradiction (fun e => hgz (Or.inr e))
      have hG : mbG tp sd sk k left right i = nI g := by unfold mbG; rw [if_pos ht, if_pos hk, eg]
      have hi6 : i < 6 := by omega
      have hcz : crd (pu Z.1 (iO s i) 2 (Z.1.1 (iO s i) 2 + nI g)) s m := (frm2.O (s := s) hi6 Z.1 _).crd (hf.crd hcr)
      have hcm : mcr (addR z.1 i 2 (nI g)) z.2.2 := mcr_addR hmi.2.2.1 hi6 (by decide)
      have hm2 := hmi.2.1
      have hgs : g * sh < 2 ^ 31 := by
        have : g * sh ≤ 2 ^ 20 * 100 := Nat.mul_le_mul (by omega) hsh
        omega
      have eq1 : nI g * (pu Z.1 (iO s i) 2 (Z.1.1 (iO s i) 2 + nI g)).1 (iSet s) 2 / 100 = nI (g * sh / 100) := by
        rw [pu_ne _ (iO_Set s i s hi6).symm, hf.Set, hc2, pk_mul, show (100 : Int32) = nI 100 by decide, pk_div hgs (by decide) (by decide)]
      have eq2 : nI g * addR z.1 i 2 (nI g) 2 / 100 = nI (g * sh / 100) := by
        rw [addR_ne (by omega), hmi.2.2.2 2 (notP_lo (by decide)) (by decide) (by decide), hr2, pk_mul, show (100 : Int32) = nI 100 by decide, pk_div hgs (by decide) (by decide)]
      have hq : g * sh / 100 < 2 ^ 30 := by omega
      obtain ⟨c1, c2, c3, c4, -, c6⟩ := c_pay (τ := pu Z.1 (iO s i) 2 (Z.1.1 (iO s i) 2 + nI g)) hi6 hm8 hcz hq (by rw [cLs_O _ _ _ _ hi6]; exact i3) m (Nat.le_refl m)
      obtain ⟨d1, d2, d3⟩ := m_pay (r := addR z.1 i 2 (nI g)) (q0 := nI (g * sh / 100)) hi6 hcm z.2.2 (Nat.le_refl _)
      have eLc : (List.range m).map (cTr (pu Z.1 (iO s i) 2 (Z.1.1 (iO s i) 2 + nI g)) s) = cLs Z.1 s m := cLs_O _ _ _ _ hi6 _
      have eLm : (List.range z.2.2).map (mTr (addR z.1 i 2 (nI g))) = mLs z.1 z.2.2 := mLs_addR _ _ _ hi6 _
      rw [eLc] at c2 c4 c6
      rw [eLm, ← i2] at d2 d3
      obtain ⟨-, f2, f3⟩ := pyF_flt (e := i) (cLs Z.1 s m) i3 (g * sh / 100) hq [] [] (fun _ => 0) rfl
      have ez : mb2Step tp sd sk k left right i z = ((mpay (addR z.1 i 2 (nI g)) z.2.2 i (nI g)).1, z.2.1 - nI g, (mpay (addR z.1 i 2 (nI g)) z.2.2 i (nI g)).2) := by
        unfold mb2Step
        rw [hG, if_neg (nI_nle hg1 (by omega))]
      rw [ez]
      unfold payM mpay
      rw [eq1, eq2]
      generalize payF s i (pu Z.1 (iO s i) 2 (Z.1.1 (iO s i) 2 + nI g), nI (g * sh / 100)) m = Q at c2 c4
      have hz8 : (mpF i (addR z.1 i 2 (nI g), nI (g * sh / 100), 0) z.2.2).2.2 ≤ 8 := by
        have := (mpF_I (g := nI (g * sh / 100)) hi6 hcm z.2.2 (Nat.le_refl _)).1
        omega
      generalize mpF i (addR z.1 i 2 (nI g), nI (g * sh / 100), 0) z.2.2 = R at d2 d3 hz8
      refine ⟨fun j hj => ?_, ?_, ?_, ?_⟩
      · show Q.1.1 (iO s j) 2 = upd R.1 8 _ (73 + 42 * j + 2) + _
        rw [upd_n _ _ _ _ (by omega), show R.1 (73 + 42 * j + 2) = mo R.1 j 2 from rfl, c4 j (by omega), d3 j (by omega), puO, mo_addR, show (pyF i (nI (g * sh / 100)) (cLs Z.1 s m)).2.2 j = (pyF i (nI (g * sh / 100)) ((cLs Z.1 s m).filter pos)).2.2 j from congrFun f3 j]
        generalize (pyF i (nI (g * sh / 100)) ((cLs Z.1 s m).filter pos)).2.2 j = x
        by_cases hji : j = i
        · rw [if_pos hji, if_pos hji, if_pos (by omega), Int32.add_zero, hi1]
        · rw [if_neg hji, if_neg hji, i1 j hj]
          have e3 : (if j < i then (0 : Int32) else dwF sd sk k j) = if j < i + 1 then 0 else dwF sd sk k j := by
            by_cases hlt : j < i
            · rw [if_pos hlt, if_pos (by omega)]
            · rw [if_neg hlt, if_neg (by omega)]
          rw [e3, Int32.add_assoc, Int32.add_comm _ x, ← Int32.add_assoc]
      · show (cLs Q.1 s m).filter pos = mLs (upd R.1 8 _) R.2.2
        rw [show mLs (upd R.1 8 (nI R.2.2)) R.2.2 = mLs R.1 R.2.2 from map_cg (fun l _ => mTr_cg (fun j _ => upd_n _ _ _ _ (by omega))), d2]
        unfold cLs
        rw [c2]
        exact f2
      · show owN (cLs Q.1 s m)
        unfold cLs
        rw [c2]
        exact c6
      · show z.2.1 - nI g = W - (Z.2 + nI g)
        rw [i4, Int32.sub_eq_add_neg, Int32.sub_eq_add_neg, Int32.sub_eq_add_neg, Int32.neg_add, Int32.add_assoc, ← Int32.sub_eq_add_neg (-Z.2)]
  · rw [if_pos hk]
    have hG : mbG tp sd sk k left right i = 0 := by
      unfold mbG
      by_cases ht : tp i = 1
      · rw [if_pos ht, if_neg hk]
      · rw [if_neg ht]
    have ez : mb2Step tp sd sk k left right i z = z := by unfold mb2Step; rw [hG, if_pos (Int32.le_refl _)]
    have hdw : dwF sd sk k i = sk i := if_neg hk
    rw [ez]
    refine ⟨fun j hj => ?_, by rw [cLs_O _ _ _ _ (by omega)]; exact i2, by rw [cLs_O _ _ _ _ (by omega)]; exact i3, i4⟩
    dsimp only
    rw [puO]
    by_cases hji : j = i
    · rw [if_pos hji, if_pos (by omega), Int32.add_zero, hi1, hdw, add_subc, hji]
    · rw [if_neg hji, i1 j hj]
      by_cases hlt : j < i
      · rw [if_pos hlt, if_pos (by omega)]
      · rw [if_neg hlt, if_neg (by omega)]
end SETL
