/-! class and law: the bets -/
def lsI (s m : Nat) (Y S : Nat → Int32) (k W : Int32) (i : Nat) (Z : fM × Int32) (z : lbT) : Prop :=
  (∀ j, j < 5 → Z.1.1 (iO s j) 2 = z.2.2.1 (10 * j + 2) + (if j < i then 0 else dwF Y S k j)) ∧ (cLs Z.1 s m).filter pos = vLs z.2.2.2.1 z.2.2.2.2 ∧ owN (cLs Z.1 s m) ∧ z.1 = W - Z.2
theorem vLs_cg {V V' : Nat → Int32} {m : Nat} (h : ∀ l, l < m → ∀ j, j < 3 → V' (3 * l + j) = V (3 * l + j)) : vLs V' m = vLs V m := map_cg (fun l hl => vTr_cg (h l hl))
section LSET
variable {τ0 : fM} {s m : Nat} {Y S w : Nat → Int32} {k left R W : Int32}
/-- one turn of the bets -/
theorem lset_step {Z : fM × Int32} {z : lbT} {i sh : Nat} (hi : i < 5) (hm8 : m ≤ 8) (hI : lsI s m Y S k W i Z z) (hf : frm2 s τ0 Z.1) (hcr : crd τ0 s m) (hz : lcr z.2.1 z.2.2.2.1 z.2.2.2.2)
    (hsd : τ0.1 (iO s i) 9 = Y i) (hsk : τ0.1 (iO s i) 10 = S i) (hwY : w i = Y i) (hwS : w (5 + i) = S i) (hleft : W - W * z.2.1 1 / 100 = left) (hgot : Y i = k → ∃ g : Nat, g < 2 ^ 20 ∧ left * S i / R = nI g) (hsh : sh ≤ 100) (hc2 : τ0.1 (iSet s) 2 = nI sh) (hr2 : z.2.1 2 = nI sh) :
    lsI s m Y S k W (i + 1) (setlStep s m k left R i Z) (lbS w k W R i z) := by
  obtain ⟨i1, i2, i3, i4⟩ := hI
  have e9 : Z.1.1 (iO s i) 9 = Y i := (hf.n2 _ _ (by decide)).trans hsd
  have e10 : Z.1.1 (iO s i) 10 = S i := (hf.n2 _ _ (by decide)).trans hsk
  have hi1 := i1 i hi
  rw [if_neg (Nat.lt_irrefl i)] at hi1
  have hi6 : i < 6 := by omega
  unfold setlStep
  rw [e9, e10]
  by_cases hk : Y i = k
  · rw [if_neg (fun q => q hk)]
    obtain ⟨g, hg, eg⟩ := hgot hk
    rw [eg]
    have hd0 : dwF Y S k i = 0 := if_pos hk
    rw [hd0, Int32.add_zero] at hi1
    have hG : lbG w k W R i z = nI g := by unfold lbG; rw [if_pos (hwY.trans hk), hleft, hwS, eg]
    by_cases hgz : g = 0
    · have hg0 : nI g = 0 := by rw [hgz]; rfl
      have ez : lbS w k W R i z = z := by unfold lbS; rw [hG, if_pos hg0]
      have eP : payM (pu Z.1 (iO s i) 2 (Z.1.1 (iO s i) 2 + nI g)) s m i (nI g) = pu Z.1 (iO s i) 2 (Z.1.1 (iO s i) 2 + nI g) := by
        unfold payM
        rw [payF_stop (l := 0) (by show (nI g * _ / 100 : Int32) ≤ 0; rw [hg0, Int32.zero_mul, Int32.zero_div]; exact Int32.le_refl _) m (Nat.zero_le m)]
        rfl
      rw [ez, eP, hg0]
      refine ⟨fun j hj => ?_, by rw [cLs_O _ _ _ _ hi6]; exact i2, by rw [cLs_O _ _ _ _ hi6]; exact i3, by dsimp only; rw [Int32.add_zero]; exact i4⟩
      dsimp only
      rw [puO]
      by_cases hji : j = i
      · rw [if_pos hji, if_pos (by omega), Int32.add_zero, Int32.add_zero, hi1, hji]
      · rw [if_neg hji, i1 j hj]
        by_cases hlt : j < i
        · rw [if_pos hlt, if_pos (by omega)]
        · rw [if_neg hlt, if_neg (by omega)]
    · have hg1 : 0 < g := Nat.pos_of_ne_zero hgz
      have hgn : ¬ nI g = 0 := fun q => hgz ((nI_eq (b := 0) (by omega) (by decide)).mp q)
      have hcz : crd (pu Z.1 (iO s i) 2 (Z.1.1 (iO s i) 2 + nI g)) s m := (frm2.O (s := s) hi6 Z.1 _).crd (hf.crd hcr)
      have hgs : g * sh < 2 ^ 31 := by
        have : g * sh ≤ 2 ^ 20 * 100 := Nat.mul_le_mul (by omega) hsh
        omega
      have eq1 : nI g * (pu Z.1 (iO s i) 2 (Z.1.1 (iO s i) 2 + nI g)).1 (iSet s) 2 / 100 = nI (g * sh / 100) := by
        rw [pu_ne _ (iO_Set s i s hi6).symm, hf.Set, hc2, pk_mul, show (100 : Int32) = nI 100 by decide, pk_div hgs (by decide) (by decide)]
      have eq2 : nI g * z.2.1 2 / 100 = nI (g * sh / 100) := by
        rw [hr2, pk_mul, show (100 : Int32) = nI 100 by decide, pk_div hgs (by decide) (by decide)]
      have hq : g * sh / 100 < 2 ^ 30 := by omega
      obtain ⟨c1, c2, c3, c4, -, c6⟩ := c_pay (τ := pu Z.1 (iO s i) 2 (Z.1.1 (iO s i) 2 + nI g)) hi6 hm8 hcz hq (by rw [cLs_O _ _ _ _ hi6]; exact i3) m (Nat.le_refl m)
      have eO : lbO w k W R i z = upd z.2.2.1 (10 * i + 2) (z.2.2.1 (10 * i + 2) + nI g) := by unfold lbO; rw [hG]
      obtain ⟨d1, d2, -, d3⟩ := l_pay (O := lbO w k W R i z) (q0 := nI (g * sh / 100)) hi hz.2.2 z.2.2.2.2 (Nat.le_refl _)
      have hls := ldF_ls (lpZ z.2.1 (lbO w k W R i z) z.2.2.2.1 z.2.2.2.2 i (nI g)).2.2 z.2.2.2.2
      have eLc : (List.range m).map (cTr (pu Z.1 (iO s i) 2 (Z.1.1 (iO s i) 2 + nI g)) s) = cLs Z.1 s m := cLs_O _ _ _ _ hi6 _
      have eLm : (List.range z.2.2.2.2).map (vTr z.2.2.2.1) = vLs z.2.2.2.1 z.2.2.2.2 := rfl
      rw [eLc] at c2 c4 c6
      rw [eLm, ← i2] at d2 d3
      obtain ⟨-, f2, f3⟩ := pyF_flt (e := i) (cLs Z.1 s m) i3 (g * sh / 100) hq [] [] (fun _ => 0) rfl
      have ez : lbS w k W R i z = (z.1 - nI g, upd z.2.1 7 (nI (lpY z.2.1 (lbO w k W R i z) z.2.2.2.1 z.2.2.2.2 i (nI g)).2), (lpZ z.2.1 (lbO w k W R i z) z.2.2.2.1 z.2.2.2.2 i (nI g)).2.1, (lpY z.2.1 (lbO w k W R i z) z.2.2.2.1 z.2.2.2.2 i (nI g)).1, (lpY z.2.1 (lbO w k W R i z) z.2.2.2.1 z.2.2.2.2 i (nI g)).2) := by
        unfold lbS
        rw [hG, if_neg hgn]
      rw [ez]
      have eZ : lpZ z.2.1 (lbO w k W R i z) z.2.2.2.1 z.2.2.2.2 i (nI g) = lpF i (nI (g * sh / 100), lbO w k W R i z, z.2.2.2.1) z.2.2.2.2 := by unfold lpZ; rw [eq2]
      rw [← eZ] at d2 d3
      unfold payM
      rw [eq1]
      generalize payF s i (pu Z.1 (iO s i) 2 (Z.1.1 (iO s i) 2 + nI g), nI (g * sh / 100)) m = Q at c2 c4
      refine ⟨fun j hj => ?_, ?_, ?_, ?_⟩
      · dsimp only
        rw [c4 j (by omega), d3 j hj, puO, eO, show (pyF i (nI (g * sh / 100)) (cLs Z.1 s m)).2.2 j = (pyF i (nI (g * sh / 100)) ((cLs Z.1 s m).filter pos)).2.2 j from congrFun f3 j]
        generalize (pyF i (nI (g * sh / 100)) ((cLs Z.1 s m).filter pos)).2.2 j = x
        by_cases hji : j = i
        · rw [if_pos hji, hji, upd_s, if_pos (by omega), Int32.add_zero, hi1]
        · rw [if_neg hji, upd_n _ _ _ _ (by omega), i1 j hj]
          have e3 : (if j < i then (0 : Int32) else dwF Y S k j) = if j < i + 1 then 0 else dwF Y S k j := by
            by_cases hlt : j < i
            · rw [if_pos hlt, if_pos (by omega)]
            · rw [if_neg hlt, if_neg (by omega)]
          rw [e3, Int32.add_assoc, Int32.add_comm _ x, ← Int32.add_assoc]
      · show (cLs Q.1 s m).filter pos = vLs (lpY z.2.1 (lbO w k W R i z) z.2.2.2.1 z.2.2.2.2 i (nI g)).1 (lpY z.2.1 (lbO w k W R i z) z.2.2.2.1 z.2.2.2.2 i (nI g)).2
        rw [show vLs (lpY z.2.1 (lbO w k W R i z) z.2.2.2.1 z.2.2.2.2 i (nI g)).1 (lpY z.2.1 (lbO w k W R i z) z.2.2.2.1 z.2.2.2.2 i (nI g)).2 = _ from hls, d2]
        unfold cLs
        rw [c2]
        exact f2
      · show owN (cLs Q.1 s m)
        unfold cLs
        rw [c2]
        exact c6
      · show z.1 - nI g = W - (Z.2 + nI g)
        rw [i4, Int32.sub_eq_add_neg, Int32.sub_eq_add_neg, Int32.sub_eq_add_neg, Int32.neg_add, Int32.add_assoc, ← Int32.sub_eq_add_neg (-Z.2)]
  · rw [if_pos hk]
    have ez : lbS w k W R i z = z := by unfold lbS lbG; rw [if_neg (fun q => hk (hwY.symm.trans q)), if_pos rfl]
    have hdw : dwF Y S k i = S i := if_neg hk
    rw [ez]
    refine ⟨fun j hj => ?_, by rw [cLs_O _ _ _ _ hi6]; exact i2, by rw [cLs_O _ _ _ _ hi6]; exact i3, i4⟩
    dsimp only
    rw [puO]
    by_cases hji : j = i
    · rw [if_pos hji, if_pos (by omega), Int32.add_zero, hi1, hdw, add_subc, hji]
    · rw [if_neg hji, i1 j hj]
      by_cases hlt : j < i
      · rw [if_pos hlt, if_pos (by omega)]
      · rw [if_neg hlt, if_neg (by omega)]
end LSET
/-- the rows behind the bets -/
def lbC (w : Nat → Int32) (k W R : Int32) (Q O V : Nat → Int32) (m : Nat) : (Nat → Int32) × (Nat → Int32) × (Nat → Int32) × Nat :=
  if lBt W R = true then (upd (upd (lbF w k W R (W, Q, lo1 O w k 5, V, m) 5).2.1 4 ((lbF w k W R (W, Q, lo1 O w k 5, V, m) 5).2.1 4 + (lbF w k W R (W, Q, lo1 O w k 5, V, m) 5).1)) 6 (upd (lbF w k W R (W, Q, lo1 O w k 5, V, m) 5).2.1 4 ((lbF w k W R (W, Q, lo1 O w k 5, V, m) 5).2.1 4 + (lbF w k W R (W, Q, lo1 O w k 5, V, m) 5).1) 6 + 1), (lbF w k W R (W, Q, lo1 O w k 5, V, m) 5).2.2.1, (lbF w k W R (W, Q, lo1 O w k 5, V, m) 5).2.2.2.1, (lbF w k W R (W, Q, lo1 O w k 5, V, m) 5).2.2.2.2)
  else (Q, O, V, m)
theorem lo1_at {O w : Nat → Int32} {k : Int32} {j : Nat} (hj : j < 5) : ∀ i, i ≤ 5 → lo1 O w k i (10 * j + 2) = if j < i then O (10 * j + 2) - (if w j = k then 0 else w (5 + j)) else O (10 * j + 2)
  | 0, _ => by rw [if_neg (Nat.not_lt_zero j)]; rfl
  | i + 1, h => by
    show upd _ _ _ _ = _
    by_cases hji : j = i
    · subst hji
      rw [upd_s, lo1_at hj j (by omega), if_neg (Nat.lt_irrefl j), if_pos (Nat.lt_succ_self j)]
    · rw [upd_n _ _ _ _ (by omega), lo1_at hj i (by omega)]
      by_cases h2 : j < i
      · rw [if_pos h2, if_pos (show j < i + 1 by omega)]
      · rw [if_neg h2, if_neg (show ¬ j < i + 1 by omega)]
theorem wr_e {Y S : Nat → Int32} {st : Nat → Nat} {k : Int32} (hst : ∀ i, i < 5 → S i = nI (st i)) : sumF 0 (fun i => if Y i = k then 0 else S i) 5 = nI (sumN (fun i => if Y i = k then 0 else st i) 5) ∧ sumF 0 (fun i => if Y i = k then S i else 0) 5 = nI (sumN (fun i => if Y i = k then st i else 0) 5) := by
  constructor
  · exact sumF_N (fun i hi => by
      split
      · rfl
      · exact hst i hi)
  · exact sumF_N (fun i hi => by
      split
      · exact hst i hi
      · rfl)
section LBETS
variable {τ : fM} {s m : Nat} {Q O V Y S w : Nat → Int32} {k W R : Int32} {p st : Nat → Nat}
set_option maxHeartbeats 4000000 in
/-- the bets of class and law -/
theorem lset_eq (hc : cnt τ s 5 m) (hO : ∀ i, i < 5 → τ.1 (iO s i) 2 = O (10 * i + 2) ∧ τ.1 (iO s i) 9 = Y i ∧ τ.1 (iO s i) 10 = S i) (hL : ∀ l, l < m → ∀ j, j < 3 → τ.1 (iL s l) j = V (3 * l + j)) (hW : ∀ j, j < 3 → τ.1 (iSet s) j = Q j)
    (h5 : τ.1 (iS s) 5 = Q 4) (h8 : τ.1 (iS s) 8 = Q 6) (h7 : Q 7 = nI m) (hw : ∀ i, i < 5 → w i = Y i ∧ w (5 + i) = S i) (hd : ∀ i, i < 5 → Y i = 0 ∨ Y i = 1) (hk : k = 0 ∨ k = 1)
    (hst : ∀ i, i < 5 → S i = nI (st i) ∧ st i ≤ p i ∧ st i ≤ 100) (hp : lpu O p) (hpS : sumN p 5 < 2 ^ 24 - 2 ^ 12) (hl : llo V m) (hcut : ∃ c : Nat, c ≤ 50 ∧ Q 1 = nI c) (hsh : ∃ c : Nat, c ≤ 100 ∧ Q 2 = nI c)
    (hWd : W = sumF 0 (fun i => if Y i = k then 0 else S i) 5) (hRd : R = sumF 0 (fun i => if Y i = k then S i else 0) 5) :
    (setlV τ s 5 k = (if lBt W R = true then W else 0) ∧ setlN τ s 5 m k = (lbC w k W R Q O V m).2.2.2 ∧ (∀ i, i < 5 → (setlM τ s 5 m k).1 (iO s i) 2 = (lbC w k W R Q O V m).2.1 (10 * i + 2)) ∧
      (∀ l, l < (lbC w k W R Q O V m).2.2.2 → ∀ j, j < 3 → (setlM τ s 5 m k).1 (iL s l) j = (lbC w k W R Q O V m).2.2.1 (3 * l + j)) ∧ (setlM τ s 5 m k).1 (iS s) 5 = (lbC w k W R Q O V m).1 4 ∧ (setlM τ s 5 m k).1 (iS s) 8 = (lbC w k W R Q O V m).1 6) ∧
    ((∀ j, j ≠ 4 → j ≠ 6 → j ≠ 7 → (lbC w k W R Q O V m).1 j = Q j) ∧ (lbC w k W R Q O V m).1 7 = nI (lbC w k W R Q O V m).2.2.2 ∧ (lbC w k W R Q O V m).2.2.2 ≤ m ∧ (∀ j, j % 10 ≠ 2 → (lbC w k W R Q O V m).2.1 j = O j)) ∧
    (∃ p' : Nat → Nat, lpu (lbC w k W R Q O V m).2.1 p' ∧ sumN p' 5 ≤ sumN p 5 ∧ ∀ j, j < 5 → st j = 0 → p j ≤ p' j) ∧ llo (lbC w k W R Q O V m).2.2.1 (lbC w k W R Q O V m).2.2.2 := by
  have hm8 := hc.2.2.2
  have hcrd : crd τ s m := fun l hl2 => by
    obtain ⟨⟨c, h1, h2⟩, -⟩ := hl l hl2
    exact ⟨c, by omega, (hL l hl2 0 (by decide)).trans h2⟩
  have eWs : stk τ s 5 (1 - k) = W := by
    rw [hWd]
    exact sumF_cg (fun i hi => by
      obtain ⟨-, e9, e10⟩ := hO i hi
      rw [e9, e10]
      rcases hd i hi with e | e <;> rcases hk with e2 | e2 <;> rw [e, e2] <;> simp +decide)
  have eRs : stk τ s 5 k = R := by
    rw [hRd]
    exact sumF_cg (fun i hi => by
      obtain ⟨-, e9, e10⟩ := hO i hi
      rw [e9, e10])
  obtain ⟨hWN, hRN⟩ := wr_e (Y := Y) (k := k) (fun i hi => (hst i hi).1)
  rw [← hWd] at hWN
  rw [← hRd] at hRN
  have w6 : sumN (fun i => if Y i = k then 0 else st i) 5 ≤ 500 := by
    have := sumN_c (p := fun i => if Y i = k then 0 else st i) (c := 100) (n := 5) (fun i hi => by have := (hst i hi).2.2; split <;> omega)
    omega
  have r6 : sumN (fun i => if Y i = k then st i else 0) 5 ≤ 500 := by
    have := sumN_c (p := fun i => if Y i = k then st i else 0) (c := 100) (n := 5) (fun i hi => by have := (hst i hi).2.2; split <;> omega)
    omega
  have cR : (lBt W R = true) ↔ (¬ W ≤ 0 ∧ 0 < R) := by
    unfold lBt
    rw [Bool.and_eq_true, decide_eq_true_eq, decide_eq_true_eq, Int32.not_le]
  unfold setlV setlN setlM lbC
  rw [eWs, eRs]
  by_cases hw0 : W ≤ 0
  · have hb : ¬ lBt W R = true := fun q => (cR.mp q).1 hw0
    rw [if_pos hw0, if_pos hw0, if_pos hw0, if_neg hb, if_neg hb]
    exact ⟨⟨rfl, rfl, fun i hi => (hO i hi).1, hL, h5, h8⟩, ⟨fun _ _ _ _ => rfl, h7, Nat.le_refl m, fun _ _ => rfl⟩, ⟨p, hp, Nat.le_refl _, fun _ _ _ => Nat.le_refl _⟩, hl⟩
  · rw [if_neg hw0, if_neg hw0, if_neg hw0]
    by_cases hr0 : 0 < R
    · have hb : lBt W R = true := cR.mpr ⟨hw0, hr0⟩
      rw [if_pos hr0, if_pos hr0, if_pos hr0, if_pos hb, if_pos hb]
      obtain ⟨c, hc50, ec⟩ := hcut
      obtain ⟨sh, hsh100, esh⟩ := hsh
      have hRpos : 0 < sumN (fun i => if Y i = k then st i else 0) 5 := Nat.pos_of_ne_zero (fun e => by rw [hRN, e] at hr0; exact absurd hr0 (by decide))
      have eLeft : setlLeft τ s 5 k = W - W * Q 1 / 100 := by unfold setlLeft; rw [eWs, hW 1 (by decide)]
      have hLe : W - W * Q 1 / 100 = nI (sumN (fun i => if Y i = k then 0 else st i) 5 - sumN (fun i => if Y i = k then 0 else st i) 5 * c / 100) := by
        have : sumN (fun i => if Y i = k then 0 else st i) 5 * c ≤ 500 * 50 := Nat.mul_le_mul w6 hc50
        rw [hWN, ec, pk_mul, show (100 : Int32) = nI 100 by decide, pk_div (by omega) (by decide) (by decide), pk_sub (by
          have : sumN (fun i => if Y i = k then 0 else st i) 5 * c ≤ sumN (fun i => if Y i = k then 0 else st i) 5 * 100 := Nat.mul_le_mul_left _ (by omega)
          omega)]
      have hLv : sumN (fun i => if Y i = k then 0 else st i) 5 - sumN (fun i => if Y i = k then 0 else st i) 5 * c / 100 ≤ sumN (fun i => if Y i = k then 0 else st i) 5 := Nat.sub_le _ _
      have hsub := sumN_sub (p := p) (w := fun i => if Y i = k then 0 else st i) (n := 5) (fun i hi => by have := (hst i hi).2.1; split <;> omega)
      generalize hLg : sumN (fun i => if Y i = k then 0 else st i) 5 - sumN (fun i => if Y i = k then 0 else st i) 5 * c / 100 = Lv at hLe hLv
      have hgE : ∀ i, i < 5 → (W - W * Q 1 / 100) * S i / R = nI (Lv * st i / sumN (fun i => if Y i = k then st i else 0) 5) ∧ Lv * st i / sumN (fun i => if Y i = k then st i else 0) 5 < 2 ^ 20 := fun i hi => by
        obtain ⟨b1, b2, b3⟩ := hst i hi
        have h1 : Lv * st i ≤ 500 * 100 := Nat.mul_le_mul (by omega) b3
        have h2 := Nat.div_le_self (Lv * st i) (sumN (fun i => if Y i = k then st i else 0) 5)
        exact ⟨by rw [hLe, hRN, b1, pk_mul, pk_div (by omega) hRpos (by omega)], by omega⟩
      have hf0 : ∀ i, i ≤ 5 → frm2 s (pu τ (iS s) 8 (τ.1 (iS s) 8 + 1)) (setlF s m k (setlLeft τ s 5 k) (stk τ s 5 k) (pu τ (iS s) 8 (τ.1 (iS s) 8 + 1), 0) i).1 := fun i hi => setlF_frm (z := (pu τ (iS s) 8 (τ.1 (iS s) 8 + 1), 0)) (n := 5) (by decide) hm8 (crd_S hcrd hm8 _ _) i hi
      have e0 : ∀ q, q ≠ iS s → (pu τ (iS s) 8 (τ.1 (iS s) 8 + 1)).1 q = τ.1 q := fun q hq => pu_ne _ hq
      have hcL : cLs τ s m = vLs V m := map_cg (fun l hl2 => by
        have a0 := hL l hl2 0 (by decide)
        unfold cTr vTr
        rw [a0, hL l hl2 1 (by decide), hL l hl2 2 (by decide)]
        rfl)
      have hpos : (vLs V m).filter pos = vLs V m := List.filter_eq_self.mpr (fun x hx => by
        obtain ⟨l, hl2, e⟩ := List.mem_map.mp hx
        obtain ⟨-, -, w, w1, w2, ew⟩ := hl l (List.mem_range.mp hl2)
        rw [← e]
        unfold pos vTr
        rw [show V (3 * l + 2) = nI w from ew, decide_eq_false (nI_nle w1 (by omega))]
        rfl)
      have hown : owN (vLs V m) := fun x hx => by
        obtain ⟨l, hl2, e⟩ := List.mem_map.mp hx
        obtain ⟨-, -, w, w1, w2, ew⟩ := hl l (List.mem_range.mp hl2)
        exact ⟨w, by omega, by rw [← e]; exact ew⟩
      have hcL0 : cLs (pu τ (iS s) 8 (τ.1 (iS s) 8 + 1)) s m = vLs V m := by
        rw [← hcL]
        exact map_cg (fun l hl2 => cTr_cg (e0 _ (iL_S s l s (by omega))))
      have hlcr : lcr Q V m := ⟨h7, hm8, fun l hl2 => (hl l hl2).1⟩
      have hbI := lbF_I (w := w) (tk := k) (W := W) (R := R) (z := (W, Q, lo1 O w k 5, V, m)) hlcr
      have key : ∀ i, i ≤ 5 → lsI s m Y S k W i (setlF s m k (setlLeft τ s 5 k) (stk τ s 5 k) (pu τ (iS s) 8 (τ.1 (iS s) 8 + 1), 0) i) (lbF w k W R (W, Q, lo1 O w k 5, V, m) i) := by
        intro i
        induction i with
        | zero =>
          intro _
          refine ⟨fun j hj => ?_, ?_, ?_, ?_⟩
          · show (pu τ (iS s) 8 _).1 (iO s j) 2 = lo1 O w k 5 (10 * j + 2) + _
            rw [e0 _ (iO_S s j s (by omega)), (hO j hj).1, lo1_at hj 5 (Nat.le_refl 5), if_pos hj, if_neg (Nat.not_lt_zero j), (hw j hj).1, (hw j hj).2]
            unfold dwF
            by_cases hkj : Y j = k
            · rw [if_pos hkj, Int32.sub_zero, Int32.add_zero]
            · rw [if_neg hkj, Int32.sub_eq_add_neg, neg_addc]
          · show (cLs (pu τ (iS s) 8 _) s m).filter pos = vLs V m
            rw [hcL0, hpos]
          · show owN (cLs (pu τ (iS s) 8 _) s m)
            rw [hcL0]; exact hown
          · show W = W - 0
            rw [Int32.sub_zero]
        | succ i ih =>
          intro hi
          have hii : i < 5 := hi
          have hio := hO i hii
          show lsI s m Y S k W (i + 1) (setlStep s m k (setlLeft τ s 5 k) (stk τ s 5 k) i _) (lbS w k W R i (lbF w k W R (W, Q, lo1 O w k 5, V, m) i))
          have ih' := ih (by omega)
          have hf := hf0 i (by omega)
          obtain ⟨b1, b2, b3, b4⟩ := hbI i
          rw [eLeft, eRs] at ih' hf ⊢
          exact lset_step (τ0 := pu τ (iS s) 8 (τ.1 (iS s) 8 + 1)) (sh := sh) hii hm8 ih' hf (crd_S hcrd hm8 _ _) b1
            (by rw [e0 _ (iO_S s i s (by omega))]; exact hio.2.1) (by rw [e0 _ (iO_S s i s (by omega))]; exact hio.2.2) (hw i hii).1 (hw i hii).2 (by rw [b3 1 (by decide)]) (fun _ => ⟨_, (hgE i hii).2, (hgE i hii).1⟩) hsh100 (by rw [e0 _ (iS_Set s s).symm, hW 2 (by decide)]; exact esh) (by rw [b3 2 (by decide)]; exact esh)
      -- the numbers
      have h1' : lpu (lo1 O w k 5) (fun j => p j - (if Y j = k then 0 else st j)) := fun j hj => by
        rw [lo1_at hj 5 (Nat.le_refl 5), if_pos hj, (hw j hj).1, (hw j hj).2, hp j hj]
        dsimp only
        by_cases hkj : Y j = k
        · rw [if_pos hkj, if_pos hkj, Int32.sub_zero, Nat.sub_zero]
        · rw [if_neg hkj, if_neg hkj, (hst j hj).1, pk_sub (hst j hj).2.1]
      have gle : ∀ i, i ≤ 5 → sumN (fun o => Lv * (if Y o = k then st o else 0) / sumN (fun i => if Y i = k then st i else 0) 5) i ≤ Lv := fun i hi => by
        have h := sumN_div Lv (sumN (fun i => if Y i = k then st i else 0) 5) (fun o => if Y o = k then st o else 0) i
        have h2 : sumN (fun o => if Y o = k then st o else 0) i ≤ sumN (fun i => if Y i = k then st i else 0) 5 := by
          have : ∀ j, sumN (fun o => if Y o = k then st o else 0) i ≤ sumN (fun o => if Y o = k then st o else 0) (i + j) := fun j => by
            induction j with
            | zero => exact Nat.le_refl _
            | succ j ih => exact Nat.le_trans ih (Nat.le_add_right _ _)
          have h3 := this (5 - i)
          rw [show i + (5 - i) = 5 by omega] at h3
          exact h3
        exact Nat.le_of_mul_le_mul_right (Nat.le_trans h (Nat.mul_le_mul_left Lv h2)) hRpos
      have num : ∀ i, i ≤ 5 → ∃ pz : Nat → Nat, lpu (lbF w k W R (W, Q, lo1 O w k 5, V, m) i).2.2.1 pz ∧ sumN pz 5 = sumN (fun j => p j - (if Y j = k then 0 else st j)) 5 + sumN (fun o => Lv * (if Y o = k then st o else 0) / sumN (fun i => if Y i = k then st i else 0) 5) i ∧ llo (lbF w k W R (W, Q, lo1 O w k 5, V, m) i).2.2.2.1 (lbF w k W R (W, Q, lo1 O w k 5, V, m) i).2.2.2.2 ∧ ∀ j, j < 5 → st j = 0 → p j ≤ pz j := by
        intro i
        induction i with
        | zero => intro _; exact ⟨_, h1', rfl, hl, fun j hj ht => by split <;> omega⟩
        | succ i ih =>
          intro hi
          obtain ⟨pz, a1, a2, a3, a4⟩ := ih (by omega)
          obtain ⟨b1, b2, b3, b4⟩ := hbI i
          have hii : i < 5 := hi
          have hle := gle i (by omega)
          have hle1 := gle (i + 1) hi
          have hsum1 : sumN (fun o => Lv * (if Y o = k then st o else 0) / sumN (fun i => if Y i = k then st i else 0) 5) (i + 1) = sumN (fun o => Lv * (if Y o = k then st o else 0) / sumN (fun i => if Y i = k then st i else 0) 5) i + Lv * (if Y i = k then st i else 0) / sumN (fun i => if Y i = k then st i else 0) 5 := rfl
          have hGi : lbG w k W R i (lbF w k W R (W, Q, lo1 O w k 5, V, m) i) = nI (Lv * (if Y i = k then st i else 0) / sumN (fun i => if Y i = k then st i else 0) 5) := by
            unfold lbG
            rw [(hw i hii).1, (hw i hii).2, b3 1 (by decide)]
            by_cases hkj : Y i = k
            · rw [if_pos hkj, if_pos hkj]; exact (hgE i hii).1
            · rw [if_neg hkj, if_neg hkj, Nat.mul_zero, Nat.zero_div]; rfl
          have hg2 : Lv * (if Y i = k then st i else 0) / sumN (fun i => if Y i = k then st i else 0) 5 < 2 ^ 20 := by
            by_cases hkj : Y i = k
            · rw [if_pos hkj]; exact (hgE i hii).2
            · rw [if_neg hkj, Nat.mul_zero, Nat.zero_div]; decide
          have hst0 : st i = 0 → Lv * (if Y i = k then st i else 0) / sumN (fun i => if Y i = k then st i else 0) 5 = 0 := fun q => by
            rw [q, show (if Y i = k then 0 else 0) = 0 by split <;> rfl, Nat.mul_zero, Nat.zero_div]
          show ∃ pz : Nat → Nat, lpu (lbS w k W R i (lbF w k W R (W, Q, lo1 O w k 5, V, m) i)).2.2.1 pz ∧ _ ∧ llo (lbS w k W R i (lbF w k W R (W, Q, lo1 O w k 5, V, m) i)).2.2.2.1 (lbS w k W R i (lbF w k W R (W, Q, lo1 O w k 5, V, m) i)).2.2.2.2 ∧ _
          generalize Lv * (if Y i = k then st i else 0) / sumN (fun i => if Y i = k then st i else 0) 5 = g at hsum1 hGi hg2 hst0
          generalize lbF w k W R (W, Q, lo1 O w k 5, V, m) i = z at a1 a3 b1 b3 hGi
          unfold lbS
          rw [hGi]
          by_cases hgz : g = 0
          · rw [if_pos (show nI g = 0 by rw [hgz]; rfl)]
            exact ⟨pz, a1, by rw [hsum1, hgz, a2]; rfl, a3, a4⟩
          · rw [if_neg (show ¬ nI g = 0 from fun q => hgz ((nI_eq (b := 0) (by omega) (by decide)).mp q))]
            have eO : lbO w k W R i z = upd z.2.2.1 (10 * i + 2) (z.2.2.1 (10 * i + 2) + nI g) := by unfold lbO; rw [hGi]
            have c1 : lpu (lbO w k W R i z) (updN pz i (pz i + g)) := by rw [eO]; exact lpu_v a1 (by rw [a1 i hii, nI_add])
            have c2 := sumN_upd (p := pz) (v := pz i + g) hii
            obtain ⟨-, ⟨p', d1, d2, d4⟩, d3⟩ := lpay_J (Q := z.2.1) (sh := sh) hii c1 a3 hsh100 (by rw [b3 2 (by decide)]; exact esh) (show g ≤ updN pz i (pz i + g) i by unfold updN; rw [if_pos rfl]; omega) hg2 (by omega)
            refine ⟨p', d1, by rw [d2, hsum1]; omega, d3, fun j hj ht => ?_⟩
            have hji : j ≠ i := fun e => hgz (hst0 (e ▸ ht))
            have := d4 j hji
            have e2 : updN pz i (pz i + g) j = pz j := by unfold updN; rw [if_neg hji]
            have := a4 j hj ht
            omega
      obtain ⟨pz, n1, n2, n3, n4⟩ := num 5 (Nat.le_refl 5)
      have hle5 := gle 5 (Nat.le_refl 5)
      obtain ⟨k1, k2, -, k4⟩ := key 5 (Nat.le_refl 5)
      have hfn := hf0 5 (Nat.le_refl 5)
      obtain ⟨b1, b2, b3, b4⟩ := hbI 5
      unfold setlZ
      generalize setlF s m k (setlLeft τ s 5 k) (stk τ s 5 k) (pu τ (iS s) 8 (τ.1 (iS s) 8 + 1), 0) 5 = Z at k1 k2 k4 hfn
      generalize lbF w k W R (W, Q, lo1 O w k 5, V, m) 5 = z at k1 k2 k4 b1 b2 b3 b4 n1 n3
      have hcLZ : cLs (pu Z.1 (iS s) 5 (Z.1.1 (iS s) 5 + (W - Z.2))) s m = cLs Z.1 s m := map_cg (fun l hl2 => cTr_cg (pu_ne _ (iL_S s l s (by omega))))
      have hdr := drop_ls (s := s) (σ := pu Z.1 (iS s) 5 (Z.1.1 (iS s) 5 + (W - Z.2))) hm8 m (Nat.le_refl m)
      rw [show (List.range m).map (cTr (pu Z.1 (iS s) 5 (Z.1.1 (iS s) 5 + (W - Z.2))) s) = cLs Z.1 s m from hcLZ, k2] at hdr
      obtain ⟨j1, j2⟩ := map_inj hdr
      have hdle := dropF_le s (pu Z.1 (iS s) 5 (Z.1.1 (iS s) 5 + (W - Z.2))) m
      refine ⟨⟨rfl, j1, fun i hi => ?_, fun l hl2 j hj => ?_, ?_, ?_⟩, ⟨fun j q4 q6 q7 => ?_, ?_, b4, fun j hj => ?_⟩, ⟨pz, n1, by omega, n4⟩, n3⟩
      · rw [drop_O _ _ _ _ (by omega) hm8, pu_ne _ (iO_S s i s (by omega)), k1 i hi, if_pos hi, Int32.add_zero]
      · have hT := j2 l (by rw [j1]; exact hl2)
        unfold dropM
        rw [pu_ne _ (iL_S s l s (by have : l < z.2.2.2.2 := hl2; omega))]
        unfold cTr vTr at hT
        have t1 := congrArg (fun x => x.1) hT
        have t2 := congrArg (fun x => x.2.1) hT
        have t3 := congrArg (fun x => x.2.2) hT
        rcases (show j = 0 ∨ j = 1 ∨ j = 2 by omega) with rfl | rfl | rfl
        · exact t1
        · exact t2
        · exact t3
      · unfold dropM
        dsimp only
        rw [pu_upd, upd_n _ _ _ _ (by decide), dropF_S s hm8, pu_upd, upd_s, hfn.S, pu_upd, upd_n _ _ _ _ (by decide), h5, upd_n _ _ _ _ (by decide), upd_s, b3 4 (by decide), k4]
      · unfold dropM
        dsimp only
        rw [pu_upd, upd_n _ _ _ _ (by decide), dropF_S s hm8, pu_upd, upd_n _ _ _ _ (by decide), hfn.S, pu_upd, upd_s, h8, upd_s, upd_n _ _ _ _ (by decide), b3 6 (by decide)]
      · dsimp only
        rw [upd_n _ _ _ _ q6, upd_n _ _ _ _ q4]
        exact b3 j q7
      · dsimp only
        rw [upd_n _ _ _ _ (by decide), upd_n _ _ _ _ (by decide)]
        exact b1.1
      · exact (b2 j hj).trans (lo1_ne hj 5)
    · have hb : ¬ lBt W R = true := fun q => hr0 (cR.mp q).2
      rw [if_neg hr0, if_neg hr0, if_neg hr0, if_neg hb, if_neg hb]
      exact ⟨⟨rfl, rfl, fun i hi => (hO i hi).1, hL, h5, h8⟩, ⟨fun _ _ _ _ => rfl, h7, Nat.le_refl m, fun _ _ => rfl⟩, ⟨p, hp, Nat.le_refl _, fun _ _ _ => Nat.le_refl _⟩, hl⟩
end LBETS
