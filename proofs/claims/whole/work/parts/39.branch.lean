/-! class and model: a whole branch -/
theorem sumF_cg {a : Int32} {f g : Nat → Int32} : ∀ {n : Nat}, (∀ i, i < n → f i = g i) → sumF a f n = sumF a g n
  | 0, _ => rfl
  | n + 1, h => by
    show sumF a f n + f n = sumF a g n + g n
    rw [sumF_cg (fun i hi => h i (Nat.lt_succ_of_lt hi)), h n (Nat.lt_succ_self n)]
theorem frm2.T {s : Nat} {σ τ : fM} (h : frm2 s σ τ) (i : Nat) (hi : i < 6) : τ.1 (iT s i) = σ.1 (iT s i) := by
  funext j
  exact h.2 _ j (fun _ => ⟨fun q _ => (iO_T s q s i).symm, fun l _ => by unfold iT iL; omega⟩)
theorem drop_2 (s : Nat) (σ : fM) : ∀ l, (dropF s (σ, 0) l).1.2 = σ.2
  | 0 => rfl
  | l + 1 => by
    show (dropStep s l (dropF s (σ, 0) l)).1.2 = _
    unfold dropStep
    split
    · exact drop_2 s σ l
    · exact drop_2 s σ l
/-- what the bets leave alone -/
theorem setl_rest {σ : fM} {s n m : Nat} (k : Int32) (hc : cnt σ s n m) (hcr : crd σ s m) : (setlM σ s n m k).2 = σ.2 ∧ (∀ i, i < 6 → (setlM σ s n m k).1 (iT s i) = σ.1 (iT s i)) ∧ (setlM σ s n m k).1 (iSet s) = σ.1 (iSet s) ∧ ∀ j, ¬ j = 4 → ¬ j = 5 → ¬ j = 8 → (setlM σ s n m k).1 (iS s) j = σ.1 (iS s) j := by
  have hf := setlZ_frm k hc hcr
  unfold setlM
  split
  · exact ⟨rfl, fun _ _ => rfl, rfl, fun _ _ _ _ => rfl⟩
  · split
    · refine ⟨?_, fun i hi => ?_, ?_, fun j h4 h5 h8 => ?_⟩
      · unfold dropM
        show (dropF s _ m).1.2 = _
        rw [drop_2]
        exact hf.1
      · unfold dropM
        rw [pu_ne _ (iT_S s i s hi), dropF_ne (fun l hl => (iL_T s l s i hl hi).symm) m hc.2.2.2, pu_ne _ (iT_S s i s hi), hf.T i hi, pu_ne _ (iT_S s i s hi)]
      · unfold dropM
        rw [pu_ne _ (iS_Set s s).symm, dropF_ne (fun l hl => (iL_Set s l s hl).symm) m hc.2.2.2, pu_ne _ (iS_Set s s).symm]
        funext j
        rw [hf.Set, pu_ne _ (iS_Set s s).symm]
      · unfold dropM
        rw [pu_upd, upd_n _ _ _ _ h4, dropF_S s hc.2.2.2, pu_upd, upd_n _ _ _ _ h5, hf.S, pu_upd, upd_n _ _ _ _ h8]
    · exact ⟨rfl, fun _ _ => rfl, rfl, fun _ _ _ _ => rfl⟩
theorem mb1_o {tp sd sk r : Nat → Int32} {k : Int32} {j : Nat} : ∀ i, mo (mb1 tp sd sk k r i) j 2 = mo r j 2 + (if j < i then (if tp j = 1 then (if sd j = k then 0 else - sk j) else 0) else 0)
  | 0 => by rw [if_neg (Nat.not_lt_zero j), Int32.add_zero]; rfl
  | i + 1 => by
    show mo (addR (mb1 tp sd sk k r i) i 2 _) j 2 = _
    rw [mo_addR]
    by_cases hji : j = i
    · subst hji
      rw [if_pos rfl, mb1_o j, if_neg (Nat.lt_irrefl j), if_pos (Nat.lt_succ_self j), Int32.add_zero]
    · rw [if_neg hji, mb1_o i]
      by_cases h : j < i
      · rw [if_pos h, if_pos (show j < i + 1 by omega)]
      · rw [if_neg h, if_neg (show ¬ j < i + 1 by omega)]
theorem neg_addc (a b : Int32) : a + - b + b = a := by rw [Int32.add_assoc, Int32.add_left_neg, Int32.add_zero]
section SETL2
variable {τ : fM} {s n m : Nat} {tp sd sk r : Nat → Int32} {k : Int32} {p st : Nat → Nat}
/-- the bets of class and model -/
theorem setl_eq (hc : cnt τ s n m) (hO : ∀ i, i < n → τ.1 (iO s i) 2 = mo r i 2 ∧ τ.1 (iO s i) 9 = sd i ∧ τ.1 (iO s i) 10 = sk i) (hL : ∀ l, l < m → ∀ j, j < 3 → τ.1 (iL s l) j = ml r l j) (hW : ∀ j, j < 3 → τ.1 (iSet s) j = r j)
    (h5 : τ.1 (iS s) 5 = r 4) (h8 : τ.1 (iS s) 8 = r 6) (hr8 : r 8 = nI m) (h0 : ∀ i, i < n → ¬ tp i = 1 → sk i = 0) (hd : ∀ i, i < n → sd i = 0 ∨ sd i = 1) (hk : k = 0 ∨ k = 1)
    (hs : sto tp sk n p st) (hp : pus r n p) (hl : lgo r n m) (hcut : ∃ c : Nat, c ≤ 50 ∧ r 1 = nI c) (hsh : ∃ c : Nat, c ≤ 100 ∧ r 2 = nI c) :
    setlV τ s n k = mbV tp sd sk n k ∧ setlN τ s n m k = mbN tp sd sk r n m k ∧ (∀ i, i < n → (setlM τ s n m k).1 (iO s i) 2 = mo (mbM tp sd sk r n m k) i 2) ∧
    (∀ l, l < setlN τ s n m k → ∀ j, j < 3 → (setlM τ s n m k).1 (iL s l) j = ml (mbM tp sd sk r n m k) l j) ∧ (setlM τ s n m k).1 (iS s) 5 = mbM tp sd sk r n m k 4 ∧ (setlM τ s n m k).1 (iS s) 8 = mbM tp sd sk r n m k 6 := by
  have hn6 := hc.2.2.1
  have hm8 := hc.2.2.2
  have hcrd : crd τ s m := fun l hl2 => by
    obtain ⟨⟨c, h1, h2⟩, -⟩ := hl l hl2
    exact ⟨c, by omega, (hL l hl2 0 (by decide)).trans h2⟩
  have eWs : stk τ s n (1 - k) = mbW tp sd sk k n := sumF_cg (fun i hi => by
    obtain ⟨-, e9, e10⟩ := hO i hi
    rw [e9, e10]
    by_cases ht : tp i = 1
    · rw [if_pos ht]
      rcases hd i hi with e | e <;> rcases hk with e2 | e2 <;> rw [e, e2] <;> simp +decide
    · rw [if_neg ht, h0 i hi ht]
      split <;> rfl)
  have eRs : stk τ s n k = mbR tp sd sk k n := sumF_cg (fun i hi => by
    obtain ⟨-, e9, e10⟩ := hO i hi
    rw [e9, e10]
    by_cases ht : tp i = 1
    · rw [if_pos ht]
    · rw [if_neg ht, h0 i hi ht]
      split <;> rfl)
  have hWN := mbW_N (sd := sd) (k := k) hs
  have hRN := mbR_N (sd := sd) (k := k) hs
  have w6 : sumN (wrN tp sd k st) n ≤ 600 := by
    have := sumN_c (p := wrN tp sd k st) (c := 100) (n := n) (fun i hi => (wrN_le hs hi).2)
    omega
  have r6 : sumN (rtN tp sd k st) n ≤ 600 := by
    have := sumN_c (p := rtN tp sd k st) (c := 100) (n := n) (fun i hi => rtN_le hs hi)
    omega
  have cW : (mbW tp sd sk k n ≤ 0) ↔ mbW tp sd sk k n = 0 := by
    rw [hWN]
    exact purse_le (nI_pos (by omega))
  have cR : (0 < mbR tp sd sk k n) ↔ ¬ mbR tp sd sk k n = 0 := by
    rw [hRN]
    constructor
    · intro q e; rw [e] at q; exact absurd q (by decide)
    · intro q
      exact nI_lt (a := 0) (Nat.pos_of_ne_zero (fun e => q (by rw [e]; rfl))) (by omega)
  unfold setlV setlN setlM mbV mbN mbM
  rw [eWs, eRs]
  by_cases hw0 : mbW tp sd sk k n = 0
  · rw [if_pos (cW.mpr hw0), if_pos (cW.mpr hw0), if_pos (cW.mpr hw0), if_pos hw0, if_pos hw0, if_pos hw0]
    exact ⟨rfl, rfl, fun i hi => (hO i hi).1, hL, h5, h8⟩
  · have hw0' := fun q => hw0 (cW.mp q)
    rw [if_neg hw0', if_neg hw0', if_neg hw0', if_neg hw0, if_neg hw0, if_neg hw0]
    by_cases hr0 : mbR tp sd sk k n = 0
    · have hr0' := fun q => cR.mp q hr0
      rw [if_neg hr0', if_neg hr0', if_neg hr0', if_pos hr0, if_pos hr0, if_pos hr0]
      exact ⟨rfl, rfl, fun i hi => (hO i hi).1, hL, h5, h8⟩
    · have hr0' := cR.mpr hr0
      rw [if_pos hr0', if_pos hr0', if_pos hr0', if_neg hr0, if_neg hr0, if_neg hr0]
      obtain ⟨c, hc50, ec⟩ := hcut
      obtain ⟨sh, hsh100, esh⟩ := hsh
      have hRpos : 0 < sumN (rtN tp sd k st) n := Nat.pos_of_ne_zero (fun e => hr0 (by rw [hRN, e]; rfl))
      have eLeft : setlLeft τ s n k = mbLeft tp sd sk r n k := by unfold setlLeft mbLeft; rw [eWs, hW 1 (by decide)]
      have hLe : mbLeft tp sd sk r n k = nI (sumN (wrN tp sd k st) n - sumN (wrN tp sd k st) n * c / 100) := by
        have : sumN (wrN tp sd k st) n * c ≤ 600 * 50 := Nat.mul_le_mul w6 hc50
        unfold mbLeft
        rw [hWN, ec, pk_mul, show (100 : Int32) = nI 100 by decide, pk_div (by omega) (by decide) (by decide), pk_sub (by
          have : sumN (wrN tp sd k st) n * c ≤ sumN (wrN tp sd k st) n * 100 := Nat.mul_le_mul_left _ (by omega)
          omega)]
      have hgot : ∀ i, i < n → ∃ g : Nat, g < 2 ^ 20 ∧ mbLeft tp sd sk r n k * sk i / mbR tp sd sk k n = nI g := fun i hi => by
        by_cases ht : tp i = 1
        · obtain ⟨b1, b2, b3⟩ := hs i hi ht
          have h1 : (sumN (wrN tp sd k st) n - sumN (wrN tp sd k st) n * c / 100) * st i ≤ 600 * 100 := Nat.mul_le_mul (by omega) b2
          have h2 := Nat.div_le_self ((sumN (wrN tp sd k st) n - sumN (wrN tp sd k st) n * c / 100) * st i) (sumN (rtN tp sd k st) n)
          exact ⟨(sumN (wrN tp sd k st) n - sumN (wrN tp sd k st) n * c / 100) * st i / sumN (rtN tp sd k st) n, by omega, by rw [hLe, hRN, b3, pk_mul, pk_div (by omega) hRpos (by omega)]⟩
        · exact ⟨0, by decide, by rw [h0 i hi ht, Int32.mul_zero, Int32.zero_div]; rfl⟩
      have hf0 : ∀ i, i ≤ n → frm2 s (pu τ (iS s) 8 (τ.1 (iS s) 8 + 1)) (setlF s m k (setlLeft τ s n k) (stk τ s n k) (pu τ (iS s) 8 (τ.1 (iS s) 8 + 1), 0) i).1 := fun i hi => setlF_frm (z := (pu τ (iS s) 8 (τ.1 (iS s) 8 + 1), 0)) hn6 hm8 (crd_S hcrd hm8 _ _) i hi
      have e0 : ∀ q, q ≠ iS s → (pu τ (iS s) 8 (τ.1 (iS s) 8 + 1)).1 q = τ.1 q := fun q hq => pu_ne _ hq
      have hcL : cLs τ s m = mLs r m := map_cg (fun l hl2 => by unfold cTr mTr; rw [hL l hl2 0 (by decide), hL l hl2 1 (by decide), hL l hl2 2 (by decide)])
      have hpos : (mLs r m).filter pos = mLs r m := List.filter_eq_self.mpr (fun x hx => by
        obtain ⟨l, hl2, e⟩ := List.mem_map.mp hx
        obtain ⟨-, -, w, w1, w2, ew⟩ := hl l (List.mem_range.mp hl2)
        rw [← e]
        unfold pos mTr
        rw [show ml r l 2 = nI w from ew, decide_eq_false (nI_nle w1 (by omega))]
        rfl)
      have hown : owN (mLs r m) := fun x hx => by
        obtain ⟨l, hl2, e⟩ := List.mem_map.mp hx
        obtain ⟨-, -, w, w1, w2, ew⟩ := hl l (List.mem_range.mp hl2)
        exact ⟨w, by omega, by rw [← e]; exact ew⟩
      have hcL0 : cLs (pu τ (iS s) 8 (τ.1 (iS s) 8 + 1)) s m = mLs r m := by
        rw [← hcL]
        exact map_cg (fun l hl2 => cTr_cg (e0 _ (iL_S s l s (by omega))))
      have key : ∀ i, i ≤ n → slI s n m sd sk k (mbW tp sd sk k n) i (setlF s m k (setlLeft τ s n k) (stk τ s n k) (pu τ (iS s) 8 (τ.1 (iS s) 8 + 1), 0) i) (mbZ tp sd sk r n m k i) := by
        intro i
        induction i with
        | zero =>
          intro _
          refine ⟨fun j hj => ?_, ?_, ?_, ?_⟩
          · show (pu τ (iS s) 8 _).1 (iO s j) 2 = mo (mb1 tp sd sk k r n) j 2 + _
            rw [e0 _ (iO_S s j s (by omega)), (hO j hj).1, mb1_o, if_pos hj, if_neg (Nat.not_lt_zero j)]
            unfold dwF
            by_cases ht : tp j = 1
            · rw [if_pos ht]
              by_cases hkj : sd j = k
              · rw [if_pos hkj, if_pos hkj, Int32.add_zero, Int32.add_zero]
              · rw [if_neg hkj, if_neg hkj, neg_addc]
            · rw [if_neg ht, h0 j hj ht, Int32.add_zero]
              split <;> rw [Int32.add_zero]
          · show (cLs (pu τ (iS s) 8 _) s m).filter pos = mLs (mb1 tp sd sk k r n) m
            rw [hcL0, hpos]
            exact map_cg (fun l _ => (mTr_cg (fun j _ => mb1_ne (notP_l l j) n hn6)).symm)
          · show owN (cLs (pu τ (iS s) 8 _) s m)
            rw [hcL0]; exact hown
          · show mbW tp sd sk k n = mbW tp sd sk k n - 0
            rw [Int32.sub_zero]
        | succ i ih =>
          intro hi
          have hii : i < n := hi
          have hio := hO i hii
          show slI s n m sd sk k _ (i + 1) (setlStep s m k (setlLeft τ s n k) (stk τ s n k) i _) (mb2Step tp sd sk k (mbLeft tp sd sk r n k) (mbR tp sd sk k n) i (mbZ tp sd sk r n m k i))
          rw [eLeft, eRs]
          have ih' := ih (by omega)
          have hf := hf0 i (by omega)
          rw [eLeft, eRs] at ih' hf
          exact setl_step (τ0 := pu τ (iS s) 8 (τ.1 (iS s) 8 + 1)) (r0 := r) (sh := sh) hii hn6 hm8 ih' hf (crd_S hcrd hm8 _ _) (mbZ_I hn6 hm8 hr8 (lgo_cr hn6 hl) i (by omega))
            (by rw [e0 _ (iO_S s i s (by omega))]; exact hio.2.1) (by rw [e0 _ (iO_S s i s (by omega))]; exact hio.2.2) (h0 i hii) (fun _ => hgot i hii) hsh100 (by rw [e0 _ (iS_Set s s).symm, hW 2 (by decide)]; exact esh) esh
      obtain ⟨k1, k2, -, k4⟩ := key n (Nat.le_refl n)
      have hfn := hf0 n (Nat.le_refl n)
      have hzn := mbZ_I (tp := tp) (sd := sd) (sk := sk) (k := k) hn6 hm8 hr8 (lgo_cr hn6 hl) n hn6
      unfold setlZ
      generalize setlF s m k (setlLeft τ s n k) (stk τ s n k) (pu τ (iS s) 8 (τ.1 (iS s) 8 + 1), 0) n = Z at k1 k2 k4 hfn
      generalize mbZ tp sd sk r n m k n = z at k1 k2 k4 hzn
      have hcLZ : cLs (pu Z.1 (iS s) 5 (Z.1.1 (iS s) 5 + (mbW tp sd sk k n - Z.2))) s m = cLs Z.1 s m := map_cg (fun l hl2 => cTr_cg (pu_ne _ (iL_S s l s (by omega))))
      have hdr := drop_ls (s := s) (σ := pu Z.1 (iS s) 5 (Z.1.1 (iS s) 5 + (mbW tp sd sk k n - Z.2))) hm8 m (Nat.le_refl m)
      rw [show (List.range m).map (cTr (pu Z.1 (iS s) 5 (Z.1.1 (iS s) 5 + (mbW tp sd sk k n - Z.2))) s) = cLs Z.1 s m from hcLZ, k2] at hdr
      obtain ⟨j1, j2⟩ := map_inj hdr
      have hdle := dropF_le s (pu Z.1 (iS s) 5 (Z.1.1 (iS s) 5 + (mbW tp sd sk k n - Z.2))) m
      refine ⟨rfl, j1, fun i hi => ?_, fun l hl2 j hj => ?_, ?_, ?_⟩
      · rw [drop_O _ _ _ _ (by omega) hm8, pu_ne _ (iO_S s i s (by omega)), k1 i hi, if_pos hi, Int32.add_zero]
        show mo z.1 i 2 = upd (upd z.1 4 _) 6 _ (73 + 42 * i + 2)
        rw [upd_n _ _ _ _ (by omega), upd_n _ _ _ _ (by omega)]
        rfl
      · have hT := j2 l hl2
        unfold dropM
        rw [pu_ne _ (iL_S s l s (by omega))]
        show _ = upd (upd z.1 4 _) 6 _ (325 + 3 * l + j)
        rw [upd_n _ _ _ _ (by omega), upd_n _ _ _ _ (by omega)]
        unfold cTr mTr at hT
        have t1 := congrArg (fun x => x.1) hT
        have t2 := congrArg (fun x => x.2.1) hT
        have t3 := congrArg (fun x => x.2.2) hT
        rcases (show j = 0 ∨ j = 1 ∨ j = 2 by omega) with rfl | rfl | rfl
        · exact t1
        · exact t2
        · exact t3
      · unfold dropM
        rw [pu_upd, upd_n _ _ _ _ (by decide), dropF_S s hm8, pu_upd, upd_s, hfn.S, pu_upd, upd_n _ _ _ _ (by decide), h5]
        rw [upd_n _ _ _ _ (by decide), upd_s, hzn.2.2.2 4 (notP_lo (by decide)) (by decide) (by decide), k4]
      · unfold dropM
        rw [pu_upd, upd_n _ _ _ _ (by decide), dropF_S s hm8, pu_upd, upd_n _ _ _ _ (by decide), hfn.S, pu_upd, upd_s, h8]
        rw [upd_s, hzn.2.2.2 6 (notP_lo (by decide)) (by decide) (by decide)]
end SETL2
