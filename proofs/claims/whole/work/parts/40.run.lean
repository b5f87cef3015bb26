/-! class and model: a branch keeps the relation -/
theorem oLrn_m {c k : Int32} (h : ∃ v : Nat, v ≤ 3 ∧ c = nI v) : oLrn c k = mLrn c k := by
  obtain ⟨v, hv, e⟩ := h
  subst e
  unfold oLrn mLrn
  by_cases hk : k = 1
  · rw [if_pos hk, if_pos hk]
    rcases (show v = 0 ∨ v = 1 ∨ v = 2 ∨ v = 3 by omega) with rfl | rfl | rfl | rfl <;> decide
  · rw [if_neg hk, if_neg hk]
    rcases (show v = 0 ∨ v = 1 ∨ v = 2 ∨ v = 3 by omega) with rfl | rfl | rfl | rfl <;> decide
/-- what a note leaves, by places -/
theorem oNote_v (f : Nat → Int32) (w : Int32) (p : Nat) (hp : p < 9) : oNote f w p = if p = 8 then (if f 2 = 0 then f 8 + 1 else f 8) else if p = 7 then (2 * f 7 + (if w = 0 then 0 else 1)) &&& 65535 else if p = (if w = 0 then 6 else 5) then f p + 1 else f p := by
  unfold oNote
  rcases (show p = 0 ∨ p = 1 ∨ p = 2 ∨ p = 3 ∨ p = 4 ∨ p = 5 ∨ p = 6 ∨ p = 7 ∨ p = 8 by omega) with rfl | rfl | rfl | rfl | rfl | rfl | rfl | rfl | rfl <;> by_cases hw : w = 0 <;> by_cases h2 : f 2 = 0 <;> simp [upd, hw, h2]
/-- one oracle's record: class and model -/
theorem rec_eq {f g : Nat → Int32} {t s q k sk : Int32} {v pb pa : Nat} (he : ∀ p, p < 9 → p ≠ 4 → f p = g p) (hv : v < 65536) (h7 : g 7 = nI v) (hpb : pb < 2 ^ 30) (hpa : pa < 2 ^ 30) (hq : q = nI pb) (h2 : g 2 = nI pa) (ht : t = 1 → 0 < pb ∧ ¬ sk ≤ 0) (ht0 : ¬ t = 1 → sk ≤ 0 ∧ pb ≤ pa) {p : Nat} (hp : p < 9) (h4 : p ≠ 4) :
    (if sk ≤ 0 then f else oNote f (if s = k then 1 else 0)) p = mnO t s q k g p := by
  by_cases h1 : t = 1
  · obtain ⟨hb, hsk⟩ := ht h1
    have hq0 : ¬ q ≤ 0 := by rw [hq]; exact nI_nle hb (by omega)
    rw [if_neg hsk, oNote_v f _ p hp, he 2 (by decide) (by decide), he 7 (by decide) (by decide), he 8 (by decide) (by decide), he p hp h4]
    unfold mnO
    by_cases h8 : p = 8
    · rw [if_pos h8, if_pos h8, if_neg hq0]
      by_cases hz : g 2 = 0
      · rw [if_pos hz, if_pos hz]
      · rw [if_neg hz, if_neg hz, Int32.add_zero]
    · rw [if_neg h8, if_neg h8, if_pos h1]
      by_cases h77 : p = 7
      · rw [if_pos h77, if_pos h77, h7, show (2 : Int32) = nI 2 by decide, pk_mul, show (65536 : Int32) = nI 65536 by decide, pk_rem (by omega) (by decide) (by decide)]
        by_cases hs : s = k
        · rw [if_pos hs, if_neg (by decide), nI_1, nI_1, pk_andN (k := 16) (by omega) (by decide)]
          exact congrArg nI (by omega)
        · rw [if_neg hs, if_pos rfl, Int32.add_zero, Int32.add_zero, pk_andN (k := 16) (by omega) (by decide)]
      · rw [if_neg h77, if_neg h77]
        by_cases hs : s = k
        · rw [if_pos hs, if_pos hs, if_neg (show ¬ (1 : Int32) = 0 by decide)]
        · rw [if_neg hs, if_neg hs, if_pos (show (0 : Int32) = 0 from rfl)]
  · obtain ⟨hsk, hba⟩ := ht0 h1
    rw [if_pos hsk, he p hp h4]
    unfold mnO
    by_cases h8 : p = 8
    · rw [if_pos h8, h8]
      by_cases hb : pb = 0
      · rw [if_pos (by rw [hq, hb]; decide), Int32.add_zero]
      · rw [if_neg (by rw [hq]; exact nI_nle (Nat.pos_of_ne_zero hb) (by omega)), if_neg (by rw [h2]; exact nI_ne0 (by omega) (by omega)), Int32.add_zero]
    · rw [if_neg h8, if_neg h1]
theorem seen_bit {e a b : Nat} (ha : a < 64) (hb : b < 64) : ((e ||| 1 * 2 ^ a) / 2 ^ b % 2 = 1) ↔ (a = b ∨ e / 2 ^ b % 2 = 1) := by
  have t : ∀ x : Nat, (x / 2 ^ b % 2 = 1) ↔ x.testBit b = true := fun x => by
    rw [Nat.testBit_eq_decide_div_mod_eq]
    simp
  rw [t, t, Nat.testBit_or, Nat.one_mul, Nat.testBit_two_pow]
  by_cases h : a = b
  · simp [h]
  · simp [h]
theorem run_eq {σ σM : fM} {s n m B y a : Nat} {k : Int32} {r : Nat → Int32} (T : sT σ s r n m B y) (hB : B < 2 ^ 24 - 2 ^ 12) (hy : y < 2 ^ 24) (ha : a < 64) (hk : k = 0 ∨ k = 1) (hM : σM.1 151 = r) :
    runV σ s n (nI a) k = mcV σM n a k ∧ runN σ s n m (nI a) k = mcC σM n m a k ∧ sT (runM σ s n m (nI a) k) s (mcR σM n m a k) n (mcC σM n m a k) B (y + 1) := by
  have G := T.2.1
  have gs := sT_gst T
  obtain ⟨R, -, Bo⟩ := id T
  obtain ⟨hc, ⟨e5, e6, e7, e8⟩, hW, hO, hL, ee, he64, hes, hee⟩ := R
  obtain ⟨p, hp, hpB⟩ := G.2.2.2.2.1
  obtain ⟨⟨-, hn6, hr8, hm8⟩, ⟨hv, hhv, ehv⟩, ⟨-, hcut, hsh⟩, hor, -, hl⟩ := id G
  have G' : mG (σM.1 151) n m B y := by rw [hM]; exact G
  have hp' : pus (σM.1 151) n p := by rw [hM]; exact hp
  have hsto := mG_sto (a := a) G' (by omega) hp' hpB
  have q155 : ∀ i, i < n → (csT σM n a n).1 155 i = bi (oIn (mo r i)) := fun i hi => by rw [csT_155 hi, hM]
  have q156 : ∀ i, i < n → (csT σM n a n).1 156 i = mWord r n i a := fun i hi => by rw [csT_156 hi, hM]
  have q157 : ∀ i, i < n → (csT σM n a n).1 157 i = oStake (mo r i) (mt r i) (r 0) (nI a) (r 3) := fun i hi => by rw [csT_157 hi, hM]
  have q158 : ∀ i, i < n → (csT σM n a n).1 158 i = mo r i 2 := fun i hi => by rw [csT_158 hi, hM]
  have h0 : ∀ i, i < n → ¬ (csT σM n a n).1 155 i = 1 → (csT σM n a n).1 157 i = 0 := fun i hi ht => by
    rw [q155 i hi] at ht
    rw [q157 i hi]
    exact oStake_0 (fun z => ht ((bi_1 _).mpr z))
  have h01 : ∀ i, i < n → (csT σM n a n).1 156 i = 0 ∨ (csT σM n a n).1 156 i = 1 := fun i hi => by
    rw [q156 i hi]
    exact mWord_01 G hi
  -- what is foretold
  have hc1 := fore_cnt (nI a) hc
  have hr1 := fore_crd (nI a) hn6 hm8 gs.2.1
  have fS : (fore σ s n (nI a)).1 (iS s) = σ.1 (iS s) := fore_ne _ (fun i hi => iO_S s i s (by omega))
  have fW : (fore σ s n (nI a)).1 (iSet s) = σ.1 (iSet s) := fore_ne _ (fun i hi => iO_Set s i s (by omega))
  have fT : ∀ i, i < n → (fore σ s n (nI a)).1 (iT s i) = σ.1 (iT s i) := fun i hi => fore_ne _ (fun j hj => iO_T s j s i)
  have fL : ∀ l, l < m → (fore σ s n (nI a)).1 (iL s l) = σ.1 (iL s l) := fun l hl2 => fore_ne _ (fun i hi => (iL_O s l s i (by omega) (by omega)).symm)
  have fO : ∀ i, i < n → ∀ j, ¬ j = 9 → ¬ j = 10 → (fore σ s n (nI a)).1 (iO s i) j = σ.1 (iO s i) j := fun i hi j h9 h10 => by rw [fore_O _ hi, foR2_n _ _ _ _ _ _ h9 h10]
  have SE := setl_eq (τ := fore σ s n (nI a)) (r := r) (tp := (csT σM n a n).1 155) (sd := (csT σM n a n).1 156) (sk := (csT σM n a n).1 157) hc1
    (fun i hi => ⟨by rw [fO i hi 2 (by decide) (by decide)]; exact (hO i hi).1 2 (by decide) (by decide), by rw [(fo_eq T (by omega) hi).1, q156 i hi], by rw [(fo_eq T (by omega) hi).2, q157 i hi]⟩)
    (fun l hl2 j hj => by rw [fL l hl2]; exact hL l hl2 j hj) (fun j hj => by rw [fW]; exact hW j hj) (by rw [fS]; exact e5) (by rw [fS]; exact e8) hr8 h0 h01 hk hsto hp hl hcut hsh
  obtain ⟨s1, s2, s3, s4, s5, s6⟩ := SE
  obtain ⟨t1, t2, t3, t4⟩ := setl_rest k hc1 hr1
  have tO : ∀ i, i < n → ∀ j, ¬ j = 2 → (setlM (fore σ s n (nI a)) s n m k).1 (iO s i) j = (fore σ s n (nI a)).1 (iO s i) j := fun i hi j hj => setl_O k hc1 hr1 (by omega) hj
  have hc2 := setl_cnt k hc1 hr1
  have hv1 : runV σ s n (nI a) k = mcV σM n a k := s1
  have hn1 : runN σ s n m (nI a) k = mcC σM n m a k := by unfold mcC; rw [hM]; exact s2
  have hnm : setlN (fore σ s n (nI a)) s n m k = mcC σM n m a k := hn1
  obtain ⟨p', b1, b2, b3, b4⟩ := mbM_J (sd := (csT σM n a n).1 156) (k := k) hn6 hm8 hr8 hsto hp hl hcut hsh (by omega)
  have hGE := mG_mc G' hB ha hk hy
  -- the model's rows
  have hcr := G.cr
  have hBe : ∀ q, notP q → q < 325 → q ≠ 8 → q ≠ 4 → q ≠ 6 → mcB σM n m a k q = r q := fun q z1 z2 z3 z4 z5 => by
    unfold mcB
    rw [hM]
    exact mbM_ne hn6 hm8 hr8 hcr z1 z2 z3 z4 z5
  have hBM : mcB σM n m a k = mbM ((csT σM n a n).1 155) ((csT σM n a n).1 156) ((csT σM n a n).1 157) r n m k := by unfold mcB; rw [hM]
  have hBo : ∀ i, i < n → ∀ p, p < 42 → p ≠ 2 → mo (mcB σM n m a k) i p = mo r i p := fun i hi p hp h2 => hBe _ (notP_o hp h2) (by omega) (by omega) (by omega) (by omega)
  have hNo : ∀ i, i < n → ∀ p, p < 42 → mo (mcN σM n m a k n) i p = mnO ((csT σM n a n).1 155 i) ((csT σM n a n).1 156 i) ((csT σM n a n).1 158 i) k (mo (mcB σM n m a k) i) p := fun i hi p hp => by
    unfold mcN
    rw [mnF_o hp, if_pos hi]
  have hNe : ∀ q, (∀ o, o < n → ∀ p, 5 ≤ p → p < 9 → q ≠ 73 + 42 * o + p) → mcN σM n m a k n q = mcB σM n m a k q := fun q hq => mnF_ne hq n (Nat.le_refl n)
  have hN01 : ∀ i, i < n → ∀ p, p < 2 → mo (mcN σM n m a k n) i p = mo r i p := fun i hi p hp => (hNe _ (fun o ho p h1 h2 => by omega)).trans (hBo i hi p (by omega) (by omega))
  have hNg : ∀ i, i < n → oGood (mo (mcN σM n m a k n) i) := fun i hi => oGood_cg (hN01 i hi 0 (by decide)) (hN01 i hi 1 (by decide)) (hor i hi).1.2.1
  have hLe : ∀ q, (∀ o, o < n → ∀ p, 10 ≤ p → p < 42 → q ≠ 73 + 42 * o + p) → mcL σM n m a k n q = mcN σM n m a k n q := fun q hq => mlF_ne hNg n (Nat.le_refl n) q hq
  have hEe : ∀ q, q ≠ 3 → q ≠ 5 → (q < 9 ∨ 73 ≤ q) → mcR σM n m a k q = mcL σM n m a k n q := fun q h3 h5 h9 => by
    unfold mcR mcE
    rw [upd_n _ _ _ _ h5, upd_n _ _ _ _ (by omega), upd_n _ _ _ _ h3]
  have lo : ∀ q, q < 9 → q ≠ 3 → q ≠ 5 → mcR σM n m a k q = mcB σM n m a k q := fun q h9 h3 h5 => by
    rw [hEe q h3 h5 (Or.inl h9), hLe q (fun o ho p h1 h2 => by omega), hNe q (fun o ho p h1 h2 => by omega)]
  have hRo : ∀ i, i < n → ∀ p, p < 10 → mo (mcR σM n m a k) i p = mo (mcN σM n m a k n) i p := fun i hi p hp => by
    show mcR σM n m a k (73 + 42 * i + p) = _
    rw [hEe _ (by omega) (by omega) (Or.inr (by omega)), hLe _ (fun o ho p2 h1 h2 => by omega)]
    rfl
  have mid : ∀ q, q < 73 → q ≠ 8 → q ≠ 4 → q ≠ 6 → mcL σM n m a k n q = r q := fun q h73 h8 h4 h6 => by
    rw [hLe q (fun o ho p h1 h2 => by omega), hNe q (fun o ho p h1 h2 => by omega), hBe q (notP_lo h73) (by omega) h8 h4 h6]
  -- the class's rows
  have K2 : ∀ i, i < n → (setlM (fore σ s n (nI a)) s n m k).1 (iO s i) 2 = mo (mcB σM n m a k) i 2 := fun i hi => by rw [hBM]; exact s3 i hi
  have Kf : ∀ i, i < n → ∀ p, p < 9 → p ≠ 4 → (setlM (fore σ s n (nI a)) s n m k).1 (iO s i) p = mo (mcB σM n m a k) i p := fun i hi p hp h4 => by
    by_cases h2 : p = 2
    · rw [h2]; exact K2 i hi
    · rw [tO i hi p h2, fO i hi p (by omega) (by omega), hBo i hi p (by omega) h2]
      exact (hO i hi).1 p hp h4
  have Kk : ∀ i, i < n → (setF (setlM (fore σ s n (nI a)) s n m k) (iO s) (kept (setlM (fore σ s n (nI a)) s n m k) s k) n).1 (iO s i) = kept (setlM (fore σ s n (nI a)) s n m k) s k i := fun i hi => setF_at (iO_inj s) hi
  have Kn : ∀ q, (∀ i, i < n → iO s i ≠ q) → (setF (setlM (fore σ s n (nI a)) s n m k) (iO s) (kept (setlM (fore σ s n (nI a)) s n m k) s k) n).1 q = (setlM (fore σ s n (nI a)) s n m k).1 q := fun q hq => setF_ne hq
  have KS := Kn (iS s) (fun i hi => iO_S s i s (by omega))
  have hPu : ∀ i, i < n → p i < 2 ^ 30 ∧ p' i < 2 ^ 30 := fun i hi => by
    have := sumN_le (p := p) hi
    have := sumN_le (p := p') hi
    omega
  have Keq : ∀ i, i < n → ∀ q, q < 9 → q ≠ 4 → kept (setlM (fore σ s n (nI a)) s n m k) s k i q = mo (mcN σM n m a k n) i q := fun i hi q hq h4 => by
    obtain ⟨⟨v, hv6, ev⟩, -⟩ := (hor i hi).2
    have e9 : (setlM (fore σ s n (nI a)) s n m k).1 (iO s i) 9 = (csT σM n a n).1 156 i := by rw [tO i hi 9 (by decide), (fo_eq T (by omega) hi).1, q156 i hi]
    have e10 : (setlM (fore σ s n (nI a)) s n m k).1 (iO s i) 10 = (csT σM n a n).1 157 i := by rw [tO i hi 10 (by decide), (fo_eq T (by omega) hi).2, q157 i hi]
    rw [hNo i hi q (by omega)]
    unfold kept
    rw [e9, e10]
    obtain ⟨hpi, hpi'⟩ := hPu i hi
    refine rec_eq (v := v) (pb := p i) (pa := p' i) (Kf i hi) hv6 ((hBo i hi 7 (by decide) (by decide)).trans ev) hpi hpi' (by rw [q158 i hi]; exact hp i hi) (by rw [hBM]; exact b1 i hi) (fun ht => ?_) (fun ht => ?_) hq h4
    · rw [q155 i hi] at ht
      have hin : oIn (mo r i) = true := (bi_1 _).mp ht
      obtain ⟨⟨u, hu, hu2, eu⟩, -⟩ := G.2.2.1
      have hle := sumN_le (p := p) hi
      obtain ⟨x, x1, x2, x3, ex⟩ := oStake_N (t := mt r i) (a := nI a) (hi := r 3) hu hu2 (show p i < 2 ^ 24 by omega) (hp i hi) hin
      rw [q157 i hi, eu, ex]
      exact ⟨by omega, nI_nle (by omega) (by omega)⟩
    · rw [h0 i hi ht]
      exact ⟨Int32.le_refl _, b4 i hi ht⟩
  have hc3 := keep_cnt k hc2
  refine ⟨hv1, hn1, ⟨⟨?_, ?_, hn6, hGE.1.2.2.2⟩, ⟨?_, ?_, ?_, ?_⟩, fun j hj => ?_, fun i hi => ⟨fun q hq h4 => ?_, fun hb => ?_, fun q hq => ?_⟩, fun l hl2 j hj => ?_, ee ||| 1 * 2 ^ a, ?_, ?_, fun b hb => ?_⟩, hGE, ?_⟩
  · unfold runM
    rw [learn_S]
    show upd (upd _ 6 _) 7 _ 3 = _
    rw [upd_n _ _ _ _ (by decide), upd_n _ _ _ _ (by decide)]
    exact hc3.1
  · unfold runM
    rw [learn_S]
    show upd (upd _ 6 _) 7 _ 4 = _
    rw [upd_n _ _ _ _ (by decide), upd_n _ _ _ _ (by decide), ← hnm]
    exact hc3.2.1
  · unfold runM
    rw [learn_S]
    show upd (upd _ 6 _) 7 _ 5 = _
    rw [upd_n _ _ _ _ (by decide), upd_n _ _ _ _ (by decide), KS, s5, lo 4 (by decide) (by decide) (by decide), hBM]
  · unfold runM
    rw [learn_S]
    show upd (upd _ 6 _) 7 _ 6 = _
    rw [upd_n _ _ _ _ (by decide), upd_s, KS, t4 6 (by decide) (by decide) (by decide), fS, e6]
    unfold mcR mcE
    rw [upd_n _ _ _ _ (by decide), upd_n _ _ _ _ (by omega), upd_s, mid 3 (by decide) (by decide) (by decide) (by decide), ehv]
    obtain ⟨kk, hk1, ek⟩ : ∃ kk : Nat, kk ≤ 1 ∧ k = nI kk := by
      rcases hk with e | e
      · exact ⟨0, by decide, e⟩
      · exact ⟨1, by decide, e⟩
    rw [ek, show (2 : Int32) = nI 2 by decide, show (256 : Int32) = nI 256 by decide, pk_mul, nI_add, pk_rem (by omega) (by decide) (by decide), pk_andN (k := 8) (by omega) (by decide)]
  · unfold runM
    rw [learn_S]
    show upd (upd _ 6 _) 7 _ 7 = _
    rw [upd_s, KS, t4 7 (by decide) (by decide) (by decide), fS, e7]
    unfold mcR mcE
    rw [upd_s, mid 5 (by decide) (by decide) (by decide) (by decide)]
  · unfold runM
    rw [learn_S]
    show upd (upd _ 6 _) 7 _ 8 = _
    rw [upd_n _ _ _ _ (by decide), upd_n _ _ _ _ (by decide), KS, s6, lo 6 (by decide) (by decide) (by decide), hBM]
  · unfold runM
    rw [learn_ne (fun i hi => iT_Set s i s (by omega)) (iS_Set s s).symm, Kn _ (fun i hi => iO_Set s i s (by omega)), t3, fW, hW j hj, lo j (by omega) (by omega) (by omega), hBe j (notP_lo (by omega)) (by omega) (by omega) (by omega) (by omega)]
  · unfold runM
    rw [learn_ne (fun j hj => (iO_T s i s j).symm) (iO_S s i s (by omega)), Kk i hi, Keq i hi q hq h4, hRo i hi q (by omega)]
  · have m3 : mo (mcR σM n m a k) i 3 = mo r i 3 := (hRo i hi 3 (by decide)).trans ((hNe _ (fun o ho p h1 h2 => by omega)).trans (hBo i hi 3 (by decide) (by decide)))
    have m4 : mo (mcR σM n m a k) i 4 = mo r i 4 := (hRo i hi 4 (by decide)).trans ((hNe _ (fun o ho p h1 h2 => by omega)).trans (hBo i hi 4 (by decide) (by decide)))
    rw [m3] at hb
    unfold runM
    rw [learn_ne (fun j hj => (iO_T s i s j).symm) (iO_S s i s (by omega)), Kk i hi, kept_01 _ _ _ _ _ (by decide), tO i hi 4 (by decide), fO i hi 4 (by decide) (by decide), m4]
    exact (hO i hi).2.1 hb
  · have eR : mt (mcR σM n m a k) i q = mt (mcL σM n m a k n) i q := hEe _ (by omega) (by omega) (Or.inr (by omega))
    have etN : mt (mcN σM n m a k n) i q = mt r i q := (hNe _ (fun o ho p h1 h2 => by omega)).trans (hBo i hi (10 + q) (by omega) (by omega))
    rw [eR]
    unfold mcL
    rw [mlF_t hNg hn6 hq hi n (Nat.le_refl n), if_pos hi, etN]
    unfold runM learnM
    show (puR _ _ _).1 (iT s i) q = _
    rw [puR_ne _ (iT_S s i s (by omega)), setF_at (iT_inj s) hi]
    have kT : (setF (setlM (fore σ s n (nI a)) s n m k) (iO s) (kept (setlM (fore σ s n (nI a)) s n m k) s k) n).1 (iT s i) = σ.1 (iT s i) := by rw [Kn _ (fun j hj => iO_T s j s i), t2 i (by omega), fT i hi]
    have kO : ∀ j, j < 2 → (setF (setlM (fore σ s n (nI a)) s n m k) (iO s) (kept (setlM (fore σ s n (nI a)) s n m k) s k) n).1 (iO s i) j = mo (mcN σM n m a k n) i j := fun j hj => by rw [Kk i hi]; exact Keq i hi j (by omega) (by omega)
    have k6 : (setF (setlM (fore σ s n (nI a)) s n m k) (iO s) (kept (setlM (fore σ s n (nI a)) s n m k) s k) n).1 (iS s) 6 = mcN σM n m a k n 3 := by
      rw [KS, t4 6 (by decide) (by decide) (by decide), fS, e6, hNe 3 (fun o ho p h1 h2 => by omega), hBe 3 (notP_lo (by decide)) (by decide) (by decide) (by decide) (by decide)]
    unfold lrn mlS
    rw [kT, k6, oTab_cg (kO 0 (by decide)), oSlot_cg (kO 0 (by decide)) (kO 1 (by decide))]
    have hTq := (hO i hi).2.2 q hq
    by_cases hT : oTab (mo (mcN σM n m a k n) i) = true
    · rw [if_pos hT]
      obtain ⟨j, hj, ej⟩ := vp_in_of (oSlot_in (hNg i hi) hT (nI a) (mcN σM n m a k n 3)) (by decide)
      rw [ej, nI_clamp (by omega)]
      by_cases hqj : q = j
      · rw [if_pos ⟨hT, hqj⟩, hqj, upd_s, (hO i hi).2.2 j hj]
        exact oLrn_m ((hor i hi).1.2.2.1 j hj)
      · rw [if_neg (fun z => hqj z.2), upd_n _ _ _ _ hqj]
        exact hTq
    · rw [if_neg hT, if_neg (fun z => hT z.1)]
      exact hTq
  · have eR : ml (mcR σM n m a k) l j = ml (mcB σM n m a k) l j := by
      show mcR σM n m a k (325 + 3 * l + j) = _
      rw [hEe _ (by omega) (by omega) (Or.inr (by omega)), hLe _ (fun o ho p h1 h2 => by omega), hNe _ (fun o ho p h1 h2 => by omega)]
      rfl
    have hl8 : mcC σM n m a k ≤ 8 := hGE.1.2.2.2
    unfold runM
    rw [eR, hBM, learn_ne (fun i hi => (iL_T s l s i (by omega) (by omega)).symm) (iL_S s l s (by omega)), Kn _ (fun i hi => (iL_O s l s i (by omega) (by omega)).symm)]
    exact s4 l (by rw [hnm]; exact hl2) j hj
  · have h2 : 1 * 2 ^ a < 2 ^ 64 := by rw [Nat.one_mul]; exact Nat.pow_lt_pow_right (by decide) ha
    exact Nat.or_lt_two_pow he64 h2
  · unfold runM learnM
    show (if iS s = iS s then _ else _) = _
    rw [if_pos rfl, setF_2, t1, fore_2, hes]
    have h1 : (1 : Int64) <<< ((nI a).toInt64 &&& 63) = lN (1 * 2 ^ a) := wb_shl 1 ha
    have h2 : 1 * 2 ^ a < 2 ^ 64 := by rw [Nat.one_mul]; exact Nat.pow_lt_pow_right (by decide) ha
    rw [h1, wb_or he64 h2]
  · have hR9 : mcR σM n m a k (9 + b) = if b = a then 1 else r (9 + b) := by
      unfold mcR mcE
      rw [upd_n _ _ _ _ (by omega)]
      by_cases hba : b = a
      · rw [if_pos hba, hba, upd_s]
      · rw [if_neg hba, upd_n _ _ _ _ (by omega), upd_n _ _ _ _ (by omega), mid (9 + b) (by omega) (by omega) (by omega) (by omega)]
    rw [hR9]
    by_cases hba : b = a
    · rw [if_pos hba, if_pos ((seen_bit ha hb).mpr (Or.inl hba.symm))]
    · rw [if_neg hba, hee b hb]
      by_cases hbit : ee / 2 ^ b % 2 = 1
      · rw [if_pos hbit, if_pos ((seen_bit ha hb).mpr (Or.inr hbit))]
      · rw [if_neg hbit, if_neg (fun z => ((seen_bit ha hb).mp z).elim (fun w => hba w.symm) hbit)]
  · exact mBo_cg (fun i hi => ⟨(hRo i hi 3 (by decide)).trans ((hNe _ (fun o ho p h1 h2 => by omega)).trans (hBo i hi 3 (by decide) (by decide))), (hRo i hi 4 (by decide)).trans ((hNe _ (fun o ho p h1 h2 => by omega)).trans (hBo i hi 4 (by decide) (by decide)))⟩) Bo
