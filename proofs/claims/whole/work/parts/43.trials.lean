/-! class and model: what is foretold, and trials -/
theorem run_2n {σ : fM} {s n m q : Nat} (a k : Int32) (hg : gst σ s n m) (hq : q ≠ iS s) : (runM σ s n m a k).2 q = σ.2 q := by
  unfold runM learnM
  show (if q = iS s then _ else _) = _
  rw [if_neg hq]
  show (setF _ _ _ _).2 q = _
  rw [setF_2, setF_2, (setl_rest k (fore_cnt a hg.1) (fore_crd a hg.1.2.2.1 hg.1.2.2.2 hg.2.1)).1, fore_2]
theorem dmZ_2n {σ : fM} {n m q : Nat} (a k : Int32) (hg : gst σ 0 n m) (hq : q ≠ iS 1) : ∀ i, (dmZ σ n m a k i).1.2 q = σ.2 q
  | 0 => copyM_2n hq
  | i + 1 => (run_2n a k (dmZ_gst a k hg i) hq).trans (dmZ_2n a k hg hq i)
theorem pbZ_2n {σ : fM} {n m t q : Nat} (r a : Int32) (hg : gst σ 0 n m) (hq : q ≠ iS 1) : ∀ i, (pbZ σ n m t r a i).1.2 q = σ.2 q
  | 0 => copyM_2n hq
  | i + 1 => (run_2n a _ (pbZ_gst r a hg i) hq).trans (pbZ_2n r a hg hq i)
theorem brZ_2n {σ : fM} {n m t j q : Nat} (a : Int32) (hg : gst σ 0 n m) (hq : q ≠ iS 1) : ∀ r, (brZ σ n m t a j r).1.2 q = σ.2 q
  | 0 => rfl
  | r + 1 => (pbZ_2n (nI r) a (brZ_out (q := 0) (t := t) (j := j) a hg (by decide) r).2 hq t).trans (brZ_2n a hg hq r)
section TRIALS
variable {σ : fM} {n m f z t B y : Nat}
theorem sT_fore {s : Nat} {r : Nat → Int32} (a : Int32) (h : sT σ s r n m B y) : sT (fore σ s n a) s r n m B y := by
  obtain ⟨⟨hc, h5, hW, hO, hL, he⟩, g⟩ := h
  have hn6 := hc.2.2.1
  have hm8 := hc.2.2.2
  refine ⟨⟨fore_cnt a hc, ?_, fun j hj => ?_, fun i hi => ⟨fun p hp h4 => ?_, fun hb => ?_, fun q hq => ?_⟩, fun l hl j hj => ?_, by rw [fore_2]; exact he⟩, g⟩
  · rw [fore_ne a (fun i hi => iO_S s i s (by omega))]; exact h5
  · rw [fore_ne a (fun i hi => iO_Set s i s (by omega))]; exact hW j hj
  · rw [fore_O a hi, foR2_n _ _ _ _ _ _ (by omega) (by omega)]; exact (hO i hi).1 p hp h4
  · rw [fore_O a hi, foR2_n _ _ _ _ _ _ (by omega) (by omega)]; exact (hO i hi).2.1 hb
  · rw [fore_ne a (fun j hj => iO_T s j s i)]; exact (hO i hi).2.2 q hq
  · rw [fore_ne a (fun i hi => (iL_O s l s i (by omega) (by omega)).symm)]; exact hL l hl j hj
theorem Kv_tr {τ : fM} (h1 : P1 σ n m B y) (h2 : P2 σ f z B y) (h3 : P3 σ t) (hq : ∀ q, q < 30 ∨ (54 ≤ q ∧ q < 151) ∨ q = 153 ∨ q = 154 → τ.1 q = σ.1 q) (h151 : ∀ q, q < 349 → τ.1 151 q = σ.1 151 q) (hL : ∀ s, s ≠ 1 → τ.2 (iS s) = σ.2 (iS s)) : Kv τ (B + 10000) (y + 4000) :=
  up_all (P1_cg (fun q a b => hq q (by omega)) (hL 0 (by decide)) h151 h1) (P2_cg (hq 1 (by decide)) (by rw [hq 150 (by decide)]) (fun q a b => hq q (by omega)) (fun s hs => hL s (by omega)) (hq 153 (by decide)) h2) (P3_cg (by rw [hq 3 (by decide)]) (hq 4 (by decide)) (by rw [hq 150 (by decide)]) (hq 154 (by decide)) h3)
theorem Kv_fore (a : Int32) (h1 : P1 σ n m B y) (h2 : P2 σ f z B y) (h3 : P3 σ t) : Kv (fore σ 0 n a) (B + 10000) (y + 4000) := by
  have e : ∀ q, q < 6 ∨ 30 ≤ q → (fore σ 0 n a).1 q = σ.1 q := fun q hq => fore_out a h1.n6 (by omega)
  have k1 : P1 (fore σ 0 n a) n m B y := by
    unfold P1
    rw [e 151 (by decide)]
    exact sT_fore a h1
  exact up_all k1 (P2_cg (e 1 (by decide)) (by rw [e 150 (by decide)]) (fun q c d => e q (by omega)) (fun s hs => by rw [fore_2]) (e 153 (by decide)) h2) (P3_cg (by rw [e 3 (by decide)]) (e 4 (by decide)) (by rw [e 150 (by decide)]) (e 154 (by decide)) h3)
theorem eq_says (h1 : P1 σ n m B y) (h2 : P2 σ f z B y) (h3 : P3 σ t) (hB : B < 2 ^ 24) (o a : Int32) : Eqv (cSays σ n o a) (fun τ => mSays τ n o a) B y := by
  unfold Eqv cSays mSays
  rw [h1.S3]
  by_cases ho : wi o 0 (σ.1 151 7 - 1) = false
  · rw [if_pos ho]
    dsimp only
    rw [if_pos ho]
    exact ⟨rfl, up_all h1 h2 h3⟩
  · rw [if_neg ho]
    by_cases hw : isA a = false
    · rw [if_pos hw]
      dsimp only
      rw [if_neg ho, if_pos hw]
      exact ⟨rfl, up_all h1 h2 h3⟩
    · rw [if_neg hw]
      dsimp only
      obtain ⟨j, hj, -, e⟩ := h1.or ho
      obtain ⟨v, hv, ea, ev⟩ := ad_of hw
      rw [fore_out (k := 151) a h1.n6 (by decide), if_neg ho, if_neg hw]
      dsimp only
      rw [e, ev]
      exact ⟨by rw [ea]; exact (fo_eq h1 hB hj).1, Kv_fore a h1 h2 h3⟩
theorem eq_stake (h1 : P1 σ n m B y) (h2 : P2 σ f z B y) (h3 : P3 σ t) (hB : B < 2 ^ 24) (o a : Int32) : Eqv (cStake σ n o a) (fun τ => mStake τ o a) B y := by
  unfold Eqv cStake mStake
  rw [h1.S3]
  by_cases ho : wi o 0 (σ.1 151 7 - 1) = false
  · rw [if_pos ho]
    dsimp only
    rw [if_pos ho]
    exact ⟨rfl, up_all h1 h2 h3⟩
  · rw [if_neg ho]
    by_cases hw : isA a = false
    · rw [if_pos hw]
      dsimp only
      rw [if_neg ho, if_pos hw]
      exact ⟨rfl, up_all h1 h2 h3⟩
    · rw [if_neg hw]
      dsimp only
      obtain ⟨j, hj, -, e⟩ := h1.or ho
      obtain ⟨v, hv, ea, ev⟩ := ad_of hw
      rw [fore_out (k := 151) a h1.n6 (by decide), if_neg ho, if_neg hw]
      dsimp only
      rw [e]
      exact ⟨by rw [ea]; exact (fo_eq h1 hB hj).2, Kv_fore a h1 h2 h3⟩
theorem sumN_two (w : Nat → Int32) (s : Nat → Nat) : ∀ n, sumN s n = sumN (fun i => if w i = 1 then s i else 0) n + sumN (fun i => if w i = 1 then 0 else s i) n
  | 0 => rfl
  | n + 1 => by
    show sumN s n + s n = (sumN _ n + (if w n = 1 then s n else 0)) + (sumN _ n + (if w n = 1 then 0 else s n))
    rw [sumN_two w s n]
    split <;> omega
theorem sumF_two {g w : Nat → Int32} {s : Nat → Nat} {n : Nat} (h : ∀ i, i < n → g i = nI (s i)) : sumF 0 g n = nI (sumN (fun i => if w i = 1 then s i else 0) n + sumN (fun i => if w i = 1 then 0 else s i) n) := by
  rw [sumF_N h, sumN_two w s n]
theorem odds_h {a : Nat} (h1 : P1 σ n m B y) (hB : B < 2 ^ 24) : ∃ xa ya : Nat, xa + ya < 2 ^ 24 ∧ stk (fore σ 0 n (nI a)) 0 n 1 = nI xa ∧ stk (fore σ 0 n (nI a)) 0 n 0 = nI ya ∧ modO (σ.1 151) n a n = nI xa ∧ modA (σ.1 151) a n = nI (xa + ya) := by
  obtain ⟨-, -, ⟨⟨u, u1, u2, eu⟩, -, -⟩, -, ⟨p, hp, hs⟩, -⟩ := id h1.2.1
  have hst : ∀ i, i < n → ∃ s : Nat, s ≤ 100 ∧ oStake (mo (σ.1 151) i) (mt (σ.1 151) i) (σ.1 151 0) (nI a) (σ.1 151 3) = nI s := fun i hi => by
    by_cases q : oIn (mo (σ.1 151) i) = true
    · obtain ⟨s, -, -, s3, s4⟩ := oStake_N (f := mo (σ.1 151) i) (t := mt (σ.1 151) i) (a := nI a) (hi := σ.1 151 3) u1 u2 (p := p i) (by have := sumN_le (p := p) hi; omega) (hp i hi) q
      exact ⟨s, s3, by rw [eu]; exact s4⟩
    · exact ⟨0, by decide, oStake_0 q⟩
  have ek : ∀ i, i < n → oStake (mo (σ.1 151) i) (mt (σ.1 151) i) (σ.1 151 0) (nI a) (σ.1 151 3) = nI (ix (oStake (mo (σ.1 151) i) (mt (σ.1 151) i) (σ.1 151 0) (nI a) (σ.1 151 3))) ∧ ix (oStake (mo (σ.1 151) i) (mt (σ.1 151) i) (σ.1 151 0) (nI a) (σ.1 151 3)) ≤ 100 := fun i hi => by
    obtain ⟨s, s1, s2⟩ := hst i hi
    have : ix (nI s) = s := nI_clamp (by omega)
    rw [s2, this]
    exact ⟨rfl, s1⟩
  refine ⟨sumN (fun i => if mWord (σ.1 151) n i a = 1 then ix (oStake (mo (σ.1 151) i) (mt (σ.1 151) i) (σ.1 151 0) (nI a) (σ.1 151 3)) else 0) n, sumN (fun i => if mWord (σ.1 151) n i a = 1 then 0 else ix (oStake (mo (σ.1 151) i) (mt (σ.1 151) i) (σ.1 151 0) (nI a) (σ.1 151 3))) n, ?_, ?_, ?_, ?_, ?_⟩
  · have b1 := sumN_c (p := fun i => if mWord (σ.1 151) n i a = 1 then ix (oStake (mo (σ.1 151) i) (mt (σ.1 151) i) (σ.1 151 0) (nI a) (σ.1 151 3)) else 0) (c := 100) (n := n) (fun i hi => by have := (ek i hi).2; split <;> omega)
    have b2 := sumN_c (p := fun i => if mWord (σ.1 151) n i a = 1 then 0 else ix (oStake (mo (σ.1 151) i) (mt (σ.1 151) i) (σ.1 151 0) (nI a) (σ.1 151 3))) (c := 100) (n := n) (fun i hi => by have := (ek i hi).2; split <;> omega)
    have := h1.n6
    omega
  · refine sumF_N (fun i hi => ?_)
    rw [(fo_eq h1 hB hi).1, (fo_eq h1 hB hi).2]
    split
    · exact (ek i hi).1
    · rfl
  · refine sumF_N (fun i hi => ?_)
    rw [(fo_eq h1 hB hi).1, (fo_eq h1 hB hi).2]
    rcases mWord_01 (a := a) h1.2.1 hi with q | q
    · rw [q, if_pos rfl, if_neg (by decide)]
      exact (ek i hi).1
    · rw [q, if_neg (by decide), if_pos rfl]
      rfl
  · refine sumF_N (fun i hi => ?_)
    split
    · exact (ek i hi).1
    · rfl
  · exact sumF_two (fun i hi => (ek i hi).1)
theorem eq_odds (h1 : P1 σ n m B y) (h2 : P2 σ f z B y) (h3 : P3 σ t) (a : Int32) (xa ya : Nat) : Eqv (cOdds σ n a xa ya) (fun τ => mOdds τ a xa ya) B y := by
  unfold Eqv cOdds mOdds
  by_cases hw : isA a = false
  · rw [if_pos hw]
    dsimp only
    rw [if_pos hw]
    exact ⟨rfl, up_all h1 h2 h3⟩
  · rw [if_neg hw]
    dsimp only
    rw [if_neg hw]
    exact ⟨rfl, Kv_fore a h1 h2 h3⟩
theorem wi_01 {k : Int32} (h : ¬ wi k 0 1 = false) : k = 0 ∨ k = 1 := by
  obtain ⟨j, hj, e, -⟩ := wi_to (k := 1) (by decide) (by decide) h
  rw [e]
  rcases (show j = 0 ∨ j = 1 by omega) with rfl | rfl
  · exact Or.inl rfl
  · exact Or.inr rfl
theorem mcM_2 {σ : fM} {n m a : Nat} {k : Int32} : (mcM σ n m a k).2 = σ.2 := rfl
theorem kM_ne {σ : fM} {q : Nat} (h : q ≠ 152) : (kM σ).1 q = σ.1 q := puR_ne _ h
theorem kM_152 {σ : fM} {q : Nat} (h : q < 349) : (kM σ).1 152 q = σ.1 151 q := by
  unfold kM
  rw [puR_self]
  unfold mcp
  rw [if_pos (by omega)]
  exact congrArg _ (by omega)
theorem dm_eq {τ : fM} {a : Nat} {k : Int32} (h1 : P1 σ n m B y) (hB : B < 2 ^ 24 - 2 ^ 12) (hy : y + 4000 < 2 ^ 24) (ha : a < 64) (hk : k = 0 ∨ k = 1) (hτ : τ.1 151 = σ.1 151) : ∀ i, i ≤ 101 → (dmZ σ n m (nI a) k i).2 = (mdZ τ n m a k i).2 ∧ sT (dmZ σ n m (nI a) k i).1 1 ((mdZ τ n m a k i).1.1 151) n (dmZ σ n m (nI a) k i).2 B (y + i)
  | 0, _ => ⟨rfl, by show sT (copyM σ 1 0 n m) 1 (τ.1 151) n m B y; rw [hτ]; exact rel_copy (by decide) h1⟩
  | i + 1, hi => by
    obtain ⟨e, T⟩ := dm_eq (a := a) (k := k) h1 hB hy ha hk hτ i (by omega)
    obtain ⟨-, r2, r3⟩ := run_eq T hB (by omega) ha hk (σM := (mdZ τ n m a k i).1) rfl
    have e2 : (dmZ σ n m (nI a) k (i + 1)).2 = (mdZ τ n m a k (i + 1)).2 := by
      show runN _ 1 n _ (nI a) k = mcC _ n _ a k
      rw [r2, e]
    refine ⟨e2, ?_⟩
    show sT (runM _ 1 n _ (nI a) k) 1 ((mcM _ n _ a k).1 151) n (runN _ 1 n _ (nI a) k) B (y + i + 1)
    rw [mcM_151, r2]
    rw [← e]
    exact r3
theorem fstF_cg {p q : Nat → Bool} : ∀ n, (∀ i, i < n → p i = q i) → fstF p n = fstF q n
  | 0, _ => rfl
  | n + 1, h => by
    unfold fstF
    rw [fstF_cg n (fun i hi => h i (by omega)), h n (by omega)]
theorem Kv_rest {τ : fM} {u : fM} (h1 : P1 σ n m B y) (h2 : P2 σ f z B y) (h3 : P3 σ t) (hq : ∀ q, q < 30 ∨ 54 ≤ q → τ.1 q = σ.1 q) (hL : ∀ s, s ≠ 1 → τ.2 (iS s) = σ.2 (iS s)) (hu : ∀ q, q ≠ 151 → q < 155 ∨ 158 < q → u.1 q = (kM τ).1 q) (hu2 : u.2 = τ.2) : Kv (restM u) (B + 10000) (y + 4000) := by
  refine Kv_tr h1 h2 h3 (fun q h => ?_) (fun q h => ?_) (fun s hs => ?_)
  · unfold restM
    rw [puR_ne _ (by omega), hu q (by omega) (by omega), kM_ne (by omega), hq q (by omega)]
  · rw [restM_q h, hu 152 (by decide) (by decide), kM_152 h, hq 151 (by decide)]
  · show u.2 _ = _
    rw [hu2, hL s hs]
theorem mdZ_2 {σ : fM} {n m a : Nat} {k : Int32} : ∀ i, (mdZ σ n m a k i).1.2 = σ.2
  | 0 => rfl
  | i + 1 => mcM_2.trans (mdZ_2 i)
theorem mpbZ_2 {σ : fM} {n m t a : Nat} {r : Int32} : ∀ i, (mpbZ σ n m t a r i).1.2 = σ.2
  | 0 => rfl
  | i + 1 => mcM_2.trans (mpbZ_2 i)
theorem mbrZ_2 {σ : fM} {n m t a j : Nat} : ∀ r, (mbrZ σ n m t a j r).1.2 = σ.2
  | 0 => rfl
  | r + 1 => (mpbZ_2 t).trans (mbrZ_2 r)
theorem eq_gain (h1 : P1 σ n m B y) (h2 : P2 σ f z B y) (h3 : P3 σ t) (hB : B < 2 ^ 24 - 2 ^ 12) (hy : y + 4000 < 2 ^ 24) (o a k : Int32) : Eqv (cGain σ n m o a k) (fun τ => mGain τ n m o a k) B y := by
  unfold Eqv cGain mGain
  rw [h1.S3]
  by_cases ho : wi o 0 (σ.1 151 7 - 1) = false
  · rw [if_pos ho]
    dsimp only
    rw [if_pos ho]
    exact ⟨rfl, up_all h1 h2 h3⟩
  · rw [if_neg ho]
    by_cases hw : isA a = false
    · rw [if_pos hw]
      dsimp only
      rw [if_neg ho, if_pos hw]
      exact ⟨rfl, up_all h1 h2 h3⟩
    · rw [if_neg hw]
      by_cases hk : wi k 0 1 = false
      · rw [if_pos hk]
        dsimp only
        rw [if_neg ho, if_neg hw, if_pos hk]
        exact ⟨rfl, up_all h1 h2 h3⟩
      · rw [if_neg hk]
        dsimp only
        have gs := sT_gst h1
        obtain ⟨j, hj, -, e⟩ := h1.or ho
        obtain ⟨v, hv, ea, ev⟩ := ad_of hw
        have hn6 := h1.n6
        have hq : ∀ q, q < 30 ∨ 54 ≤ q → (runM (copyM σ 1 0 n m) 1 n m a k).1 q = σ.1 q := fun q h => dmZ_out a k gs h 1
        have hL : ∀ s, s ≠ 1 → (runM (copyM σ 1 0 n m) 1 n m a k).2 (iS s) = σ.2 (iS s) := fun s h => dmZ_2n a k gs (fun x => h (iS_inj x)) 1
        rw [hq 151 (by decide), if_neg ho, if_neg hw, if_neg hk]
        dsimp only
        rw [e, ev]
        have R := dm_eq (τ := kM (runM (copyM σ 1 0 n m) 1 n m a k)) h1 hB hy hv (wi_01 hk) (by rw [kM_151]; exact hq 151 (by decide)) 1 (by decide)
        rw [← ea] at R
        have p1 : (runM (copyM σ 1 0 n m) 1 n m a k).1 (iO 1 j) 2 = mo ((mcM (kM (runM (copyM σ 1 0 n m) 1 n m a k)) n m v k).1 151) j 2 := (R.2.1.2.2.2.1 j hj).1 2 (by decide) (by decide)
        have p0 : (runM (copyM σ 1 0 n m) 1 n m a k).1 (iO 0 j) 2 = mo ((mcM (kM (runM (copyM σ 1 0 n m) 1 n m a k)) n m v k).1 152) j 2 := by
          rw [hq (iO 0 j) (by unfold iO; omega), mcM_ne (by decide) (by decide), h1.O hj (by decide) (by decide)]
          show _ = (kM _).1 152 (73 + 42 * j + 2)
          rw [kM_152 (by omega), hq 151 (by decide)]
          rfl
        refine ⟨by rw [p1, p0], Kv_rest h1 h2 h3 hq hL (fun q a b => mcM_ne a b) rfl⟩
theorem eq_doom (h1 : P1 σ n m B y) (h2 : P2 σ f z B y) (h3 : P3 σ t) (hB : B < 2 ^ 24 - 2 ^ 12) (hy : y + 4000 < 2 ^ 24) (o a k : Int32) : Eqv (cDoom σ n m o a k) (fun τ => mDoom τ n m o a k) B y := by
  unfold Eqv cDoom mDoom
  rw [h1.S3]
  by_cases ho : wi o 0 (σ.1 151 7 - 1) = false
  · rw [if_pos ho]
    dsimp only
    rw [if_pos ho]
    exact ⟨rfl, up_all h1 h2 h3⟩
  · rw [if_neg ho]
    by_cases hw : isA a = false
    · rw [if_pos hw]
      dsimp only
      rw [if_neg ho, if_pos hw]
      exact ⟨rfl, up_all h1 h2 h3⟩
    · rw [if_neg hw]
      by_cases hk : wi k 0 1 = false
      · rw [if_pos hk]
        dsimp only
        rw [if_neg ho, if_neg hw, if_pos hk]
        exact ⟨rfl, up_all h1 h2 h3⟩
      · rw [if_neg hk]
        have gs := sT_gst h1
        obtain ⟨j, hj, -, e⟩ := h1.or ho
        obtain ⟨v, hv, ea, ev⟩ := ad_of hw
        have hn6 := h1.n6
        rw [e]
        -- whatever the last state, the model runs the same trial from it
        have key : ∀ i, (fun τ : fM => mo ((mdZ (kM τ) n m v k (fstF (mdP (kM τ) n m v j k) 100)).1.1 151) j 2) (dmZ σ n m a k i).1 = (dmZ σ n m a k (fstF (dmP σ n m j a k) 100)).1.1 (iO 1 j) 2 ∧ fstF (mdP (kM (dmZ σ n m a k i).1) n m v j k) 100 = fstF (dmP σ n m j a k) 100 := fun i => by
          have hq : (kM (dmZ σ n m a k i).1).1 151 = σ.1 151 := by rw [kM_151]; exact dmZ_out a k gs (by decide) i
          have R := dm_eq (τ := kM (dmZ σ n m a k i).1) h1 hB hy hv (wi_01 hk) hq
          rw [← ea] at R
          have pe : ∀ q, q ≤ 100 → (dmZ σ n m a k q).1.1 (iO 1 j) 2 = mo ((mdZ (kM (dmZ σ n m a k i).1) n m v k q).1.1 151) j 2 := fun q hq => ((R q (by omega)).2.1.2.2.2.1 j hj).1 2 (by decide) (by decide)
          have pb : ∀ q, q < 100 → mdP (kM (dmZ σ n m a k i).1) n m v j k q = dmP σ n m j a k q := fun q hq => by
            obtain ⟨p, p1, p2⟩ := (R q (by omega)).2.2.1.2.2.2.2.1
            unfold mdP dmP oRuin
            rw [pe q (by omega), p1 j hj]
            have := sumN_le (p := p) hj
            have l0 : (nI (p j) ≤ 0) ↔ (nI (p j) = 0) := by
              rw [Int32.le_iff_toInt_le, ← Int32.toInt_inj, nI_toInt (by omega)]
              show _ ≤ (0 : Int) ↔ _ = (0 : Int)
              omega
            simp only [l0]
          have ef : fstF (mdP (kM (dmZ σ n m a k i).1) n m v j k) 100 = fstF (dmP σ n m j a k) 100 := fstF_cg 100 pb
          refine ⟨?_, ef⟩
          dsimp only
          rw [ef, pe _ (fstF_le _ 100)]
        have fin : ∀ i, Kv (restM (mdZ (kM (dmZ σ n m a k i).1) n m v k (fstF (mdP (kM (dmZ σ n m a k i).1) n m v j k) 100)).1) (B + 10000) (y + 4000) := fun i => Kv_rest h1 h2 h3 (fun q h => dmZ_out a k gs h i) (fun s h => dmZ_2n a k gs (fun x => h (iS_inj x)) i) (fun q a b => mdZ_ne a b _) (mdZ_2 _)
        have e151 : ∀ i, (dmZ σ n m a k i).1.1 151 = σ.1 151 := fun i => dmZ_out a k gs (by decide) i
        have vv : ∀ i, mDoomV (kM (dmZ σ n m a k i).1) n m v j k = if (dmZ σ n m a k (fstF (dmP σ n m j a k) 100)).1.1 (iO 1 j) 2 = 0 then nI (fstF (dmP σ n m j a k) 100) else kNone := fun i => by
          unfold mDoomV
          have := key i
          dsimp only at this
          rw [this.1, this.2]
        have d1 : ∀ i, dmP σ n m j a k i = true → (dmZ σ n m a k i).1.1 (iO 1 j) 2 = 0 := fun i h => by unfold dmP oRuin at h; exact of_decide_eq_true h
        have d2 : ∀ i, (dmZ σ n m a k i).1.1 (iO 1 j) 2 = 0 → dmP σ n m j a k i = true := fun i h => by unfold dmP oRuin; exact decide_eq_true h
        have f101 : fstF (dmP σ n m j a k) 101 = if fstF (dmP σ n m j a k) 100 < 100 then fstF (dmP σ n m j a k) 100 else if dmP σ n m j a k 100 = true then 100 else 101 := rfl
        by_cases hf : fstF (dmP σ n m j a k) 101 < 101
        · have hsp := fstF_sp _ 101 hf
          rw [if_pos hf]
          dsimp only
          rw [e151, if_neg ho, if_neg hw, if_neg hk]
          dsimp only
          rw [ev]
          refine ⟨?_, fin _⟩
          rw [vv]
          have e100 : fstF (dmP σ n m j a k) 100 = fstF (dmP σ n m j a k) 101 := by
            have hle := fstF_le (dmP σ n m j a k) 100
            by_cases q : fstF (dmP σ n m j a k) 100 < 100
            · rw [f101, if_pos q]
            · rw [f101, if_neg q] at hf ⊢
              by_cases q2 : dmP σ n m j a k 100 = true
              · rw [if_pos q2]; omega
              · rw [if_neg q2] at hf; omega
          rw [e100, if_pos (d1 _ hsp)]
        · rw [if_neg hf]
          dsimp only
          rw [e151, if_neg ho, if_neg hw, if_neg hk]
          dsimp only
          rw [ev]
          refine ⟨?_, fin _⟩
          rw [vv]
          have e100 : fstF (dmP σ n m j a k) 100 = 100 := by
            have hle := fstF_le (dmP σ n m j a k) 100
            by_cases q : fstF (dmP σ n m j a k) 100 < 100
            · rw [f101, if_pos q] at hf; omega
            · omega
          have hnn := fstF_nn _ 101 hf 100 (by decide)
          rw [e100, if_neg (fun x => hnn (d2 _ x))]
end TRIALS
