/-! class and model: lend, oracle, branch, the text -/
section MORE2
variable {σ : fM} {n m f z t B y : Nat}
theorem addM_x {K : fM} {c e m q : Nat} {v : Int32} (h1 : q ≠ iO 0 c) (h2 : q ≠ iO 0 e) (h3 : q ≠ iL 0 m) (h4 : q ≠ iS 0) : (addM K 0 c e m v).1 q = K.1 q := by
  unfold addM
  dsimp only
  rw [pu_ne _ h4, pu_ne _ h3, pu_ne _ h3, pu_ne _ h3, pu_ne _ h2, pu_ne _ h1]
theorem addM_C {K : fM} {c e m : Nat} {v : Int32} (hc : c < 6) (he : e < 6) (hm : m < 8) (hce : c ≠ e) : (addM K 0 c e m v).1 (iO 0 c) = upd (K.1 (iO 0 c)) 2 (K.1 (iO 0 c) 2 - v) := by
  unfold addM
  dsimp only
  have a4 : iO 0 c ≠ iS 0 := by unfold iO iS; omega
  have a3 : iO 0 c ≠ iL 0 m := by unfold iO iL; omega
  have a2 : iO 0 c ≠ iO 0 e := by unfold iO; omega
  rw [pu_ne _ a4, pu_ne _ a3, pu_ne _ a3, pu_ne _ a3, pu_ne _ a2, pu_upd]
theorem addM_E {K : fM} {c e m : Nat} {v : Int32} (hc : c < 6) (he : e < 6) (hm : m < 8) (hce : c ≠ e) : (addM K 0 c e m v).1 (iO 0 e) = upd (K.1 (iO 0 e)) 2 (K.1 (iO 0 e) 2 + v) := by
  unfold addM
  dsimp only
  have a4 : iO 0 e ≠ iS 0 := by unfold iO iS; omega
  have a3 : iO 0 e ≠ iL 0 m := by unfold iO iL; omega
  have a2 : iO 0 e ≠ iO 0 c := by unfold iO; omega
  rw [pu_ne _ a4, pu_ne _ a3, pu_ne _ a3, pu_ne _ a3, pu_upd, pu_ne _ a2]
theorem addM_L {K : fM} {c e m : Nat} {v : Int32} (hc : c < 6) (he : e < 6) (hm : m < 8) : (addM K 0 c e m v).1 (iL 0 m) = upd (upd (upd (K.1 (iL 0 m)) 0 (nI c)) 1 (nI e)) 2 v := by
  unfold addM
  dsimp only
  have a4 : iL 0 m ≠ iS 0 := by unfold iL iS; omega
  have a2 : iL 0 m ≠ iO 0 e := by unfold iO iL; omega
  have a1 : iL 0 m ≠ iO 0 c := by unfold iO iL; omega
  rw [pu_ne _ a4, pu_upd, pu_upd, pu_upd, pu_ne _ a2, pu_ne _ a1]
theorem addM_S {K : fM} {c e m : Nat} {v : Int32} (hc : c < 6) (he : e < 6) (hm : m < 8) : (addM K 0 c e m v).1 (iS 0) = upd (K.1 (iS 0)) 4 (nI (m + 1)) := by
  unfold addM
  dsimp only
  have a4 : iS 0 ≠ iL 0 m := by unfold iL iS; omega
  have a2 : iS 0 ≠ iO 0 e := by unfold iO iS; omega
  have a1 : iS 0 ≠ iO 0 c := by unfold iO iS; omega
  rw [pu_upd, pu_ne _ a4, pu_ne _ a4, pu_ne _ a4, pu_ne _ a2, pu_ne _ a1]
theorem sT_lend {K : fM} {r : Nat → Int32} {c e w : Nat} (h : sT K 0 r n m B y) (hc : c < n) (he : e < n) (hce : c ≠ e) (hm : m < 8) (hw : 1 ≤ w) (hw2 : w ≤ 9999) (hB : B < 2 ^ 24) (hv : nI w ≤ mo r c 2) : sT (addM K 0 c e m (nI w)) 0 (mLendR r c e m (nI w)) n (m + 1) B y := by
  obtain ⟨⟨hcn, h5, hW, hO, hL, ee, he1, he2, he3⟩, ⟨⟨a1, hn6, a3, hm8⟩, b2, b3, ho, ⟨p, p1, p2⟩, hl⟩, b⟩ := h
  have hR : ∀ q, q ≠ 73 + 42 * c + 2 → q ≠ 73 + 42 * e + 2 → q ≠ 8 → (q < 325 + 3 * m ∨ 325 + 3 * m + 3 ≤ q) → mLendR r c e m (nI w) q = r q := fun q q1 q2 q3 q4 => by
    unfold mLendR put3
    unfold addR
    rw [upd_n _ _ _ _ q2, upd_n _ _ _ _ q1, upd_n _ _ _ _ q3, upd_n _ _ _ _ (by omega), upd_n _ _ _ _ (by omega), upd_n _ _ _ _ (by omega)]
  have r0 : ∀ i, i < n → mo (upd (put3 r m (nI c) (nI e) (nI w)) 8 (nI (m + 1))) i 2 = mo r i 2 := fun i hi => by
    show upd (put3 r m (nI c) (nI e) (nI w)) 8 (nI (m + 1)) (73 + 42 * i + 2) = _
    unfold put3
    rw [upd_n _ _ _ _ (by omega), upd_n _ _ _ _ (by omega), upd_n _ _ _ _ (by omega), upd_n _ _ _ _ (by omega)]
    rfl
  have rC : mo (mLendR r c e m (nI w)) c 2 = mo r c 2 + - nI w := by
    unfold mLendR
    rw [mo_addR, if_neg hce, mo_addR, if_pos rfl, r0 c hc]
  have rE : mo (mLendR r c e m (nI w)) e 2 = mo r e 2 + nI w := by
    unfold mLendR
    rw [mo_addR, if_pos rfl, mo_addR, if_neg hce.symm, r0 e he]
  have r8 : mLendR r c e m (nI w) 8 = nI (m + 1) := by
    unfold mLendR addR
    rw [upd_n _ _ _ _ (by omega), upd_n _ _ _ _ (by omega), upd_s]
  have rL : ∀ j, j < 3 → ml (mLendR r c e m (nI w)) m j = upd (upd (upd r 0 (nI c)) 1 (nI e)) 2 (nI w) j := fun j hj => by
    show mLendR r c e m (nI w) (325 + 3 * m + j) = _
    unfold mLendR addR put3
    rw [upd_n _ _ _ _ (by omega), upd_n _ _ _ _ (by omega), upd_n _ _ _ _ (by omega)]
    rcases (show j = 0 ∨ j = 1 ∨ j = 2 by omega) with rfl | rfl | rfl
    · rw [upd_n _ _ _ _ (by omega), upd_n _ _ _ _ (by omega), upd_s]; rfl
    · rw [upd_n _ _ _ _ (by omega), upd_s]; rfl
    · rw [upd_s]; rfl
  have rM : ∀ i p, ¬ p = 2 → p < 42 → i < n → mo (mLendR r c e m (nI w)) i p = mo r i p := fun i p hp hp2 hi => hR _ (by omega) (by omega) (by omega) (by omega)
  have rO : ∀ i p, i < n → i ≠ c → i ≠ e → p < 42 → mo (mLendR r c e m (nI w)) i p = mo r i p := fun i p hi h1 h2 hp2 => hR _ (by omega) (by omega) (by omega) (by omega)
  have hwc : w ≤ p c := by
    rw [p1 c hc] at hv
    exact (nI_leI (by omega) (by have := sumN_le (p := p) hc; omega)).mp hv
  refine ⟨⟨⟨?_, ?_, hn6, by omega⟩, ?_, fun j hj => ?_, fun i hi => ⟨fun q hq h4 => ?_, fun hb => ?_, fun q hq => ?_⟩, fun l hl2 j hj => ?_, ee, he1, he2, fun a ha => ?_⟩, ⟨⟨?_, hn6, r8, by omega⟩, ?_, ?_, fun i hi => ?_, ?_, fun l hl2 => ?_⟩, mBo_cg (fun i hi => ⟨rM i 3 (by decide) (by decide) hi, rM i 4 (by decide) (by decide) hi⟩) b⟩
  · rw [addM_S (by omega) (by omega) hm, upd_n _ _ _ _ (by decide)]; exact hcn.1
  · rw [addM_S (by omega) (by omega) hm, upd_s]
  · rw [addM_S (by omega) (by omega) hm, upd_n _ _ _ _ (by decide), upd_n _ _ _ _ (by decide), upd_n _ _ _ _ (by decide), upd_n _ _ _ _ (by decide), hR 4 (by omega) (by omega) (by decide) (by omega), hR 3 (by omega) (by omega) (by decide) (by omega), hR 5 (by omega) (by omega) (by decide) (by omega), hR 6 (by omega) (by omega) (by decide) (by omega)]; exact h5
  · rw [addM_x (by unfold iSet iO; omega) (by unfold iSet iO; omega) (by unfold iSet iL; omega) (by unfold iSet iS; omega), hR j (by omega) (by omega) (by omega) (by omega)]; exact hW j hj
  · by_cases e1 : i = c
    · rw [e1, addM_C (by omega) (by omega) hm hce]
      by_cases e2 : q = 2
      · rw [e2, upd_s, rC, (hO c hc).1 2 (by decide) (by decide), Int32.sub_eq_add_neg]
      · rw [upd_n _ _ _ _ e2, rM c q e2 (by omega) hc]; exact (hO c hc).1 q hq h4
    · by_cases e3 : i = e
      · rw [e3, addM_E (by omega) (by omega) hm hce]
        by_cases e2 : q = 2
        · rw [e2, upd_s, rE, (hO e he).1 2 (by decide) (by decide)]
        · rw [upd_n _ _ _ _ e2, rM e q e2 (by omega) he]; exact (hO e he).1 q hq h4
      · rw [addM_x (by unfold iO; omega) (by unfold iO; omega) (by unfold iO iL; omega) (by unfold iO iS; omega), rO i q hi e1 e3 (by omega)]; exact (hO i hi).1 q hq h4
  · rw [rM i 3 (by decide) (by decide) hi] at hb
    rw [rM i 4 (by decide) (by decide) hi]
    by_cases e1 : i = c
    · rw [e1, addM_C (by omega) (by omega) hm hce, upd_n _ _ _ _ (by decide)]
      rw [e1] at hb
      exact (hO c hc).2.1 hb
    · by_cases e3 : i = e
      · rw [e3, addM_E (by omega) (by omega) hm hce, upd_n _ _ _ _ (by decide)]
        rw [e3] at hb
        exact (hO e he).2.1 hb
      · rw [addM_x (by unfold iO; omega) (by unfold iO; omega) (by unfold iO iL; omega) (by unfold iO iS; omega)]; exact (hO i hi).2.1 hb
  · rw [addM_x (by unfold iT iO; omega) (by unfold iT iO; omega) (by unfold iT iL; omega) (by unfold iT iS; omega), show mt (mLendR r c e m (nI w)) i q = mt r i q from rM i (10 + q) (by omega) (by omega) hi]; exact (hO i hi).2.2 q hq
  · by_cases e1 : l = m
    · rw [e1, addM_L (by omega) (by omega) hm, rL j hj]
      rcases (show j = 0 ∨ j = 1 ∨ j = 2 by omega) with rfl | rfl | rfl <;> rfl
    · rw [addM_x (by unfold iL iO; omega) (by unfold iL iO; omega) (by unfold iL; omega) (by unfold iL iS; omega), show ml (mLendR r c e m (nI w)) l j = ml r l j from hR _ (by omega) (by omega) (by omega) (by omega)]; exact hL l (by omega) j hj
  · rw [hR (9 + a) (by omega) (by omega) (by omega) (by omega)]; exact he3 a ha
  · rw [hR 7 (by omega) (by omega) (by omega) (by omega)]; exact a1
  · obtain ⟨hh, x1, x2⟩ := b2
    exact ⟨hh, x1, (hR 3 (by omega) (by omega) (by omega) (by omega)).trans x2⟩
  · obtain ⟨x1, x2, x3⟩ := b3
    exact ⟨by rw [hR 0 (by omega) (by omega) (by omega) (by omega)]; exact x1, by rw [hR 1 (by omega) (by omega) (by omega) (by omega)]; exact x2, by rw [hR 2 (by omega) (by omega) (by omega) (by omega)]; exact x3⟩
  · obtain ⟨⟨k0, k1, k2, k3⟩, ⟨v, v1, v2⟩, x, y, q1, q2, q3⟩ := ho i hi
    exact ⟨⟨by rw [rM i 0 (by decide) (by decide) hi]; exact k0, oGood_cg (rM i 0 (by decide) (by decide) hi) (rM i 1 (by decide) (by decide) hi) k1, fun q hq => by rw [show mt (mLendR r c e m (nI w)) i q = mt r i q from rM i (10 + q) (by omega) (by omega) hi]; exact k2 q hq, by rw [rM i 0 (by decide) (by decide) hi, rM i 1 (by decide) (by decide) hi]; exact k3⟩, ⟨v, v1, (rM i 7 (by decide) (by decide) hi).trans v2⟩, x, y, q1, (rM i 5 (by decide) (by decide) hi).trans q2, (rM i 6 (by decide) (by decide) hi).trans q3⟩
  · have P0 : pus (upd (put3 r m (nI c) (nI e) (nI w)) 8 (nI (m + 1))) n p := fun i hi => (r0 i hi).trans (p1 i hi)
    refine ⟨_, pus_add (pus_sub P0 hc hwc) he, ?_⟩
    have s1 := sumN_upd (p := p) (i := c) (v := p c - w) hc
    have s2 := sumN_upd (p := updN p c (p c - w)) (i := e) (v := updN p c (p c - w) e + w) he
    omega
  · by_cases e1 : l = m
    · rw [e1, rL 0 (by decide), rL 1 (by decide), rL 2 (by decide)]
      exact ⟨⟨c, hc, rfl⟩, ⟨e, he, rfl⟩, w, hw, hw2, rfl⟩
    · have x : ∀ j, j < 3 → ml (mLendR r c e m (nI w)) l j = ml r l j := fun j hj => hR _ (by omega) (by omega) (by omega) (by omega)
      rw [x 0 (by decide), x 1 (by decide), x 2 (by decide)]
      exact hl l (by omega)
theorem eq_lend (h1 : P1 σ n m B y) (h2 : P2 σ f z B y) (h3 : P3 σ t) (hB : B < 2 ^ 24) (c e v : Int32) : Eqv (cLend σ f z n m c e v) (fun τ => mLend τ z m c e v) B y := by
  unfold Eqv cLend mLend
  rw [h1.S3]
  by_cases ho : wi c 0 (σ.1 151 7 - 1) = false
  · rw [if_pos ho]
    dsimp only
    rw [if_pos ho]
    exact ⟨rfl, up_all h1 h2 h3⟩
  · rw [if_neg ho]
    obtain ⟨j, hj, ej, e1⟩ := h1.or ho
    have hn6 := h1.n6
    have hm8 := h1.m8
    by_cases ho2 : wi e 0 (σ.1 151 7 - 1) = false
    · rw [if_pos ho2]
      dsimp only
      rw [if_neg ho, if_pos ho2]
      exact ⟨rfl, up_all h1 h2 h3⟩
    · rw [if_neg ho2]
      obtain ⟨i, hi, ei, e2⟩ := h1.or ho2
      by_cases hce : c = e
      · rw [if_pos hce]
        dsimp only
        rw [if_neg ho, if_neg ho2, if_pos hce]
        exact ⟨rfl, up_all h1 h2 h3⟩
      · rw [if_neg hce, e1, e2, h1.O hj (by decide) (by decide)]
        by_cases hw : wi v 1 9999 = false
        · rw [if_pos hw]
          dsimp only
          rw [if_neg ho, if_neg ho2, if_neg hce, if_pos hw]
          exact ⟨rfl, up_all h1 h2 h3⟩
        · rw [if_neg hw]
          by_cases hp : ¬ v ≤ mo (σ.1 151) j 2
          · rw [if_pos hp]
            dsimp only
            rw [if_neg ho, if_neg ho2, if_neg hce, if_neg hw, if_pos hp]
            exact ⟨rfl, up_all h1 h2 h3⟩
          · rw [if_neg hp, h1.1.1.2.1]
            by_cases hm : m = 8
            · rw [if_pos (fun x => by rw [hm] at x; exact absurd x (by decide))]
              dsimp only
              rw [if_neg ho, if_neg ho2, if_neg hce, if_neg hw, if_neg hp, if_pos hm]
              exact ⟨rfl, up_all h1 h2 h3⟩
            · have hlt : nI m < 8 := nI_lt (b := 8) (by omega) (by decide)
              rw [if_neg (Decidable.not_not.mpr hlt)]
              dsimp only
              obtain ⟨w, w1, w2, ew, -⟩ := wi1_to (v := v) (b := 9999) (k := 9999) (by decide) (by decide) hw
              have hc2 : ∀ q, q < 6 ∨ 30 ≤ q → (addM (keepM σ f z n m) 0 j i m v).1 q = (keepM σ f z n m).1 q := fun q hq => addM_x (by unfold iO; omega) (by unfold iO; omega) (by unfold iL; omega) (by unfold iS; omega)
              rw [keep_151 h1 hc2, if_neg ho, if_neg ho2, if_neg hce, if_neg hw, if_neg hp, if_neg hm]
              dsimp only
              refine ⟨rfl, D_go (c := addM (keepM σ f z n m) 0 j i m v) h1 h2 h3 hc2 (fun s hs => rfl) (fun q a b => puR_ne _ a) (by show (mrec _ _).2 = _; rw [mrec_2]) (n' := n) (m' := m + 1) ?_⟩
              rw [puR_self, ew]
              refine sT_up (sT_lend (P1_keep h1) hj hi (fun x => hce (by rw [ej, ei, x])) (by omega) w1 w2 hB (by rw [← ew]; exact Decidable.not_not.mp hp)) (Nat.le_add_right _ _) (Nat.le_add_right _ _)
theorem mostN_le {k u : Int32} (hk : ¬ wi k 0 4 = false) (hu : ¬ wi u 0 (mostN k) = false) : ∃ a b : Nat, a ≤ 4 ∧ k = nI a ∧ b ≤ 5 ∧ u = nI b ∧ (a = 0 → b ≤ 1) := by
  obtain ⟨a, ha, ea, -⟩ := wi_to (k := 4) (by decide) (by decide) hk
  rw [ea] at hu ⊢
  rcases (show a = 0 ∨ a = 4 ∨ (1 ≤ a ∧ a ≤ 3) by omega) with rfl | rfl | h
  · obtain ⟨b, hb, eb, -⟩ := wi_to (k := 1) (by decide) (by decide) hu
    exact ⟨0, b, by omega, rfl, by omega, eb, fun _ => hb⟩
  · obtain ⟨b, hb, eb, -⟩ := wi_to (k := 0) (by decide) (by decide) hu
    exact ⟨4, b, by omega, rfl, by omega, eb, fun h => by omega⟩
  · have e5 : mostN (nI a) = nI 5 := by
      rcases (show a = 1 ∨ a = 2 ∨ a = 3 by omega) with rfl | rfl | rfl <;> decide
    obtain ⟨b, hb, eb, -⟩ := wi_to (k := 5) (by decide) e5 hu
    exact ⟨a, b, by omega, rfl, by omega, eb, fun h => by omega⟩
theorem eq_oracle (h1 : P1 σ n m B y) (h2 : P2 σ f z B y) (h3 : P3 σ t) (k u p : Int32) : Eqv (cOracle σ f z n m k u p) (fun τ => mOracle τ z n k u p) B y := by
  unfold Eqv cOracle mOracle
  by_cases hk : wi k 0 4 = false
  · rw [if_pos hk]
    dsimp only
    rw [if_pos hk]
    exact ⟨rfl, up_all h1 h2 h3⟩
  · rw [if_neg hk]
    by_cases hu : wi u 0 (mostN k) = false
    · rw [if_pos hu]
      dsimp only
      rw [if_neg hk, if_pos hu]
      exact ⟨rfl, up_all h1 h2 h3⟩
    · rw [if_neg hu]
      by_cases hp : wi p 0 9999 = false
      · rw [if_pos hp]
        dsimp only
        rw [if_neg hk, if_neg hu, if_pos hp]
        exact ⟨rfl, up_all h1 h2 h3⟩
      · have hn6 := h1.n6
        rw [if_neg hp, h1.1.1.1]
        by_cases hn : n = 6
        · rw [if_pos (by rw [hn]; decide)]
          dsimp only
          rw [if_neg hk, if_neg hu, if_neg hp, if_pos hn]
          exact ⟨rfl, up_all h1 h2 h3⟩
        · have hlt : nI n < 6 := nI_lt (b := 6) (by omega) (by decide)
          rw [if_neg (Decidable.not_not.mpr hlt)]
          dsimp only
          have hx : ∀ q, q ≠ iO 0 n → q ≠ iT 0 n → q ≠ iS 0 → (pu (puR (puR (keepM σ f z n m) (iO 0 n) (oBegin ((keepM σ f z n m).1 (iO 0 n)) k u p)) (iT 0 n) (fun q => if q < 32 then 1 else (keepM σ f z n m).1 (iT 0 n) q)) (iS 0) 3 (nI (n + 1))).1 q = (keepM σ f z n m).1 q := fun q q1 q2 q3 => by rw [pu_ne _ q3, puR_ne _ q2, puR_ne _ q1]
          have hO1 : (pu (puR (puR (keepM σ f z n m) (iO 0 n) (oBegin ((keepM σ f z n m).1 (iO 0 n)) k u p)) (iT 0 n) (fun q => if q < 32 then 1 else (keepM σ f z n m).1 (iT 0 n) q)) (iS 0) 3 (nI (n + 1))).1 (iO 0 n) = oBegin ((keepM σ f z n m).1 (iO 0 n)) k u p := by rw [pu_ne _ (by unfold iO iS; omega), puR_ne _ (iO_T 0 n 0 n), puR_self]
          have hT1 : (pu (puR (puR (keepM σ f z n m) (iO 0 n) (oBegin ((keepM σ f z n m).1 (iO 0 n)) k u p)) (iT 0 n) (fun q => if q < 32 then 1 else (keepM σ f z n m).1 (iT 0 n) q)) (iS 0) 3 (nI (n + 1))).1 (iT 0 n) = fun q => if q < 32 then 1 else (keepM σ f z n m).1 (iT 0 n) q := by rw [pu_ne _ (by unfold iT iS; omega), puR_self]
          have hS1 : (pu (puR (puR (keepM σ f z n m) (iO 0 n) (oBegin ((keepM σ f z n m).1 (iO 0 n)) k u p)) (iT 0 n) (fun q => if q < 32 then 1 else (keepM σ f z n m).1 (iT 0 n) q)) (iS 0) 3 (nI (n + 1))).1 (iS 0) = upd ((keepM σ f z n m).1 (iS 0)) 3 (nI (n + 1)) := by rw [pu_upd, puR_ne _ (by unfold iT iS; omega), puR_ne _ (by unfold iO iS; omega)]
          have hL1 : (pu (puR (puR (keepM σ f z n m) (iO 0 n) (oBegin ((keepM σ f z n m).1 (iO 0 n)) k u p)) (iT 0 n) (fun q => if q < 32 then 1 else (keepM σ f z n m).1 (iT 0 n) q)) (iS 0) 3 (nI (n + 1))).2 = (keepM σ f z n m).2 := rfl
          generalize pu (puR (puR (keepM σ f z n m) (iO 0 n) (oBegin ((keepM σ f z n m).1 (iO 0 n)) k u p)) (iT 0 n) (fun q => if q < 32 then 1 else (keepM σ f z n m).1 (iT 0 n) q)) (iS 0) 3 (nI (n + 1)) = c at hx hO1 hT1 hS1 hL1
          have hc2 : ∀ q, q < 6 ∨ 30 ≤ q → c.1 q = (keepM σ f z n m).1 q := fun q hq => hx q (by unfold iO; omega) (by unfold iT; omega) (by unfold iS; omega)
          rw [keep_151 h1 hc2, if_neg hk, if_neg hu, if_neg hp, if_neg hn]
          dsimp only
          refine ⟨rfl, D_go (c := c) h1 h2 h3 hc2 (fun s hs => by rw [hL1]) (fun q a b => puR_ne _ a) (by show (mrec _ _).2 = _; rw [mrec_2]) (n' := n + 1) (m' := m) ?_⟩
          rw [puR_self]
          obtain ⟨ka, ub, ka4, ek, ub5, eu, hk01⟩ := mostN_le hk hu
          obtain ⟨w, w2, ew, -⟩ := wi_to (k := 9999) (by decide) (by decide) hp
          obtain ⟨⟨hcn, h5, hW, hO, hL, ee, he1, he2, he3⟩, ⟨⟨a1, -, a3, hm8⟩, b2, b3, ho, ⟨pp, p1, p2⟩, hl⟩, b⟩ := P1_keep (f := f) (z := z) h1
          -- the model's row
          have hR : ∀ q, q ≠ 7 → (q < 73 + 42 * n ∨ 73 + 42 * n + 42 ≤ q) → mOrc (σ.1 151) n k u p q = σ.1 151 q := fun q q1 q2 => by
            unfold mOrc mob
            rw [upd_n _ _ _ _ q1, upd_n _ _ _ _ (by omega), upd_n _ _ _ _ (by omega), upd_n _ _ _ _ (by omega), upd_n _ _ _ _ (by omega), if_neg (by omega)]
          have r7 : mOrc (σ.1 151) n k u p 7 = nI (n + 1) := upd_s _ _ _
          have rn : ∀ q, q < 42 → mOrc (σ.1 151) n k u p (73 + 42 * n + q) = if q = 0 then k else if q = 1 then u else if q = 2 then p else if q = 3 then -1 else if q < 10 then 0 else 1 := fun q hq => by
            unfold mOrc mob
            rw [upd_n _ _ _ _ (by omega)]
            by_cases q3 : q = 3
            · rw [q3, upd_s]; rfl
            · rw [upd_n _ _ _ _ (by omega)]
              by_cases q2 : q = 2
              · rw [q2, upd_s]; rfl
              · rw [upd_n _ _ _ _ (by omega)]
                by_cases q1 : q = 1
                · rw [q1, upd_s]; rfl
                · rw [upd_n _ _ _ _ (by omega)]
                  by_cases q0 : q = 0
                  · rw [q0, upd_s]; rfl
                  · rw [upd_n _ _ _ _ (by omega), if_pos (by omega), if_neg q0, if_neg q1, if_neg q2, if_neg q3, show 73 + 42 * n + q - (73 + 42 * n) = q by omega]
          have mn : ∀ q, q < 10 → mo (mOrc (σ.1 151) n k u p) n q = if q = 0 then k else if q = 1 then u else if q = 2 then p else if q = 3 then -1 else 0 := fun q hq => (rn q (by omega)).trans (by rw [if_pos hq])
          have mtn : ∀ q, q < 32 → mt (mOrc (σ.1 151) n k u p) n q = 1 := fun q hq => (rn (10 + q) (by omega)).trans (by rw [if_neg (by omega), if_neg (by omega), if_neg (by omega), if_neg (by omega), if_neg (by omega)])
          have mi : ∀ i, i < n → ∀ q, q < 42 → mo (mOrc (σ.1 151) n k u p) i q = mo (σ.1 151) i q := fun i hi q hq => hR _ (by omega) (by omega)
          generalize mOrc (σ.1 151) n k u p = R at hR r7 mn mtn mi ⊢
          have i3 : mo R n 3 = -1 := mn 3 (by decide)
          refine ⟨⟨⟨?_, ?_, by omega, hm8⟩, ?_, fun j hj => ?_, fun i hi => ?_, fun l hl2 j hj => ?_, ee, he1, by rw [hL1]; exact he2, fun a ha => by rw [hR _ (by omega) (by omega)]; exact he3 a ha⟩, ⟨⟨r7, by omega, by rw [hR 8 (by decide) (by omega)]; exact a3, hm8⟩, ?_, ?_, fun i hi => ?_, ?_, fun l hl2 => ?_⟩, ⟨fun i hi => ?_, fun i i' hi hi' hii hbo eb => ?_⟩⟩
          · rw [hS1, upd_s]
          · rw [hS1, upd_n _ _ _ _ (by decide)]; exact hcn.2.1
          · rw [hS1, upd_n _ _ _ _ (by decide), upd_n _ _ _ _ (by decide), upd_n _ _ _ _ (by decide), upd_n _ _ _ _ (by decide), hR 4 (by decide) (by omega), hR 3 (by decide) (by omega), hR 5 (by decide) (by omega), hR 6 (by decide) (by omega)]; exact h5
          · rw [hx _ (by unfold iSet iO; omega) (by unfold iSet iT; omega) (by unfold iSet iS; omega), hR j (by omega) (by omega)]; exact hW j hj
          · by_cases e : i = n
            · rw [e]
              refine ⟨fun q hq h4 => ?_, fun x => absurd i3 x, fun q hq => by rw [hT1, mtn q hq]; exact if_pos hq⟩
              rw [hO1, mn q (by omega)]
              unfold oBegin upd
              rcases (show q = 0 ∨ q = 1 ∨ q = 2 ∨ q = 3 ∨ q = 5 ∨ q = 6 ∨ q = 7 ∨ q = 8 by omega) with rfl | rfl | rfl | rfl | rfl | rfl | rfl | rfl <;> rfl
            · have hin : i < n := by omega
              have eO : c.1 (iO 0 i) = (keepM σ f z n m).1 (iO 0 i) := hx _ (by unfold iO; omega) (iO_T 0 i 0 n) (by unfold iO iS; omega)
              have eT : c.1 (iT 0 i) = (keepM σ f z n m).1 (iT 0 i) := hx _ (fun x => iO_T 0 n 0 i x.symm) (by unfold iT; omega) (by unfold iT iS; omega)
              exact ⟨fun q hq h4 => by rw [eO, mi i hin q (by omega)]; exact (hO i hin).1 q hq h4, fun hb => by rw [mi i hin 3 (by decide)] at hb; rw [eO, mi i hin 4 (by decide)]; exact (hO i hin).2.1 hb, fun q hq => by rw [eT, show mt R i q = mt (σ.1 151) i q from mi i hin (10 + q) (by omega)]; exact (hO i hin).2.2 q hq⟩
          · rw [hx _ (by unfold iL iO; omega) (by unfold iL iT; omega) (by unfold iL iS; omega), show ml R l j = ml (σ.1 151) l j from hR _ (by omega) (by omega)]; exact hL l hl2 j hj
          · obtain ⟨hh, x1, x2⟩ := b2
            exact ⟨hh, x1, (hR 3 (by omega) (by omega)).trans x2⟩
          · obtain ⟨x1, x2, x3⟩ := b3
            exact ⟨by rw [hR 0 (by omega) (by omega)]; exact x1, by rw [hR 1 (by omega) (by omega)]; exact x2, by rw [hR 2 (by omega) (by omega)]; exact x3⟩
          · by_cases e : i = n
            · rw [e]
              refine ⟨⟨⟨ka, ka4, (mn 0 (by decide)).trans ek⟩, fun _ => ⟨ub, ub5, (mn 1 (by decide)).trans eu⟩, fun q hq => ⟨1, by decide, mtn q hq⟩, fun h0 => ?_⟩, ⟨0, by decide, mn 7 (by decide)⟩, 0, 0, by omega, mn 5 (by decide), mn 6 (by decide)⟩
              rw [mn 0 (by decide), if_pos rfl, ek] at h0
              have := hk01 ((nI_eq (b := 0) (by omega) (by decide)).mp h0)
              rw [show mo R n 1 = u from mn 1 (by decide), eu]
              rcases (show ub = 0 ∨ ub = 1 by omega) with rfl | rfl
              · exact Or.inl rfl
              · exact Or.inr rfl
            · have hin : i < n := by omega
              have em : ∀ q, q < 42 → mo R i q = mo (σ.1 151) i q := mi i hin
              obtain ⟨⟨k0, k1, k2, k3⟩, ⟨v, v1, v2⟩, x, y', q1, q2, q3⟩ := ho i hin
              exact ⟨⟨by rw [em 0 (by decide)]; exact k0, oGood_cg (em 0 (by decide)) (em 1 (by decide)) k1, fun q hq => by rw [show mt R i q = mt (σ.1 151) i q from em (10 + q) (by omega)]; exact k2 q hq, by rw [em 0 (by decide), em 1 (by decide)]; exact k3⟩, ⟨v, v1, (em 7 (by decide)).trans v2⟩, x, y', by omega, (em 5 (by decide)).trans q2, (em 6 (by decide)).trans q3⟩
          · refine ⟨updN pp n w, fun i hi => ?_, ?_⟩
            · unfold updN
              by_cases e : i = n
              · rw [e, if_pos rfl, ← ew]; exact mn 2 (by decide)
              · rw [if_neg e, mi i (by omega) 2 (by decide)]; exact p1 i (by omega)
            · show sumN (updN pp n w) n + updN pp n w n ≤ _
              have x1 : sumN (updN pp n w) n = sumN pp n := sumN_cg (fun i hi => by unfold updN; rw [if_neg (by omega)])
              have x2 : updN pp n w n = w := by unfold updN; rw [if_pos rfl]
              rw [x1, x2]
              omega
          · obtain ⟨⟨c0, x1, x2⟩, ⟨d0, x3, x4⟩, x5⟩ := hl l hl2
            have xx : ∀ j, j < 3 → ml R l j = ml (σ.1 151) l j := fun j hj => hR _ (by omega) (by omega)
            rw [xx 0 (by decide), xx 1 (by decide), xx 2 (by decide)]
            exact ⟨⟨c0, by omega, x2⟩, ⟨d0, by omega, x4⟩, x5⟩
          · by_cases e : i = n
            · rw [e]; exact Or.inl i3
            · rw [mi i (by omega) 3 (by decide), mi i (by omega) 4 (by decide)]; exact b.1 i (by omega)
          · have e1 : i ≠ n := fun x => hbo (by rw [x]; exact i3)
            have e2 : i' ≠ n := fun x => hbo (by rw [eb, x]; exact i3)
            rw [mi i (by omega) 3 (by decide)] at hbo
            rw [mi i (by omega) 3 (by decide), mi i' (by omega) 3 (by decide)] at eb
            rw [mi i (by omega) 4 (by decide), mi i' (by omega) 4 (by decide)]
            exact b.2 i i' (by omega) (by omega) hii hbo eb
end MORE2
