/-! changes: the law's rows keep step -/
theorem anyF_no {q : Nat → Bool} : ∀ {n : Nat}, anyF q n = false → ∀ i, i < n → q i = false
  | 0, _, i, hi => absurd hi (Nat.not_lt_zero i)
  | n + 1, h, i, hi => by
    unfold anyF at h
    simp only [Bool.or_eq_false_iff] at h
    by_cases e : i = n
    · rw [e]; exact h.2
    · exact anyF_no h.1 i (by omega)
theorem sumN_0 {p : Nat → Nat} : ∀ {n : Nat}, (∀ i, i < n → p i = 0) → sumN p n = 0
  | 0, _ => rfl
  | n + 1, h => by
    show sumN p n + p n = 0
    rw [sumN_0 (fun i hi => h i (by omega)), h n (by omega)]
theorem sumN_one {w : Nat → Bool} : ∀ {n : Nat}, (∀ i j, i < n → j < n → i ≠ j → w i = true → ¬ w j = true) → sumN (fun i => if w i = true then 1 else 0) n = if anyF w n = true then 1 else 0
  | 0, _ => rfl
  | n + 1, h => by
    show sumN (fun i => if w i = true then 1 else 0) n + (if w n = true then 1 else 0) = _
    unfold anyF
    by_cases hn : w n = true
    · rw [sumN_0 (fun i hi => if_neg (h n i (by omega) (by omega) (by omega) hn)), hn, Bool.or_true]
      rfl
    · rw [sumN_one (fun i j hi hj => h i j (by omega) (by omega)), if_neg hn, show w n = false by simpa using hn, Bool.or_false]
      rfl
theorem addM_x {K : fM} {c e m q : Nat} {v : Int32} (h1 : q ≠ iO 0 c) (h2 : q ≠ iO 0 e) (h3 : q ≠ iL 0 m) (h4 : q ≠ iS 0) : (addM K 0 c e m v).1 q = K.1 q := by
  unfold addM
  dsimp only
  rw [pu_ne _ h4, pu_ne _ h3, pu_ne _ h3, pu_ne _ h3, pu_ne _ h2, pu_ne _ h1]
theorem addM_C {K : fM} {c e m : Nat} {v : Int32} (hc : c < 6) (he : e < 6) (hm : m < 8) (hce : c ≠ e) : (addM K 0 c e m v).1 (iO 0 c) = upd (K.1 (iO 0 c)) 2 (K.1 (iO 0 c) 2 - v) := by
  unfold addM
  dsimp only
  have a4 : iO 0 c ≠ iS 0 := by unfold iO iS; omega
  have a3 : iO 0 c ≠ iL 0 m := by unfold iO iL; omega
  have a2 : iO 0 c ≠ iO 0 e := by unfold iO; omega
  rw [pu_ne _ a4, pu_ne _ a3, pu_ne _ a3, pu_ne _ a3, pu_ne _ a2, pu_upd]
theorem addM_E {K : fM} {c e m : Nat} {v : Int32} (hc : c < 6) (he : e < 6) (hm : m < 8) (hce : c ≠ e) : (addM K 0 c e m v).1 (iO 0 e) = upd (K.1 (iO 0 e)) 2 (K.1 (iO 0 e) 2 + v) := by
  unfold addM
  dsimp only
  have a4 : iO 0 e ≠ iS 0 := by unfold iO iS; omega
  have a3 : iO 0 e ≠ iL 0 m := by unfold iO iL; omega
  have a2 : iO 0 e ≠ iO 0 c := by unfold iO; omega
  rw [pu_ne _ a4, pu_ne _ a3, pu_ne _ a3, pu_ne _ a3, pu_upd, pu_ne _ a2]
theorem addM_L {K : fM} {c e m : Nat} {v : Int32} (hc : c < 6) (he : e < 6) (hm : m < 8) : (addM K 0 c e m v).1 (iL 0 m) = upd (upd (upd (K.1 (iL 0 m)) 0 (nI c)) 1 (nI e)) 2 v := by
  unfold addM
  dsimp only
  have a4 : iL 0 m ≠ iS 0 := by unfold iL iS; omega
  have a2 : iL 0 m ≠ iO 0 e := by unfold iO iL; omega
  have a1 : iL 0 m ≠ iO 0 c := by unfold iO iL; omega
  rw [pu_ne _ a4, pu_upd, pu_upd, pu_upd, pu_ne _ a2, pu_ne _ a1]
theorem addM_S {K : fM} {c e m : Nat} {v : Int32} (hc : c < 6) (he : e < 6) (hm : m < 8) : (addM K 0 c e m v).1 (iS 0) = upd (K.1 (iS 0)) 4 (nI (m + 1)) := by
  unfold addM
  dsimp only
  have a4 : iS 0 ≠ iL 0 m := by unfold iL iS; omega
  have a2 : iS 0 ≠ iO 0 e := by unfold iO iS; omega
  have a1 : iS 0 ≠ iO 0 c := by unfold iO iS; omega
  rw [pu_upd, pu_ne _ a4, pu_ne _ a4, pu_ne _ a4, pu_ne _ a2, pu_ne _ a1]

theorem wiN {a j b : Nat} (h1 : a ≤ j) (h2 : j ≤ b) (hb : b < 2 ^ 30) : wi (nI j) (nI a) (nI b) = true := wi_of.mpr ⟨nI_nlt h1 (by omega), nI_nlt h2 (by omega)⟩
theorem run_4 {σ : fM} {s m i j : Nat} {a tk : Int32} (hg : gst σ s 5 m) (hi : i < 5) (hj : j = 3 ∨ j = 4) : (runM σ s 5 m a tk).1 (iO s i) j = σ.1 (iO s i) j := by
  have hc1 := fore_cnt a hg.1
  have hr1 := fore_crd a (show 5 ≤ 6 by decide) hg.1.2.2.2 hg.2.1
  unfold runM
  rw [learn_ne (fun q hq => (iO_T s i s q).symm) (iO_S s i s (by omega)), setF_at (iO_inj s) hi, kept_01 _ _ _ _ _ (by omega), setl_O tk hc1 hr1 (by omega) (by omega), fore_O _ hi, foR2_n _ _ _ _ _ _ (by omega) (by omega)]
section CHG
variable {σ τ : fM} {Q O T V : Nat → Int32} {m B y f z : Nat}
theorem lKv_cg (e : ∀ q, q = 1 ∨ (6 ≤ q ∧ q < 30) → τ.1 q = σ.1 q) (K : lKv σ Q O T V m B y) : lKv τ Q O T V m B y := by
  obtain ⟨h1, h2, h3, f, z, h4, h5, h6⟩ := K
  exact ⟨lrl_cg (by decide) (fun q a b => e q (by omega)) h1, h2, lse_cg (fun i hi => by rw [e (iO 0 i) (by unfold iO; omega)]; exact ⟨rfl, rfl⟩) h3, f, z, by rw [e 1 (by decide)]; exact h4, by rw [e 1 (by decide)]; exact h5, h6⟩
theorem lKv.n5 (K : lKv σ Q O T V m B y) : σ.1 (iS 0) 3 = nI 5 := K.1.1.1
theorem lKv.m8 (K : lKv σ Q O T V m B y) : m ≤ 8 := K.1.1.2.2.2
theorem lKv_keep (K : lKv σ Q O T V m B y) (hp : pst σ f z) : lKv (keepM σ f z 5 m) Q O T V m B y := by
  have hm8 := K.m8
  obtain ⟨h1, h2, h3, -⟩ := K
  exact ⟨lrl_cg (by decide) (fun q a b => keepM_ne (by decide) hm8 (by omega) (Or.inl (by omega))) h1, h2, lse_cg (fun i hi => by rw [keepM_ne (by decide) hm8 (by unfold iO; omega) (Or.inl (by unfold iO; omega))]; exact ⟨rfl, rfl⟩) h3, _, _, keepM_1 (by decide) hm8 hp⟩
theorem keep_hi (hm : m ≤ 8) {q : Nat} (hq : 150 ≤ q) : (keepM σ f z 5 m).1 q = σ.1 q := keepM_ne (by decide) hm (by omega) (Or.inr hq)
/-- one oracle's row changes on both sides -/
theorem lrl_row {k : Nat} {O' : Nat → Int32} (h : lrl τ 0 Q O T V m) (hk : k < 5) (e : ∀ q, q ≠ iO 0 k → σ.1 q = τ.1 q) (eO : ∀ j, ¬ (10 * k ≤ j ∧ j < 10 * k + 10) → O' j = O j) (h1 : ∀ p, p < 4 → σ.1 (iO 0 k) p = O' (10 * k + p)) (h2 : ∀ p, 4 ≤ p → p < 8 → σ.1 (iO 0 k) (p + 1) = O' (10 * k + p)) : lrl σ 0 Q O' T V m := by
  obtain ⟨⟨a1, a2, a3, a4⟩, h7, h5, hW, hO, hL⟩ := h
  have eS : σ.1 (iS 0) = τ.1 (iS 0) := e _ (by unfold iO iS; omega)
  refine ⟨⟨by rw [eS]; exact a1, by rw [eS]; exact a2, a3, a4⟩, h7, by rw [eS]; exact h5, by rw [e (iSet 0) (by unfold iO iSet; omega)]; exact hW, fun i hi => ?_, fun l hl => by rw [e (iL 0 l) (by unfold iO iL; omega)]; exact hL l hl⟩
  have hT := (hO i hi).2.2
  by_cases c : i = k
  · subst c
    exact ⟨h1, h2, by rw [e (iT 0 i) (iO_T 0 i 0 i).symm]; exact hT⟩
  · have ei : σ.1 (iO 0 i) = τ.1 (iO 0 i) := e _ (by unfold iO; omega)
    exact ⟨fun p hp => by rw [ei, eO _ (by omega)]; exact (hO i hi).1 p hp, fun p h4 h8 => by rw [ei, eO _ (by omega)]; exact (hO i hi).2.1 p h4 h8, by rw [e (iT 0 i) (iO_T 0 k 0 i).symm]; exact hT⟩
theorem lgd_seat (g : lgd Q O T V m B y) {k : Nat} {v : Int32} (hv : v = -1 ∨ ∃ b : Nat, b < 3 ∧ v = nI b) : lgd Q (upd O (10 * k + 3) v) T V m B y := by
  obtain ⟨g1, ho, ⟨p, hp, hs⟩, hl⟩ := g
  refine ⟨g1, fun i hi => ?_, ⟨p, fun i hi => by rw [upd_n _ _ _ _ (by omega)]; exact hp i hi, hs⟩, hl⟩
  obtain ⟨b1, b2, b3, b4, b5, b6, b7⟩ := ho i hi
  unfold lgo
  rw [upd_n _ _ (10 * i) _ (by omega), upd_n _ _ (10 * i + 1) _ (by omega), upd_n _ _ (10 * i + 6) _ (by omega), upd_n _ _ (10 * i + 4) _ (by omega), upd_n _ _ (10 * i + 5) _ (by omega)]
  refine ⟨b1, b2, b3, ?_, b5, b6, b7⟩
  by_cases c : i = k
  · subst c; rw [upd_s]; exact hv
  · rw [upd_n _ _ _ _ (by omega)]; exact b4
theorem lgo_p {i k : Nat} {v : Int32} (h : lgo O T y i) : lgo (upd O (10 * k + 2) v) T y i := by
  unfold lgo
  rw [upd_n _ _ (10 * i) _ (by omega), upd_n _ _ (10 * i + 1) _ (by omega), upd_n _ _ (10 * i + 6) _ (by omega), upd_n _ _ (10 * i + 4) _ (by omega), upd_n _ _ (10 * i + 5) _ (by omega), upd_n _ _ (10 * i + 3) _ (by omega)]
  exact h
/-- an oracle stands up -/
theorem lc_stand {k : Nat} (hk : k < 5) (K : lKv σ Q O T V m B y) (hp : pst σ f z) (hs : ¬ O (10 * k + 3) < 0) : (cStand σ f z 5 m (nI k)).1 = O (10 * k + 3) ∧ lKv (cStand σ f z 5 m (nI k)).2 Q (upd O (10 * k + 3) (-1)) T V m B y ∧ ∀ q, 150 ≤ q → (cStand σ f z 5 m (nI k)).2.1 q = σ.1 q := by
  have hS : oSeat (σ.1 (iO 0 k)) = true := by
    unfold oSeat
    rw [(K.1.2.2.2.2.1 k hk).1 3 (by decide)]
    exact decide_eq_true (fun q => hs (by rw [q]; decide))
  unfold cStand
  rw [K.n5, if_neg (tne (wi5 k hk)), ix_n (by omega), if_neg (tne hS)]
  have hi : ∀ q, 150 ≤ q → (keepM σ f z 5 m).1 q = σ.1 q := fun q hq => keep_hi K.m8 hq
  have K' := lKv_keep K hp
  generalize keepM σ f z 5 m = τ at K' hi
  dsimp only
  obtain ⟨h1, h2, h3, f', z', h4⟩ := K'
  refine ⟨(h1.2.2.2.2.1 k hk).1 3 (by decide), ⟨lrl_row h1 hk (fun q hq => by rw [pu_ne _ hq, pu_ne _ hq]) (fun j hj => upd_n _ _ _ _ (by omega)) (fun p hp => ?_) (fun p p4 p8 => ?_), lgd_seat h2 (Or.inl rfl), ?_, f', z', ?_⟩, fun q hq => ?_⟩
  · rw [pu_upd, upd_n _ _ _ _ (by omega), pu_upd]
    by_cases c : p = 3
    · subst c; rw [upd_s, upd_s]
    · rw [upd_n _ _ _ _ c, upd_n _ _ _ _ (by omega)]; exact (h1.2.2.2.2.1 k hk).1 p hp
  · rw [pu_upd, upd_n _ _ _ _ (by omega), pu_upd, upd_n _ _ _ _ (by omega), upd_n _ _ _ _ (by omega)]
    exact (h1.2.2.2.2.1 k hk).2.1 p p4 p8
  · have eK : (pu (pu τ (iO 0 k) 3 (-1)) (iO 0 k) 4 (-1)).1 (iO 0 k) 3 = -1 := by rw [pu_upd, upd_n _ _ _ _ (by decide), pu_upd, upd_s]
    have eN : ∀ i, i ≠ k → (pu (pu τ (iO 0 k) 3 (-1)) (iO 0 k) 4 (-1)).1 (iO 0 i) = τ.1 (iO 0 i) := fun i hi => by rw [pu_ne _ (by unfold iO; omega), pu_ne _ (by unfold iO; omega)]
    refine ⟨fun i hi hn => ?_, fun i j hi hj hij hn he => ?_⟩
    · by_cases c : i = k
      · rw [c] at hn; exact absurd eK hn
      · rw [eN i c] at hn ⊢; exact h3.1 i hi hn
    · by_cases c : i = k
      · rw [c] at hn; exact absurd eK hn
      · by_cases c2 : j = k
        · rw [c2, eK] at he; exact absurd he hn
        · rw [eN i c] at hn he ⊢; rw [eN j c2] at he ⊢; exact h3.2 i j hi hj hij hn he
  · have e : (pu (pu τ (iO 0 k) 3 (-1)) (iO 0 k) 4 (-1)).1 1 = τ.1 1 := by rw [pu_ne _ (by unfold iO; omega), pu_ne _ (by unfold iO; omega)]
    unfold pst at h4 ⊢
    rw [e]; exact h4
  · rw [pu_ne _ (by unfold iO; omega), pu_ne _ (by unfold iO; omega)]; exact hi q hq
/-- a patron gives -/
theorem lc_give {k c : Nat} (hk : k < 5) (h1c : 1 ≤ c) (hc : c ≤ 100) (hB : B + c ≤ 100000) (K : lKv σ Q O T V m B y) (hp : pst σ f z) : (cGive σ f z 5 m (nI k) (nI c)).1 = O (10 * k + 2) + nI c ∧ lKv (cGive σ f z 5 m (nI k) (nI c)).2 Q (upd O (10 * k + 2) (O (10 * k + 2) + nI c)) T V m (B + c) y ∧ ∀ q, 150 ≤ q → (cGive σ f z 5 m (nI k) (nI c)).2.1 q = σ.1 q := by
  obtain ⟨p, hpp, hps⟩ := K.2.1.2.2.1
  have hle := sumN_le (p := p) hk
  have e2 : σ.1 (iO 0 k) 2 = O (10 * k + 2) := (K.1.2.2.2.2.1 k hk).1 2 (by decide)
  have hl : σ.1 (iO 0 k) 2 + nI c ≤ 100000 := by
    rw [e2, hpp k hk, nI_add]
    exact nI_le (b := 100000) (by omega) (by decide)
  unfold cGive
  rw [K.n5, if_neg (tne (wi5 k hk)), ix_n (by omega), if_neg (tne (show wi (nI c) 1 9999 = true from wiN (a := 1) (b := 9999) h1c (by omega) (by decide))), if_neg (fun q => q hl)]
  have hi : ∀ q, 150 ≤ q → (keepM σ f z 5 m).1 q = σ.1 q := fun q hq => keep_hi K.m8 hq
  have K' := lKv_keep K hp
  generalize keepM σ f z 5 m = τ at K' hi
  dsimp only
  obtain ⟨h1, h2, h3, f', z', h4⟩ := K'
  have e2' : τ.1 (iO 0 k) 2 = O (10 * k + 2) := (h1.2.2.2.2.1 k hk).1 2 (by decide)
  rw [e2']
  refine ⟨rfl, ⟨lrl_row h1 hk (fun q hq => by rw [pu_ne _ hq]) (fun j hj => upd_n _ _ _ _ (by omega)) (fun p hp => ?_) (fun p p4 p8 => ?_), ?_, ?_, f', z', ?_⟩, fun q hq => ?_⟩
  · rw [pu_upd]
    by_cases c : p = 2
    · subst c; rw [upd_s, upd_s]
    · rw [upd_n _ _ _ _ c, upd_n _ _ _ _ (by omega)]; exact (h1.2.2.2.2.1 k hk).1 p hp
  · rw [pu_upd, upd_n _ _ _ _ (by omega), upd_n _ _ _ _ (by omega)]
    exact (h1.2.2.2.2.1 k hk).2.1 p p4 p8
  · obtain ⟨g1, ho, -, hl⟩ := h2
    refine ⟨g1, fun i hi => lgo_p (ho i hi), ⟨updN p k (p k + c), lpu_v hpp (by rw [hpp k hk, nI_add]), ?_⟩, hl⟩
    have := sumN_upd (p := p) (i := k) (v := p k + c) hk
    omega
  · refine lse_cg (fun i hi => ?_) h3
    by_cases ci : i = k
    · subst ci; rw [pu_upd, upd_n _ _ _ _ (by decide), upd_n _ _ _ _ (by decide)]; exact ⟨rfl, rfl⟩
    · rw [pu_ne _ (by unfold iO; omega)]; exact ⟨rfl, rfl⟩
  · unfold pst at h4 ⊢
    rw [pu_ne _ (by unfold iO; omega)]; exact h4
  · rw [pu_ne _ (by unfold iO; omega)]; exact hi q hq
/-- a branch -/
theorem lc_branch {a : Nat} {tk : Nat} (ha : a < 64) (htk : tk < 2) (hB : B < 2 ^ 24 - 2 ^ 12) (w : Nat → Int32) (K : lKv σ Q O T V m B y) (hp : pst σ f z) : (cBranch σ f z 5 m (nI a) (nI tk)).1 = brV Q O T (nI a) (nI tk) ∧
    lKv (cBranch σ f z 5 m (nI a) (nI tk)).2 (brQ Q O T V m (nI a) (nI tk) w) (brR Q O T V m (nI a) (nI tk) w).1 (brR Q O T V m (nI a) (nI tk) w).2 (lbB Q O T V m (nI a) (nI tk) w).2.2.1 (lbB Q O T V m (nI a) (nI tk) w).2.2.2 B (y + 1) ∧ ∀ q, 150 ≤ q → (cBranch σ f z 5 m (nI a) (nI tk)).2.1 q = σ.1 q := by
  have h01 : nI tk = 0 ∨ nI tk = 1 := by rcases (show tk = 0 ∨ tk = 1 by omega) with rfl | rfl <;> decide
  have w01 : wi (nI tk) 0 1 = true := by rcases (show tk = 0 ∨ tk = 1 by omega) with rfl | rfl <;> decide
  unfold cBranch
  rw [if_neg (tne (isA64 a ha)), if_neg (tne w01)]
  have hi : ∀ q, 150 ≤ q → (keepM σ f z 5 m).1 q = σ.1 q := fun q hq => keep_hi K.m8 hq
  have K' := lKv_keep K hp
  generalize keepM σ f z 5 m = τ at K' hi
  dsimp only
  obtain ⟨h1, h2, h3, f', z', h4⟩ := K'
  have gs := lrl_gst h1 h2
  obtain ⟨r1, r2, r3, r4⟩ := lrun (w := w) (a := nI a) h1 h2 hB h01
  rw [r2] at *
  refine ⟨r1, ⟨r3, r4, lse_cg (fun i hi => ⟨run_4 gs hi (Or.inl rfl), run_4 gs hi (Or.inr rfl)⟩) h3, f', z', ?_⟩, fun q hq => ?_⟩
  · unfold pst at h4 ⊢
    rw [run_out (nI a) (nI tk) gs (by omega)]; exact h4
  · rw [run_out (nI a) (nI tk) gs (by omega)]; exact hi q hq
theorem sumN_add (p q : Nat → Nat) : ∀ n, sumN (fun i => p i + q i) n = sumN p n + sumN q n
  | 0 => rfl
  | n + 1 => by
    show sumN (fun i => p i + q i) n + (p n + q n) = sumN p n + p n + (sumN q n + q n)
    rw [sumN_add p q n]
    omega
/-- how many sit at a booth -/
def lsN (O : Nat → Int32) (b : Int32) (n : Nat) : Nat := sumN (fun i => if O (10 * i + 3) = b then 1 else 0) n
theorem lsN_F (O : Nat → Int32) (b : Int32) (n : Nat) : sumF 0 (fun i => if O (10 * i + 3) = b then 1 else 0) n = nI (lsN O b n) := sumF_N (fun i hi => by
  by_cases c : O (10 * i + 3) = b
  · rw [if_pos c, if_pos c]; rfl
  · rw [if_neg c, if_neg c]; rfl)
theorem sit_two (h : lse σ) {b : Int32} (hb : ¬ b = -1) (e : ∀ i, i < 5 → σ.1 (iO 0 i) 3 = O (10 * i + 3)) : lsN O b 5 = (if tak σ 0 5 b 0 = true then 1 else 0) + (if tak σ 0 5 b 1 = true then 1 else 0) := by
  have u : ∀ (p : Int32) (i j : Nat), i < 5 → j < 5 → i ≠ j → (decide (σ.1 (iO 0 i) 3 = b) && decide (σ.1 (iO 0 i) 4 = p)) = true → ¬ (decide (σ.1 (iO 0 j) 3 = b) && decide (σ.1 (iO 0 j) 4 = p)) = true := fun p i j hi hj hij a c => by
    simp only [Bool.and_eq_true, decide_eq_true_eq] at a c
    exact h.2 i j hi hj hij (by rw [a.1]; exact hb) (by rw [a.1, c.1]) (by rw [a.2, c.2])
  unfold tak
  rw [← sumN_one (u 0), ← sumN_one (u 1), ← sumN_add]
  refine sumN_cg (fun i hi => ?_)
  simp only [Bool.and_eq_true, decide_eq_true_eq]
  rw [← e i hi]
  by_cases c : σ.1 (iO 0 i) 3 = b
  · rw [if_pos c]
    rcases h.1 i hi (by rw [c]; exact hb) with q | q
    · rw [if_pos ⟨c, q⟩, if_neg (fun z => absurd (q.symm.trans z.2) (by decide))]
    · rw [if_neg (fun z => absurd (q.symm.trans z.2) (by decide)), if_pos ⟨c, q⟩]
  · rw [if_neg c, if_neg (fun z => c z.1), if_neg (fun z => c z.1)]
/-- an oracle would sit down -/
theorem lc_seat {k b : Nat} (hk : k < 5) (hb : b < 3) (K : lKv σ Q O T V m B y) (hp : pst σ f z) (h3 : O (10 * k + 3) = -1) : lsN O (nI b) 5 ≤ 2 ∧ (cSeat σ f z 5 m (nI k) (nI b)).1 = (if tks (nI b) (ro O k) = true then (if lsN O (nI b) 5 = 2 then kLim else nI (lsN O (nI b) 5 + 1)) else kNot) ∧
    lKv (cSeat σ f z 5 m (nI k) (nI b)).2 Q (upd O (10 * k + 3) (if tks (nI b) (ro O k) = true ∧ lsN O (nI b) 5 < 2 then nI b else -1)) T V m B y ∧ ∀ q, 150 ≤ q → (cSeat σ f z 5 m (nI k) (nI b)).2.1 q = σ.1 q := by
  have hb1 : ¬ nI b = -1 := by rcases (show b = 0 ∨ b = 1 ∨ b = 2 by omega) with rfl | rfl | rfl <;> decide
  have wb : wi (nI b) 0 2 = true := by rcases (show b = 0 ∨ b = 1 ∨ b = 2 by omega) with rfl | rfl | rfl <;> decide
  have e3 : ∀ i, i < 5 → σ.1 (iO 0 i) 3 = O (10 * i + 3) := fun i hi => (K.1.2.2.2.2.1 i hi).1 3 (by decide)
  have hS : ¬ oSeat (σ.1 (iO 0 k)) = true := by
    unfold oSeat
    rw [e3 k hk, h3]
    decide
  have et : tks (nI b) (σ.1 (iO 0 k)) = tks (nI b) (ro O k) := by
    unfold tks
    rw [oTab_cg (f := ro O k) ((K.1.2.2.2.2.1 k hk).1 0 (by decide)), show σ.1 (iO 0 k) 0 = ro O k 0 from (K.1.2.2.2.2.1 k hk).1 0 (by decide)]
  have sit := sit_two K.2.2.1 hb1 e3
  have uid : upd O (10 * k + 3) (-1) = O := by rw [← h3]; exact upd_id _ _
  unfold cSeat
  rw [K.n5, if_neg (tne (wi5 k hk)), if_neg (tne wb), ix_n (by omega), if_neg hS, et]
  by_cases ht : tks (nI b) (ro O k) = true
  · rw [if_neg (tne ht), if_pos ht]
    by_cases h2 : tak σ 0 5 (nI b) 0 = true ∧ tak σ 0 5 (nI b) 1 = true
    · have s2 : lsN O (nI b) 5 = 2 := by rw [sit, if_pos h2.1, if_pos h2.2]
      rw [if_pos h2.1, if_pos h2.2]
      dsimp only
      rw [if_pos rfl, s2, if_pos rfl, if_neg (fun q => absurd q.2 (by decide)), uid]
      exact ⟨Nat.le_refl _, rfl, K, fun q _ => rfl⟩
    · obtain ⟨p, hpe, hp01, hfree⟩ : ∃ p : Int32, (if tak σ 0 5 (nI b) 0 = true then (if tak σ 0 5 (nI b) 1 = true then (-1 : Int32) else 1) else 0) = p ∧ (p = 0 ∨ p = 1) ∧ tak σ 0 5 (nI b) p = false := by
        by_cases t0 : tak σ 0 5 (nI b) 0 = true
        · have t1 : ¬ tak σ 0 5 (nI b) 1 = true := fun q => h2 ⟨t0, q⟩
          exact ⟨1, by rw [if_pos t0, if_neg t1], Or.inr rfl, by simpa using t1⟩
        · exact ⟨0, by rw [if_neg t0], Or.inl rfl, by simpa using t0⟩
      have s2 : lsN O (nI b) 5 < 2 := by
        rw [sit]
        by_cases t0 : tak σ 0 5 (nI b) 0 = true
        · have t1 : ¬ tak σ 0 5 (nI b) 1 = true := fun q => h2 ⟨t0, q⟩
          rw [if_pos t0, if_neg t1]; decide
        · rw [if_neg t0]; split <;> decide
      rw [hpe]
      dsimp only
      rw [if_neg (show ¬ p = -1 by rcases hp01 with e | e <;> rw [e] <;> decide), if_neg (show ¬ lsN O (nI b) 5 = 2 by omega), if_pos ⟨ht, s2⟩]
      have hi : ∀ q, 150 ≤ q → (keepM σ f z 5 m).1 q = σ.1 q := fun q hq => keep_hi K.m8 hq
      have K' := lKv_keep K hp
      have hfree' : ∀ j, j < 5 → (keepM σ f z 5 m).1 (iO 0 j) 3 = nI b → ¬ (keepM σ f z 5 m).1 (iO 0 j) 4 = p := fun j hj a c => by
        have eq : (keepM σ f z 5 m).1 (iO 0 j) = σ.1 (iO 0 j) := keepM_ne (by decide) K.m8 (by unfold iO; omega) (Or.inl (by unfold iO; omega))
        rw [eq] at a c
        unfold tak at hfree
        have := anyF_no hfree j hj
        simp [a, c] at this
      generalize keepM σ f z 5 m = τ at K' hi hfree'
      obtain ⟨h1, g2, g3, f', z', h4⟩ := K'
      have eK3 : (pu (pu τ (iO 0 k) 3 (nI b)) (iO 0 k) 4 p).1 (iO 0 k) 3 = nI b := by rw [pu_upd, upd_n _ _ _ _ (by decide), pu_upd, upd_s]
      have eK4 : (pu (pu τ (iO 0 k) 3 (nI b)) (iO 0 k) 4 p).1 (iO 0 k) 4 = p := by rw [pu_upd, upd_s]
      have eN : ∀ i, i ≠ k → (pu (pu τ (iO 0 k) 3 (nI b)) (iO 0 k) 4 p).1 (iO 0 i) = τ.1 (iO 0 i) := fun i hi => by rw [pu_ne _ (by unfold iO; omega), pu_ne _ (by unfold iO; omega)]
      have t3 : ∀ i, i < 5 → τ.1 (iO 0 i) 3 = O (10 * i + 3) := fun i hi => (h1.2.2.2.2.1 i hi).1 3 (by decide)
      refine ⟨by omega, ?_, ⟨lrl_row h1 hk (fun q hq => by rw [pu_ne _ hq, pu_ne _ hq]) (fun j hj => upd_n _ _ _ _ (by omega)) (fun q hq => ?_) (fun q q4 q8 => ?_), lgd_seat g2 (Or.inr ⟨b, hb, rfl⟩), ?_, f', z', ?_⟩, fun q hq => ?_⟩
      · rw [← Nat.add_comm 1, show sumF 0 (fun i => if (pu (pu τ (iO 0 k) 3 (nI b)) (iO 0 k) 4 p).1 (iO 0 i) 3 = nI b then (1 : Int32) else 0) 5 = nI (sumN (updN (fun i => if O (10 * i + 3) = nI b then 1 else 0) k 1) 5) from sumF_N (fun i hi => ?_)]
        · have := sumN_upd (p := fun i => if O (10 * i + 3) = nI b then 1 else 0) (i := k) (v := 1) hk
          change _ + (if O (10 * k + 3) = nI b then 1 else 0) = _ at this
          rw [h3, if_neg (fun q => hb1 q.symm)] at this
          unfold lsN
          rw [show sumN (updN (fun i => if O (10 * i + 3) = nI b then 1 else 0) k 1) 5 = 1 + sumN (fun i => if O (10 * i + 3) = nI b then 1 else 0) 5 by omega]
        · unfold updN
          by_cases c : i = k
          · rw [if_pos c, c, if_pos eK3]; rfl
          · rw [if_neg c, eN i c, t3 i hi]
            dsimp only
            by_cases c2 : O (10 * i + 3) = nI b
            · rw [if_pos c2, if_pos c2]; rfl
            · rw [if_neg c2, if_neg c2]; rfl
      · rw [pu_upd, upd_n _ _ _ _ (by omega), pu_upd]
        by_cases c : q = 3
        · subst c; rw [upd_s, upd_s]
        · rw [upd_n _ _ _ _ c, upd_n _ _ _ _ (by omega)]; exact (h1.2.2.2.2.1 k hk).1 q hq
      · rw [pu_upd, upd_n _ _ _ _ (by omega), pu_upd, upd_n _ _ _ _ (by omega), upd_n _ _ _ _ (by omega)]
        exact (h1.2.2.2.2.1 k hk).2.1 q q4 q8
      · refine ⟨fun i hi hn => ?_, fun i j hi hj hij hn he => ?_⟩
        · by_cases c : i = k
          · rw [c, eK4]; exact hp01
          · rw [eN i c] at hn ⊢; exact g3.1 i hi hn
        · by_cases c : i = k
          · have cj : j ≠ k := fun q => hij (c.trans q.symm)
            rw [c, eK3, eN j cj] at he
            rw [c, eK4, eN j cj]
            exact fun q => hfree' j hj he.symm q.symm
          · by_cases c2 : j = k
            · rw [c2, eK3, eN i c] at he
              rw [c2, eK4, eN i c]
              exact hfree' i hi he
            · rw [eN i c] at hn he ⊢; rw [eN j c2] at he ⊢; exact g3.2 i j hi hj hij hn he
      · unfold pst at h4 ⊢
        rw [pu_ne _ (by unfold iO; omega), pu_ne _ (by unfold iO; omega)]; exact h4
      · rw [pu_ne _ (by unfold iO; omega), pu_ne _ (by unfold iO; omega)]; exact hi q hq
  · have htf : tks (nI b) (ro O k) = false := by simpa using ht
    rw [if_pos htf, if_neg ht, if_neg (fun q => ht q.1), uid]
    refine ⟨?_, rfl, K, fun q _ => rfl⟩
    rw [sit]
    split <;> split <;> decide
/-- a loan -/
theorem lc_lend {c e v : Nat} (hc : c < 5) (he : e < 5) (hce : c ≠ e) (h1v : 1 ≤ v) (hv : v ≤ 9999) (hm7 : m < 8) (hB : B < 2 ^ 24) (K : lKv σ Q O T V m B y) (hp : pst σ f z) :
    (nI v ≤ O (10 * c + 2) → (cLend σ f z 5 m (nI c) (nI e) (nI v)).1 = nI m ∧ lKv (cLend σ f z 5 m (nI c) (nI e) (nI v)).2 (upd Q 7 (nI (m + 1))) (upd (upd O (10 * c + 2) (O (10 * c + 2) - nI v)) (10 * e + 2) (O (10 * e + 2) + nI v)) T (upd (upd (upd V (3 * m) (nI c)) (3 * m + 1) (nI e)) (3 * m + 2) (nI v)) (m + 1) B y ∧ ∀ q, 150 ≤ q → (cLend σ f z 5 m (nI c) (nI e) (nI v)).2.1 q = σ.1 q) ∧
    (¬ nI v ≤ O (10 * c + 2) → cLend σ f z 5 m (nI c) (nI e) (nI v) = (kNot, σ)) := by
  have e2 : σ.1 (iO 0 c) 2 = O (10 * c + 2) := (K.1.2.2.2.2.1 c hc).1 2 (by decide)
  have wv : wi (nI v) 1 9999 = true := wiN (a := 1) (b := 9999) h1v hv (by decide)
  have hne : ¬ nI c = nI e := fun q => hce ((nI_eq (by omega) (by omega)).mp q)
  unfold cLend
  rw [K.n5, if_neg (tne (wi5 c hc)), if_neg (tne (wi5 e he)), if_neg hne, if_neg (tne wv), ix_n (by omega), ix_n (by omega), e2, K.1.1.2.1]
  refine ⟨fun hle => ?_, fun hle => by rw [if_pos hle]⟩
  rw [if_neg (fun q => q hle), if_neg (fun q => q (nI_lt (b := 8) hm7 (by decide)))]
  have hi : ∀ q, 150 ≤ q → (keepM σ f z 5 m).1 q = σ.1 q := fun q hq => keep_hi K.m8 hq
  have K' := lKv_keep K hp
  generalize keepM σ f z 5 m = τ at K' hi
  dsimp only
  obtain ⟨h1, ⟨g1, ho, ⟨p, hpp, hps⟩, hl⟩, g3, f', z', h4⟩ := K'
  have hcl := sumN_le (p := p) hc
  have hel := sumN_le (p := p) he
  rw [hpp c hc] at hle
  have hvp : v ≤ p c := Nat.not_lt.mp (fun q => absurd hle (nI_ge q (by omega)))
  have AC := addM_C (K := τ) (c := c) (e := e) (m := m) (v := nI v) (by omega) (by omega) hm7 hce
  have AE := addM_E (K := τ) (c := c) (e := e) (m := m) (v := nI v) (by omega) (by omega) hm7 hce
  have AL := addM_L (K := τ) (c := c) (e := e) (m := m) (v := nI v) (by omega) (by omega) hm7
  have AS := addM_S (K := τ) (c := c) (e := e) (m := m) (v := nI v) (by omega) (by omega) hm7
  have AX : ∀ q, q ≠ iO 0 c → q ≠ iO 0 e → q ≠ iL 0 m → q ≠ iS 0 → (addM τ 0 c e m (nI v)).1 q = τ.1 q := fun q a b c d => addM_x a b c d
  generalize addM τ 0 c e m (nI v) = ρ at AC AE AL AS AX
  obtain ⟨⟨a1, a2, a3, a4⟩, h7, h5, hW, hO, hL⟩ := h1
  have t2 : ∀ i, i < 5 → τ.1 (iO 0 i) 2 = O (10 * i + 2) := fun i hi => (hO i hi).1 2 (by decide)
  have cne : 10 * c + 2 ≠ 10 * e + 2 := by omega
  refine ⟨rfl, ⟨⟨⟨by rw [AS, upd_n _ _ _ _ (by decide)]; exact a1, by rw [AS, upd_s], a3, by omega⟩, by rw [upd_s], by rw [AS, upd_n _ _ _ _ (by decide), upd_n _ _ _ _ (by decide), upd_n _ _ _ _ (by decide), upd_n _ _ _ _ (by decide), upd_n _ _ _ _ (by decide), upd_n _ _ _ _ (by decide), upd_n _ _ _ _ (by decide), upd_n _ _ _ _ (by decide)]; exact h5, fun j hj => ?_, fun i hi => ⟨fun q hq => ?_, fun q q4 q8 => ?_, fun q hq => ?_⟩, fun l hl2 j hj => ?_⟩, ⟨?_, fun i hi => lgo_p (lgo_p (ho i hi)), ⟨updN (updN p c (p c - v)) e (p e + v), ?_, ?_⟩, fun l hl2 => ?_⟩, lse_cg (fun i hi => ?_) g3, f', z', ?_⟩, fun q hq => ?_⟩
  · rw [AX (iSet 0) (by unfold iO iSet; omega) (by unfold iO iSet; omega) (by unfold iL iSet; omega) (by unfold iS iSet; omega), upd_n _ _ _ _ (by omega)]; exact hW j hj
  · by_cases c1 : i = c
    · subst c1
      rw [AC]
      by_cases q2 : q = 2
      · subst q2; rw [upd_s, upd_n _ _ _ _ cne, upd_s, t2 i hi]
      · rw [upd_n _ _ _ _ q2, upd_n _ _ _ _ (by omega), upd_n _ _ _ _ (by omega)]; exact (hO i hi).1 q hq
    · by_cases c2 : i = e
      · subst c2
        rw [AE]
        by_cases q2 : q = 2
        · subst q2; rw [upd_s, upd_s, t2 i hi]
        · rw [upd_n _ _ _ _ q2, upd_n _ _ _ _ (by omega), upd_n _ _ _ _ (by omega)]; exact (hO i hi).1 q hq
      · rw [AX (iO 0 i) (by unfold iO; omega) (by unfold iO; omega) (by unfold iL iO; omega) (by unfold iS iO; omega), upd_n _ _ _ _ (by omega), upd_n _ _ _ _ (by omega)]; exact (hO i hi).1 q hq
  · rw [upd_n _ _ _ _ (by omega), upd_n _ _ _ _ (by omega)]
    by_cases c1 : i = c
    · subst c1; rw [AC, upd_n _ _ _ _ (by omega)]; exact (hO i hi).2.1 q q4 q8
    · by_cases c2 : i = e
      · subst c2; rw [AE, upd_n _ _ _ _ (by omega)]; exact (hO i hi).2.1 q q4 q8
      · rw [AX (iO 0 i) (by unfold iO; omega) (by unfold iO; omega) (by unfold iL iO; omega) (by unfold iS iO; omega)]; exact (hO i hi).2.1 q q4 q8
  · rw [AX (iT 0 i) (by unfold iO iT; omega) (by unfold iO iT; omega) (by unfold iL iT; omega) (by unfold iS iT; omega)]; exact (hO i hi).2.2 q hq
  · by_cases c1 : l = m
    · subst c1
      rw [AL]
      rcases (show j = 0 ∨ j = 1 ∨ j = 2 by omega) with rfl | rfl | rfl
      · rw [upd_n _ _ _ _ (by decide), upd_n _ _ _ _ (by decide), upd_s, upd_n _ _ _ _ (by omega), upd_n _ _ _ _ (by omega), show 3 * l + 0 = 3 * l from rfl, upd_s]
      · rw [upd_n _ _ _ _ (by decide), upd_s, upd_n _ _ _ _ (by omega), upd_s]
      · rw [upd_s, upd_s]
    · rw [AX (iL 0 l) (by unfold iO iL; omega) (by unfold iO iL; omega) (by unfold iL; omega) (by unfold iS iL; omega), upd_n _ _ _ _ (by omega), upd_n _ _ _ _ (by omega), upd_n _ _ _ _ (by omega)]; exact hL l (by omega) j hj
  · rw [upd_n _ _ _ _ (by decide), upd_n _ _ _ _ (by decide), upd_n _ _ _ _ (by decide), upd_n _ _ _ _ (by decide)]; exact g1
  · refine lpu_v (lpu_v hpp (by rw [hpp c hc]; exact pk_sub hvp)) (by rw [hpp e he, nI_add])
  · have s1 := sumN_upd (p := p) (i := c) (v := p c - v) hc
    have s2 := sumN_upd (p := updN p c (p c - v)) (i := e) (v := p e + v) he
    have s3 : updN p c (p c - v) e = p e := by unfold updN; rw [if_neg (fun q => hce q.symm)]
    rw [s3] at s2
    omega
  · by_cases c1 : l = m
    · subst c1
      refine ⟨⟨c, hc, ?_⟩, ⟨e, he, ?_⟩, v, h1v, hv, ?_⟩
      · rw [upd_n _ _ _ _ (by omega), upd_n _ _ _ _ (by omega), upd_s]
      · rw [upd_n _ _ _ _ (by omega), upd_s]
      · rw [upd_s]
    · rw [upd_n _ _ (3 * l) _ (by omega), upd_n _ _ (3 * l) _ (by omega), upd_n _ _ (3 * l) _ (by omega), upd_n _ _ (3 * l + 1) _ (by omega), upd_n _ _ (3 * l + 1) _ (by omega), upd_n _ _ (3 * l + 1) _ (by omega), upd_n _ _ (3 * l + 2) _ (by omega), upd_n _ _ (3 * l + 2) _ (by omega), upd_n _ _ (3 * l + 2) _ (by omega)]
      exact hl l (by omega)
  · by_cases c1 : i = c
    · subst c1; rw [AC, upd_n _ _ _ _ (by decide), upd_n _ _ _ _ (by decide)]; exact ⟨rfl, rfl⟩
    · by_cases c2 : i = e
      · subst c2; rw [AE, upd_n _ _ _ _ (by decide), upd_n _ _ _ _ (by decide)]; exact ⟨rfl, rfl⟩
      · rw [AX (iO 0 i) (by unfold iO; omega) (by unfold iO; omega) (by unfold iL iO; omega) (by unfold iS iO; omega)]; exact ⟨rfl, rfl⟩
  · unfold pst at h4 ⊢
    rw [AX 1 (by unfold iO; omega) (by unfold iO; omega) (by unfold iL; omega) (by unfold iS; omega)]; exact h4
  · rw [AX q (by unfold iO; omega) (by unfold iO; omega) (by unfold iL; omega) (by unfold iS; omega)]; exact hi q hq
end CHG
