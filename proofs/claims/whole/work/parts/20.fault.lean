/-! what an order leaves; all orders; orders done -/
theorem rnM_o {σ : fM} (g : Nat → Int32) (e i : Nat) : (rnM σ g e i).2 = σ.2 ∧ (∀ k, k ≠ 3 → k ≠ 5 → (rnM σ g e i).1 k = σ.1 k) ∧ (rnOk g e = true → (rnM σ g e i).1 5 i = rnV g e) ∧ ∀ j, ¬ j = i → (rnM σ g e i).1 5 j = σ.1 5 j := by
  unfold rnM
  split
  · rename_i hb
    refine ⟨rfl, fun k h3 _ => pu_ne _ h3, fun hk => absurd (hk.symm.trans hb) (by decide), fun j _ => by rw [pu_ne _ (by decide)]⟩
  · exact ⟨rfl, fun k h3 h5 => by rw [pu_ne _ h5, pu_ne _ h3], fun _ => by rw [pu_puR, puR_self, upd_s], fun j hj => by rw [pu_puR, puR_self, upd_n _ _ _ _ hj, pu_ne _ (by decide)]⟩
/-- fields of the text's object behind an order -/
def ord (σ τ : fM) (p e : Nat) (w r c : Int32) : Prop := τ.2 = σ.2 ∧ (∀ k, k ≠ 3 → k ≠ 5 → τ.1 k = σ.1 k) ∧ τ.1 3 2 = σ.1 3 2 ∧ τ.1 3 3 = nI p ∧ τ.1 3 4 = nI e ∧ τ.1 3 5 = w ∧ τ.1 3 6 = r ∧ τ.1 3 7 = c
theorem bad_o {σ τ : fM} {p e : Nat} {w r c : Int32} (h : ord σ τ p e w r c) : ord σ (bad τ e p) p e w 1 (nI e - nI p) ∧ (bad τ e p).1 5 = τ.1 5 := by
  obtain ⟨h1, h2, h3, h4, h5, h6, h7, h8⟩ := h
  unfold bad
  refine ⟨⟨h1, fun k hk hk5 => by rw [pu_ne _ hk, pu_ne _ hk]; exact h2 k hk hk5, ?_, ?_, ?_, ?_, ?_, ?_⟩, by rw [pu_ne _ (by decide), pu_ne _ (by decide)]⟩ <;> simp +decide only [pu_puR, puR_puR, puR_self, upd_s, upd_n] <;> assumption
theorem fin_o {g : Nat → Int32} {σ τ : fM} {p e : Nat} {w v1 : Int32} (v2 : Int32) {ok : Bool} (h : ord σ τ p e w 0 0) (hv : ok = true → τ.1 5 0 = v1 ∧ (w = 4 ∨ τ.1 5 1 = v2)) :
    ord σ (fin g τ ok e p) p (if ok = true ∧ g e = 59 then e + 1 else e) w (if ok = true ∧ g e = 59 then crR w v1 v2 else 1) (if ok = true ∧ g e = 59 then crC w v1 v2 else nI e - nI p) ∧ (fin g τ ok e p).1 5 = τ.1 5 := by
  unfold fin
  cases ok with
  | false =>
    rw [if_pos rfl, if_neg (by simp), if_neg (by simp), if_neg (by simp)]
    exact bad_o h
  | true =>
    rw [if_neg (by simp)]
    by_cases h59 : g e = 59
    · rw [if_neg (fun q => q h59), if_pos ⟨rfl, h59⟩, if_pos ⟨rfl, h59⟩, if_pos ⟨rfl, h59⟩]
      obtain ⟨h1, h2, h3, h4, h5, h6, h7, h8⟩ := h
      obtain ⟨v, v'⟩ := hv rfl
      have ne5 : (pu τ 3 4 (nI (e + 1))).1 5 = τ.1 5 := pu_ne _ (by decide)
      have u : ∀ j, ¬ j = 4 → (pu τ 3 4 (nI (e + 1))).1 3 j = τ.1 3 j := fun j hj => by rw [pu_puR, puR_self, upd_n _ _ _ _ hj]
      obtain ⟨q1, q2⟩ := crM_w (τ := pu τ 3 4 (nI (e + 1))) (w := w) (v1 := v1) v2 ((u 5 (by decide)).trans h6) (by rw [ne5]; exact v) (v'.imp id (fun q => by rw [ne5]; exact q)) ((u 6 (by decide)).trans h7) ((u 7 (by decide)).trans h8)
      obtain ⟨c1, c2, c3⟩ := crM_o (τ := pu τ 3 4 (nI (e + 1)))
      exact ⟨⟨c1.trans h1, fun k hk hk5 => by rw [c2 k hk, pu_ne _ hk]; exact h2 k hk hk5, by rw [c3 2 (by decide), u 2 (by decide)]; exact h3, by rw [c3 3 (by decide), u 3 (by decide)]; exact h4, by rw [c3 4 (by decide)]; exact rn_lk (e := e) _, by rw [c3 5 (by decide), u 5 (by decide)]; exact h6, q1, q2⟩, by rw [c2 5 (by decide)]; exact ne5⟩
    · rw [if_pos h59, if_neg (fun q => h59 q.2), if_neg (fun q => h59 q.2), if_neg (fun q => h59 q.2)]
      exact bad_o h
theorem roM_o (σ : fM) (t p : Nat) : ord σ (roM σ t p) p (pE (chr σ t) p) (pW (chr σ t) p) (pR (chr σ t) p) (pC (chr σ t) p) ∧ (pF (chr σ t) p = true → (roM σ t p).1 5 0 = pV1 (chr σ t) p ∧ (pW (chr σ t) p = 4 ∨ (roM σ t p).1 5 1 = pV2 (chr σ t) p)) := by
  generalize hg : chr σ t = g
  have hA : ord σ (roA σ p (pN g p) (pW g p)) p (p + pN g p) (pW g p) 0 0 ∧ (roA σ p (pN g p) (pW g p)).1 5 = σ.1 5 := by
    unfold roA
    refine ⟨⟨rfl, fun k hk _ => by simp only [pu_ne _ hk], ?_, ?_, ?_, ?_, ?_, ?_⟩, by simp only [pu_ne _ (show (5 : Nat) ≠ 3 by decide)]⟩ <;> simp +decide only [pu_puR, puR_puR, puR_self, upd_s, upd_n]
  obtain ⟨hA, hA5⟩ := hA
  have e0 : roM σ t p = roB (roA σ p (pN g p) (pW g p)) g p (pN g p) (pW g p) := by unfold roM; rw [hg]; rfl
  rw [e0]
  generalize roA σ p (pN g p) (pW g p) = τ at hA hA5
  have h1 : ∀ (υ : fM) (e i : Nat) (e' : Nat), ord σ υ p e' (pW g p) 0 0 → ord σ (rnM υ g e i) p (rnE g e) (pW g p) 0 0 := fun υ e i e' h => by
    obtain ⟨a1, a2, a3, a4, a5, a6, a7, a8⟩ := h
    obtain ⟨b1, b2, -, -⟩ := rnM_o (σ := υ) g e i
    exact ⟨b1.trans a1, fun k hk hk5 => (b2 k hk hk5).trans (a2 k hk hk5), (rnM_j _ _ _ (by decide)).trans a3, (rnM_j _ _ _ (by decide)).trans a4, rnM_e _ _ _, (rnM_j _ _ _ (by decide)).trans a6, (rnM_j _ _ _ (by decide)).trans a7, (rnM_j _ _ _ (by decide)).trans a8⟩
  have n1 := rnM_o (σ := τ) g (p + pN g p) 0
  have o1 := h1 τ (p + pN g p) 0 _ hA
  have n2 := rnM_o (σ := rnM τ g (p + pN g p) 0) g (pE1 g p) 1
  have o2 := h1 (rnM τ g (p + pN g p) 0) (pE1 g p) 1 _ o1
  unfold roB
  by_cases hw : pW g p = -1
  · have f1 : pF g p = false := by unfold pF; rw [if_pos hw]
    have f2 : pB g p = p := by unfold pB; rw [if_pos hw]
    rw [if_pos hw, show pE g p = p by unfold pE; rw [f1, f2]; rfl, show pR g p = 1 by unfold pR; rw [f1]; rfl, show pC g p = 0 by unfold pC; rw [f1, if_pos hw]; rfl]
    obtain ⟨a1, a2, a3, a4, a5, a6, a7, a8⟩ := hA
    refine ⟨⟨a1, fun k hk hk5 => by rw [pu_ne _ hk, pu_ne _ hk]; exact a2 k hk hk5, ?_, ?_, ?_, ?_, ?_, ?_⟩, fun q => by rw [f1] at q; cases q⟩ <;> simp +decide only [pu_puR, puR_puR, puR_self, upd_s, upd_n] <;> assumption
  · rw [if_neg hw]
    by_cases h4 : pW g p = 4
    · rw [if_pos h4]
      have f1 : pF g p = true ↔ rnOk g (p + pN g p) = true ∧ g (rnE g (p + pN g p)) = 59 := by unfold pF pO1 pE1; rw [if_neg hw, if_pos h4]; simp
      have f2 : pB g p = rnE g (p + pN g p) := by unfold pB; rw [if_neg hw, if_pos (Or.inl h4)]; rfl
      obtain ⟨r, r5⟩ := fin_o (g := g) (v1 := pV1 g p) (pV2 g p) (ok := rnOk g (p + pN g p)) o1 (fun hok => ⟨n1.2.2.1 hok, Or.inl h4⟩)
      by_cases hF : pF g p = true
      · have hc := f1.mp hF
        rw [if_pos hc, if_pos hc, if_pos hc] at r
        refine ⟨by unfold pE pR pC; rw [if_pos hF, if_pos hF, if_pos hF, f2]; exact r, fun _ => ⟨by rw [r5]; exact n1.2.2.1 hc.1, Or.inl h4⟩⟩
      · have hc := fun q => hF (f1.mpr q)
        rw [if_neg hc, if_neg hc, if_neg hc] at r
        refine ⟨by unfold pE pR pC; rw [if_neg hF, if_neg hF, if_neg hF, if_neg hw, f2]; exact r, fun q => absurd q hF⟩
    · rw [if_neg h4]
      by_cases hk : rnOk g (p + pN g p) = false
      · rw [if_pos hk]
        have f1 : ¬ pF g p = true := by unfold pF pO1; rw [if_neg hw, if_neg h4, hk]; simp
        have f2 : pB g p = rnE g (p + pN g p) := by unfold pB pO1; rw [if_neg hw, if_pos (Or.inr hk)]; rfl
        exact ⟨by unfold pE pR pC; rw [if_neg f1, if_neg f1, if_neg f1, if_neg hw, f2]; exact (bad_o o1).1, fun q => absurd q f1⟩
      · rw [if_neg hk]
        have hk' : rnOk g (p + pN g p) = true := by simpa using hk
        have f1 : pF g p = true ↔ rnOk g (pE1 g p) = true ∧ g (rnE g (pE1 g p)) = 59 := by unfold pF pO1 pO2 pE2; rw [if_neg hw, if_neg h4, hk']; simp
        have f2 : pB g p = rnE g (pE1 g p) := by unfold pB pO1; rw [if_neg hw, if_neg (fun q => q.elim h4 hk)]; rfl
        have v0 : (rnM (rnM τ g (p + pN g p) 0) g (pE1 g p) 1).1 5 0 = pV1 g p := by rw [n2.2.2.2 0 (by decide)]; exact n1.2.2.1 hk'
        obtain ⟨r, r5⟩ := fin_o (g := g) (v1 := pV1 g p) (pV2 g p) (ok := rnOk g (pE1 g p)) o2 (fun hok => ⟨v0, Or.inr (n2.2.2.1 hok)⟩)
        by_cases hF : pF g p = true
        · have hc := f1.mp hF
          rw [if_pos hc, if_pos hc, if_pos hc] at r
          refine ⟨by unfold pE pR pC; rw [if_pos hF, if_pos hF, if_pos hF, f2]; exact r, fun _ => ⟨?_, Or.inr ?_⟩⟩
          · exact (congrFun r5 0).trans v0
          · exact (congrFun r5 1).trans (n2.2.2.1 hc.1)
        · have hc := fun q => hF (f1.mpr q)
          rw [if_neg hc, if_neg hc, if_neg hc] at r
          refine ⟨by unfold pE pR pC; rw [if_neg hF, if_neg hF, if_neg hF, if_neg hw, f2]; exact r, fun q => absurd q hF⟩
theorem pE_le (g : Nat → Int32) (p : Nat) : pE g p ≤ p + 87 := by
  have l0 := lrn0_le g p
  have l1 := rnE_le g (p + pN g p)
  have l2 := rnE_le g (pE1 g p)
  have e1 : pN g p = lrn0 g p := rfl
  have e2 : pE1 g p = rnE g (p + pN g p) := rfl
  have e3 : pE2 g p = rnE g (pE1 g p) := rfl
  have hB : pB g p ≤ p + 86 := by unfold pB; split <;> (try split) <;> omega
  unfold pE
  split <;> omega
theorem rnE_ge (g : Nat → Int32) (e : Nat) : e ≤ rnE g e := by unfold rnE; split <;> (try split) <;> (try split) <;> omega
/-- an order of the right form takes at least a character -/
theorem pE_gt {g : Nat → Int32} {p : Nat} (h : pR g p = 0) : p < pE g p := by
  have hF : pF g p = true := by
    cases hb : pF g p with
    | true => rfl
    | false => unfold pR at h; rw [hb, if_neg (by decide)] at h; exact absurd h (by decide)
  have l1 := rnE_ge g (p + pN g p)
  have l2 := rnE_ge g (pE1 g p)
  have e2 : pE1 g p = rnE g (p + pN g p) := rfl
  have e3 : pE2 g p = rnE g (pE1 g p) := rfl
  unfold pE
  rw [if_pos hF]
  unfold pB
  split <;> (try split) <;> omega
/-- where the orders begin -/
def ps (g : Nat → Int32) : Nat → Nat
  | 0 => 0
  | i + 1 => pE g (ps g i)
theorem ps_le (g : Nat → Int32) : ∀ i, ps g i ≤ 87 * i
  | 0 => Nat.le_refl 0
  | i + 1 => by
    have h1 := ps_le g i
    have h2 := pE_le g (ps g i)
    show pE g (ps g i) ≤ _
    omega
/-- the orders end, or one has a fault -/
def psQ (g : Nat → Int32) (t i : Nat) : Bool := decide (t ≤ ps g i) || !decide (pR g (ps g i) = 0)
theorem fstF_lt {p : Nat → Bool} : ∀ {n : Nat}, fstF p n = n → ∀ i, i < n → p i = false
  | 0, _, i, h => absurd h (Nat.not_lt_zero i)
  | n + 1, hn, i, hi => by
    unfold fstF at hn
    have hle := fstF_le p n
    by_cases h1 : fstF p n < n
    · rw [if_pos h1] at hn; omega
    · rw [if_neg h1] at hn
      by_cases h2 : p n = true
      · rw [if_pos h2] at hn; omega
      · by_cases hin : i = n
        · rw [hin]; simpa using h2
        · exact fstF_lt (n := n) (by omega) i (by omega)
theorem ps_ge {g : Nat → Int32} {t : Nat} : ∀ {n : Nat}, fstF (psQ g t) n = n → n ≤ ps g n
  | 0, _ => Nat.le_refl 0
  | n + 1, h => by
    have h0 := fstF_lt h n (Nat.lt_succ_self n)
    have hn : fstF (psQ g t) n = n := by
      have hle := fstF_le (psQ g t) n
      unfold fstF at h
      by_cases h1 : fstF (psQ g t) n < n
      · rw [if_pos h1] at h; omega
      · omega
    have ih := ps_ge hn
    unfold psQ at h0
    simp only [Bool.or_eq_false_iff, Bool.not_eq_false', decide_eq_true_eq] at h0
    have := pE_gt h0.2
    show n + 1 ≤ pE g (ps g n)
    omega
def hfM (σ : fM) (t : Nat) : Nat → fM
  | 0 => σ
  | i + 1 => roM (hfM σ t i) t (ps (chr σ t) i)
theorem ord_tx {σ τ : fM} {t p e : Nat} {w r c : Int32} (h : ord σ τ p e w r c) (ht : tx σ t) : tx τ t ∧ chr τ t = chr σ t :=
  ⟨tx_cg (h.2.1 4 (by decide) (by decide)) h.2.2.1 ht, chr_cg (h.2.1 4 (by decide) (by decide)) t⟩
theorem hfM_tx {σ : fM} {t : Nat} (ht : tx σ t) : ∀ i, tx (hfM σ t i) t ∧ chr (hfM σ t i) t = chr σ t
  | 0 => ⟨ht, rfl⟩
  | i + 1 => by
    obtain ⟨h1, h2⟩ := hfM_tx ht i
    obtain ⟨h3, h4⟩ := ord_tx (roM_o (hfM σ t i) t (ps (chr σ t) i)).1 h1
    exact ⟨h3, h4.trans h2⟩
/-- at which order the text ends or has its fault -/
def fti (g : Nat → Int32) (t : Nat) : Nat := fstF (psQ g t) 81
def hasF (g : Nat → Int32) (t : Nat) : Bool := decide (ps g (fti g t) < t)
def hfR (σ : fM) (t : Nat) : fM := if hasF (chr σ t) t = true then hfM σ t (fti (chr σ t) t + 1) else hfM σ t (fti (chr σ t) t)

set_option maxRecDepth 100000 in
set_option maxHeartbeats 4000000 in
theorem ct_X4_hasFault {l : Launch} {X : fX} {σ : fM} {t : Nat} (ht : tx σ t) : Ct l X yX4_hasFault cX4_hasFault 3 (some .boolean) 7 [ra X 3] σ (some (.int (bi (hasF (chr σ t) t)))) (hfR σ t) := by
  refine Ct.of RX4 rfl (by decide) (Nat.le_of_ble_eq_true rfl) ?_
  intro x hL h hr
  refine g_sub [(0, ra X 3)] ⟨rfl, trivial⟩ ?_
  have h80t := ht.2.1
  have LOOP : ∀ (q i : Nat), i + q = 80 → fstF (psQ (chr σ t) t) i = i → G x X (hfM σ t i) [(0, ra X 3), (1, .int (nI (ps (chr σ t) i))), (2, .int (nI i))] [] 4 := by
    intro q
    induction q with
    | zero =>
      intro i hi hfi
      have hie : i = 80 := by omega
      rw [hie] at hfi ⊢
      have h80 := ps_ge hfi
      have hn80 : ¬ ps (chr σ t) 80 < t := by omega
      have e80 : fti (chr σ t) t = 80 := fstF_at (p := psQ (chr σ t) t) hfi (by unfold psQ; rw [decide_eq_true (Nat.not_lt.mp hn80)]; rfl) (by decide)
      refine g_iload_n h dX4_hasFault_4 rfl ?_
      refine g_bipush (v := 80) h dX4_hasFault_5 (by decide) ?_
      refine g_icge h 43 dX4_hasFault_7 (by decide) (fun c7 => ?_) (fun c7 => absurd (Int32.le_refl _) c7)
      refine g_iconst (v := 0) h dX4_hasFault_43 (by decide) ?_
      exact g_zret h hr (by first | rfl | exact bi_n _) dX4_hasFault_44 (by unfold hasF; rw [e80, decide_eq_false hn80]; decide) (by unfold hfR hasF; rw [e80, decide_eq_false hn80, if_neg (by decide)])
    | succ q ih =>
      intro i hi hfi
      have hlt : i < 80 := by omega
      have hti := hfM_tx ht i
      have hpl := ps_le (chr σ t) i
      refine g_iload_n h dX4_hasFault_4 rfl ?_
      refine g_bipush (v := 80) h dX4_hasFault_5 (by decide) ?_
      refine g_icge h 43 dX4_hasFault_7 (by decide) (fun c7 => absurd c7 (nI_ge (b := 80) hlt (by decide))) (fun c7 => ?_)
      refine g_iload_n h dX4_hasFault_10 rfl ?_
      refine g_aload_n h dX4_hasFault_11 rfl ?_
      refine gf4_19 h  dX4_hasFault_12 ?_
      refine g_icge h 43 dX4_hasFault_15 (by decide) (fun c15 => ?_) (fun c15 => ?_)
      · rw [hti.1.1] at c15
        have hpt : t ≤ ps (chr σ t) i := (nI_leI (by have := ht.2.1; omega) (by omega)).mp c15
        have e : fti (chr σ t) t = i := fstF_at (p := psQ (chr σ t) t) hfi (by simp [psQ, hpt]) (by omega)
        refine g_iconst (v := 0) h dX4_hasFault_43 (by decide) ?_
        exact g_zret h hr (by first | rfl | exact bi_n _) dX4_hasFault_44 (by unfold hasF; rw [e, decide_eq_false (Nat.not_lt.mpr hpt)]; decide) (by unfold hfR hasF; rw [e, decide_eq_false (Nat.not_lt.mpr hpt), if_neg (by decide)])
      · rw [hti.1.1] at c15
        have hpt : ps (chr σ t) i < t := Nat.not_le.mp (fun q => c15 ((nI_leI (by have := ht.2.1; omega) (by omega)).mpr q))
        refine g_aload_n h dX4_hasFault_18 rfl ?_
        refine g_iload_n h dX4_hasFault_19 rfl ?_
        refine cl4_23 h  (ct_X4_readOrder hti.1 (by omega)) rfl dX4_hasFault_20 rfl (Nat.le_of_ble_eq_true rfl) (by decide) ?_
        have hro := (roM_o (hfM σ t i) t (ps (chr σ t) i)).1
        rw [hti.2] at hro
        have hR : (roM (hfM σ t i) t (ps (chr σ t) i)).1 3 6 = pR (chr σ t) (ps (chr σ t) i) := hro.2.2.2.2.2.2.1
        have hE : (roM (hfM σ t i) t (ps (chr σ t) i)).1 3 4 = nI (ps (chr σ t) (i + 1)) := hro.2.2.2.2.1
        refine g_aload_n h dX4_hasFault_23 rfl ?_
        refine gf4_27 h  dX4_hasFault_24 ?_
        refine g_top (pR (chr σ t) (ps (chr σ t) i)) hR ?_
        refine g_ifeq h 32 dX4_hasFault_27 (by decide) (fun c27 => ?_) (fun c27 => ?_)
        · refine g_aload_n h dX4_hasFault_32 rfl ?_
          refine gf4_30 h  dX4_hasFault_33 ?_
          refine g_istore_n h dX4_hasFault_36 (by rw [hL]; decide) ?_
          refine g_iincN h dX4_hasFault_37 rfl (by rw [hL]; decide) ?_
          refine g_goto h 4 dX4_hasFault_40 (by decide) ?_
          refine g_mem (hfM σ t (i + 1)) rfl ?_
          refine g_sub [(0, ra X 3), (1, .int (nI (ps (chr σ t) (i + 1)))), (2, .int (nI (i + 1)))] ⟨rfl, (congrArg (fun z => some (Value.int z)) hE), rfl, trivial⟩ ?_
          exact ih (i + 1) (by omega) (fstF_no hfi (by simp [psQ, c27]; omega))
        · have e : fti (chr σ t) t = i := fstF_at (p := psQ (chr σ t) t) hfi (by simp [psQ, c27]) (by omega)
          refine g_iconst (v := 1) h dX4_hasFault_30 (by decide) ?_
          exact g_zret h hr (by first | rfl | exact bi_n _) dX4_hasFault_31 (by unfold hasF; rw [e, decide_eq_true hpt]; decide) (by unfold hfR hasF; rw [e, decide_eq_true hpt, if_pos rfl]; rfl)
  refine g_iconst (v := 0) h dX4_hasFault_0 (by decide) ?_
  refine g_istore_n h dX4_hasFault_1 (by rw [hL]; decide) ?_
  refine g_iconst (v := 0) h dX4_hasFault_2 (by decide) ?_
  refine g_istore_n h dX4_hasFault_3 (by rw [hL]; decide) ?_
  refine g_sub [(0, ra X 3), (1, .int (nI (ps (chr σ t) 0))), (2, .int (nI 0))] ⟨rfl, lk_0, lk_0, trivial⟩ ?_
  exact LOOP 80 0 (by omega) rfl

def cFault (σ : fM) (t : Nat) (w : Int32) : Int32 × fM := if wi w 0 2 = false then (kBad, σ) else if hasF (chr σ t) t = false then (kNone, hfR σ t)
  else ((hfR σ t).1 3 (if ix w = 0 then 3 else if ix w = 1 then 6 else 7), hfR σ t)

set_option maxRecDepth 100000 in
set_option maxHeartbeats 4000000 in
theorem ct_X5_fault {l : Launch} {X : fX} {σ : fM} {t : Nat} (ht : tx σ t) {w : Int32} : Ct l X yX5_fault cX5_fault 2 (some .int) 8 [ra X 0, .int w] σ (some (.int (cFault σ t w).1)) (cFault σ t w).2 := by
  refine Ct.of RX5 rfl (by decide) (Nat.le_of_ble_eq_true rfl) ?_
  intro x hL h hr
  refine g_sub [(0, ra X 0), (1, .int w)] ⟨rfl, rfl, trivial⟩ ?_
  refine g_iload_n h dX5_fault_0 rfl ?_
  refine g_iconst (v := 0) h dX5_fault_1 (by decide) ?_
  refine g_iconst (v := 2) h dX5_fault_2 (by decide) ?_
  refine cl5_33 h (ct_X5_isWithin) rfl dX5_fault_3 rfl (Nat.le_of_ble_eq_true rfl) (by decide) ?_
  refine g_ifneB h 12 dX5_fault_6 (by decide) (fun c6 => ?_) (fun c6 => ?_)
  · obtain ⟨w, hw, rfl⟩ := wi_ix (n := 2) (by decide) (by decide) c6
    have hiw : (nI w).toNatClampNeg = w := nI_clamp (by omega)
    refine g_aload_n h dX5_fault_12 rfl ?_
    refine gf5_29 h  dX5_fault_13 ?_
    refine cl5_233 h  (ct_X4_hasFault ht) rfl dX5_fault_16 rfl (Nat.le_of_ble_eq_true rfl) (by decide) ?_
    refine g_ifneB h 25 dX5_fault_19 (by decide) (fun c19 => ?_) (fun c19 => ?_)
    · refine g_iload_n h dX5_fault_25 rfl ?_
      rcases (show w = 0 ∨ w = 1 ∨ w = 2 by omega) with rfl | rfl | rfl
      · refine g_lsw h 52 dX5_fault_26 (by decide) (off := 26) (by decide) (by decide) ?_
        refine g_aload_n h dX5_fault_52 rfl ?_
        refine gf5_29 h  dX5_fault_53 ?_
        refine gf5_236 h  dX5_fault_56 ?_
        exact g_iret h hr dX5_fault_59 (by simp [cFault, ix, hiw, c6, c19]) (by simp [cFault, ix, hiw, c6, c19])
      · refine g_lsw h 60 dX5_fault_26 (by decide) (off := 34) (by decide) (by decide) ?_
        refine g_aload_n h dX5_fault_60 rfl ?_
        refine gf5_29 h  dX5_fault_61 ?_
        refine gf5_239 h  dX5_fault_64 ?_
        exact g_iret h hr dX5_fault_67 (by simp [cFault, ix, hiw, c6, c19]) (by simp [cFault, ix, hiw, c6, c19])
      · refine g_lsw h 68 dX5_fault_26 (by decide) (off := 42) (by decide) (by decide) ?_
        refine g_aload_n h dX5_fault_68 rfl ?_
        refine gf5_29 h  dX5_fault_69 ?_
        refine gf5_242 h  dX5_fault_72 ?_
        exact g_iret h hr dX5_fault_75 (by simp [cFault, ix, hiw, c6, c19]) (by simp [cFault, ix, hiw, c6, c19])
    · refine g_ldc h (-1000004) (lw_in 402 (by decide +kernel) rfl) dX5_fault_22 ?_
      exact g_iret h hr dX5_fault_24 (by first | (simp [cFault, kBad, kNot, kLim, kNone, ix, hij, c6, c19]; done) | (simp [cFault, kBad, kNot, kLim, kNone, ix, c6, c19]; done) | (simp_all [cFault, kBad, kNot, kLim, kNone, ix]; done)) (by first | (simp [cFault, kBad, kNot, kLim, kNone, ix, hij, c6, c19]; done) | (simp [cFault, kBad, kNot, kLim, kNone, ix, c6, c19]; done) | (simp_all [cFault, kBad, kNot, kLim, kNone, ix]; done))
  · refine g_ldc h (-1000001) (lw_in 237 (by decide +kernel) rfl) dX5_fault_9 ?_
    exact g_iret h hr dX5_fault_11 (by first | (simp [cFault, kBad, kNot, kLim, kNone, ix, hij, c6]; done) | (simp [cFault, kBad, kNot, kLim, kNone, ix, c6]; done) | (simp_all [cFault, kBad, kNot, kLim, kNone, ix]; done)) (by first | (simp [cFault, kBad, kNot, kLim, kNone, ix, hij, c6]; done) | (simp [cFault, kBad, kNot, kLim, kNone, ix, c6]; done) | (simp_all [cFault, kBad, kNot, kLim, kNone, ix]; done))