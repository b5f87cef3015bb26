/-! what is kept; the class's answers, told by the law's rows -/
section CG
variable {σ τ : fM} {s m B y : Nat} {Q O T V : Nat → Int32}
theorem lrl_cg (hs : s < 6) (e : ∀ q, 6 + 24 * s ≤ q → q < 30 + 24 * s → τ.1 q = σ.1 q) (h : lrl σ s Q O T V m) : lrl τ s Q O T V m := by
  obtain ⟨⟨h1, h2, h3, h4⟩, h5, h6, h7, h8, h9⟩ := h
  have eS : τ.1 (iS s) = σ.1 (iS s) := e _ (by unfold iS; omega) (by unfold iS; omega)
  have eW : τ.1 (iSet s) = σ.1 (iSet s) := e _ (by unfold iSet; omega) (by unfold iSet; omega)
  refine ⟨⟨by rw [eS]; exact h1, by rw [eS]; exact h2, h3, h4⟩, h5, by rw [eS]; exact h6, by rw [eW]; exact h7, fun i hi => ?_, fun l hl => ?_⟩
  · rw [e (iO s i) (by unfold iO; omega) (by unfold iO; omega), e (iT s i) (by unfold iT; omega) (by unfold iT; omega)]
    exact h8 i hi
  · rw [e (iL s l) (by unfold iL; omega) (by unfold iL; omega)]
    exact h9 l hl
theorem lrl_rows {Q' O' T' V' : Nat → Int32} (eQ : ∀ j, j < 8 → Q' j = Q j) (eO : ∀ j, j < 50 → O' j = O j) (eT : ∀ j, j < 40 → T' j = T j) (eV : ∀ j, j < 24 → V' j = V j) (h : lrl σ s Q O T V m) : lrl σ s Q' O' T' V' m := by
  obtain ⟨h1, h5, h6, h7, h8, h9⟩ := h
  have hm := h1.2.2.2
  refine ⟨h1, by rw [eQ 7 (by decide)]; exact h5, by rw [eQ 4 (by decide), eQ 3 (by decide), eQ 5 (by decide), eQ 6 (by decide)]; exact h6, fun j hj => by rw [eQ j (by omega)]; exact h7 j hj, fun i hi => ⟨fun p hp => by rw [eO _ (by omega)]; exact (h8 i hi).1 p hp, fun p hp hq => by rw [eO _ (by omega)]; exact (h8 i hi).2.1 p hp hq, fun q hq => by rw [eT _ (by omega)]; exact (h8 i hi).2.2 q hq⟩, fun l hl j hj => by rw [eV _ (by omega)]; exact h9 l hl j hj⟩
theorem lgd_rows {Q' O' T' V' : Nat → Int32} (hm : m ≤ 8) (eQ : ∀ j, j < 8 → Q' j = Q j) (eO : ∀ j, j < 50 → O' j = O j) (eT : ∀ j, j < 40 → T' j = T j) (eV : ∀ j, j < 24 → V' j = V j) (g : lgd Q O T V m B y) : lgd Q' O' T' V' m B y := by
  obtain ⟨g1, g2, ⟨p, g3, g4⟩, g5⟩ := g
  refine ⟨by rw [eQ 0 (by decide), eQ 1 (by decide), eQ 2 (by decide), eQ 3 (by decide)]; exact g1, fun i hi => ?_, ⟨p, fun i hi => by rw [eO _ (by omega)]; exact g3 i hi, g4⟩, fun l hl => ?_⟩
  · unfold lgo
    rw [eO (10 * i) (by omega), eO (10 * i + 1) (by omega), eO (10 * i + 3) (by omega), eO (10 * i + 6) (by omega), eO (10 * i + 4) (by omega), eO (10 * i + 5) (by omega)]
    obtain ⟨a1, a2, a3, a4, a5, a6, a7⟩ := g2 i hi
    exact ⟨a1, a2, a3, a4, a5, a6, fun q hq => by rw [eT _ (by omega)]; exact a7 q hq⟩
  · rw [eV (3 * l) (by omega), eV (3 * l + 1) (by omega), eV (3 * l + 2) (by omega)]
    exact g5 l hl
theorem lrl_fore (a : Int32) (h : lrl σ s Q O T V m) : lrl (fore σ s 5 a) s Q O T V m := by
  obtain ⟨hc, h5, h6, h7, h8, h9⟩ := h
  have hm8 := hc.2.2.2
  refine ⟨fore_cnt a hc, h5, ?_, fun j hj => ?_, fun i hi => ⟨fun p hp => ?_, fun p hp hq => ?_, fun q hq => ?_⟩, fun l hl j hj => ?_⟩
  · rw [fore_ne a (fun i hi => iO_S s i s (by omega))]; exact h6
  · rw [fore_ne a (fun i hi => iO_Set s i s (by omega))]; exact h7 j hj
  · rw [fore_O a hi, foR2_n _ _ _ _ _ _ (by omega) (by omega)]; exact (h8 i hi).1 p hp
  · rw [fore_O a hi, foR2_n _ _ _ _ _ _ (by omega) (by omega)]; exact (h8 i hi).2.1 p hp hq
  · rw [fore_ne a (fun j hj => iO_T s j s i)]; exact (h8 i hi).2.2 q hq
  · rw [fore_ne a (fun i hi => (iL_O s l s i (by omega) (by omega)).symm)]; exact h9 l hl j hj
theorem lrl_copy {s2 : Nat} (hss : s2 ≠ s) (h : lrl σ s2 Q O T V m) : lrl (copyM σ s s2 5 m) s Q O T V m := by
  obtain ⟨hc, h5, ⟨e5, e6, e7, e8⟩, hW, hO, hL⟩ := h
  have hn : 5 ≤ 6 := by decide
  have hm := hc.2.2.2
  refine ⟨⟨by rw [copyM_S hss hn hm (by decide) (by decide)]; exact hc.1, by rw [copyM_S hss hn hm (by decide) (by decide)]; exact hc.2.1, hn, hm⟩, h5, ⟨by rw [copyM_S hss hn hm (by decide) (by decide)]; exact e5, by rw [copyM_S hss hn hm (by decide) (by decide)]; exact e6, by rw [copyM_S hss hn hm (by decide) (by decide)]; exact e7, by rw [copyM_S hss hn hm (by decide) (by decide)]; exact e8⟩, fun j hj => ?_, fun i hi => ⟨fun p hp => ?_, fun p hp hq => ?_, fun q hq => ?_⟩, fun l hl j hj => ?_⟩
  · rw [copyM_Set hn hm, cpy_lt hj]; exact hW j hj
  · rw [copyM_O hss hn hm hi, oCopy_j _ _ (by omega)]; exact (hO i hi).1 p hp
  · rw [copyM_O hss hn hm hi, oCopy_j _ _ (by omega)]; exact (hO i hi).2.1 p hp hq
  · rw [copyM_T hss hn hm hi, cpy_lt (by omega)]; exact (hO i hi).2.2 q hq
  · rw [copyM_L hss hn hm hl, lCopy_j _ _ hj]; exact hL l hl j hj
end CG
/-- seats -/
def lse (σ : fM) : Prop := (∀ i, i < 5 → ¬ σ.1 (iO 0 i) 3 = -1 → σ.1 (iO 0 i) 4 = 0 ∨ σ.1 (iO 0 i) 4 = 1) ∧ ∀ i j, i < 5 → j < 5 → i ≠ j → ¬ σ.1 (iO 0 i) 3 = -1 → σ.1 (iO 0 i) 3 = σ.1 (iO 0 j) 3 → ¬ σ.1 (iO 0 i) 4 = σ.1 (iO 0 j) 4
theorem lse_cg {σ τ : fM} (e : ∀ i, i < 5 → τ.1 (iO 0 i) 3 = σ.1 (iO 0 i) 3 ∧ τ.1 (iO 0 i) 4 = σ.1 (iO 0 i) 4) (h : lse σ) : lse τ :=
  ⟨fun i hi => by rw [(e i hi).1, (e i hi).2]; exact h.1 i hi, fun i j hi hj hij => by rw [(e i hi).1, (e i hi).2, (e j hj).1, (e j hj).2]; exact h.2 i j hi hj hij⟩
def lKv (σ : fM) (Q O T V : Nat → Int32) (m B y : Nat) : Prop := lrl σ 0 Q O T V m ∧ lgd Q O T V m B y ∧ lse σ ∧ ∃ f z, pst σ f z
def MM (μ : fM) (Q O T V w : Nat → Int32) : Prop := μ.1 150 = Q ∧ μ.1 151 = O ∧ μ.1 152 = T ∧ μ.1 153 = V ∧ μ.1 154 = w
theorem MM.self {μ : fM} {Q O T V w : Nat → Int32} (h : MM μ Q O T V w) : put5 μ 0 Q O T V w = μ := p5_self h.1 h.2.1 h.2.2.1 h.2.2.2.1 h.2.2.2.2
/-- what is kept, with the law's rows in their places -/
def KM (μ : fM) (Q O T V w : Nat → Int32) (m B y : Nat) : Prop := lKv μ Q O T V m B y ∧ MM μ Q O T V w
section KEEP
variable {μ τ : fM} {Q O T V w : Nat → Int32} {m B y : Nat}
theorem KM.m8 (K : KM μ Q O T V w m B y) : m ≤ 8 := K.1.1.1.2.2.2
theorem KM.gst (K : KM μ Q O T V w m B y) : gst μ 0 5 m := lrl_gst K.1.1 K.1.2.1
theorem KM.H (K : KM μ Q O T V w m B y) (hB : B < 2 ^ 24) : lH O T := K.1.2.1.H (by omega)
theorem KM.n5 (K : KM μ Q O T V w m B y) : μ.1 (iS 0) 3 = nI 5 := K.1.1.1.1
theorem KM_cg (e : ∀ q, q = 1 ∨ (6 ≤ q ∧ q < 30) ∨ (150 ≤ q ∧ q < 155) → τ.1 q = μ.1 q) (K : KM μ Q O T V w m B y) : KM τ Q O T V w m B y := by
  obtain ⟨⟨h1, h2, h3, f, z, h4, h5, h6⟩, ⟨m1, m2, m3, m4, m5⟩⟩ := K
  refine ⟨⟨lrl_cg (by decide) (fun q a b => e q (by omega)) h1, h2, lse_cg (fun i hi => by rw [e (iO 0 i) (by unfold iO; omega)]; exact ⟨rfl, rfl⟩) h3, f, z, by rw [e 1 (by decide)]; exact h4, by rw [e 1 (by decide)]; exact h5, h6⟩, ?_⟩
  exact ⟨(e 150 (by decide)).trans m1, (e 151 (by decide)).trans m2, (e 152 (by decide)).trans m3, (e 153 (by decide)).trans m4, (e 154 (by decide)).trans m5⟩
theorem KM_fore (a : Int32) (K : KM μ Q O T V w m B y) : KM (fore μ 0 5 a) Q O T V w m B y := by
  obtain ⟨⟨h1, h2, h3, f, z, h4, h5, h6⟩, ⟨m1, m2, m3, m4, m5⟩⟩ := K
  have e : ∀ q, q < 6 ∨ 30 ≤ q → (fore μ 0 5 a).1 q = μ.1 q := fun q hq => fore_out a (by decide) (by omega)
  exact ⟨⟨lrl_fore a h1, h2, lse_cg (fun i hi => by rw [fore_O a hi, foR2_n _ _ _ _ _ _ (by decide) (by decide), foR2_n _ _ _ _ _ _ (by decide) (by decide)]; exact ⟨rfl, rfl⟩) h3, f, z, by rw [e 1 (by decide)]; exact h4, by rw [e 1 (by decide)]; exact h5, h6⟩,
    (e 150 (by decide)).trans m1, (e 151 (by decide)).trans m2, (e 152 (by decide)).trans m3, (e 153 (by decide)).trans m4, (e 154 (by decide)).trans m5⟩
theorem wi5 : ∀ k, k < 5 → wi (nI k) 0 (nI 5 - 1) = true := by decide +kernel
theorem wi10 : ∀ w, w ≤ 10 → wi (nI w) 0 10 = true := by decide +kernel
theorem isA64 : ∀ a, a < 64 → isA (nI a) = true := by decide +kernel
theorem ix_n {k : Nat} (h : k < 2 ^ 31) : ix (nI k) = k := nI_clamp h
theorem tne {b : Bool} (h : b = true) : ¬ b = false := by rw [h]; decide
/-- an oracle is asked -/
def ooV (μ : fM) (m k w : Nat) : Int32 := if w = 3 then (if oSeat (μ.1 (iO 0 k)) = true then μ.1 (iO 0 k) 3 else kNone) else if w = 4 then (if oSeat (μ.1 (iO 0 k)) = true then μ.1 (iO 0 k) 4 else kNone)
  else if w = 9 then sumF 0 (fun l => if μ.1 (iL 0 l) 1 = nI k then μ.1 (iL 0 l) 2 else 0) m else if w = 10 then sumF 0 (fun l => if μ.1 (iL 0 l) 0 = nI k then μ.1 (iL 0 l) 2 else 0) m else μ.1 (iO 0 k) w
theorem oo_eq (K : KM μ Q O T V w m B y) {k j : Nat} (hk : k < 5) (hj : j ≤ 10) : cOracleOf μ 5 m (nI k) (nI j) = (ooV μ m k j, μ) := by
  unfold cOracleOf
  rw [K.n5, if_neg (tne (wi5 k hk)), if_neg (tne (wi10 j hj)), ix_n (by omega), ix_n (by omega)]
  rfl
section CT
variable {l : Launch} {X : fX}
theorem c5_oo (K : KM μ Q O T V w m B y) {k j : Nat} (hk : k < 5) (hj : j ≤ 10) {v : Int32} (hv : ooV μ m k j = v) : Ct l X yX5_oracleOf cX5_oracleOf 4 (some .int) 2 [ra X 0, .int (nI k), .int (nI j)] (put5 μ 0 Q O T V w) (some (.int v)) (put5 μ 0 Q O T V w) := by
  rw [K.2.self]
  have h := ct_X5_oracleOf (l := l) (X := X) K.gst (o := nI k) (w := nI j)
  rw [oo_eq K hk hj] at h
  rw [← hv]
  exact h
def lOw (V : Nat → Int32) (k : Nat) : Nat → Int32 := sumF 0 (fun l => if V (3 * l + 1) = nI k then V (3 * l + 2) else 0)
def lOd (V : Nat → Int32) (k : Nat) : Nat → Int32 := sumF 0 (fun l => if V (3 * l) = nI k then V (3 * l + 2) else 0)
theorem oo_2 (K : KM μ Q O T V w m B y) {k : Nat} (hk : k < 5) : ooV μ m k 2 = O (10 * k + 2) := (K.1.1.2.2.2.2.1 k hk).1 2 (by decide)
theorem oo_3 (K : KM μ Q O T V w m B y) {k : Nat} (hk : k < 5) : ooV μ m k 3 = if 0 ≤ O (10 * k + 3) then O (10 * k + 3) else -1000004 := by
  have e : μ.1 (iO 0 k) 3 = O (10 * k + 3) := (K.1.1.2.2.2.2.1 k hk).1 3 (by decide)
  unfold ooV oSeat
  rw [if_pos rfl, e]
  rcases (K.1.2.1.2.1 k hk).2.2.2.1 with q | ⟨b, hb, q⟩
  · rw [q]; decide
  · rw [q]
    rcases (show b = 0 ∨ b = 1 ∨ b = 2 by omega) with rfl | rfl | rfl <;> decide
theorem oo_p (K : KM μ Q O T V w m B y) {k p : Nat} (hk : k < 5) (h4 : 4 ≤ p) (h8 : p < 8) : ooV μ m k (p + 1) = O (10 * k + p) := by
  unfold ooV
  rw [if_neg (by omega), if_neg (by omega), if_neg (by omega), if_neg (by omega)]
  exact (K.1.1.2.2.2.2.1 k hk).2.1 p h4 h8
theorem oo_9 (K : KM μ Q O T V w m B y) (k : Nat) : ooV μ m k 9 = lOw V k m := sumF_cg (fun i hi => by
  rw [K.1.1.2.2.2.2.2 i hi 1 (by decide), K.1.1.2.2.2.2.2 i hi 2 (by decide)])
theorem oo_10 (K : KM μ Q O T V w m B y) (k : Nat) : ooV μ m k 10 = lOd V k m := sumF_cg (fun i hi => by
  have e0 : μ.1 (iL 0 i) 0 = V (3 * i) := K.1.1.2.2.2.2.2 i hi 0 (by decide)
  rw [e0, K.1.1.2.2.2.2.2 i hi 2 (by decide)])
theorem c5_says (K : KM μ Q O T V w m B y) (hB : B < 2 ^ 24) {k a : Nat} (hk : k < 5) (ha : a < 64) : Ct l X yX5_says cX5_says 3 (some .int) 4 [ra X 0, .int (nI k), .int (nI a)] (put5 μ 0 Q O T V w) (some (.int (lY Q O T (nI a) k))) (put5 (fore μ 0 5 (nI a)) 0 Q O T V w) := by
  rw [K.2.self, (KM_fore (nI a) K).2.self]
  have h := ct_X5_says (l := l) (X := X) K.gst (o := nI k) (a := nI a)
  have e : cSays μ 5 (nI k) (nI a) = (lY Q O T (nI a) k, fore μ 0 5 (nI a)) := by
    unfold cSays
    rw [K.n5, if_neg (tne (wi5 k hk)), if_neg (tne (isA64 a ha)), ix_n (by omega), (fo_l K.1.1 (K.H hB).K (nI a) hk).1]
  rw [e] at h
  exact h
theorem c5_stake (K : KM μ Q O T V w m B y) (hB : B < 2 ^ 24) {k a : Nat} (hk : k < 5) (ha : a < 64) : Ct l X yX5_stake cX5_stake 3 (some .int) 4 [ra X 0, .int (nI k), .int (nI a)] (put5 μ 0 Q O T V w) (some (.int (lS Q O T (nI a) k))) (put5 (fore μ 0 5 (nI a)) 0 Q O T V w) := by
  rw [K.2.self, (KM_fore (nI a) K).2.self]
  have h := ct_X5_stake (l := l) (X := X) K.gst (o := nI k) (a := nI a)
  have e : cStake μ 5 (nI k) (nI a) = (lS Q O T (nI a) k, fore μ 0 5 (nI a)) := by
    unfold cStake
    rw [K.n5, if_neg (tne (wi5 k hk)), if_neg (tne (isA64 a ha)), ix_n (by omega), (fo_l K.1.1 (K.H hB).K (nI a) hk).2]
  rw [e] at h
  exact h
def lCt (O T : Nat → Int32) (k i : Nat) : Int32 := if oTab (ro O k) = true then (if 1 <<< (O (10 * k + 1) &&& 31) ≤ nI i then -1000004 else T (8 * k + i)) else -1000004
theorem c5_counter (K : KM μ Q O T V w m B y) {k i : Nat} (hk : k < 5) (hi : i < 8) : Ct l X yX5_counter cX5_counter 4 (some .int) 2 [ra X 0, .int (nI k), .int (nI i)] (put5 μ 0 Q O T V w) (some (.int (lCt O T k i))) (put5 μ 0 Q O T V w) := by
  rw [K.2.self]
  have h := ct_X5_counter (l := l) (X := X) K.gst (o := nI k) (i := nI i)
  have e : cCounter μ (nI k) (nI i) = (lCt O T k i, μ) := by
    have eT := oTab_cg (f := ro O k) (f' := μ.1 (iO 0 k)) (K.1.1.ro hk (by decide))
    have e1 : μ.1 (iO 0 k) 1 = O (10 * k + 1) := K.1.1.ro hk (p := 1) (by decide)
    unfold cCounter oSize lCt
    rw [K.n5, if_neg (tne (wi5 k hk)), if_neg (fun q => q (nI_pos' (by omega))), ix_n (by omega), ix_n (by omega), eT, e1, (K.1.1.2.2.2.2.1 k hk).2.2 i hi]
    by_cases ht : oTab (ro O k) = true
    · rw [if_pos ht, if_pos ht]
      by_cases hs : (1 : Int32) <<< (O (10 * k + 1) &&& 31) ≤ nI i
      · rw [if_pos hs, if_pos hs]; rfl
      · rw [if_neg hs, if_neg hs]
    · rw [if_neg ht, if_neg ht, if_pos (nI_pos' (by omega))]; rfl
  rw [e] at h
  exact h
theorem c5_loanOf (K : KM μ Q O T V w m B y) {j i : Nat} (hj : j < m) (hi : i < 3) : Ct l X yX5_loanOf cX5_loanOf 4 (some .int) 1 [ra X 0, .int (nI j), .int (nI i)] (put5 μ 0 Q O T V w) (some (.int (V (3 * j + i)))) (put5 μ 0 Q O T V w) := by
  rw [K.2.self]
  have h := ct_X5_loanOf (l := l) (X := X) K.gst (i := nI j) (w := nI i)
  have hm8 := K.m8
  have e : cLoanOf μ (nI j) (nI i) = (V (3 * j + i), μ) := by
    have w1 : wi (nI j) 0 (nI m - 1) = true := by
      obtain ⟨m', rfl⟩ : ∃ m', m = m' + 1 := ⟨m - 1, by omega⟩
      rw [nI_pred]
      exact wi_of.mpr ⟨nI_pos (by omega), nI_nlt (by omega) (by omega)⟩
    have w2 : wi (nI i) 0 2 = true := wi_of.mpr ⟨nI_pos (by omega), nI_nlt (a := 2) (by omega) (by decide)⟩
    unfold cLoanOf
    rw [K.1.1.1.2.1, if_neg (tne w1), if_neg (tne w2), ix_n (by omega), ix_n (by omega), K.1.1.2.2.2.2.2 j hj i hi]
  rw [e] at h
  exact h
/-- counts -/
def lCo (Q O : Nat → Int32) (j : Nat) : Int32 := if j = 3 then Q 4 else if j = 4 then sumF (Q 4) (fun i => O (10 * i + 2)) 5 else if j = 5 then Q 3 else if j = 6 then Q 5 else if j = 7 then Q 6 else Q 7
theorem sumF_cga {a b : Int32} {f g : Nat → Int32} (h0 : a = b) : ∀ {n : Nat}, (∀ i, i < n → f i = g i) → sumF a f n = sumF b g n
  | 0, _ => h0
  | n + 1, h => by
    show sumF a f n + f n = sumF b g n + g n
    rw [sumF_cga h0 (fun i hi => h i (Nat.lt_succ_of_lt hi)), h n (Nat.lt_succ_self n)]
theorem c5_count (K : KM μ Q O T V w m B y) {j : Nat} (h3 : 3 ≤ j) (h8 : j ≤ 8) : Ct l X yX5_count cX5_count 2 (some .int) 2 [ra X 0, .int (nI j)] (put5 μ 0 Q O T V w) (some (.int (lCo Q O j))) (put5 μ 0 Q O T V w) := by
  rw [K.2.self]
  have h := ct_X5_count (l := l) (X := X) K.gst (w := nI j)
  have e : cCount μ 5 (nI j) = (lCo Q O j, μ) := by
    have w20 : ¬ wi (nI j) 20 22 = true := by
      rcases (show j = 3 ∨ j = 4 ∨ j = 5 ∨ j = 6 ∨ j = 7 ∨ j = 8 by omega) with rfl | rfl | rfl | rfl | rfl | rfl <;> decide
    obtain ⟨e5, e6, e7, e8⟩ := K.1.1.2.2.1
    unfold cCount lCo
    rw [if_neg w20, if_neg (tne (wi10 j (by omega))), ix_n (by omega), if_neg (by omega), if_neg (by omega), if_neg (by omega), e5, e6, e7, e8, K.1.1.1.2.1, K.1.1.2.1, show sumF (Q 4) (fun i => μ.1 (iO 0 i) 2) 5 = sumF (Q 4) (fun i => O (10 * i + 2)) 5 from sumF_cga rfl (fun i hi => K.1.1.ro hi (p := 2) (by decide))]
    rcases (show j = 3 ∨ j = 4 ∨ j = 5 ∨ j = 6 ∨ j = 7 ∨ j = 8 by omega) with rfl | rfl | rfl | rfl | rfl | rfl <;> rfl
  rw [e] at h
  exact h
end CT
end KEEP
