/-! class and model: what is kept between calls -/
def P1 (σ : fM) (n m B y : Nat) : Prop := sT σ 0 (σ.1 151) n m B y
def P2 (σ : fM) (f z B y : Nat) : Prop := pst σ f z ∧ σ.1 150 3 = nI z ∧ ∀ i, i < z → ∃ n m : Nat, sT σ (2 + (f + i) % 4) (fun q => σ.1 153 (i * 349 + q)) n m B y
def P3 (σ : fM) (t : Nat) : Prop := tx σ t ∧ σ.1 150 5 = nI t ∧ ∀ j, j < t → σ.1 154 j = σ.1 4 j
def Kv (σ : fM) (B y : Nat) : Prop := ∃ n m f z t : Nat, P1 σ n m B y ∧ P2 σ f z B y ∧ P3 σ t
def Iv (σ : fM) (k : Nat) : Prop := Kv σ (10000 * k) (4000 * k)
theorem P1_cg {σ τ : fM} {n m B y : Nat} (e : ∀ q, 6 ≤ q → q < 30 → τ.1 q = σ.1 q) (e2 : τ.2 (iS 0) = σ.2 (iS 0)) (er : ∀ q, q < 349 → τ.1 151 q = σ.1 151 q) (h : P1 σ n m B y) : P1 τ n m B y :=
  sT_cg (by decide) (fun q h1 h2 => e q (by omega) (by omega)) e2 er h
theorem P2_cg {σ τ : fM} {f z B y : Nat} (e1 : τ.1 1 = σ.1 1) (e3 : τ.1 150 3 = σ.1 150 3) (e : ∀ q, 54 ≤ q → q < 150 → τ.1 q = σ.1 q) (e2 : ∀ s, 2 ≤ s → τ.2 (iS s) = σ.2 (iS s)) (e5 : τ.1 153 = σ.1 153) (h : P2 σ f z B y) : P2 τ f z B y := by
  obtain ⟨h1, h2, h3⟩ := h
  refine ⟨⟨by rw [e1]; exact h1.1, by rw [e1]; exact h1.2.1, h1.2.2⟩, by rw [e3]; exact h2, fun i hi => ?_⟩
  obtain ⟨n, m, h⟩ := h3 i hi
  have h4 : (f + i) % 4 < 4 := Nat.mod_lt _ (by decide)
  exact ⟨n, m, sT_cg (by omega) (fun q a b => e q (by omega) (by omega)) (e2 _ (by omega)) (fun q hq => by rw [e5]) h⟩
theorem P2_up {σ : fM} {f z B B' y y' : Nat} (h : P2 σ f z B y) (h1 : B ≤ B') (h2 : y ≤ y') : P2 σ f z B' y' := ⟨h.1, h.2.1, fun i hi => by
  obtain ⟨n, m, q⟩ := h.2.2 i hi
  exact ⟨n, m, sT_up q h1 h2⟩⟩
theorem P3_cg {σ τ : fM} {t : Nat} (e3 : τ.1 3 2 = σ.1 3 2) (e4 : τ.1 4 = σ.1 4) (e5 : τ.1 150 5 = σ.1 150 5) (e6 : τ.1 154 = σ.1 154) (h : P3 σ t) : P3 τ t :=
  ⟨tx_cg e4 e3 h.1, by rw [e5]; exact h.2.1, fun j hj => by rw [e6, e4]; exact h.2.2 j hj⟩
theorem P3_ch {σ : fM} {t : Nat} (h : P3 σ t) : chm σ t = chr σ t := by
  funext p
  unfold chm chr
  split
  · exact h.2.2 p (by assumption)
  · rfl
theorem P3_m {σ : fM} {t : Nat} (h : P3 σ t) : mtx σ t := ⟨h.2.1, h.1.2.1⟩
/-- a copy of a state -/
theorem rel_copy {σ : fM} {s s2 n m B y : Nat} {r : Nat → Int32} (hss : s2 ≠ s) (T : sT σ s2 r n m B y) : sT (copyM σ s s2 n m) s r n m B y := by
  obtain ⟨⟨hc, ⟨e5, e6, e7, e8⟩, hW, hO, hL, e, he⟩, g, b⟩ := T
  have hn := hc.2.2.1
  have hm := hc.2.2.2
  refine ⟨⟨⟨by rw [copyM_S hss hn hm (by decide) (by decide)]; exact hc.1, by rw [copyM_S hss hn hm (by decide) (by decide)]; exact hc.2.1, hn, hm⟩, ⟨by rw [copyM_S hss hn hm (by decide) (by decide)]; exact e5, by rw [copyM_S hss hn hm (by decide) (by decide)]; exact e6, by rw [copyM_S hss hn hm (by decide) (by decide)]; exact e7, by rw [copyM_S hss hn hm (by decide) (by decide)]; exact e8⟩, fun j hj => ?_, fun i hi => ⟨fun p hp h4 => ?_, fun hb => ?_, fun q hq => ?_⟩, fun l hl j hj => ?_, e, he.1, by rw [copyM_2]; exact he.2.1, he.2.2⟩, g, b⟩
  · rw [copyM_Set hn hm]
    unfold cpy
    rw [if_pos hj]; exact hW j hj
  · rw [copyM_O hss hn hm hi, oCopy_j _ _ hp]; exact (hO i hi).1 p hp h4
  · rw [copyM_O hss hn hm hi, oCopy_j _ _ (by decide)]; exact (hO i hi).2.1 hb
  · rw [copyM_T hss hn hm hi]
    unfold cpy
    rw [if_pos hq]; exact (hO i hi).2.2 q hq
  · rw [copyM_L hss hn hm hl, lCopy_j _ _ hj]; exact hL l hl j hj
theorem copyM_2n {σ : fM} {s s2 n m k : Nat} (h : k ≠ iS s) : (copyM σ s s2 n m).2 k = σ.2 k := by
  unfold copyM
  try dsimp only
  show (if k = iS s then _ else _) = _
  rw [if_neg h]
  show (cpyL s s2 _ m).2 _ = _
  rw [cpyL_2]
  show (cpyO s s2 _ n).2 _ = _
  rw [cpyO_2]
  rfl
theorem iS_inj {a b : Nat} (h : iS a = iS b) : a = b := by unfold iS at h; omega
theorem keepM_1 {σ : fM} {f z n m : Nat} (hn : n ≤ 6) (hm : m ≤ 8) (hp : pst σ f z) : pst (keepM σ f z n m) (if z < 4 then f else (f + 1) % 4) (if z < 4 then z + 1 else z) := by
  obtain ⟨h1, h2, h3, h4⟩ := hp
  have hc : (copyM σ (2 + (f + z) % 4) 0 n m).1 1 = σ.1 1 := copyM_ne hn hm (by omega)
  unfold keepM
  try dsimp only
  by_cases hz : z < 4
  · rw [if_pos hz, if_pos hz, if_pos hz]
    exact ⟨by rw [pu_upd, upd_n _ _ _ _ (by decide), hc]; exact h1, by rw [pu_upd, upd_s], h3, by omega⟩
  · rw [if_neg hz, if_neg hz, if_neg hz]
    exact ⟨by rw [pu_upd, upd_s], by rw [pu_upd, upd_n _ _ _ _ (by decide), hc]; exact h2, Nat.mod_lt _ (by decide), h4⟩
theorem keepM_q {σ : fM} {f z n m q : Nat} (hq : q ≠ 1) : (keepM σ f z n m).1 q = (copyM σ (2 + (f + z) % 4) 0 n m).1 q := by
  unfold keepM
  try dsimp only
  split
  · exact pu_ne _ hq
  · exact pu_ne _ hq
theorem keepM_2 {σ : fM} {f z n m : Nat} : (keepM σ f z n m).2 = (copyM σ (2 + (f + z) % 4) 0 n m).2 := by
  unfold keepM
  try dsimp only
  split <;> rfl
theorem mrec_2 (σ : fM) (z : Nat) : (mrec σ z).2 = σ.2 := by unfold mrec; split <;> rfl
theorem mrec_cg {σ τ : fM} {z : Nat} (e1 : τ.1 151 = σ.1 151) (e2 : τ.1 153 = σ.1 153) : (mrec τ z).1 153 = (mrec σ z).1 153 ∧ (mrec τ z).1 150 3 = (mrec σ z).1 150 3 := by
  unfold mrec
  rw [e1, e2]
  split
  · exact ⟨by rw [pu_ne _ (by decide), pu_ne _ (by decide), puR_self, puR_self], by rw [m150_s, m150_s]⟩
  · exact ⟨by rw [pu_ne _ (by decide), pu_ne _ (by decide), puR_self, puR_self], by rw [m150_s, m150_s]⟩
/-- the past behind a change -/
theorem P2_keep {σ τ : fM} {f z n m B y : Nat} (h1 : P1 σ n m B y) (h2 : P2 σ f z B y) (e1 : τ.1 1 = (keepM σ f z n m).1 1) (e : ∀ q, 54 ≤ q → q < 150 → τ.1 q = (keepM σ f z n m).1 q) (eL : ∀ s, 2 ≤ s → τ.2 (iS s) = (keepM σ f z n m).2 (iS s))
    (e3 : τ.1 150 3 = (mrec σ z).1 150 3) (e5 : τ.1 153 = (mrec σ z).1 153) : ∃ f' z', P2 τ f' z' B y := by
  obtain ⟨hp, hz3, hold⟩ := h2
  have hn := h1.2.1.1.2.1
  have hm := h1.2.1.1.2.2.2
  have hp' := keepM_1 hn hm hp
  obtain ⟨hf1, hf2, hf4, hz4⟩ := id hp
  have h4 : (f + z) % 4 < 4 := Nat.mod_lt _ (by decide)
  -- the state that was just kept
  have hnew : ∀ r : Nat → Int32, (∀ q, q < 349 → r q = σ.1 151 q) → sT τ (2 + (f + z) % 4) r n m B y := fun r hr =>
    sT_cg (by omega) (fun q a b => by rw [e q (by omega) (by omega), keepM_q (by omega)]) (by rw [eL _ (by omega), keepM_2]) hr (rel_copy (by omega) h1)
  have hkeep : ∀ i r' , (f + i) % 4 ≠ (f + z) % 4 → ∀ n' m' r, sT σ (2 + (f + i) % 4) r n' m' B y → (∀ q, q < 349 → r' q = r q) → sT τ (2 + (f + i) % 4) r' n' m' B y := fun i r' hne n' m' r h hr => by
    have h4i : (f + i) % 4 < 4 := Nat.mod_lt _ (by decide)
    refine sT_cg (by omega) (fun q a b => by rw [e q (by omega) (by omega), keepM_q (by omega), copyM_ne hn hm (by omega)]) ?_ hr h
    rw [eL _ (by omega), keepM_2, copyM_2n (fun x => hne (by have := iS_inj x; omega))]
  by_cases hz : z = 4
  · have hz' : ¬ z < 4 := by omega
    rw [if_neg hz', if_neg hz'] at hp'
    refine ⟨(f + 1) % 4, z, ⟨by rw [e1]; exact hp'.1, by rw [e1]; exact hp'.2.1, hp'.2.2⟩, ?_, fun i hi => ?_⟩
    · rw [e3]
      unfold mrec
      rw [if_pos hz, m150_s, hz]
    · have e153 : ∀ q, τ.1 153 q = mcp (σ.1 151) (shf (σ.1 153) 1047) 0 (3 * 349) 349 q := fun q => by
        rw [e5]
        unfold mrec
        rw [if_pos hz, pu_ne _ (by decide), puR_self]
      by_cases h3 : i = 3
      · refine ⟨n, m, ?_⟩
        rw [show ((f + 1) % 4 + i) % 4 = (f + z) % 4 by omega]
        refine hnew _ (fun q hq => ?_)
        try dsimp only
        rw [e153]
        unfold mcp
        rw [if_pos (by omega)]
        exact congrArg _ (by omega)
      · obtain ⟨n', m', hs⟩ := hold (i + 1) (by omega)
        refine ⟨n', m', ?_⟩
        rw [show ((f + 1) % 4 + i) % 4 = (f + (i + 1)) % 4 by omega]
        refine hkeep (i + 1) _ (by omega) n' m' _ hs (fun q hq => ?_)
        try dsimp only
        rw [e153]
        unfold mcp
        rw [if_neg (by omega)]
        unfold shf
        rw [if_pos (by omega)]
        exact congrArg _ (by omega)
  · have hz' : z < 4 := by omega
    rw [if_pos hz', if_pos hz'] at hp'
    refine ⟨f, z + 1, ⟨by rw [e1]; exact hp'.1, by rw [e1]; exact hp'.2.1, hp'.2.2⟩, ?_, fun i hi => ?_⟩
    · rw [e3]
      unfold mrec
      rw [if_neg hz, m150_s]
    · have e153 : ∀ q, τ.1 153 q = mcp (σ.1 151) (σ.1 153) 0 (z * 349) 349 q := fun q => by
        rw [e5]
        unfold mrec
        rw [if_neg hz, pu_ne _ (by decide), puR_self]
      by_cases h3 : i = z
      · refine ⟨n, m, ?_⟩
        rw [h3]
        refine hnew _ (fun q hq => ?_)
        try dsimp only
        rw [e153]
        unfold mcp
        rw [if_pos (by omega)]
        exact congrArg _ (by omega)
      · obtain ⟨n', m', hs⟩ := hold i (by omega)
        refine ⟨n', m', ?_⟩
        refine hkeep i _ (by omega) n' m' _ hs (fun q hq => ?_)
        try dsimp only
        rw [e153]
        unfold mcp
        rw [if_neg (by omega)]
theorem P2_z {σ : fM} {f z B y : Nat} (h : P2 σ f z B y) : mrc σ z := ⟨h.2.1, h.1.2.2.2⟩
/-- a change: what has to be shown is the present alone -/
theorem D_fin {σ c τ : fM} {n m f z t B y n' m' : Nat} (h1 : P1 σ n m B y) (h2 : P2 σ f z B y) (h3 : P3 σ t) (hc : ∀ q, q < 6 ∨ 54 ≤ q → c.1 q = (keepM σ f z n m).1 q) (hcL : ∀ s, 2 ≤ s → c.2 (iS s) = (keepM σ f z n m).2 (iS s))
    (ht : ∀ q, q < 150 → τ.1 q = c.1 q) (htL : τ.2 = c.2) (ht0 : ∀ j, τ.1 150 j = (mrec c z).1 150 j) (ht3 : τ.1 153 = (mrec c z).1 153) (ht4 : τ.1 154 = c.1 154) (hP : P1 τ n' m' (B + 10000) (y + 4000)) :
    Kv τ (B + 10000) (y + 4000) := by
  have hn := h1.2.1.1.2.1
  have hm := h1.2.1.1.2.2.2
  have k150 : ∀ q, 150 ≤ q → (keepM σ f z n m).1 q = σ.1 q := fun q hq => keepM_ne hn hm (by omega) (Or.inr hq)
  have c150 : ∀ q, 150 ≤ q → c.1 q = σ.1 q := fun q hq => (hc q (Or.inr (by omega))).trans (k150 q hq)
  obtain ⟨m1, m2⟩ := mrec_cg (σ := σ) (τ := c) (z := z) (c150 151 (by decide)) (c150 153 (by decide))
  obtain ⟨f', z', q2⟩ := P2_keep (τ := τ) h1 h2 (by rw [ht 1 (by decide), hc 1 (Or.inl (by decide))]) (fun q a b => by rw [ht q b, hc q (Or.inr a)]) (fun s hs => by rw [htL, hcL s hs]) (by rw [ht0]; exact m2) (by rw [ht3]; exact m1)
  refine ⟨n', m', f', z', t, hP, P2_up q2 (Nat.le_add_right _ _) (Nat.le_add_right _ _), P3_cg ?_ ?_ ?_ ?_ h3⟩
  · rw [ht 3 (by decide), hc 3 (Or.inl (by decide)), keepM_ne hn hm (by decide) (Or.inl (by decide))]
  · rw [ht 4 (by decide), hc 4 (Or.inl (by decide)), keepM_ne hn hm (by decide) (Or.inl (by decide))]
  · rw [ht0, mrec_150 (by decide), c150 150 (by decide)]
  · rw [ht4, c150 154 (by decide)]
theorem up_all {τ : fM} {n m f z t B y : Nat} (h1 : P1 τ n m B y) (h2 : P2 τ f z B y) (h3 : P3 τ t) : Kv τ (B + 10000) (y + 4000) :=
  ⟨n, m, f, z, t, sT_up h1 (Nat.le_add_right _ _) (Nat.le_add_right _ _), P2_up h2 (Nat.le_add_right _ _) (Nat.le_add_right _ _), h3⟩
/-- the present is still the present behind a keeping -/
theorem P1_keep {σ : fM} {n m f z B y : Nat} (h1 : P1 σ n m B y) : sT (keepM σ f z n m) 0 (σ.1 151) n m B y := by
  have hn := h1.2.1.1.2.1
  have hm := h1.2.1.1.2.2.2
  have h4 : (f + z) % 4 < 4 := Nat.mod_lt _ (by decide)
  exact sT_cg (by decide) (fun q a b => keepM_ne hn hm (by omega) (Or.inl (by omega))) (by rw [keepM_2, copyM_2n (fun x => by have := iS_inj x; omega)]) (fun _ _ => rfl) h1
/-- undo -/
theorem eq_undo {σ : fM} {n m f z t B y n' m' : Nat} (h1 : P1 σ n m B y) (h2 : P2 σ f z B y) (h3 : P3 σ t) (hu : 0 < z → sT σ (2 + (f + (z - 1)) % 4) (fun q => σ.1 153 ((z - 1) * 349 + q)) n' m' B y) :
    (cUndo σ f z n' m').1 = (mUndo (cUndo σ f z n' m').2 z).1 ∧ Kv (mUndo (cUndo σ f z n' m').2 z).2 (B + 10000) (y + 4000) := by
  obtain ⟨⟨hf1, hf2, hf4, hz4⟩, hz3, hold⟩ := id h2
  unfold cUndo
  rw [hf2]
  by_cases hz : z = 0
  · rw [if_pos (by rw [hz]; decide)]
    unfold mUndo
    rw [if_pos hz]
    exact ⟨rfl, up_all h1 h2 h3⟩
  · have hs := hu (Nat.pos_of_ne_zero hz)
    have hn := hs.2.1.1.2.1
    have hm := hs.2.1.1.2.2.2
    have h4 : (f + (z - 1)) % 4 < 4 := Nat.mod_lt _ (by decide)
    rw [if_neg (fun q => q (nI_lt (a := 0) (Nat.pos_of_ne_zero hz) (by omega)))]
    have ne : ∀ q, q ≠ 1 → (q < 6 ∨ 30 ≤ q) → (backM σ f z n' m').1 q = σ.1 q := fun q hq1 hq2 => by
      unfold backM
      try dsimp only
      rw [copyM_ne hn hm (by omega), pu_ne _ hq1]
    have ne1 : (backM σ f z n' m').1 1 = upd (σ.1 1) 2 (nI (z - 1)) := by
      unfold backM
      try dsimp only
      rw [copyM_ne hn hm (by omega), pu_upd]
    have neL : ∀ s, 2 ≤ s → (backM σ f z n' m').2 (iS s) = σ.2 (iS s) := fun s hs => by
      unfold backM
      try dsimp only
      rw [copyM_2n (fun x => by have := iS_inj x; omega)]
      rfl
    have pre : sT (backM σ f z n' m') 0 (fun q => σ.1 153 ((z - 1) * 349 + q)) n' m' B y := by
      unfold backM
      try dsimp only
      exact rel_copy (by omega) (sT_cg (by omega) (fun q a b => pu_ne _ (by omega)) rfl (fun _ _ => rfl) hs)
    unfold mUndo
    rw [if_neg hz]
    try dsimp only
    refine ⟨by rw [ne1, upd_s], n', m', f, z - 1, t, sT_up ?_ (Nat.le_add_right _ _) (Nat.le_add_right _ _), P2_up ⟨⟨?_, ?_, hf4, by omega⟩, ?_, fun i hi => ?_⟩ (Nat.le_add_right _ _) (Nat.le_add_right _ _), P3_cg ?_ ?_ ?_ ?_ h3⟩
    · refine sT_cg (σ := backM σ f z n' m') (r := fun q => σ.1 153 ((z - 1) * 349 + q)) (by decide) (fun q a b => by rw [puR_ne _ (by omega), pu_ne _ (by omega)]) rfl (fun q hq => ?_) pre
      rw [puR_self, ne 153 (by decide) (by decide)]
      unfold mcp
      rw [if_pos (by omega)]
      exact congrArg _ (by omega)
    · rw [puR_ne _ (by decide), pu_ne _ (by decide), ne1, upd_n _ _ _ _ (by decide)]; exact hf1
    · rw [puR_ne _ (by decide), pu_ne _ (by decide), ne1, upd_s]
    · rw [puR_ne _ (by decide), m150_s]
    · obtain ⟨a, b, hs2⟩ := hold i (by omega)
      have h4i : (f + i) % 4 < 4 := Nat.mod_lt _ (by decide)
      refine ⟨a, b, sT_cg (by omega) (fun q a b => by rw [puR_ne _ (by omega), pu_ne _ (by omega), ne q (by omega) (by omega)]) (neL _ (by omega)) (fun q hq => ?_) hs2⟩
      try dsimp only
      rw [puR_ne _ (by decide), pu_ne _ (by decide), ne 153 (by decide) (by decide)]
    · rw [puR_ne _ (by decide), pu_ne _ (by decide), ne 3 (by decide) (by decide)]
    · rw [puR_ne _ (by decide), pu_ne _ (by decide), ne 4 (by decide) (by decide)]
    · rw [puR_ne _ (by decide), m150_n (by decide), ne 150 (by decide) (by decide)]
    · rw [puR_ne _ (by decide), pu_ne _ (by decide), ne 154 (by decide) (by decide)]
