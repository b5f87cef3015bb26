/-! the model: good states -/
def msett (r : Nat → Int32) : Prop := (∃ u : Nat, 1 ≤ u ∧ u ≤ 50 ∧ r 0 = nI u) ∧ (∃ c : Nat, c ≤ 50 ∧ r 1 = nI c) ∧ ∃ s : Nat, s ≤ 100 ∧ r 2 = nI s
/-- an oracle's kind, number, counters -/
def mki (f t : Nat → Int32) : Prop := (∃ k : Nat, k ≤ 4 ∧ f 0 = nI k) ∧ oGood f ∧ (∀ q, q < 32 → ∃ v : Nat, v ≤ 3 ∧ t q = nI v) ∧ (f 0 = 0 → f 1 = 0 ∨ f 1 = 1)
/-- an oracle's record; it was in at most h branches -/
def mrr (f : Nat → Int32) (h : Nat) : Prop := (∃ v : Nat, v < 65536 ∧ f 7 = nI v) ∧ ∃ a b : Nat, a + b ≤ h ∧ f 5 = nI a ∧ f 6 = nI b
/-- n oracles, m loans, at most B coins in purses, at most h branches so far -/
def mG (r : Nat → Int32) (n m B h : Nat) : Prop := mcn r n m ∧ mhi r ∧ msett r ∧ (∀ i, i < n → mki (mo r i) (mt r i) ∧ mrr (mo r i) h) ∧ (∃ p : Nat → Nat, pus r n p ∧ sumN p n ≤ B) ∧ lgo r n m
theorem mG.cr {r : Nat → Int32} {n m B h : Nat} (g : mG r n m B h) : mcr r m := lgo_cr g.1.2.1 g.2.2.2.2.2
theorem mG.gd {r : Nat → Int32} {n m B h : Nat} (g : mG r n m B h) (hB : B < 2 ^ 24) : mgd r n m := ⟨g.1, g.2.1, fun i hi => by
  obtain ⟨p, hp, hs⟩ := g.2.2.2.2.1
  obtain ⟨⟨a1, a2, a3, a4⟩, -⟩ := g.2.2.2.1 i hi
  exact ⟨a1, a2, ⟨p i, by have := sumN_le (p := p) hi; omega, hp i hi⟩, a3, a4⟩⟩
theorem oStake_N {f t : Nat → Int32} {u p : Nat} {a hi : Int32} (hu : 1 ≤ u) (hu2 : u ≤ 50) (hp : p < 2 ^ 24) (e : f 2 = nI p) (hin : oIn f = true) : ∃ s : Nat, 1 ≤ s ∧ s ≤ p ∧ s ≤ 100 ∧ oStake f t (nI u) a hi = nI s := by
  have hp0 : 1 ≤ p := by
    rcases Nat.eq_zero_or_pos p with h | h
    · exfalso
      unfold oIn oRuin at hin
      rw [e, h] at hin
      simp [show nI 0 = (0 : Int32) from rfl] at hin
    · exact h
  have e2 : (if oSure f t a hi = true then 2 * nI u else nI u) = nI (if oSure f t a hi = true then 2 * u else u) := by
    split
    · rw [show (2 : Int32) = nI 2 by decide, pk_mul]
    · rfl
  unfold oStake
  rw [if_pos hin, e2, e]
  have h1 : 1 ≤ (if oSure f t a hi = true then 2 * u else u) ∧ (if oSure f t a hi = true then 2 * u else u) ≤ 100 := by split <;> omega
  generalize (if oSure f t a hi = true then 2 * u else u) = v at h1
  by_cases h : v < p
  · rw [if_pos (nI_lt h (by omega))]
    exact ⟨v, h1.1, by omega, h1.2, rfl⟩
  · rw [if_neg (nI_nlt (by omega) (by omega))]
    exact ⟨p, hp0, Nat.le_refl p, by omega, rfl⟩
theorem oStake_0 {f t : Nat → Int32} {u a hi : Int32} (hin : ¬ oIn f = true) : oStake f t u a hi = 0 := by unfold oStake; rw [if_neg hin]
/-- scratch rows -/
theorem csT_155 {σ : fM} {n a o : Nat} (h : o < n) : (csT σ n a n).1 155 o = bi (oIn (mo (σ.1 151) o)) := fl_at h
theorem csT_156 {σ : fM} {n a o : Nat} (h : o < n) : (csT σ n a n).1 156 o = mWord (σ.1 151) n o a := fl_at h
theorem csT_157 {σ : fM} {n a o : Nat} (h : o < n) : (csT σ n a n).1 157 o = oStake (mo (σ.1 151) o) (mt (σ.1 151) o) (σ.1 151 0) (nI a) (σ.1 151 3) := fl_at h
theorem csT_158 {σ : fM} {n a o : Nat} (h : o < n) : (csT σ n a n).1 158 o = mo (σ.1 151) o 2 := fl_at h
/-- what an oracle was, by its own ints -/
def mnO (t s q k : Int32) (f : Nat → Int32) (p : Nat) : Int32 := if p = 8 then f 8 + (if q ≤ 0 then 0 else if f 2 = 0 then 1 else 0) else if t = 1 then (if p = 7 then 2 * f 7 - 2 * f 7 / 65536 * 65536 + (if s = k then 1 else 0) else if p = (if s = k then 5 else 6) then f p + 1 else f p) else f p
theorem mnO_7 (t s q k : Int32) (f : Nat → Int32) : mnO t s q k f 7 = if t = 1 then 2 * f 7 - 2 * f 7 / 65536 * 65536 + (if s = k then 1 else 0) else f 7 := by
  unfold mnO
  rw [if_neg (show ¬ (7 : Nat) = 8 by decide), if_pos (show (7 : Nat) = 7 from rfl)]
theorem mnO_5 (t s q k : Int32) (f : Nat → Int32) : mnO t s q k f 5 = if t = 1 then (if s = k then f 5 + 1 else f 5) else f 5 := by
  unfold mnO
  rw [if_neg (show ¬ (5 : Nat) = 8 by decide), if_neg (show ¬ (5 : Nat) = 7 by decide)]
  by_cases h : s = k
  · rw [if_pos h, if_pos (show (5 : Nat) = 5 from rfl), if_pos h]
  · rw [if_neg h, if_neg (show ¬ (5 : Nat) = 6 by decide), if_neg h]
theorem mnO_6 (t s q k : Int32) (f : Nat → Int32) : mnO t s q k f 6 = if t = 1 then (if s = k then f 6 else f 6 + 1) else f 6 := by
  unfold mnO
  rw [if_neg (show ¬ (6 : Nat) = 8 by decide), if_neg (show ¬ (6 : Nat) = 7 by decide)]
  by_cases h : s = k
  · rw [if_pos h, if_neg (show ¬ (6 : Nat) = 5 by decide), if_pos h]
  · rw [if_neg h, if_pos (show (6 : Nat) = 6 from rfl), if_neg h]
theorem mnO_8 (t s q k : Int32) (f : Nat → Int32) : mnO t s q k f 8 = f 8 + (if q ≤ 0 then 0 else if f 2 = 0 then 1 else 0) := by
  unfold mnO
  rw [if_pos rfl]
theorem mnO_lo (t s q k : Int32) (f : Nat → Int32) {p : Nat} (h : p < 5 ∨ 8 < p) : mnO t s q k f p = f p := by
  unfold mnO
  rw [if_neg (by omega)]
  split
  · rw [if_neg (by omega), if_neg (by split <;> omega)]
  · rfl
theorem mnA_o {tp sd r : Nat → Int32} {k : Int32} {o i p : Nat} (hp : p < 42) : mo (mnA tp sd k o r) i p = if i = o then (if tp o = 1 then (if p = 7 then 2 * mo r o 7 - 2 * mo r o 7 / 65536 * 65536 + (if sd o = k then 1 else 0) else if p = (if sd o = k then 5 else 6) then mo r o p + 1 else mo r o p) else mo r o p) else mo r i p := by
  have h56 : (if sd o = k then 5 else 6) = 5 ∨ (if sd o = k then 5 else 6) = 6 := by split <;> simp
  unfold mnA
  by_cases ht : tp o = 1
  · rw [if_pos ht, if_pos ht]
    generalize (if sd o = k then 5 else 6) = j at h56
    unfold addR mo upd
    by_cases hi : i = o
    · subst hi
      rw [if_pos rfl]
      by_cases h7 : p = 7
      · rw [if_pos (by omega), if_pos h7, if_neg (by omega)]
      · rw [if_neg (by omega), if_neg h7]
        by_cases hj : p = j
        · rw [if_pos (by omega), if_pos hj, hj]
        · rw [if_neg (by omega), if_neg hj]
    · rw [if_neg hi, if_neg (by omega), if_neg (by omega)]
  · rw [if_neg ht, if_neg ht]
    split
    · rename_i h; rw [h]
    · rfl
theorem mnStep_o {tp sd ps r : Nat → Int32} {k : Int32} {o i p : Nat} (hp : p < 42) : mo (mnStep tp sd ps k o r) i p = if i = o then mnO (tp o) (sd o) (ps o) k (mo r o) p else mo r i p := by
  have e2 : mo (mnA tp sd k o r) o 2 = mo r o 2 := by
    rw [mnA_o (by decide), if_pos rfl]
    split
    · rw [if_neg (by decide), if_neg (by split <;> decide)]
    · rfl
  have e8 : mo (mnA tp sd k o r) o 8 = mo r o 8 := by
    rw [mnA_o (by decide), if_pos rfl]
    split
    · rw [if_neg (by decide), if_neg (by split <;> decide)]
    · rfl
  unfold mnStep
  rw [e2]
  by_cases h : i = o ∧ p = 8
  · obtain ⟨rfl, rfl⟩ := h
    rw [if_pos rfl]
    unfold mnO
    rw [if_pos rfl]
    show upd _ (73 + 42 * i + 8) _ (73 + 42 * i + 8) = _
    rw [upd_s, e8]
  · have : mo (addR (mnA tp sd k o r) o 8 (if ps o ≤ 0 then 0 else if mo r o 2 = 0 then 1 else 0)) i p = mo (mnA tp sd k o r) i p := addR_ne (by omega)
    rw [this, mnA_o hp]
    by_cases hi : i = o
    · rw [if_pos hi, if_pos hi]
      unfold mnO
      rw [if_neg (fun q => h ⟨hi, q⟩)]
    · rw [if_neg hi, if_neg hi]
theorem mnF_o {tp sd ps r : Nat → Int32} {k : Int32} {i p : Nat} (hp : p < 42) : ∀ n, mo (mnF tp sd ps k r n) i p = if i < n then mnO (tp i) (sd i) (ps i) k (mo r i) p else mo r i p
  | 0 => by rw [if_neg (Nat.not_lt_zero i)]; rfl
  | n + 1 => by
    show mo (mnStep tp sd ps k n (mnF tp sd ps k r n)) i p = _
    rw [mnStep_o hp]
    by_cases hi : i = n
    · subst hi
      rw [if_pos rfl, if_pos (Nat.lt_succ_self i)]
      have e : ∀ p, p < 42 → mo (mnF tp sd ps k r i) i p = mo r i p := fun p hp => by rw [mnF_o hp i, if_neg (Nat.lt_irrefl i)]
      unfold mnO
      rw [e 8 (by decide), e 2 (by decide), e 7 (by decide), e p hp]
    · rw [if_neg hi, mnF_o hp n]
      by_cases h : i < n
      · rw [if_pos h, if_pos (by omega)]
      · rw [if_neg h, if_neg (by omega)]
theorem mlF_t {r : Nat → Int32} {a n : Nat} {k : Int32} (hg : ∀ o, o < n → oGood (mo r o)) (h3 : n ≤ 6) {i q : Nat} (hq : q < 32) (hi : i < n) : ∀ j, j ≤ n → mt (mlF a k r j) i q = if i < j then (if oTab (mo r i) = true ∧ q = mlS r a i then mLrn (mt r i q) k else mt r i q) else mt r i q
  | 0, _ => by rw [if_neg (Nat.not_lt_zero i)]; rfl
  | j + 1, h => by
    have ih := mlF_t (a := a) (k := k) hg h3 hq hi j (by omega)
    have ne := mlF_ne (a := a) (k := k) hg j (by omega)
    have z0 : ∀ p, p < 10 → mo (mlF a k r j) j p = mo r j p := fun p hp => ne _ (fun o ho p2 h1 h2 => by omega)
    have z3 : mlF a k r j 3 = r 3 := ne _ (fun o ho p2 h1 h2 => by omega)
    have zT : oTab (mo (mlF a k r j) j) = oTab (mo r j) := by unfold oTab; rw [z0 0 (by decide)]
    have zS : mlS (mlF a k r j) a j = mlS r a j := by unfold mlS oSlot oMask; rw [z0 0 (by decide), z0 1 (by decide), z3]
    show mt (mlStep a k j (mlF a k r j)) i q = _
    unfold mlStep
    rw [zT, zS]
    by_cases hT : oTab (mo r j) = true
    · obtain ⟨s, hs, es⟩ := vp_in_of (oSlot_in (hg j (by omega)) hT (nI a) (r 3)) (by decide)
      have hs' : mlS r a j = s := by unfold mlS; rw [es]; exact nI_clamp (by omega)
      rw [if_pos hT, hs']
      by_cases hij : i = j
      · subst hij
        rw [if_pos (Nat.lt_succ_self i), hs']
        rw [if_neg (Nat.lt_irrefl i)] at ih
        by_cases hqs : q = s
        · subst hqs
          rw [if_pos ⟨hT, rfl⟩, ← ih]
          exact upd_s _ _ _
        · rw [if_neg (fun z => hqs z.2), ← ih]
          exact upd_n _ _ _ _ (by omega)
      · have : mt (upd (mlF a k r j) (73 + 42 * j + (10 + s)) (mLrn (mt (mlF a k r j) j s) k)) i q = mt (mlF a k r j) i q := upd_n _ _ _ _ (by omega)
        rw [this, ih]
        by_cases h2 : i < j
        · rw [if_pos h2, if_pos (show i < j + 1 by omega)]
        · rw [if_neg h2, if_neg (show ¬ i < j + 1 by omega)]
    · rw [if_neg hT, ih]
      by_cases h2 : i < j
      · rw [if_pos h2, if_pos (show i < j + 1 by omega)]
      · rw [if_neg h2]
        by_cases hij : i = j
        · rw [if_pos (by omega), if_neg (fun z => hT (hij ▸ z.1))]
        · rw [if_neg (by omega)]
theorem mLrn_v {c k : Int32} (h : ∃ v : Nat, v ≤ 3 ∧ c = nI v) : ∃ v : Nat, v ≤ 3 ∧ mLrn c k = nI v := by
  obtain ⟨v, hv, e⟩ := h
  subst e
  unfold mLrn
  by_cases hk : k = 1
  · rw [if_pos hk]
    rcases (show v = 0 ∨ v = 1 ∨ v = 2 ∨ v = 3 by omega) with rfl | rfl | rfl | rfl
    · exact ⟨1, by decide, by decide⟩
    · exact ⟨2, by decide, by decide⟩
    · exact ⟨3, by decide, by decide⟩
    · exact ⟨3, by decide, by decide⟩
  · rw [if_neg hk]
    rcases (show v = 0 ∨ v = 1 ∨ v = 2 ∨ v = 3 by omega) with rfl | rfl | rfl | rfl
    · exact ⟨0, by decide, by decide⟩
    · exact ⟨0, by decide, by decide⟩
    · exact ⟨1, by decide, by decide⟩
    · exact ⟨2, by decide, by decide⟩
theorem mG_sto {σ : fM} {n m B h a : Nat} (g : mG (σ.1 151) n m B h) (hB : B < 2 ^ 24) {p : Nat → Nat} (hp : pus (σ.1 151) n p) (hs : sumN p n ≤ B) : sto ((csT σ n a n).1 155) ((csT σ n a n).1 157) n p (fun o => ((csT σ n a n).1 157 o).toNatClampNeg) := fun o ho ht => by
  obtain ⟨⟨u, hu, hu2, eu⟩, -⟩ := g.2.2.1
  rw [csT_155 ho] at ht
  have hin : oIn (mo (σ.1 151) o) = true := (bi_1 _).mp ht
  have hpo := sumN_le (p := p) ho
  obtain ⟨s, h1, h2, h3, e⟩ := oStake_N (t := mt (σ.1 151) o) (a := nI a) (hi := σ.1 151 3) hu hu2 (show p o < 2 ^ 24 by omega) (hp o ho) hin
  dsimp only
  rw [csT_157 ho, eu, e, nI_clamp (by omega)]
  exact ⟨h2, h3, rfl⟩
/-- a branch keeps a good state good -/
theorem mG_mc {σ : fM} {n m B h a : Nat} {k : Int32} (g : mG (σ.1 151) n m B h) (hB : B < 2 ^ 24 - 2 ^ 12) (ha : a < 64) (hk : k = 0 ∨ k = 1) (hh : h < 2 ^ 24) : mG (mcR σ n m a k) n (mcC σ n m a k) B (h + 1) := by
  obtain ⟨p, hp, hsB⟩ := g.2.2.2.2.1
  have hcr := g.cr
  obtain ⟨⟨hn, hn6, hm, hm8⟩, ⟨hv, hhv, ehv⟩, hst, hor, -, hl⟩ := id g
  have hsto := mG_sto (a := a) g (by omega) hp hsB
  obtain ⟨p', b1, b2, b3, -⟩ := mbM_J (sd := (csT σ n a n).1 156) (k := k) hn6 hm8 hm hsto hp hl hst.2.1 hst.2.2 (by omega)
  have b8 := mbM_cr (tp := (csT σ n a n).1 155) (sd := (csT σ n a n).1 156) (sk := (csT σ n a n).1 157) (k := k) hn6 hm8 hm hcr
  have hBe : ∀ q, notP q → q < 325 → q ≠ 8 → q ≠ 4 → q ≠ 6 → mcB σ n m a k q = σ.1 151 q := fun q h1 h2 h3 h4 h5 => mbM_ne hn6 hm8 hm hcr h1 h2 h3 h4 h5
  have hBo : ∀ i, i < n → ∀ p, p < 42 → p ≠ 2 → mo (mcB σ n m a k) i p = mo (σ.1 151) i p := fun i hi p hp h2 => hBe _ (notP_o hp h2) (by omega) (by omega) (by omega) (by omega)
  -- all rows but those of records and counters
  have hNo : ∀ i, i < n → ∀ p, p < 42 → mo (mcN σ n m a k n) i p = mnO ((csT σ n a n).1 155 i) ((csT σ n a n).1 156 i) ((csT σ n a n).1 158 i) k (mo (mcB σ n m a k) i) p := fun i hi p hp => by
    unfold mcN
    rw [mnF_o hp, if_pos hi]
  have hNe : ∀ q, (∀ o, o < n → ∀ p, 5 ≤ p → p < 9 → q ≠ 73 + 42 * o + p) → mcN σ n m a k n q = mcB σ n m a k q := fun q hq => mnF_ne hq n (Nat.le_refl n)
  have hNg : ∀ i, i < n → oGood (mo (mcN σ n m a k n) i) := fun i hi => oGood_cg ((hNe _ (fun o ho p h1 h2 => by omega)).trans (hBo i hi 0 (by decide) (by decide))) ((hNe _ (fun o ho p h1 h2 => by omega)).trans (hBo i hi 1 (by decide) (by decide))) (hor i hi).1.2.1
  have hLe : ∀ q, (∀ o, o < n → ∀ p, 10 ≤ p → p < 42 → q ≠ 73 + 42 * o + p) → mcL σ n m a k n q = mcN σ n m a k n q := fun q hq => mlF_ne hNg n (Nat.le_refl n) q hq
  have hEe : ∀ q, q ≠ 3 → q ≠ 5 → (q < 9 ∨ 73 ≤ q) → mcR σ n m a k q = mcL σ n m a k n q := fun q h3 h5 h9 => by
    unfold mcR mcE
    rw [upd_n _ _ _ _ h5, upd_n _ _ _ _ (by omega), upd_n _ _ _ _ h3]
  have lo : ∀ q, q < 9 → q ≠ 3 → q ≠ 5 → mcR σ n m a k q = mcB σ n m a k q := fun q h9 h3 h5 => by
    rw [hEe q h3 h5 (Or.inl h9), hLe q (fun o ho p h1 h2 => by omega), hNe q (fun o ho p h1 h2 => by omega)]
  have lo2 : ∀ q, q < 9 → q ≠ 3 → q ≠ 5 → q ≠ 8 → q ≠ 4 → q ≠ 6 → mcR σ n m a k q = σ.1 151 q := fun q h9 h3 h5 h8 h4 h6 => (lo q h9 h3 h5).trans (hBe q (notP_lo (by omega)) (by omega) h8 h4 h6)
  have hRo : ∀ i, i < n → ∀ p, p < 10 → mo (mcR σ n m a k) i p = mo (mcN σ n m a k n) i p := fun i hi p hp => by
    show mcR σ n m a k (73 + 42 * i + p) = _
    rw [hEe _ (by omega) (by omega) (Or.inr (by omega)), hLe _ (fun o ho p2 h1 h2 => by omega)]
    rfl
  have h3L : mcL σ n m a k n 3 = nI hv := by
    rw [hLe 3 (fun o ho p h1 h2 => by omega), hNe 3 (fun o ho p h1 h2 => by omega), hBe 3 (notP_lo (by decide)) (by decide) (by decide) (by decide) (by decide)]
    exact ehv
  refine ⟨⟨(lo2 7 (by decide) (by decide) (by decide) (by decide) (by decide) (by decide)).trans hn, hn6, (lo 8 (by decide) (by decide) (by decide)).trans b8.1, Nat.le_trans b8.2.1 hm8⟩, ?_, ?_, fun i hi => ⟨?_, ?_⟩, ⟨p', pus_ne b1 (fun i hi => ?_), by omega⟩, lgo_cg b3 (fun l j hl hj => ?_)⟩
  · obtain ⟨kk, hk1, ek⟩ : ∃ kk : Nat, kk ≤ 1 ∧ k = nI kk := by
      rcases hk with e | e
      · exact ⟨0, by decide, e⟩
      · exact ⟨1, by decide, e⟩
    refine ⟨(2 * hv + kk) % 256, Nat.mod_lt _ (by decide), ?_⟩
    unfold mcR mcE
    rw [upd_n _ _ _ _ (by decide), upd_n _ _ _ _ (by omega), upd_s, h3L, ek, show (2 : Int32) = nI 2 by decide, show (256 : Int32) = nI 256 by decide, pk_mul, nI_add, pk_rem (by omega) (by decide) (by decide)]
  · obtain ⟨⟨u, u1, u2, eu⟩, ⟨c, c1, ec⟩, s, s1, es⟩ := hst
    exact ⟨⟨u, u1, u2, (lo2 0 (by decide) (by decide) (by decide) (by decide) (by decide) (by decide)).trans eu⟩, ⟨c, c1, (lo2 1 (by decide) (by decide) (by decide) (by decide) (by decide) (by decide)).trans ec⟩, s, s1, (lo2 2 (by decide) (by decide) (by decide) (by decide) (by decide) (by decide)).trans es⟩
  · obtain ⟨⟨k0, k1, k2, k3⟩, -⟩ := hor i hi
    have e0 : mo (mcR σ n m a k) i 0 = mo (σ.1 151) i 0 := by
      rw [hRo i hi 0 (by decide)]
      exact (hNe _ (fun o ho p h1 h2 => by omega)).trans (hBo i hi 0 (by decide) (by decide))
    have e1 : mo (mcR σ n m a k) i 1 = mo (σ.1 151) i 1 := by
      rw [hRo i hi 1 (by decide)]
      exact (hNe _ (fun o ho p h1 h2 => by omega)).trans (hBo i hi 1 (by decide) (by decide))
    refine ⟨by rw [e0]; exact k0, oGood_cg e0 e1 k1, fun q hq => ?_, by rw [e0, e1]; exact k3⟩
    have et : mt (mcN σ n m a k n) i q = mt (σ.1 151) i q := (hNe _ (fun o ho p h1 h2 => by omega)).trans (hBo i hi (10 + q) (by omega) (by omega))
    have eR : mt (mcR σ n m a k) i q = mt (mcL σ n m a k n) i q := hEe _ (by omega) (by omega) (Or.inr (by omega))
    rw [eR]
    unfold mcL
    rw [mlF_t hNg hn6 hq hi n (Nat.le_refl n), if_pos hi]
    split
    · rw [et]; exact mLrn_v (k2 q hq)
    · rw [et]; exact k2 q hq
  · obtain ⟨-, ⟨v, hv2, ev⟩, x, y, hxy, ex, ey⟩ := hor i hi
    unfold mrr
    rw [hRo i hi 7 (by decide), hRo i hi 5 (by decide), hRo i hi 6 (by decide), hNo i hi 7 (by decide), hNo i hi 5 (by decide), hNo i hi 6 (by decide)]
    have f7 := (hBo i hi 7 (by decide) (by decide)).trans ev
    have f5 := (hBo i hi 5 (by decide) (by decide)).trans ex
    have f6 := (hBo i hi 6 (by decide) (by decide)).trans ey
    have hmod : 2 * nI v - 2 * nI v / 65536 * 65536 = nI (2 * v % 65536) := by rw [show (2 : Int32) = nI 2 by decide, show (65536 : Int32) = nI 65536 by decide, pk_mul, pk_rem (by omega) (by decide) (by decide)]
    rw [mnO_7, mnO_5, mnO_6, f7, f5, f6, hmod]
    by_cases ht : (csT σ n a n).1 155 i = 1
    · rw [if_pos ht, if_pos ht, if_pos ht]
      by_cases hd : (csT σ n a n).1 156 i = k
      · rw [if_pos hd, if_pos hd, if_pos hd]
        exact ⟨⟨2 * v % 65536 + 1, by omega, by rw [nI_1]⟩, x + 1, y, by omega, by rw [nI_1], rfl⟩
      · rw [if_neg hd, if_neg hd, if_neg hd]
        exact ⟨⟨2 * v % 65536, by omega, by rw [Int32.add_zero]⟩, x, y + 1, by omega, rfl, by rw [nI_1]⟩
    · rw [if_neg ht, if_neg ht, if_neg ht]
      exact ⟨⟨v, hv2, rfl⟩, x, y, by omega, rfl, rfl⟩
  · have e : mcR σ n m a k (73 + 42 * i + 2) = mo (mcN σ n m a k n) i 2 := hRo i hi 2 (by decide)
    rw [e]
    exact hNe _ (fun o ho p h1 h2 => by omega)
  · show mcR σ n m a k (325 + 3 * l + j) = _
    rw [hEe _ (by omega) (by omega) (Or.inr (by omega)), hLe _ (fun o ho p h1 h2 => by omega), hNe _ (fun o ho p h1 h2 => by omega)]
    rfl
