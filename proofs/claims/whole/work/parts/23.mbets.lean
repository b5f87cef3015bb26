/-! the model: bets -/
def addR (r : Nat → Int32) (i p : Nat) (v : Int32) : Nat → Int32 := upd r (73 + 42 * i + p) (mo r i p + v)
def put3 (r : Nat → Int32) (q : Nat) (a b c : Int32) : Nat → Int32 := upd (upd (upd r (325 + 3 * q + 0) a) (325 + 3 * q + 1) b) (325 + 3 * q + 2) c
abbrev mpZ : Type := (Nat → Int32) × Int32 × Nat
def mpP (o l : Nat) (z : mpZ) : Int32 := if ml z.1 l 1 = nI o then (if ml z.1 l 2 ≤ z.2.1 then ml z.1 l 2 else z.2.1) else 0
def mpR (o l : Nat) (z : mpZ) : Nat → Int32 := if ml z.1 l 1 = nI o then addR (addR z.1 o 2 (- mpP o l z)) (ml z.1 l 0).toNatClampNeg 2 (mpP o l z) else z.1
def mpW (o l : Nat) (z : mpZ) : Int32 := ml z.1 l 2 - mpP o l z
def mpStep (o l : Nat) (z : mpZ) : mpZ := (if mpW o l z ≤ 0 then mpR o l z else put3 (mpR o l z) z.2.2 (ml z.1 l 0) (ml z.1 l 1) (mpW o l z), if ml z.1 l 1 = nI o then z.2.1 - mpP o l z else z.2.1, if mpW o l z ≤ 0 then z.2.2 else z.2.2 + 1)
def mpF (o : Nat) (z : mpZ) : Nat → mpZ
  | 0 => z
  | l + 1 => mpStep o l (mpF o z l)
def mpay (r : Nat → Int32) (m o : Nat) (g : Int32) : (Nat → Int32) × Nat := (upd (mpF o (r, g * r 2 / 100, 0) m).1 8 (nI (mpF o (r, g * r 2 / 100, 0) m).2.2), (mpF o (r, g * r 2 / 100, 0) m).2.2)
/-- no purse lies here -/
def notP (k : Nat) : Prop := ∀ i, i < 6 → k ≠ 73 + 42 * i + 2
theorem notP_l (l j : Nat) : notP (325 + 3 * l + j) := fun i hi => by omega
theorem notP_lo {k : Nat} (h : k < 73) : notP k := fun i hi => by omega
theorem notP_o {i p : Nat} (hp : p < 42) (h2 : p ≠ 2) : notP (73 + 42 * i + p) := fun i hi => by omega
theorem addR_ne {r : Nat → Int32} {i p k : Nat} {v : Int32} (h : k ≠ 73 + 42 * i + p) : addR r i p v k = r k := upd_n _ _ _ _ h
theorem mpR_ne {o l : Nat} {z : mpZ} (ho : o < 6) (hc : ∃ c : Nat, c < 6 ∧ ml z.1 l 0 = nI c) {k : Nat} (hk : notP k) : mpR o l z k = z.1 k := by
  obtain ⟨c, hc6, e⟩ := hc
  unfold mpR
  split
  · rw [e, nI_clamp (by omega), addR_ne (hk c hc6), addR_ne (hk o ho)]
  · rfl
theorem put3_ne {r : Nat → Int32} {q k : Nat} {a b c : Int32} (h : k < 325 + 3 * q ∨ 325 + 3 * q + 3 ≤ k) : put3 r q a b c k = r k := by
  unfold put3
  rw [upd_n _ _ _ _ (by omega), upd_n _ _ _ _ (by omega), upd_n _ _ _ _ (by omega)]
theorem put3_at (r : Nat → Int32) (q : Nat) (a b c : Int32) : ml (put3 r q a b c) q 0 = a ∧ ml (put3 r q a b c) q 1 = b ∧ ml (put3 r q a b c) q 2 = c := by
  unfold put3 ml
  refine ⟨?_, ?_, upd_s _ _ _⟩
  · rw [upd_n _ _ _ _ (by omega), upd_n _ _ _ _ (by omega), upd_s]
  · rw [upd_n _ _ _ _ (by omega), upd_s]
def mcr (r : Nat → Int32) (m : Nat) : Prop := ∀ l, l < m → ∃ c : Nat, c < 6 ∧ ml r l 0 = nI c
/-- what is behind l loans -/
def mpI (r : Nat → Int32) (l : Nat) (z : mpZ) : Prop := z.2.2 ≤ l ∧ (∀ k, notP k → (k < 325 ∨ 325 + 3 * l ≤ k) → z.1 k = r k) ∧ ∀ q, q < z.2.2 → ∃ q', q' < l ∧ ∀ j, j < 2 → ml z.1 q j = ml r q' j
theorem mpI.cr {r : Nat → Int32} {l m : Nat} {z : mpZ} (h : mpI r l z) (hcr : mcr r m) (hl : l < m) : ∃ c : Nat, c < 6 ∧ ml z.1 l 0 = nI c := by
  obtain ⟨c, h1, h2⟩ := hcr l hl
  exact ⟨c, h1, (h.2.1 _ (notP_l l 0) (Or.inr (by omega))).trans h2⟩
theorem mpF_I {r : Nat → Int32} {o m : Nat} {g : Int32} (ho : o < 6) (hcr : mcr r m) : ∀ l, l ≤ m → mpI r l (mpF o (r, g, 0) l)
  | 0, _ => ⟨Nat.le_refl 0, fun _ _ _ => rfl, fun q h => absurd h (Nat.not_lt_zero q)⟩
  | l + 1, h => by
    have ih := mpF_I (g := g) ho hcr l (by omega)
    have hc := ih.cr hcr (by omega)
    show mpI r (l + 1) (mpStep o l (mpF o (r, g, 0) l))
    generalize mpF o (r, g, 0) l = z at ih hc
    obtain ⟨h1, h2, h3⟩ := ih
    have hR : ∀ {k : Nat}, notP k → mpR o l z k = z.1 k := fun hk => mpR_ne ho hc hk
    unfold mpStep
    by_cases hw : mpW o l z ≤ 0
    · rw [if_pos hw, if_pos hw]
      refine ⟨by show z.2.2 ≤ l + 1; omega, fun k hk hk2 => (hR hk).trans (h2 k hk (by omega)), fun q hq => ?_⟩
      obtain ⟨q', hq', e⟩ := h3 q hq
      exact ⟨q', by omega, fun j hj => (hR (notP_l q j)).trans (e j hj)⟩
    · rw [if_neg hw, if_neg hw]
      refine ⟨by show z.2.2 + 1 ≤ l + 1; omega, fun k hk hk2 => ?_, fun q hq => ?_⟩
      · show put3 _ _ _ _ _ k = _
        rw [put3_ne (by omega), hR hk]
        exact h2 k hk (by omega)
      · show ∃ q', q' < l + 1 ∧ ∀ j, j < 2 → ml (put3 _ _ _ _ _) q j = _
        by_cases hqz : q = z.2.2
        · subst hqz
          obtain ⟨a0, a1, -⟩ := put3_at (mpR o l z) z.2.2 (ml z.1 l 0) (ml z.1 l 1) (mpW o l z)
          refine ⟨l, by omega, fun j hj => ?_⟩
          rcases (show j = 0 ∨ j = 1 by omega) with rfl | rfl
          · rw [a0]; exact h2 _ (notP_l l 0) (Or.inr (by omega))
          · rw [a1]; exact h2 _ (notP_l l 1) (Or.inr (by omega))
        · have hq2 : q < z.2.2 + 1 := hq
          obtain ⟨q', hq', e⟩ := h3 q (by omega)
          refine ⟨q', by omega, fun j hj => ?_⟩
          show put3 _ _ _ _ _ (325 + 3 * q + j) = _
          rw [put3_ne (by omega), hR (notP_l q j)]
          exact e j hj
theorem mpay_ok {r : Nat → Int32} {m o : Nat} {g : Int32} (ho : o < 6) (hm8 : m ≤ 8) (hcr : mcr r m) : (mpay r m o g).1 8 = nI (mpay r m o g).2 ∧ (mpay r m o g).2 ≤ m ∧ mcr (mpay r m o g).1 (mpay r m o g).2 ∧ ∀ k, notP k → k < 325 → k ≠ 8 → (mpay r m o g).1 k = r k := by
  obtain ⟨h1, h2, h3⟩ := mpF_I (g := g * r 2 / 100) ho hcr m (Nat.le_refl m)
  unfold mpay
  refine ⟨by dsimp only; exact upd_s _ _ _, h1, fun l hl => ?_, fun k hk hk2 hk8 => ?_⟩
  · obtain ⟨q', hq', e⟩ := h3 l hl
    obtain ⟨c, hc6, ec⟩ := hcr q' hq'
    refine ⟨c, hc6, ?_⟩
    show upd _ 8 _ (325 + 3 * l + 0) = _
    rw [upd_n _ _ _ _ (by omega)]
    exact (e 0 (by decide)).trans ec
  · show upd _ 8 _ k = _
    rw [upd_n _ _ _ _ hk8]
    exact h2 k hk (Or.inl hk2)
theorem ml_u {r : Nat → Int32} {o q j : Nat} {v : Int32} (ho : o < 6) : ml (upd r (73 + 42 * o + 2) v) q j = ml r q j := upd_n _ _ _ _ (by omega)
theorem ml_01 {r : Nat → Int32} {q l : Nat} {v : Int32} : ml (upd r (325 + 3 * q + 0) v) l 1 = ml r l 1 := upd_n _ _ _ _ (by omega)

set_option maxRecDepth 100000 in
set_option maxHeartbeats 4000000 in
theorem ct_X6_paysBack {l : Launch} {X : fX} {σ : fM} {m o : Nat} (ho : o < 6) (hm : (σ.1 151) 8 = nI m) (hm8 : m ≤ 8) (hcr : mcr (σ.1 151) m) {g : Int32} : Ct l X yX6_paysBack cX6_paysBack 8 none 1 [ra X 150, .int (nI o), .int g] σ none (puR σ 151 (mpay (σ.1 151) m o g).1) := by
  refine Ct.of RX6 rfl (by decide) (Nat.le_of_ble_eq_true rfl) ?_
  intro x hL h hr
  refine g_sub [(0, ra X 150), (1, .int (nI o)), (2, .int g)] ⟨rfl, rfl, rfl, trivial⟩ ?_
  have LOOP : ∀ (q i : Nat), i + q = m → G x X (puR σ 151 (mpF o ((σ.1 151), g * (σ.1 151) 2 / 100, 0) i).1) [(0, ra X 150), (1, .int (nI o)), (3, .int (mpF o ((σ.1 151), g * (σ.1 151) 2 / 100, 0) i).2.1), (4, .int (nI (mpF o ((σ.1 151), g * (σ.1 151) 2 / 100, 0) i).2.2)), (5, .int (nI i))] [] 18 := by
    intro q
    induction q with
    | zero =>
      intro i hi 
      have hie : i = m := by omega
      rw [hie]
      have hm : (mpF o ((σ.1 151), g * (σ.1 151) 2 / 100, 0) m).1 8 = nI m := ((mpF_I (g := g * (σ.1 151) 2 / 100) ho hcr m (Nat.le_refl m)).2.1 8 (notP_lo (by decide)) (Or.inl (by decide))).trans hm
      refine g_iload h dX6_paysBack_18 rfl ?_
      refine g_aload_n h dX6_paysBack_20 rfl ?_
      refine gf6_7 h  dX6_paysBack_21 ?_
      refine g_bipush (v := 8) h dX6_paysBack_24 (by decide) ?_
      refine g_ialdN h (k := 151) (by decide) (enc_151 X) (show (8 : Int32) = nI 8 by decide) (by decide) (by decide) dX6_paysBack_26 ?_
      refine g_top (nI m) (by rw [puR_self]; exact hm) ?_
      refine g_icge h 183 dX6_paysBack_27 (by decide) (fun c27 => ?_) (fun c27 => absurd (Int32.le_refl _) c27)
      refine g_aload_n h dX6_paysBack_183 rfl ?_
      refine gf6_7 h  dX6_paysBack_184 ?_
      refine g_bipush (v := 8) h dX6_paysBack_187 (by decide) ?_
      refine g_iload h dX6_paysBack_189 rfl ?_
      refine g_iastN h (k := 151) (by decide) (enc_151 X) (show (8 : Int32) = nI 8 by decide) (by decide) (by decide) dX6_paysBack_191 ?_
      exact g_vret h hr dX6_paysBack_192 (by unfold mpay; simp only [pu_puR, puR_puR, puR_self])
    | succ q ih =>
      intro i hi 
      have hlt : i < m := by omega
      have hfr := mpF_I (g := g * (σ.1 151) 2 / 100) ho hcr i (by omega)
      obtain ⟨cr, hcr6, hcre⟩ := hfr.cr hcr hlt
      have hm : (mpF o ((σ.1 151), g * (σ.1 151) 2 / 100, 0) i).1 8 = nI m := (hfr.2.1 8 (notP_lo (by decide)) (Or.inl (by decide))).trans hm
      generalize hz : mpF o ((σ.1 151), g * (σ.1 151) 2 / 100, 0) i = z at hfr hcre hm ⊢
      have hle := hfr.1
      have hk : (ml z.1 i 0).toNatClampNeg = cr := by rw [hcre]; exact nI_clamp (by omega)
      have q1 : ∀ (r : Nat → Int32) (v : Int32) (q j : Nat), ml (upd r (73 + 42 * o + 2) v) q j = ml r q j := fun _ _ _ _ => ml_u ho
      have q2 : ∀ (r : Nat → Int32) (v : Int32) (q j : Nat), ml (upd r (73 + 42 * cr + 2) v) q j = ml r q j := fun _ _ _ _ => ml_u hcr6
      generalize hτ : puR σ 151 z.1 = τ
      have e1 : τ.1 151 = z.1 := by rw [← hτ]; exact puR_self _ _ _
      refine g_iload h dX6_paysBack_18 rfl ?_
      refine g_aload_n h dX6_paysBack_20 rfl ?_
      refine gf6_7 h  dX6_paysBack_21 ?_
      refine g_bipush (v := 8) h dX6_paysBack_24 (by decide) ?_
      refine g_ialdN h (k := 151) (by decide) (enc_151 X) (show (8 : Int32) = nI 8 by decide) (by decide) (by decide) dX6_paysBack_26 ?_
      refine g_top (nI m) (by rw [e1]; exact hm) ?_
      refine g_icge h 183 dX6_paysBack_27 (by decide) (fun c27 => absurd c27 (nI_ge hlt (by omega))) (fun c27 => ?_)
      refine g_iconst (v := 0) h dX6_paysBack_30 (by decide) ?_
      refine g_istore h dX6_paysBack_31 (by rw [hL]; decide) ?_
      refine g_aload_n h dX6_paysBack_33 rfl ?_
      refine g_iload h dX6_paysBack_34 rfl ?_
      refine g_iconst (v := 1) h dX6_paysBack_36 (by decide) ?_
      refine cl6_97 h  (ct_X6_loanPart (i := i) (p := 1) (by omega) (by decide)) rfl dX6_paysBack_37 rfl (Nat.le_of_ble_eq_true rfl) (by decide) ?_
      refine g_top (ml z.1 i 1) (by simp only [pu_puR, puR_puR, puR_self, e1, q1, q2, ml_01]) ?_
      refine g_iload_n h dX6_paysBack_40 rfl ?_
      refine g_icne h 96 dX6_paysBack_41 (by decide) (fun c41 => ?_) (fun c41 => ?_)
      · refine g_aload_n h dX6_paysBack_96 rfl ?_
        refine g_iload h dX6_paysBack_97 rfl ?_
        refine g_iconst (v := 2) h dX6_paysBack_99 (by decide) ?_
        refine cl6_97 h  (ct_X6_loanPart (i := i) (p := 2) (by omega) (by decide)) rfl dX6_paysBack_100 rfl (Nat.le_of_ble_eq_true rfl) (by decide) ?_
        refine g_top (ml z.1 i 2) (by simp only [pu_puR, puR_puR, puR_self, e1, q1, q2, ml_01]) ?_
        refine g_iload h dX6_paysBack_103 rfl ?_
        refine g_isub h dX6_paysBack_105 ?_
        refine g_top (mpW o i z) (by first | rfl | (simp [mpW, mpP, c27, c41]; done)) ?_
        refine g_istore h dX6_paysBack_106 (by rw [hL]; decide) ?_
        refine g_iload h dX6_paysBack_108 rfl ?_
        refine g_ifle h 177 dX6_paysBack_110 (by decide) (fun c110 => ?_) (fun c110 => ?_)
        · refine g_iincN h dX6_paysBack_177 rfl (by rw [hL]; decide) ?_
          refine g_goto h 18 dX6_paysBack_180 (by decide) ?_
          refine g_mem (puR σ 151 (mpF o ((σ.1 151), g * (σ.1 151) 2 / 100, 0) (i + 1)).1) (by show _ = puR σ 151 (mpStep o i (mpF o ((σ.1 151), g * (σ.1 151) 2 / 100, 0) i)).1; rw [hz, ← hτ]; first | (simp [pu_puR, puR_puR, puR_self, mpStep, mpR, addR, put3, hk, c27, c41, c110]; done) | (simp_all [pu_puR, puR_puR, puR_self, mpStep, mpR, addR, put3]; done)) ?_
          refine g_sub [(0, ra X 150), (1, .int (nI o)), (3, .int (mpF o ((σ.1 151), g * (σ.1 151) 2 / 100, 0) (i + 1)).2.1), (4, .int (nI (mpF o ((σ.1 151), g * (σ.1 151) 2 / 100, 0) (i + 1)).2.2)), (5, .int (nI (i + 1)))] ⟨rfl, rfl, (congrArg (fun z => some (Value.int z)) (by show _ = (mpStep o i (mpF o ((σ.1 151), g * (σ.1 151) 2 / 100, 0) i)).2.1; rw [hz]; first | (simp [mpStep, c27, c41, c110]; done) | (simp_all [mpStep]; done))), (congrArg (fun z => some (Value.int z)) (by show _ = nI (mpStep o i (mpF o ((σ.1 151), g * (σ.1 151) 2 / 100, 0) i)).2.2; rw [hz]; first | (simp [mpStep, c27, c41, c110]; done) | (simp_all [mpStep]; done))), rfl, trivial⟩ ?_
          exact ih (i + 1) (by omega)
        · refine g_aload_n h dX6_paysBack_113 rfl ?_
          refine gf6_7 h  dX6_paysBack_114 ?_
          refine g_sipush (v := 325) h dX6_paysBack_117 (by decide) ?_
          refine g_iconst (v := 3) h dX6_paysBack_120 (by decide) ?_
          refine g_iload h dX6_paysBack_121 rfl ?_
          refine g_imul h dX6_paysBack_123 ?_
          refine g_iadd h dX6_paysBack_124 ?_
          refine g_iconst (v := 0) h dX6_paysBack_125 (by decide) ?_
          refine g_iadd h dX6_paysBack_126 ?_
          refine g_aload_n h dX6_paysBack_127 rfl ?_
          refine g_iload h dX6_paysBack_128 rfl ?_
          refine g_iconst (v := 0) h dX6_paysBack_130 (by decide) ?_
          refine cl6_97 h  (ct_X6_loanPart (i := i) (p := 0) (by omega) (by decide)) rfl dX6_paysBack_131 rfl (Nat.le_of_ble_eq_true rfl) (by decide) ?_
          refine g_top (ml z.1 i 0) (by simp only [pu_puR, puR_puR, puR_self, e1, q1, q2, ml_01]) ?_
          refine g_iastN h (k := 151) (by decide) (enc_151 X) (m_il z.2.2 0) (by omega) (by decide) dX6_paysBack_134 ?_
          refine g_aload_n h dX6_paysBack_135 rfl ?_
          refine gf6_7 h  dX6_paysBack_136 ?_
          refine g_sipush (v := 325) h dX6_paysBack_139 (by decide) ?_
          refine g_iconst (v := 3) h dX6_paysBack_142 (by decide) ?_
          refine g_iload h dX6_paysBack_143 rfl ?_
          refine g_imul h dX6_paysBack_145 ?_
          refine g_iadd h dX6_paysBack_146 ?_
          refine g_iconst (v := 1) h dX6_paysBack_147 (by decide) ?_
          refine g_iadd h dX6_paysBack_148 ?_
          refine g_aload_n h dX6_paysBack_149 rfl ?_
          refine g_iload h dX6_paysBack_150 rfl ?_
          refine g_iconst (v := 1) h dX6_paysBack_152 (by decide) ?_
          refine cl6_97 h  (ct_X6_loanPart (i := i) (p := 1) (by omega) (by decide)) rfl dX6_paysBack_153 rfl (Nat.le_of_ble_eq_true rfl) (by decide) ?_
          refine g_top (ml z.1 i 1) (by simp only [pu_puR, puR_puR, puR_self, e1, q1, q2, ml_01]) ?_
          refine g_iastN h (k := 151) (by decide) (enc_151 X) (m_il z.2.2 1) (by omega) (by decide) dX6_paysBack_156 ?_
          refine g_aload_n h dX6_paysBack_157 rfl ?_
          refine gf6_7 h  dX6_paysBack_158 ?_
          refine g_sipush (v := 325) h dX6_paysBack_161 (by decide) ?_
          refine g_iconst (v := 3) h dX6_paysBack_164 (by decide) ?_
          refine g_iload h dX6_paysBack_165 rfl ?_
          refine g_imul h dX6_paysBack_167 ?_
          refine g_iadd h dX6_paysBack_168 ?_
          refine g_iconst (v := 2) h dX6_paysBack_169 (by decide) ?_
          refine g_iadd h dX6_paysBack_170 ?_
          refine g_iload h dX6_paysBack_171 rfl ?_
          refine g_iastN h (k := 151) (by decide) (enc_151 X) (m_il z.2.2 2) (by omega) (by decide) dX6_paysBack_173 ?_
          refine g_iincN h dX6_paysBack_174 rfl (by rw [hL]; decide) ?_
          refine g_iincN h dX6_paysBack_177 rfl (by rw [hL]; decide) ?_
          refine g_goto h 18 dX6_paysBack_180 (by decide) ?_
          refine g_mem (puR σ 151 (mpF o ((σ.1 151), g * (σ.1 151) 2 / 100, 0) (i + 1)).1) (by show _ = puR σ 151 (mpStep o i (mpF o ((σ.1 151), g * (σ.1 151) 2 / 100, 0) i)).1; rw [hz, ← hτ]; first | (simp [pu_puR, puR_puR, puR_self, mpStep, mpR, addR, put3, hk, c27, c41, c110]; done) | (simp_all [pu_puR, puR_puR, puR_self, mpStep, mpR, addR, put3]; done)) ?_
          refine g_sub [(0, ra X 150), (1, .int (nI o)), (3, .int (mpF o ((σ.1 151), g * (σ.1 151) 2 / 100, 0) (i + 1)).2.1), (4, .int (nI (mpF o ((σ.1 151), g * (σ.1 151) 2 / 100, 0) (i + 1)).2.2)), (5, .int (nI (i + 1)))] ⟨rfl, rfl, (congrArg (fun z => some (Value.int z)) (by show _ = (mpStep o i (mpF o ((σ.1 151), g * (σ.1 151) 2 / 100, 0) i)).2.1; rw [hz]; first | (simp [mpStep, c27, c41, c110]; done) | (simp_all [mpStep]; done))), (congrArg (fun z => some (Value.int z)) (by show _ = nI (mpStep o i (mpF o ((σ.1 151), g * (σ.1 151) 2 / 100, 0) i)).2.2; rw [hz]; first | (simp [mpStep, c27, c41, c110]; done) | (simp_all [mpStep]; done))), rfl, trivial⟩ ?_
          exact ih (i + 1) (by omega)
      · refine g_iload_n h dX6_paysBack_44 rfl ?_
        refine g_aload_n h dX6_paysBack_45 rfl ?_
        refine g_iload h dX6_paysBack_46 rfl ?_
        refine g_iconst (v := 2) h dX6_paysBack_48 (by decide) ?_
        refine cl6_97 h  (ct_X6_loanPart (i := i) (p := 2) (by omega) (by decide)) rfl dX6_paysBack_49 rfl (Nat.le_of_ble_eq_true rfl) (by decide) ?_
        refine g_top (ml z.1 i 2) (by simp only [pu_puR, puR_puR, puR_self, e1, q1, q2, ml_01]) ?_
        refine g_icge h 59 dX6_paysBack_52 (by decide) (fun c52 => ?_) (fun c52 => ?_)
        · refine g_aload_n h dX6_paysBack_59 rfl ?_
          refine g_iload h dX6_paysBack_60 rfl ?_
          refine g_iconst (v := 2) h dX6_paysBack_62 (by decide) ?_
          refine cl6_97 h  (ct_X6_loanPart (i := i) (p := 2) (by omega) (by decide)) rfl dX6_paysBack_63 rfl (Nat.le_of_ble_eq_true rfl) (by decide) ?_
          refine g_top (mpP o i z) (by simp [mpP, e1, c27, c41, c52]) ?_
          refine g_istore h dX6_paysBack_66 (by rw [hL]; decide) ?_
          refine g_aload_n h dX6_paysBack_68 rfl ?_
          refine g_iload_n h dX6_paysBack_69 rfl ?_
          refine g_iconst (v := 2) h dX6_paysBack_70 (by decide) ?_
          refine g_iload h dX6_paysBack_71 rfl ?_
          refine g_ineg h dX6_paysBack_73 ?_
          refine cl6_94 h  (ct_X6_addPart (i := o) (p := 2) ho (by decide)) rfl dX6_paysBack_74 rfl (Nat.le_of_ble_eq_true rfl) (by decide) ?_
          refine g_aload_n h dX6_paysBack_77 rfl ?_
          refine g_aload_n h dX6_paysBack_78 rfl ?_
          refine g_iload h dX6_paysBack_79 rfl ?_
          refine g_iconst (v := 0) h dX6_paysBack_81 (by decide) ?_
          refine cl6_97 h  (ct_X6_loanPart (i := i) (p := 0) (by omega) (by decide)) rfl dX6_paysBack_82 rfl (Nat.le_of_ble_eq_true rfl) (by decide) ?_
          refine g_top (nI cr) (by simp only [pu_puR, puR_puR, puR_self, e1, q1]; exact hcre) ?_
          refine g_iconst (v := 2) h dX6_paysBack_85 (by decide) ?_
          refine g_iload h dX6_paysBack_86 rfl ?_
          refine cl6_94 h  (ct_X6_addPart (i := cr) (p := 2) hcr6 (by decide)) rfl dX6_paysBack_88 rfl (Nat.le_of_ble_eq_true rfl) (by decide) ?_
          refine g_iload_n h dX6_paysBack_91 rfl ?_
          refine g_iload h dX6_paysBack_92 rfl ?_
          refine g_isub h dX6_paysBack_94 ?_
          refine g_istore_n h dX6_paysBack_95 (by rw [hL]; decide) ?_
          refine g_aload_n h dX6_paysBack_96 rfl ?_
          refine g_iload h dX6_paysBack_97 rfl ?_
          refine g_iconst (v := 2) h dX6_paysBack_99 (by decide) ?_
          refine cl6_97 h  (ct_X6_loanPart (i := i) (p := 2) (by omega) (by decide)) rfl dX6_paysBack_100 rfl (Nat.le_of_ble_eq_true rfl) (by decide) ?_
          refine g_top (ml z.1 i 2) (by simp only [pu_puR, puR_puR, puR_self, e1, q1, q2, ml_01]) ?_
          refine g_iload h dX6_paysBack_103 rfl ?_
          refine g_isub h dX6_paysBack_105 ?_
          refine g_top (mpW o i z) (by first | rfl | (simp [mpW, mpP, c27, c41, c52]; done)) ?_
          refine g_istore h dX6_paysBack_106 (by rw [hL]; decide) ?_
          refine g_iload h dX6_paysBack_108 rfl ?_
          refine g_ifle h 177 dX6_paysBack_110 (by decide) (fun c110 => ?_) (fun c110 => ?_)
          · refine g_iincN h dX6_paysBack_177 rfl (by rw [hL]; decide) ?_
            refine g_goto h 18 dX6_paysBack_180 (by decide) ?_
            refine g_mem (puR σ 151 (mpF o ((σ.1 151), g * (σ.1 151) 2 / 100, 0) (i + 1)).1) (by show _ = puR σ 151 (mpStep o i (mpF o ((σ.1 151), g * (σ.1 151) 2 / 100, 0) i)).1; rw [hz, ← hτ]; first | (simp [pu_puR, puR_puR, puR_self, mpStep, mpR, addR, put3, hk, c27, c41, c52, c110]; done) | (simp_all [pu_puR, puR_puR, puR_self, mpStep, mpR, addR, put3]; done)) ?_
            refine g_sub [(0, ra X 150), (1, .int (nI o)), (3, .int (mpF o ((σ.1 151), g * (σ.1 151) 2 / 100, 0) (i + 1)).2.1), (4, .int (nI (mpF o ((σ.1 151), g * (σ.1 151) 2 / 100, 0) (i + 1)).2.2)), (5, .int (nI (i + 1)))] ⟨rfl, rfl, (congrArg (fun z => some (Value.int z)) (by show _ = (mpStep o i (mpF o ((σ.1 151), g * (σ.1 151) 2 / 100, 0) i)).2.1; rw [hz]; first | (simp [mpStep, c27, c41, c52, c110]; done) | (simp_all [mpStep]; done))), (congrArg (fun z => some (Value.int z)) (by show _ = nI (mpStep o i (mpF o ((σ.1 151), g * (σ.1 151) 2 / 100, 0) i)).2.2; rw [hz]; first | (simp [mpStep, c27, c41, c52, c110]; done) | (simp_all [mpStep]; done))), rfl, trivial⟩ ?_
            exact ih (i + 1) (by omega)
          · refine g_aload_n h dX6_paysBack_113 rfl ?_
            refine gf6_7 h  dX6_paysBack_114 ?_
            refine g_sipush (v := 325) h dX6_paysBack_117 (by decide) ?_
            refine g_iconst (v := 3) h dX6_paysBack_120 (by decide) ?_
            refine g_iload h dX6_paysBack_121 rfl ?_
            refine g_imul h dX6_paysBack_123 ?_
            refine g_iadd h dX6_paysBack_124 ?_
            refine g_iconst (v := 0) h dX6_paysBack_125 (by decide) ?_
            refine g_iadd h dX6_paysBack_126 ?_
            refine g_aload_n h dX6_paysBack_127 rfl ?_
            refine g_iload h dX6_paysBack_128 rfl ?_
            refine g_iconst (v := 0) h dX6_paysBack_130 (by decide) ?_
            refine cl6_97 h  (ct_X6_loanPart (i := i) (p := 0) (by omega) (by decide)) rfl dX6_paysBack_131 rfl (Nat.le_of_ble_eq_true rfl) (by decide) ?_
            refine g_top (ml z.1 i 0) (by simp only [pu_puR, puR_puR, puR_self, e1, q1, q2, ml_01]) ?_
            refine g_iastN h (k := 151) (by decide) (enc_151 X) (m_il z.2.2 0) (by omega) (by decide) dX6_paysBack_134 ?_
            refine g_aload_n h dX6_paysBack_135 rfl ?_
            refine gf6_7 h  dX6_paysBack_136 ?_
            refine g_sipush (v := 325) h dX6_paysBack_139 (by decide) ?_
            refine g_iconst (v := 3) h dX6_paysBack_142 (by decide) ?_
            refine g_iload h dX6_paysBack_143 rfl ?_
            refine g_imul h dX6_paysBack_145 ?_
            refine g_iadd h dX6_paysBack_146 ?_
            refine g_iconst (v := 1) h dX6_paysBack_147 (by decide) ?_
            refine g_iadd h dX6_paysBack_148 ?_
            refine g_aload_n h dX6_paysBack_149 rfl ?_
            refine g_iload h dX6_paysBack_150 rfl ?_
            refine g_iconst (v := 1) h dX6_paysBack_152 (by decide) ?_
            refine cl6_97 h  (ct_X6_loanPart (i := i) (p := 1) (by omega) (by decide)) rfl dX6_paysBack_153 rfl (Nat.le_of_ble_eq_true rfl) (by decide) ?_
            refine g_top (ml z.1 i 1) (by simp only [pu_puR, puR_puR, puR_self, e1, q1, q2, ml_01]) ?_
            refine g_iastN h (k := 151) (by decide) (enc_151 X) (m_il z.2.2 1) (by omega) (by decide) dX6_paysBack_156 ?_
            refine g_aload_n h dX6_paysBack_157 rfl ?_
            refine gf6_7 h  dX6_paysBack_158 ?_
            refine g_sipush (v := 325) h dX6_paysBack_161 (by decide) ?_
            refine g_iconst (v := 3) h dX6_paysBack_164 (by decide) ?_
            refine g_iload h dX6_paysBack_165 rfl ?_
            refine g_imul h dX6_paysBack_167 ?_
            refine g_iadd h dX6_paysBack_168 ?_
            refine g_iconst (v := 2) h dX6_paysBack_169 (by decide) ?_
            refine g_iadd h dX6_paysBack_170 ?_
            refine g_iload h dX6_paysBack_171 rfl ?_
            refine g_iastN h (k := 151) (by decide) (enc_151 X) (m_il z.2.2 2) (by omega) (by decide) dX6_paysBack_173 ?_
            refine g_iincN h dX6_paysBack_174 rfl (by rw [hL]; decide) ?_
            refine g_iincN h dX6_paysBack_177 rfl (by rw [hL]; decide) ?_
            refine g_goto h 18 dX6_paysBack_180 (by decide) ?_
            refine g_mem (puR σ 151 (mpF o ((σ.1 151), g * (σ.1 151) 2 / 100, 0) (i + 1)).1) (by show _ = puR σ 151 (mpStep o i (mpF o ((σ.1 151), g * (σ.1 151) 2 / 100, 0) i)).1; rw [hz, ← hτ]; first | (simp [pu_puR, puR_puR, puR_self, mpStep, mpR, addR, put3, hk, c27, c41, c52, c110]; done) | (simp_all [pu_puR, puR_puR, puR_self, mpStep, mpR, addR, put3]; done)) ?_
            refine g_sub [(0, ra X 150), (1, .int (nI o)), (3, .int (mpF o ((σ.1 151), g * (σ.1 151) 2 / 100, 0) (i + 1)).2.1), (4, .int (nI (mpF o ((σ.1 151), g * (σ.1 151) 2 / 100, 0) (i + 1)).2.2)), (5, .int (nI (i + 1)))] ⟨rfl, rfl, (congrArg (fun z => some (Value.int z)) (by show _ = (mpStep o i (mpF o ((σ.1 151), g * (σ.1 151) 2 / 100, 0) i)).2.1; rw [hz]; first | (simp [mpStep, c27, c41, c52, c110]; done) | (simp_all [mpStep]; done))), (congrArg (fun z => some (Value.int z)) (by show _ = nI (mpStep o i (mpF o ((σ.1 151), g * (σ.1 151) 2 / 100, 0) i)).2.2; rw [hz]; first | (simp [mpStep, c27, c41, c52, c110]; done) | (simp_all [mpStep]; done))), rfl, trivial⟩ ?_
            exact ih (i + 1) (by omega)
        · refine g_iload_n h dX6_paysBack_55 rfl ?_
          refine g_goto h 66 dX6_paysBack_56 (by decide) ?_
          refine g_top (mpP o i z) (by simp [mpP, e1, c27, c41, c52]) ?_
          refine g_istore h dX6_paysBack_66 (by rw [hL]; decide) ?_
          refine g_aload_n h dX6_paysBack_68 rfl ?_
          refine g_iload_n h dX6_paysBack_69 rfl ?_
          refine g_iconst (v := 2) h dX6_paysBack_70 (by decide) ?_
          refine g_iload h dX6_paysBack_71 rfl ?_
          refine g_ineg h dX6_paysBack_73 ?_
          refine cl6_94 h  (ct_X6_addPart (i := o) (p := 2) ho (by decide)) rfl dX6_paysBack_74 rfl (Nat.le_of_ble_eq_true rfl) (by decide) ?_
          refine g_aload_n h dX6_paysBack_77 rfl ?_
          refine g_aload_n h dX6_paysBack_78 rfl ?_
          refine g_iload h dX6_paysBack_79 rfl ?_
          refine g_iconst (v := 0) h dX6_paysBack_81 (by decide) ?_
          refine cl6_97 h  (ct_X6_loanPart (i := i) (p := 0) (by omega) (by decide)) rfl dX6_paysBack_82 rfl (Nat.le_of_ble_eq_true rfl) (by decide) ?_
          refine g_top (nI cr) (by simp only [pu_puR, puR_puR, puR_self, e1, q1]; exact hcre) ?_
          refine g_iconst (v := 2) h dX6_paysBack_85 (by decide) ?_
          refine g_iload h dX6_paysBack_86 rfl ?_
          refine cl6_94 h  (ct_X6_addPart (i := cr) (p := 2) hcr6 (by decide)) rfl dX6_paysBack_88 rfl (Nat.le_of_ble_eq_true rfl) (by decide) ?_
          refine g_iload_n h dX6_paysBack_91 rfl ?_
          refine g_iload h dX6_paysBack_92 rfl ?_
          refine g_isub h dX6_paysBack_94 ?_
          refine g_istore_n h dX6_paysBack_95 (by rw [hL]; decide) ?_
          refine g_aload_n h dX6_paysBack_96 rfl ?_
          refine g_iload h dX6_paysBack_97 rfl ?_
          refine g_iconst (v := 2) h dX6_paysBack_99 (by decide) ?_
          refine cl6_97 h  (ct_X6_loanPart (i := i) (p := 2) (by omega) (by decide)) rfl dX6_paysBack_100 rfl (Nat.le_of_ble_eq_true rfl) (by decide) ?_
          refine g_top (ml z.1 i 2) (by simp only [pu_puR, puR_puR, puR_self, e1, q1, q2, ml_01]) ?_
          refine g_iload h dX6_paysBack_103 rfl ?_
          refine g_isub h dX6_paysBack_105 ?_
          refine g_top (mpW o i z) (by first | rfl | (simp [mpW, mpP, c27, c41, c52]; done)) ?_
          refine g_istore h dX6_paysBack_106 (by rw [hL]; decide) ?_
          refine g_iload h dX6_paysBack_108 rfl ?_
          refine g_ifle h 177 dX6_paysBack_110 (by decide) (fun c110 => ?_) (fun c110 => ?_)
          · refine g_iincN h dX6_paysBack_177 rfl (by rw [hL]; decide) ?_
            refine g_goto h 18 dX6_paysBack_180 (by decide) ?_
            refine g_mem (puR σ 151 (mpF o ((σ.1 151), g * (σ.1 151) 2 / 100, 0) (i + 1)).1) (by show _ = puR σ 151 (mpStep o i (mpF o ((σ.1 151), g * (σ.1 151) 2 / 100, 0) i)).1; rw [hz, ← hτ]; first | (simp [pu_puR, puR_puR, puR_self, mpStep, mpR, addR, put3, hk, c27, c41, c52, c110]; done) | (simp_all [pu_puR, puR_puR, puR_self, mpStep, mpR, addR, put3]; done)) ?_
            refine g_sub [(0, ra X 150), (1, .int (nI o)), (3, .int (mpF o ((σ.1 151), g * (σ.1 151) 2 / 100, 0) (i + 1)).2.1), (4, .int (nI (mpF o ((σ.1 151), g * (σ.1 151) 2 / 100, 0) (i + 1)).2.2)), (5, .int (nI (i + 1)))] ⟨rfl, rfl, (congrArg (fun z => some (Value.int z)) (by show _ = (mpStep o i (mpF o ((σ.1 151), g * (σ.1 151) 2 / 100, 0) i)).2.1; rw [hz]; first | (simp [mpStep, c27, c41, c52, c110]; done) | (simp_all [mpStep]; done))), (congrArg (fun z => some (Value.int z)) (by show _ = nI (mpStep o i (mpF o ((σ.1 151), g * (σ.1 151) 2 / 100, 0) i)).2.2; rw [hz]; first | (simp [mpStep, c27, c41, c52, c110]; done) | (simp_all [mpStep]; done))), rfl, trivial⟩ ?_
            exact ih (i + 1) (by omega)
          · refine g_aload_n h dX6_paysBack_113 rfl ?_
            refine gf6_7 h  dX6_paysBack_114 ?_
            refine g_sipush (v := 325) h dX6_paysBack_117 (by decide) ?_
            refine g_iconst (v := 3) h dX6_paysBack_120 (by decide) ?_
            refine g_iload h dX6_paysBack_121 rfl ?_
            refine g_imul h dX6_paysBack_123 ?_
            refine g_iadd h dX6_paysBack_124 ?_
            refine g_iconst (v := 0) h dX6_paysBack_125 (by decide) ?_
            refine g_iadd h dX6_paysBack_126 ?_
            refine g_aload_n h dX6_paysBack_127 rfl ?_
            refine g_iload h dX6_paysBack_128 rfl ?_
            refine g_iconst (v := 0) h dX6_paysBack_130 (by decide) ?_
            refine cl6_97 h  (ct_X6_loanPart (i := i) (p := 0) (by omega) (by decide)) rfl dX6_paysBack_131 rfl (Nat.le_of_ble_eq_true rfl) (by decide) ?_
            refine g_top (ml z.1 i 0) (by simp only [pu_puR, puR_puR, puR_self, e1, q1, q2, ml_01]) ?_
            refine g_iastN h (k := 151) (by decide) (enc_151 X) (m_il z.2.2 0) (by omega) (by decide) dX6_paysBack_134 ?_
            refine g_aload_n h dX6_paysBack_135 rfl ?_
            refine gf6_7 h  dX6_paysBack_136 ?_
            refine g_sipush (v := 325) h dX6_paysBack_139 (by decide) ?_
            refine g_iconst (v := 3) h dX6_paysBack_142 (by decide) ?_
            refine g_iload h dX6_paysBack_143 rfl ?_
            refine g_imul h dX6_paysBack_145 ?_
            refine g_iadd h dX6_paysBack_146 ?_
            refine g_iconst (v := 1) h dX6_paysBack_147 (by decide) ?_
            refine g_iadd h dX6_paysBack_148 ?_
            refine g_aload_n h dX6_paysBack_149 rfl ?_
            refine g_iload h dX6_paysBack_150 rfl ?_
            refine g_iconst (v := 1) h dX6_paysBack_152 (by decide) ?_
            refine cl6_97 h  (ct_X6_loanPart (i := i) (p := 1) (by omega) (by decide)) rfl dX6_paysBack_153 rfl (Nat.le_of_ble_eq_true rfl) (by decide) ?_
            refine g_top (ml z.1 i 1) (by simp only [pu_puR, puR_puR, puR_self, e1, q1, q2, ml_01]) ?_
            refine g_iastN h (k := 151) (by decide) (enc_151 X) (m_il z.2.2 1) (by omega) (by decide) dX6_paysBack_156 ?_
            refine g_aload_n h dX6_paysBack_157 rfl ?_
            refine gf6_7 h  dX6_paysBack_158 ?_
            refine g_sipush (v := 325) h dX6_paysBack_161 (by decide) ?_
            refine g_iconst (v := 3) h dX6_paysBack_164 (by decide) ?_
            refine g_iload h dX6_paysBack_165 rfl ?_
            refine g_imul h dX6_paysBack_167 ?_
            refine g_iadd h dX6_paysBack_168 ?_
            refine g_iconst (v := 2) h dX6_paysBack_169 (by decide) ?_
            refine g_iadd h dX6_paysBack_170 ?_
            refine g_iload h dX6_paysBack_171 rfl ?_
            refine g_iastN h (k := 151) (by decide) (enc_151 X) (m_il z.2.2 2) (by omega) (by decide) dX6_paysBack_173 ?_
            refine g_iincN h dX6_paysBack_174 rfl (by rw [hL]; decide) ?_
            refine g_iincN h dX6_paysBack_177 rfl (by rw [hL]; decide) ?_
            refine g_goto h 18 dX6_paysBack_180 (by decide) ?_
            refine g_mem (puR σ 151 (mpF o ((σ.1 151), g * (σ.1 151) 2 / 100, 0) (i + 1)).1) (by show _ = puR σ 151 (mpStep o i (mpF o ((σ.1 151), g * (σ.1 151) 2 / 100, 0) i)).1; rw [hz, ← hτ]; first | (simp [pu_puR, puR_puR, puR_self, mpStep, mpR, addR, put3, hk, c27, c41, c52, c110]; done) | (simp_all [pu_puR, puR_puR, puR_self, mpStep, mpR, addR, put3]; done)) ?_
            refine g_sub [(0, ra X 150), (1, .int (nI o)), (3, .int (mpF o ((σ.1 151), g * (σ.1 151) 2 / 100, 0) (i + 1)).2.1), (4, .int (nI (mpF o ((σ.1 151), g * (σ.1 151) 2 / 100, 0) (i + 1)).2.2)), (5, .int (nI (i + 1)))] ⟨rfl, rfl, (congrArg (fun z => some (Value.int z)) (by show _ = (mpStep o i (mpF o ((σ.1 151), g * (σ.1 151) 2 / 100, 0) i)).2.1; rw [hz]; first | (simp [mpStep, c27, c41, c52, c110]; done) | (simp_all [mpStep]; done))), (congrArg (fun z => some (Value.int z)) (by show _ = nI (mpStep o i (mpF o ((σ.1 151), g * (σ.1 151) 2 / 100, 0) i)).2.2; rw [hz]; first | (simp [mpStep, c27, c41, c52, c110]; done) | (simp_all [mpStep]; done))), rfl, trivial⟩ ?_
            exact ih (i + 1) (by omega)
  refine g_iload_n h dX6_paysBack_0 rfl ?_
  refine g_aload_n h dX6_paysBack_1 rfl ?_
  refine gf6_7 h  dX6_paysBack_2 ?_
  refine g_iconst (v := 2) h dX6_paysBack_5 (by decide) ?_
  refine g_ialdN h (k := 151) (by decide) (enc_151 X) (show (2 : Int32) = nI 2 by decide) (by decide) (by decide) dX6_paysBack_6 ?_
  refine g_imul h dX6_paysBack_7 ?_
  refine g_bipush (v := 100) h dX6_paysBack_8 (by decide) ?_
  refine g_idiv h dX6_paysBack_10 (by decide) ?_
  refine g_istore_n h dX6_paysBack_11 (by rw [hL]; decide) ?_
  refine g_iconst (v := 0) h dX6_paysBack_12 (by decide) ?_
  refine g_istore h dX6_paysBack_13 (by rw [hL]; decide) ?_
  refine g_iconst (v := 0) h dX6_paysBack_15 (by decide) ?_
  refine g_istore h dX6_paysBack_16 (by rw [hL]; decide) ?_
  refine g_mem (puR σ 151 (mpF o ((σ.1 151), g * (σ.1 151) 2 / 100, 0) 0).1) (puR_id σ 151).symm ?_
  refine g_sub [(0, ra X 150), (1, .int (nI o)), (3, .int (mpF o ((σ.1 151), g * (σ.1 151) 2 / 100, 0) 0).2.1), (4, .int (nI (mpF o ((σ.1 151), g * (σ.1 151) 2 / 100, 0) 0).2.2)), (5, .int (nI 0))] ⟨rfl, rfl, rfl, lk_0, lk_0, trivial⟩ ?_
  exact LOOP m 0 (by omega)

def mbW (tp sd sk : Nat → Int32) (k : Int32) : Nat → Int32 := sumF 0 (fun o => if tp o = 1 then (if sd o = k then 0 else sk o) else 0)
def mbR (tp sd sk : Nat → Int32) (k : Int32) : Nat → Int32 := sumF 0 (fun o => if tp o = 1 then (if sd o = k then sk o else 0) else 0)
/-- those that are wrong have paid -/
def mb1 (tp sd sk : Nat → Int32) (k : Int32) (r : Nat → Int32) : Nat → Nat → Int32
  | 0 => r
  | i + 1 => addR (mb1 tp sd sk k r i) i 2 (if tp i = 1 then (if sd i = k then 0 else - sk i) else 0)
theorem mb1_ne {tp sd sk r : Nat → Int32} {k : Int32} {q : Nat} (hq : notP q) : ∀ i, i ≤ 6 → mb1 tp sd sk k r i q = r q
  | 0, _ => rfl
  | i + 1, h => by
    show addR _ i 2 _ q = _
    rw [addR_ne (hq i (by omega))]
    exact mb1_ne hq i (by omega)
def mbG (tp sd sk : Nat → Int32) (k left right : Int32) (o : Nat) : Int32 := if tp o = 1 then (if sd o = k then left * sk o / right else 0) else 0
def mb2Step (tp sd sk : Nat → Int32) (k left right : Int32) (o : Nat) (z : mpZ) : mpZ := if mbG tp sd sk k left right o ≤ 0 then z else ((mpay (addR z.1 o 2 (mbG tp sd sk k left right o)) z.2.2 o (mbG tp sd sk k left right o)).1, z.2.1 - mbG tp sd sk k left right o, (mpay (addR z.1 o 2 (mbG tp sd sk k left right o)) z.2.2 o (mbG tp sd sk k left right o)).2)
def mb2 (tp sd sk : Nat → Int32) (k left right : Int32) (z : mpZ) : Nat → mpZ
  | 0 => z
  | i + 1 => mb2Step tp sd sk k left right i (mb2 tp sd sk k left right z i)
def mb2I (r : Nat → Int32) (m : Nat) (z : mpZ) : Prop := z.1 8 = nI z.2.2 ∧ z.2.2 ≤ m ∧ mcr z.1 z.2.2 ∧ ∀ q, notP q → q < 325 → q ≠ 8 → z.1 q = r q
theorem mcr_addR {r : Nat → Int32} {m i p : Nat} {v : Int32} (h : mcr r m) (hi : i < 6) (hp : p < 42) : mcr (addR r i p v) m := fun l hl => by
  obtain ⟨c, h1, h2⟩ := h l hl
  exact ⟨c, h1, (addR_ne (by omega) : addR r i p v (325 + 3 * l + 0) = _).trans h2⟩
theorem mb2_I {tp sd sk r : Nat → Int32} {k left right h0 : Int32} {m : Nat} (hm8 : m ≤ 8) (h8 : r 8 = nI m) (hcr : mcr r m) : ∀ i, i ≤ 6 → mb2I r m (mb2 tp sd sk k left right (r, h0, m) i)
  | 0, _ => ⟨h8, Nat.le_refl m, hcr, fun _ _ _ _ => rfl⟩
  | i + 1, hi => by
    have ih := mb2_I (tp := tp) (sd := sd) (sk := sk) (k := k) (left := left) (right := right) (h0 := h0) hm8 h8 hcr i (by omega)
    show mb2I r m (mb2Step tp sd sk k left right i (mb2 tp sd sk k left right (r, h0, m) i))
    generalize mb2 tp sd sk k left right (r, h0, m) i = z at ih
    unfold mb2Step
    split
    · exact ih
    · obtain ⟨a1, a2, a3, a4⟩ := ih
      obtain ⟨b1, b2, b3, b4⟩ := mpay_ok (g := mbG tp sd sk k left right i) (show i < 6 by omega) (by omega) (mcr_addR (i := i) (p := 2) (v := mbG tp sd sk k left right i) a3 (by omega) (by decide))
      exact ⟨b1, by show (mpay _ _ _ _).2 ≤ m; omega, b3, fun q hq h1 h2 => (b4 q hq h1 h2).trans ((addR_ne (hq i (by omega))).trans (a4 q hq h1 h2))⟩
def mbLeft (tp sd sk r : Nat → Int32) (n : Nat) (k : Int32) : Int32 := mbW tp sd sk k n - mbW tp sd sk k n * r 1 / 100
def mbZ (tp sd sk r : Nat → Int32) (n m : Nat) (k : Int32) : Nat → mpZ := mb2 tp sd sk k (mbLeft tp sd sk r n k) (mbR tp sd sk k n) (mb1 tp sd sk k r n, mbW tp sd sk k n, m)
def mbNo (tp sd sk : Nat → Int32) (n : Nat) (k : Int32) : Prop := mbW tp sd sk k n = 0 ∨ mbR tp sd sk k n = 0
def mbV (tp sd sk : Nat → Int32) (n : Nat) (k : Int32) : Int32 := if mbW tp sd sk k n = 0 then 0 else if mbR tp sd sk k n = 0 then 0 else mbW tp sd sk k n
def mbM (tp sd sk r : Nat → Int32) (n m : Nat) (k : Int32) : Nat → Int32 := if mbW tp sd sk k n = 0 then r else if mbR tp sd sk k n = 0 then r else
  upd (upd (mbZ tp sd sk r n m k n).1 4 ((mbZ tp sd sk r n m k n).1 4 + (mbZ tp sd sk r n m k n).2.1)) 6 ((mbZ tp sd sk r n m k n).1 6 + 1)
def mbN (tp sd sk r : Nat → Int32) (n m : Nat) (k : Int32) : Nat := if mbW tp sd sk k n = 0 then m else if mbR tp sd sk k n = 0 then m else (mbZ tp sd sk r n m k n).2.2
theorem mbZ_I {tp sd sk r : Nat → Int32} {k : Int32} {n m : Nat} (hn6 : n ≤ 6) (hm8 : m ≤ 8) (h8 : r 8 = nI m) (hcr : mcr r m) (i : Nat) (hi : i ≤ 6) : mb2I r m (mbZ tp sd sk r n m k i) := by
  have e : ∀ {q : Nat}, notP q → mb1 tp sd sk k r n q = r q := fun hq => mb1_ne hq n hn6
  obtain ⟨a1, a2, a3, a4⟩ := mb2_I (tp := tp) (sd := sd) (sk := sk) (k := k) (left := mbLeft tp sd sk r n k) (right := mbR tp sd sk k n) (h0 := mbW tp sd sk k n) hm8 ((e (notP_lo (by decide))).trans h8) (fun l hl => by
    obtain ⟨c, h1, h2⟩ := hcr l hl
    exact ⟨c, h1, (e (notP_l l 0)).trans h2⟩) i hi
  exact ⟨a1, a2, a3, fun q hq h1 h2 => (a4 q hq h1 h2).trans (e hq)⟩

set_option maxRecDepth 100000 in
set_option maxHeartbeats 4000000 in
theorem ct_X6_bets {l : Launch} {X : fX} {σ : fM} {n m : Nat} (hc : mcn (σ.1 151) n m) (hcr : mcr (σ.1 151) m) {k : Int32} : Ct l X yX6_bets cX6_bets 8 (some .int) 2 [ra X 150, .int k] σ (some (.int (mbV (σ.1 155) (σ.1 156) (σ.1 157) n k))) (puR σ 151 (mbM (σ.1 155) (σ.1 156) (σ.1 157) (σ.1 151) n m k)) := by
  refine Ct.of RX6 rfl (by decide) (Nat.le_of_ble_eq_true rfl) ?_
  intro x hL h hr
  refine g_sub [(0, ra X 150), (1, .int k)] ⟨rfl, rfl, trivial⟩ ?_
  obtain ⟨hn, hn6, hm, hm8⟩ := id hc
  have LOOP3 : ∀ (q i : Nat), i + q = n → ¬ (mbW (σ.1 155) (σ.1 156) (σ.1 157) k n) = 0 → ¬ (mbR (σ.1 155) (σ.1 156) (σ.1 157) k n) = 0 → G x X (puR σ 151 (mbZ (σ.1 155) (σ.1 156) (σ.1 157) (σ.1 151) n m k i).1) [(0, ra X 150), (1, .int k), (2, .int (mbW (σ.1 155) (σ.1 156) (σ.1 157) k n)), (3, .int (mbR (σ.1 155) (σ.1 156) (σ.1 157) k n)), (4, .int (mbLeft (σ.1 155) (σ.1 156) (σ.1 157) (σ.1 151) n k)), (5, .int (mbZ (σ.1 155) (σ.1 156) (σ.1 157) (σ.1 151) n m k i).2.1), (6, .int (nI i))] [] 190 := by
    intro q
    induction q with
    | zero =>
      intro i hi hW hR
      have hie : i = n := by omega
      rw [hie]
      have hn : (mbZ (σ.1 155) (σ.1 156) (σ.1 157) (σ.1 151) n m k n).1 7 = nI n := ((mbZ_I (tp := (σ.1 155)) (sd := (σ.1 156)) (sk := (σ.1 157)) (k := k) (n := n) hn6 hm8 hm hcr n hn6).2.2.2 7 (notP_lo (by decide)) (by decide) (by decide)).trans hn
      refine g_iload h dX6_bets_190 rfl ?_
      refine g_aload_n h dX6_bets_192 rfl ?_
      refine gf6_7 h  dX6_bets_193 ?_
      refine g_bipush (v := 7) h dX6_bets_196 (by decide) ?_
      refine g_ialdN h (k := 151) (by decide) (enc_151 X) (show (7 : Int32) = nI 7 by decide) (by decide) (by decide) dX6_bets_198 ?_
      refine g_top (nI n) (by rw [puR_self]; exact hn) ?_
      refine g_icge h 277 dX6_bets_199 (by decide) (fun c199 => ?_) (fun c199 => absurd (Int32.le_refl _) c199)
      refine g_aload_n h dX6_bets_277 rfl ?_
      refine gf6_7 h  dX6_bets_278 ?_
      refine g_iconst (v := 4) h dX6_bets_281 (by decide) ?_
      refine g_dup2 h dX6_bets_282 rfl rfl ?_
      refine g_ialdN h (k := 151) (by decide) (enc_151 X) (show (4 : Int32) = nI 4 by decide) (by decide) (by decide) dX6_bets_283 ?_
      refine g_iload h dX6_bets_284 rfl ?_
      refine g_iadd h dX6_bets_286 ?_
      refine g_iastN h (k := 151) (by decide) (enc_151 X) (show (4 : Int32) = nI 4 by decide) (by decide) (by decide) dX6_bets_287 ?_
      refine g_aload_n h dX6_bets_288 rfl ?_
      refine gf6_7 h  dX6_bets_289 ?_
      refine g_bipush (v := 6) h dX6_bets_292 (by decide) ?_
      refine g_dup2 h dX6_bets_294 rfl rfl ?_
      refine g_ialdN h (k := 151) (by decide) (enc_151 X) (show (6 : Int32) = nI 6 by decide) (by decide) (by decide) dX6_bets_295 ?_
      refine g_iconst (v := 1) h dX6_bets_296 (by decide) ?_
      refine g_iadd h dX6_bets_297 ?_
      refine g_iastN h (k := 151) (by decide) (enc_151 X) (show (6 : Int32) = nI 6 by decide) (by decide) (by decide) dX6_bets_298 ?_
      refine g_iload_n h dX6_bets_299 rfl ?_
      exact g_iret h hr dX6_bets_300 (by unfold mbV; rw [if_neg hW, if_neg hR]) (by unfold mbM; rw [if_neg hW, if_neg hR]; simp +decide only [pu_puR, puR_puR, puR_self, upd_n])
    | succ q ih =>
      intro i hi hW hR
      have hlt : i < n := by omega
      have hI := mbZ_I (tp := (σ.1 155)) (sd := (σ.1 156)) (sk := (σ.1 157)) (k := k) (n := n) hn6 hm8 hm hcr i (by omega)
      have hn : (mbZ (σ.1 155) (σ.1 156) (σ.1 157) (σ.1 151) n m k i).1 7 = nI n := (hI.2.2.2 7 (notP_lo (by decide)) (by decide) (by decide)).trans hn
      generalize hz : mbZ (σ.1 155) (σ.1 156) (σ.1 157) (σ.1 151) n m k i = z at hI hn ⊢
      obtain ⟨b8, bm, bcr, -⟩ := hI
      have q8 : ∀ v, addR z.1 i 2 v 8 = nI z.2.2 := fun v => (addR_ne (by omega)).trans b8
      refine g_iload h dX6_bets_190 rfl ?_
      refine g_aload_n h dX6_bets_192 rfl ?_
      refine gf6_7 h  dX6_bets_193 ?_
      refine g_bipush (v := 7) h dX6_bets_196 (by decide) ?_
      refine g_ialdN h (k := 151) (by decide) (enc_151 X) (show (7 : Int32) = nI 7 by decide) (by decide) (by decide) dX6_bets_198 ?_
      refine g_top (nI n) (by rw [puR_self]; exact hn) ?_
      refine g_icge h 277 dX6_bets_199 (by decide) (fun c199 => absurd c199 (nI_ge hlt (by omega))) (fun c199 => ?_)
      refine g_aload_n h dX6_bets_202 rfl ?_
      refine gf6_22 h  dX6_bets_203 ?_
      refine g_iload h dX6_bets_206 rfl ?_
      refine g_ialdN h (k := 155) (by decide) (enc_155 X) rfl (by omega) (by decide) dX6_bets_208 ?_
      refine g_top (σ.1 155 i) rfl ?_
      refine g_iconst (v := 1) h dX6_bets_209 (by decide) ?_
      refine g_icne h 239 dX6_bets_210 (by decide) (fun c210 => ?_) (fun c210 => ?_)
      · refine g_iconst (v := 0) h dX6_bets_239 (by decide) ?_
        refine g_istore h dX6_bets_240 (by rw [hL]; decide) ?_
        refine g_iload h dX6_bets_242 rfl ?_
        refine g_ifle h 271 dX6_bets_244 (by decide) (fun c244 => ?_) (fun c244 => ?_)
        · refine g_iincN h dX6_bets_271 rfl (by rw [hL]; decide) ?_
          refine g_goto h 190 dX6_bets_274 (by decide) ?_
          refine g_mem (puR σ 151 (mbZ (σ.1 155) (σ.1 156) (σ.1 157) (σ.1 151) n m k (i + 1)).1) (by show _ = puR σ 151 (mb2Step (σ.1 155) (σ.1 156) (σ.1 157) k _ _ i (mbZ (σ.1 155) (σ.1 156) (σ.1 157) (σ.1 151) n m k i)).1; rw [hz]; first | (simp [pu_puR, puR_puR, puR_self, mb2Step, mbG, addR, c199, c210, c244]; done) | (simp_all [pu_puR, puR_puR, puR_self, mb2Step, mbG, addR]; done)) ?_
          refine g_sub [(0, ra X 150), (1, .int k), (2, .int (mbW (σ.1 155) (σ.1 156) (σ.1 157) k n)), (3, .int (mbR (σ.1 155) (σ.1 156) (σ.1 157) k n)), (4, .int (mbLeft (σ.1 155) (σ.1 156) (σ.1 157) (σ.1 151) n k)), (5, .int (mbZ (σ.1 155) (σ.1 156) (σ.1 157) (σ.1 151) n m k (i + 1)).2.1), (6, .int (nI (i + 1)))] ⟨rfl, rfl, rfl, rfl, rfl, (congrArg (fun z => some (Value.int z)) (by show _ = (mb2Step (σ.1 155) (σ.1 156) (σ.1 157) k _ _ i (mbZ (σ.1 155) (σ.1 156) (σ.1 157) (σ.1 151) n m k i)).2.1; rw [hz]; first | (simp [mb2Step, mbG, c199, c210, c244]; done) | (simp_all [mb2Step, mbG]; done))), rfl, trivial⟩ ?_
          exact ih (i + 1) (by omega) hW hR
        · refine g_iload h dX6_bets_247 rfl ?_
          refine g_iload h dX6_bets_249 rfl ?_
          refine g_isub h dX6_bets_251 ?_
          refine g_istore h dX6_bets_252 (by rw [hL]; decide) ?_
          refine g_aload_n h dX6_bets_254 rfl ?_
          refine g_iload h dX6_bets_255 rfl ?_
          refine g_iconst (v := 2) h dX6_bets_257 (by decide) ?_
          refine g_iload h dX6_bets_258 rfl ?_
          refine cl6_94 h  (ct_X6_addPart (i := i) (p := 2) (by omega) (by decide)) rfl dX6_bets_260 rfl (Nat.le_of_ble_eq_true rfl) (by decide) ?_
          refine g_mem (puR σ 151 (addR z.1 i 2 _)) (by simp only [pu_puR, puR_puR, puR_self]; rfl) ?_
          refine g_aload_n h dX6_bets_263 rfl ?_
          refine g_iload h dX6_bets_264 rfl ?_
          refine g_iload h dX6_bets_266 rfl ?_
          refine cl6_100 h  (ct_X6_paysBack (o := i) (m := z.2.2) (by omega) (by rw [puR_self]; exact q8 _) (by omega) (by rw [puR_self]; exact mcr_addR bcr (by omega) (by decide))) rfl dX6_bets_268 rfl (Nat.le_of_ble_eq_true rfl) (by decide) ?_
          refine g_iincN h dX6_bets_271 rfl (by rw [hL]; decide) ?_
          refine g_goto h 190 dX6_bets_274 (by decide) ?_
          refine g_mem (puR σ 151 (mbZ (σ.1 155) (σ.1 156) (σ.1 157) (σ.1 151) n m k (i + 1)).1) (by show _ = puR σ 151 (mb2Step (σ.1 155) (σ.1 156) (σ.1 157) k _ _ i (mbZ (σ.1 155) (σ.1 156) (σ.1 157) (σ.1 151) n m k i)).1; rw [hz]; first | (simp [pu_puR, puR_puR, puR_self, mb2Step, mbG, addR, c199, c210, c244]; done) | (simp_all [pu_puR, puR_puR, puR_self, mb2Step, mbG, addR]; done)) ?_
          refine g_sub [(0, ra X 150), (1, .int k), (2, .int (mbW (σ.1 155) (σ.1 156) (σ.1 157) k n)), (3, .int (mbR (σ.1 155) (σ.1 156) (σ.1 157) k n)), (4, .int (mbLeft (σ.1 155) (σ.1 156) (σ.1 157) (σ.1 151) n k)), (5, .int (mbZ (σ.1 155) (σ.1 156) (σ.1 157) (σ.1 151) n m k (i + 1)).2.1), (6, .int (nI (i + 1)))] ⟨rfl, rfl, rfl, rfl, rfl, (congrArg (fun z => some (Value.int z)) (by show _ = (mb2Step (σ.1 155) (σ.1 156) (σ.1 157) k _ _ i (mbZ (σ.1 155) (σ.1 156) (σ.1 157) (σ.1 151) n m k i)).2.1; rw [hz]; first | (simp [mb2Step, mbG, c199, c210, c244]; done) | (simp_all [mb2Step, mbG]; done))), rfl, trivial⟩ ?_
          exact ih (i + 1) (by omega) hW hR
      · refine g_aload_n h dX6_bets_213 rfl ?_
        refine gf6_25 h  dX6_bets_214 ?_
        refine g_iload h dX6_bets_217 rfl ?_
        refine g_ialdN h (k := 156) (by decide) (enc_156 X) rfl (by omega) (by decide) dX6_bets_219 ?_
        refine g_top (σ.1 156 i) rfl ?_
        refine g_iload_n h dX6_bets_220 rfl ?_
        refine g_icne h 239 dX6_bets_221 (by decide) (fun c221 => ?_) (fun c221 => ?_)
        · refine g_iconst (v := 0) h dX6_bets_239 (by decide) ?_
          refine g_istore h dX6_bets_240 (by rw [hL]; decide) ?_
          refine g_iload h dX6_bets_242 rfl ?_
          refine g_ifle h 271 dX6_bets_244 (by decide) (fun c244 => ?_) (fun c244 => ?_)
          · refine g_iincN h dX6_bets_271 rfl (by rw [hL]; decide) ?_
            refine g_goto h 190 dX6_bets_274 (by decide) ?_
            refine g_mem (puR σ 151 (mbZ (σ.1 155) (σ.1 156) (σ.1 157) (σ.1 151) n m k (i + 1)).1) (by show _ = puR σ 151 (mb2Step (σ.1 155) (σ.1 156) (σ.1 157) k _ _ i (mbZ (σ.1 155) (σ.1 156) (σ.1 157) (σ.1 151) n m k i)).1; rw [hz]; first | (simp [pu_puR, puR_puR, puR_self, mb2Step, mbG, addR, c199, c210, c221, c244]; done) | (simp_all [pu_puR, puR_puR, puR_self, mb2Step, mbG, addR]; done)) ?_
            refine g_sub [(0, ra X 150), (1, .int k), (2, .int (mbW (σ.1 155) (σ.1 156) (σ.1 157) k n)), (3, .int (mbR (σ.1 155) (σ.1 156) (σ.1 157) k n)), (4, .int (mbLeft (σ.1 155) (σ.1 156) (σ.1 157) (σ.1 151) n k)), (5, .int (mbZ (σ.1 155) (σ.1 156) (σ.1 157) (σ.1 151) n m k (i + 1)).2.1), (6, .int (nI (i + 1)))] ⟨rfl, rfl, rfl, rfl, rfl, (congrArg (fun z => some (Value.int z)) (by show _ = (mb2Step (σ.1 155) (σ.1 156) (σ.1 157) k _ _ i (mbZ (σ.1 155) (σ.1 156) (σ.1 157) (σ.1 151) n m k i)).2.1; rw [hz]; first | (simp [mb2Step, mbG, c199, c210, c221, c244]; done) | (simp_all [mb2Step, mbG]; done))), rfl, trivial⟩ ?_
            exact ih (i + 1) (by omega) hW hR
          · refine g_iload h dX6_bets_247 rfl ?_
            refine g_iload h dX6_bets_249 rfl ?_
            refine g_isub h dX6_bets_251 ?_
            refine g_istore h dX6_bets_252 (by rw [hL]; decide) ?_
            refine g_aload_n h dX6_bets_254 rfl ?_
            refine g_iload h dX6_bets_255 rfl ?_
            refine g_iconst (v := 2) h dX6_bets_257 (by decide) ?_
            refine g_iload h dX6_bets_258 rfl ?_
            refine cl6_94 h  (ct_X6_addPart (i := i) (p := 2) (by omega) (by decide)) rfl dX6_bets_260 rfl (Nat.le_of_ble_eq_true rfl) (by decide) ?_
            refine g_mem (puR σ 151 (addR z.1 i 2 _)) (by simp only [pu_puR, puR_puR, puR_self]; rfl) ?_
            refine g_aload_n h dX6_bets_263 rfl ?_
            refine g_iload h dX6_bets_264 rfl ?_
            refine g_iload h dX6_bets_266 rfl ?_
            refine cl6_100 h  (ct_X6_paysBack (o := i) (m := z.2.2) (by omega) (by rw [puR_self]; exact q8 _) (by omega) (by rw [puR_self]; exact mcr_addR bcr (by omega) (by decide))) rfl dX6_bets_268 rfl (Nat.le_of_ble_eq_true rfl) (by decide) ?_
            refine g_iincN h dX6_bets_271 rfl (by rw [hL]; decide) ?_
            refine g_goto h 190 dX6_bets_274 (by decide) ?_
            refine g_mem (puR σ 151 (mbZ (σ.1 155) (σ.1 156) (σ.1 157) (σ.1 151) n m k (i + 1)).1) (by show _ = puR σ 151 (mb2Step (σ.1 155) (σ.1 156) (σ.1 157) k _ _ i (mbZ (σ.1 155) (σ.1 156) (σ.1 157) (σ.1 151) n m k i)).1; rw [hz]; first | (simp [pu_puR, puR_puR, puR_self, mb2Step, mbG, addR, c199, c210, c221, c244]; done) | (simp_all [pu_puR, puR_puR, puR_self, mb2Step, mbG, addR]; done)) ?_
            refine g_sub [(0, ra X 150), (1, .int k), (2, .int (mbW (σ.1 155) (σ.1 156) (σ.1 157) k n)), (3, .int (mbR (σ.1 155) (σ.1 156) (σ.1 157) k n)), (4, .int (mbLeft (σ.1 155) (σ.1 156) (σ.1 157) (σ.1 151) n k)), (5, .int (mbZ (σ.1 155) (σ.1 156) (σ.1 157) (σ.1 151) n m k (i + 1)).2.1), (6, .int (nI (i + 1)))] ⟨rfl, rfl, rfl, rfl, rfl, (congrArg (fun z => some (Value.int z)) (by show _ = (mb2Step (σ.1 155) (σ.1 156) (σ.1 157) k _ _ i (mbZ (σ.1 155) (σ.1 156) (σ.1 157) (σ.1 151) n m k i)).2.1; rw [hz]; first | (simp [mb2Step, mbG, c199, c210, c221, c244]; done) | (simp_all [mb2Step, mbG]; done))), rfl, trivial⟩ ?_
            exact ih (i + 1) (by omega) hW hR
        · refine g_iload h dX6_bets_224 rfl ?_
          refine g_aload_n h dX6_bets_226 rfl ?_
          refine gf6_28 h  dX6_bets_227 ?_
          refine g_iload h dX6_bets_230 rfl ?_
          refine g_ialdN h (k := 157) (by decide) (enc_157 X) rfl (by omega) (by decide) dX6_bets_232 ?_
          refine g_top (σ.1 157 i) rfl ?_
          refine g_imul h dX6_bets_233 ?_
          refine g_iload_n h dX6_bets_234 rfl ?_
          refine g_idiv h dX6_bets_235 hR ?_
          refine g_goto h 240 dX6_bets_236 (by decide) ?_
          refine g_istore h dX6_bets_240 (by rw [hL]; decide) ?_
          refine g_iload h dX6_bets_242 rfl ?_
          refine g_ifle h 271 dX6_bets_244 (by decide) (fun c244 => ?_) (fun c244 => ?_)
          · refine g_iincN h dX6_bets_271 rfl (by rw [hL]; decide) ?_
            refine g_goto h 190 dX6_bets_274 (by decide) ?_
            refine g_mem (puR σ 151 (mbZ (σ.1 155) (σ.1 156) (σ.1 157) (σ.1 151) n m k (i + 1)).1) (by show _ = puR σ 151 (mb2Step (σ.1 155) (σ.1 156) (σ.1 157) k _ _ i (mbZ (σ.1 155) (σ.1 156) (σ.1 157) (σ.1 151) n m k i)).1; rw [hz]; first | (simp [pu_puR, puR_puR, puR_self, mb2Step, mbG, addR, c199, c210, c221, c244]; done) | (simp_all [pu_puR, puR_puR, puR_self, mb2Step, mbG, addR]; done)) ?_
            refine g_sub [(0, ra X 150), (1, .int k), (2, .int (mbW (σ.1 155) (σ.1 156) (σ.1 157) k n)), (3, .int (mbR (σ.1 155) (σ.1 156) (σ.1 157) k n)), (4, .int (mbLeft (σ.1 155) (σ.1 156) (σ.1 157) (σ.1 151) n k)), (5, .int (mbZ (σ.1 155) (σ.1 156) (σ.1 157) (σ.1 151) n m k (i + 1)).2.1), (6, .int (nI (i + 1)))] ⟨rfl, rfl, rfl, rfl, rfl, (congrArg (fun z => some (Value.int z)) (by show _ = (mb2Step (σ.1 155) (σ.1 156) (σ.1 157) k _ _ i (mbZ (σ.1 155) (σ.1 156) (σ.1 157) (σ.1 151) n m k i)).2.1; rw [hz]; first | (simp [mb2Step, mbG, c199, c210, c221, c244]; done) | (simp_all [mb2Step, mbG]; done))), rfl, trivial⟩ ?_
            exact ih (i + 1) (by omega) hW hR
          · refine g_iload h dX6_bets_247 rfl ?_
            refine g_iload h dX6_bets_249 rfl ?_
            refine g_isub h dX6_bets_251 ?_
            refine g_istore h dX6_bets_252 (by rw [hL]; decide) ?_
            refine g_aload_n h dX6_bets_254 rfl ?_
            refine g_iload h dX6_bets_255 rfl ?_
            refine g_iconst (v := 2) h dX6_bets_257 (by decide) ?_
            refine g_iload h dX6_bets_258 rfl ?_
            refine cl6_94 h  (ct_X6_addPart (i := i) (p := 2) (by omega) (by decide)) rfl dX6_bets_260 rfl (Nat.le_of_ble_eq_true rfl) (by decide) ?_
            refine g_mem (puR σ 151 (addR z.1 i 2 _)) (by simp only [pu_puR, puR_puR, puR_self]; rfl) ?_
            refine g_aload_n h dX6_bets_263 rfl ?_
            refine g_iload h dX6_bets_264 rfl ?_
            refine g_iload h dX6_bets_266 rfl ?_
            refine cl6_100 h  (ct_X6_paysBack (o := i) (m := z.2.2) (by omega) (by rw [puR_self]; exact q8 _) (by omega) (by rw [puR_self]; exact mcr_addR bcr (by omega) (by decide))) rfl dX6_bets_268 rfl (Nat.le_of_ble_eq_true rfl) (by decide) ?_
            refine g_iincN h dX6_bets_271 rfl (by rw [hL]; decide) ?_
            refine g_goto h 190 dX6_bets_274 (by decide) ?_
            refine g_mem (puR σ 151 (mbZ (σ.1 155) (σ.1 156) (σ.1 157) (σ.1 151) n m k (i + 1)).1) (by show _ = puR σ 151 (mb2Step (σ.1 155) (σ.1 156) (σ.1 157) k _ _ i (mbZ (σ.1 155) (σ.1 156) (σ.1 157) (σ.1 151) n m k i)).1; rw [hz]; first | (simp [pu_puR, puR_puR, puR_self, mb2Step, mbG, addR, c199, c210, c221, c244]; done) | (simp_all [pu_puR, puR_puR, puR_self, mb2Step, mbG, addR]; done)) ?_
            refine g_sub [(0, ra X 150), (1, .int k), (2, .int (mbW (σ.1 155) (σ.1 156) (σ.1 157) k n)), (3, .int (mbR (σ.1 155) (σ.1 156) (σ.1 157) k n)), (4, .int (mbLeft (σ.1 155) (σ.1 156) (σ.1 157) (σ.1 151) n k)), (5, .int (mbZ (σ.1 155) (σ.1 156) (σ.1 157) (σ.1 151) n m k (i + 1)).2.1), (6, .int (nI (i + 1)))] ⟨rfl, rfl, rfl, rfl, rfl, (congrArg (fun z => some (Value.int z)) (by show _ = (mb2Step (σ.1 155) (σ.1 156) (σ.1 157) k _ _ i (mbZ (σ.1 155) (σ.1 156) (σ.1 157) (σ.1 151) n m k i)).2.1; rw [hz]; first | (simp [mb2Step, mbG, c199, c210, c221, c244]; done) | (simp_all [mb2Step, mbG]; done))), rfl, trivial⟩ ?_
            exact ih (i + 1) (by omega) hW hR
  have LOOP2 : ∀ (q i : Nat), i + q = n → ¬ (mbW (σ.1 155) (σ.1 156) (σ.1 157) k n) = 0 → ¬ (mbR (σ.1 155) (σ.1 156) (σ.1 157) k n) = 0 → G x X (puR σ 151 (mb1 (σ.1 155) (σ.1 156) (σ.1 157) k (σ.1 151) i)) [(0, ra X 150), (1, .int k), (2, .int (mbW (σ.1 155) (σ.1 156) (σ.1 157) k n)), (3, .int (mbR (σ.1 155) (σ.1 156) (σ.1 157) k n)), (4, .int (mbLeft (σ.1 155) (σ.1 156) (σ.1 157) (σ.1 151) n k)), (5, .int (mbW (σ.1 155) (σ.1 156) (σ.1 157) k n)), (6, .int (nI i))] [] 128 := by
    intro q
    induction q with
    | zero =>
      intro i hi hW hR
      have hie : i = n := by omega
      rw [hie]
      have hn : mb1 (σ.1 155) (σ.1 156) (σ.1 157) k (σ.1 151) n 7 = nI n := (mb1_ne (notP_lo (by decide)) n hn6).trans hn
      refine g_iload h dX6_bets_128 rfl ?_
      refine g_aload_n h dX6_bets_130 rfl ?_
      refine gf6_7 h  dX6_bets_131 ?_
      refine g_bipush (v := 7) h dX6_bets_134 (by decide) ?_
      refine g_ialdN h (k := 151) (by decide) (enc_151 X) (show (7 : Int32) = nI 7 by decide) (by decide) (by decide) dX6_bets_136 ?_
      refine g_top (nI n) (by rw [puR_self]; exact hn) ?_
      refine g_icge h 187 dX6_bets_137 (by decide) (fun c137 => ?_) (fun c137 => absurd (Int32.le_refl _) c137)
      refine g_iconst (v := 0) h dX6_bets_187 (by decide) ?_
      refine g_istore h dX6_bets_188 (by rw [hL]; decide) ?_
      refine g_mem (puR σ 151 (mbZ (σ.1 155) (σ.1 156) (σ.1 157) (σ.1 151) n m k 0).1) rfl ?_
      refine g_sub [(0, ra X 150), (1, .int k), (2, .int (mbW (σ.1 155) (σ.1 156) (σ.1 157) k n)), (3, .int (mbR (σ.1 155) (σ.1 156) (σ.1 157) k n)), (4, .int (mbLeft (σ.1 155) (σ.1 156) (σ.1 157) (σ.1 151) n k)), (5, .int (mbZ (σ.1 155) (σ.1 156) (σ.1 157) (σ.1 151) n m k 0).2.1), (6, .int (nI 0))] ⟨rfl, rfl, rfl, rfl, rfl, rfl, lk_0, trivial⟩ ?_
      exact LOOP3 n 0 (by omega) hW hR
    | succ q ih =>
      intro i hi hW hR
      have hlt : i < n := by omega
      have hn : mb1 (σ.1 155) (σ.1 156) (σ.1 157) k (σ.1 151) i 7 = nI n := (mb1_ne (notP_lo (by decide)) i (by omega)).trans hn
      generalize hz : mb1 (σ.1 155) (σ.1 156) (σ.1 157) k (σ.1 151) i = z at hn ⊢
      refine g_iload h dX6_bets_128 rfl ?_
      refine g_aload_n h dX6_bets_130 rfl ?_
      refine gf6_7 h  dX6_bets_131 ?_
      refine g_bipush (v := 7) h dX6_bets_134 (by decide) ?_
      refine g_ialdN h (k := 151) (by decide) (enc_151 X) (show (7 : Int32) = nI 7 by decide) (by decide) (by decide) dX6_bets_136 ?_
      refine g_top (nI n) (by rw [puR_self]; exact hn) ?_
      refine g_icge h 187 dX6_bets_137 (by decide) (fun c137 => absurd c137 (nI_ge hlt (by omega))) (fun c137 => ?_)
      refine g_aload_n h dX6_bets_140 rfl ?_
      refine g_iload h dX6_bets_141 rfl ?_
      refine g_iconst (v := 2) h dX6_bets_143 (by decide) ?_
      refine g_aload_n h dX6_bets_144 rfl ?_
      refine gf6_22 h  dX6_bets_145 ?_
      refine g_iload h dX6_bets_148 rfl ?_
      refine g_ialdN h (k := 155) (by decide) (enc_155 X) rfl (by omega) (by decide) dX6_bets_150 ?_
      refine g_top (σ.1 155 i) rfl ?_
      refine g_iconst (v := 1) h dX6_bets_151 (by decide) ?_
      refine g_icne h 177 dX6_bets_152 (by decide) (fun c152 => ?_) (fun c152 => ?_)
      · refine g_iconst (v := 0) h dX6_bets_177 (by decide) ?_
        refine cl6_94 h  (ct_X6_addPart (i := i) (p := 2) (by omega) (by decide)) rfl dX6_bets_178 rfl (Nat.le_of_ble_eq_true rfl) (by decide) ?_
        refine g_iincN h dX6_bets_181 rfl (by rw [hL]; decide) ?_
        refine g_goto h 128 dX6_bets_184 (by decide) ?_
        refine g_mem (puR σ 151 (mb1 (σ.1 155) (σ.1 156) (σ.1 157) k (σ.1 151) (i + 1))) (by show _ = puR σ 151 (addR (mb1 (σ.1 155) (σ.1 156) (σ.1 157) k (σ.1 151) i) i 2 _); rw [hz]; first | (simp [pu_puR, puR_puR, puR_self, addR, c137, c152]; done) | (simp_all [pu_puR, puR_puR, puR_self, addR]; done)) ?_
        refine g_sub [(0, ra X 150), (1, .int k), (2, .int (mbW (σ.1 155) (σ.1 156) (σ.1 157) k n)), (3, .int (mbR (σ.1 155) (σ.1 156) (σ.1 157) k n)), (4, .int (mbLeft (σ.1 155) (σ.1 156) (σ.1 157) (σ.1 151) n k)), (5, .int (mbW (σ.1 155) (σ.1 156) (σ.1 157) k n)), (6, .int (nI (i + 1)))] ⟨rfl, rfl, rfl, rfl, rfl, rfl, rfl, trivial⟩ ?_
        exact ih (i + 1) (by omega) hW hR
      · refine g_aload_n h dX6_bets_155 rfl ?_
        refine gf6_25 h  dX6_bets_156 ?_
        refine g_iload h dX6_bets_159 rfl ?_
        refine g_ialdN h (k := 156) (by decide) (enc_156 X) rfl (by omega) (by decide) dX6_bets_161 ?_
        refine g_top (σ.1 156 i) rfl ?_
        refine g_iload_n h dX6_bets_162 rfl ?_
        refine g_iceq h 177 dX6_bets_163 (by decide) (fun c163 => ?_) (fun c163 => ?_)
        · refine g_iconst (v := 0) h dX6_bets_177 (by decide) ?_
          refine cl6_94 h  (ct_X6_addPart (i := i) (p := 2) (by omega) (by decide)) rfl dX6_bets_178 rfl (Nat.le_of_ble_eq_true rfl) (by decide) ?_
          refine g_iincN h dX6_bets_181 rfl (by rw [hL]; decide) ?_
          refine g_goto h 128 dX6_bets_184 (by decide) ?_
          refine g_mem (puR σ 151 (mb1 (σ.1 155) (σ.1 156) (σ.1 157) k (σ.1 151) (i + 1))) (by show _ = puR σ 151 (addR (mb1 (σ.1 155) (σ.1 156) (σ.1 157) k (σ.1 151) i) i 2 _); rw [hz]; first | (simp [pu_puR, puR_puR, puR_self, addR, c137, c152, c163]; done) | (simp_all [pu_puR, puR_puR, puR_self, addR]; done)) ?_
          refine g_sub [(0, ra X 150), (1, .int k), (2, .int (mbW (σ.1 155) (σ.1 156) (σ.1 157) k n)), (3, .int (mbR (σ.1 155) (σ.1 156) (σ.1 157) k n)), (4, .int (mbLeft (σ.1 155) (σ.1 156) (σ.1 157) (σ.1 151) n k)), (5, .int (mbW (σ.1 155) (σ.1 156) (σ.1 157) k n)), (6, .int (nI (i + 1)))] ⟨rfl, rfl, rfl, rfl, rfl, rfl, rfl, trivial⟩ ?_
          exact ih (i + 1) (by omega) hW hR
        · refine g_aload_n h dX6_bets_166 rfl ?_
          refine gf6_28 h  dX6_bets_167 ?_
          refine g_iload h dX6_bets_170 rfl ?_
          refine g_ialdN h (k := 157) (by decide) (enc_157 X) rfl (by omega) (by decide) dX6_bets_172 ?_
          refine g_top (σ.1 157 i) rfl ?_
          refine g_ineg h dX6_bets_173 ?_
          refine g_goto h 178 dX6_bets_174 (by decide) ?_
          refine cl6_94 h  (ct_X6_addPart (i := i) (p := 2) (by omega) (by decide)) rfl dX6_bets_178 rfl (Nat.le_of_ble_eq_true rfl) (by decide) ?_
          refine g_iincN h dX6_bets_181 rfl (by rw [hL]; decide) ?_
          refine g_goto h 128 dX6_bets_184 (by decide) ?_
          refine g_mem (puR σ 151 (mb1 (σ.1 155) (σ.1 156) (σ.1 157) k (σ.1 151) (i + 1))) (by show _ = puR σ 151 (addR (mb1 (σ.1 155) (σ.1 156) (σ.1 157) k (σ.1 151) i) i 2 _); rw [hz]; first | (simp [pu_puR, puR_puR, puR_self, addR, c137, c152, c163]; done) | (simp_all [pu_puR, puR_puR, puR_self, addR]; done)) ?_
          refine g_sub [(0, ra X 150), (1, .int k), (2, .int (mbW (σ.1 155) (σ.1 156) (σ.1 157) k n)), (3, .int (mbR (σ.1 155) (σ.1 156) (σ.1 157) k n)), (4, .int (mbLeft (σ.1 155) (σ.1 156) (σ.1 157) (σ.1 151) n k)), (5, .int (mbW (σ.1 155) (σ.1 156) (σ.1 157) k n)), (6, .int (nI (i + 1)))] ⟨rfl, rfl, rfl, rfl, rfl, rfl, rfl, trivial⟩ ?_
          exact ih (i + 1) (by omega) hW hR
  have LOOP1 : ∀ (q i : Nat), i + q = n → G x X σ [(0, ra X 150), (1, .int k), (2, .int (mbW (σ.1 155) (σ.1 156) (σ.1 157) k i)), (3, .int (mbR (σ.1 155) (σ.1 156) (σ.1 157) k i)), (4, .int (nI i))] [] 7 := by
    intro q
    induction q with
    | zero =>
      intro i hi 
      have hie : i = n := by omega
      rw [hie]
      refine g_iload h dX6_bets_7 rfl ?_
      refine g_aload_n h dX6_bets_9 rfl ?_
      refine gf6_7 h  dX6_bets_10 ?_
      refine g_bipush (v := 7) h dX6_bets_13 (by decide) ?_
      refine g_ialdN h (k := 151) (by decide) (enc_151 X) (show (7 : Int32) = nI 7 by decide) (by decide) (by decide) dX6_bets_15 ?_
      refine g_icge h 97 dX6_bets_16 (by decide) (fun c16 => ?_) (fun c16 => absurd (by rw [hn]; exact Int32.le_refl _) c16)
      refine g_iload_n h dX6_bets_97 rfl ?_
      refine g_ifeq h 105 dX6_bets_98 (by decide) (fun c98 => ?_) (fun c98 => ?_)
      · refine g_iconst (v := 0) h dX6_bets_105 (by decide) ?_
        exact g_iret h hr dX6_bets_106 (by first | (unfold mbV; rw [if_pos c98]; done) | (unfold mbV; rw [if_neg c98, if_pos c102]; done)) (by first | (unfold mbM; rw [if_pos c98, puR_id]; done) | (unfold mbM; rw [if_neg c98, if_pos c102, puR_id]; done))
      · refine g_iload_n h dX6_bets_101 rfl ?_
        refine g_ifne h 107 dX6_bets_102 (by decide) (fun c102 => ?_) (fun c102 => ?_)
        · refine g_iload_n h dX6_bets_107 rfl ?_
          refine g_iload_n h dX6_bets_108 rfl ?_
          refine g_aload_n h dX6_bets_109 rfl ?_
          refine gf6_7 h  dX6_bets_110 ?_
          refine g_iconst (v := 1) h dX6_bets_113 (by decide) ?_
          refine g_ialdN h (k := 151) (by decide) (enc_151 X) (show (1 : Int32) = nI 1 by decide) (by decide) (by decide) dX6_bets_114 ?_
          refine g_imul h dX6_bets_115 ?_
          refine g_bipush (v := 100) h dX6_bets_116 (by decide) ?_
          refine g_idiv h dX6_bets_118 (by decide) ?_
          refine g_isub h dX6_bets_119 ?_
          refine g_istore h dX6_bets_120 (by rw [hL]; decide) ?_
          refine g_iload_n h dX6_bets_122 rfl ?_
          refine g_istore h dX6_bets_123 (by rw [hL]; decide) ?_
          refine g_iconst (v := 0) h dX6_bets_125 (by decide) ?_
          refine g_istore h dX6_bets_126 (by rw [hL]; decide) ?_
          refine g_mem (puR σ 151 (mb1 (σ.1 155) (σ.1 156) (σ.1 157) k (σ.1 151) 0)) (puR_id σ 151).symm ?_
          refine g_sub [(0, ra X 150), (1, .int k), (2, .int (mbW (σ.1 155) (σ.1 156) (σ.1 157) k n)), (3, .int (mbR (σ.1 155) (σ.1 156) (σ.1 157) k n)), (4, .int (mbLeft (σ.1 155) (σ.1 156) (σ.1 157) (σ.1 151) n k)), (5, .int (mbW (σ.1 155) (σ.1 156) (σ.1 157) k n)), (6, .int (nI 0))] ⟨rfl, rfl, rfl, rfl, rfl, rfl, lk_0, trivial⟩ ?_
          exact LOOP2 n 0 (by omega) c98 c102
        · refine g_iconst (v := 0) h dX6_bets_105 (by decide) ?_
          exact g_iret h hr dX6_bets_106 (by first | (unfold mbV; rw [if_pos c98]; done) | (unfold mbV; rw [if_neg c98, if_pos c102]; done)) (by first | (unfold mbM; rw [if_pos c98, puR_id]; done) | (unfold mbM; rw [if_neg c98, if_pos c102, puR_id]; done))
    | succ q ih =>
      intro i hi 
      have hlt : i < n := by omega
      refine g_iload h dX6_bets_7 rfl ?_
      refine g_aload_n h dX6_bets_9 rfl ?_
      refine gf6_7 h  dX6_bets_10 ?_
      refine g_bipush (v := 7) h dX6_bets_13 (by decide) ?_
      refine g_ialdN h (k := 151) (by decide) (enc_151 X) (show (7 : Int32) = nI 7 by decide) (by decide) (by decide) dX6_bets_15 ?_
      refine g_icge h 97 dX6_bets_16 (by decide) (fun c16 => absurd c16 (by rw [hn]; exact nI_ge hlt (by omega))) (fun c16 => ?_)
      refine g_iload_n h dX6_bets_19 rfl ?_
      refine g_aload_n h dX6_bets_20 rfl ?_
      refine gf6_22 h  dX6_bets_21 ?_
      refine g_iload h dX6_bets_24 rfl ?_
      refine g_ialdN h (k := 155) (by decide) (enc_155 X) rfl (by omega) (by decide) dX6_bets_26 ?_
      refine g_iconst (v := 1) h dX6_bets_27 (by decide) ?_
      refine g_icne h 52 dX6_bets_28 (by decide) (fun c28 => ?_) (fun c28 => ?_)
      · refine g_iconst (v := 0) h dX6_bets_52 (by decide) ?_
        refine g_iadd h dX6_bets_53 ?_
        refine g_istore_n h dX6_bets_54 (by rw [hL]; decide) ?_
        refine g_iload_n h dX6_bets_55 rfl ?_
        refine g_aload_n h dX6_bets_56 rfl ?_
        refine gf6_22 h  dX6_bets_57 ?_
        refine g_iload h dX6_bets_60 rfl ?_
        refine g_ialdN h (k := 155) (by decide) (enc_155 X) rfl (by omega) (by decide) dX6_bets_62 ?_
        refine g_iconst (v := 1) h dX6_bets_63 (by decide) ?_
        refine g_icne h 88 dX6_bets_64 (by decide) (fun c64 => ?_) (fun c64 => ?_)
        · refine g_iconst (v := 0) h dX6_bets_88 (by decide) ?_
          refine g_iadd h dX6_bets_89 ?_
          refine g_istore_n h dX6_bets_90 (by rw [hL]; decide) ?_
          refine g_iincN h dX6_bets_91 rfl (by rw [hL]; decide) ?_
          refine g_goto h 7 dX6_bets_94 (by decide) ?_
          refine g_sub [(0, ra X 150), (1, .int k), (2, .int (mbW (σ.1 155) (σ.1 156) (σ.1 157) k (i + 1))), (3, .int (mbR (σ.1 155) (σ.1 156) (σ.1 157) k (i + 1))), (4, .int (nI (i + 1)))] ⟨rfl, rfl, (congrArg (fun z => some (Value.int z)) (by show _ = sumF _ _ i + _; first | (simp [mbW, mbR, c16, c28, c64]; done) | (simp_all [mbW, mbR]; done))), (congrArg (fun z => some (Value.int z)) (by show _ = sumF _ _ i + _; first | (simp [mbW, mbR, c16, c28, c64]; done) | (simp_all [mbW, mbR]; done))), rfl, trivial⟩ ?_
          exact ih (i + 1) (by omega)
        · refine g_aload_n h dX6_bets_67 rfl ?_
          refine gf6_25 h  dX6_bets_68 ?_
          refine g_iload h dX6_bets_71 rfl ?_
          refine g_ialdN h (k := 156) (by decide) (enc_156 X) rfl (by omega) (by decide) dX6_bets_73 ?_
          refine g_iload_n h dX6_bets_74 rfl ?_
          refine g_icne h 88 dX6_bets_75 (by decide) (fun c75 => ?_) (fun c75 => ?_)
          · refine g_iconst (v := 0) h dX6_bets_88 (by decide) ?_
            refine g_iadd h dX6_bets_89 ?_
            refine g_istore_n h dX6_bets_90 (by rw [hL]; decide) ?_
            refine g_iincN h dX6_bets_91 rfl (by rw [hL]; decide) ?_
            refine g_goto h 7 dX6_bets_94 (by decide) ?_
            refine g_sub [(0, ra X 150), (1, .int k), (2, .int (mbW (σ.1 155) (σ.1 156) (σ.1 157) k (i + 1))), (3, .int (mbR (σ.1 155) (σ.1 156) (σ.1 157) k (i + 1))), (4, .int (nI (i + 1)))] ⟨rfl, rfl, (congrArg (fun z => some (Value.int z)) (by show _ = sumF _ _ i + _; first | (simp [mbW, mbR, c16, c28, c64, c75]; done) | (simp_all [mbW, mbR]; done))), (congrArg (fun z => some (Value.int z)) (by show _ = sumF _ _ i + _; first | (simp [mbW, mbR, c16, c28, c64, c75]; done) | (simp_all [mbW, mbR]; done))), rfl, trivial⟩ ?_
            exact ih (i + 1) (by omega)
          · refine g_aload_n h dX6_bets_78 rfl ?_
            refine gf6_28 h  dX6_bets_79 ?_
            refine g_iload h dX6_bets_82 rfl ?_
            refine g_ialdN h (k := 157) (by decide) (enc_157 X) rfl (by omega) (by decide) dX6_bets_84 ?_
            refine g_goto h 89 dX6_bets_85 (by decide) ?_
            refine g_iadd h dX6_bets_89 ?_
            refine g_istore_n h dX6_bets_90 (by rw [hL]; decide) ?_
            refine g_iincN h dX6_bets_91 rfl (by rw [hL]; decide) ?_
            refine g_goto h 7 dX6_bets_94 (by decide) ?_
            refine g_sub [(0, ra X 150), (1, .int k), (2, .int (mbW (σ.1 155) (σ.1 156) (σ.1 157) k (i + 1))), (3, .int (mbR (σ.1 155) (σ.1 156) (σ.1 157) k (i + 1))), (4, .int (nI (i + 1)))] ⟨rfl, rfl, (congrArg (fun z => some (Value.int z)) (by show _ = sumF _ _ i + _; first | (simp [mbW, mbR, c16, c28, c64, c75]; done) | (simp_all [mbW, mbR]; done))), (congrArg (fun z => some (Value.int z)) (by show _ = sumF _ _ i + _; first | (simp [mbW, mbR, c16, c28, c64, c75]; done) | (simp_all [mbW, mbR]; done))), rfl, trivial⟩ ?_
            exact ih (i + 1) (by omega)
      · refine g_aload_n h dX6_bets_31 rfl ?_
        refine gf6_25 h  dX6_bets_32 ?_
        refine g_iload h dX6_bets_35 rfl ?_
        refine g_ialdN h (k := 156) (by decide) (enc_156 X) rfl (by omega) (by decide) dX6_bets_37 ?_
        refine g_iload_n h dX6_bets_38 rfl ?_
        refine g_iceq h 52 dX6_bets_39 (by decide) (fun c39 => ?_) (fun c39 => ?_)
        · refine g_iconst (v := 0) h dX6_bets_52 (by decide) ?_
          refine g_iadd h dX6_bets_53 ?_
          refine g_istore_n h dX6_bets_54 (by rw [hL]; decide) ?_
          refine g_iload_n h dX6_bets_55 rfl ?_
          refine g_aload_n h dX6_bets_56 rfl ?_
          refine gf6_22 h  dX6_bets_57 ?_
          refine g_iload h dX6_bets_60 rfl ?_
          refine g_ialdN h (k := 155) (by decide) (enc_155 X) rfl (by omega) (by decide) dX6_bets_62 ?_
          refine g_iconst (v := 1) h dX6_bets_63 (by decide) ?_
          refine g_icne h 88 dX6_bets_64 (by decide) (fun c64 => ?_) (fun c64 => ?_)
          · refine g_iconst (v := 0) h dX6_bets_88 (by decide) ?_
            refine g_iadd h dX6_bets_89 ?_
            refine g_istore_n h dX6_bets_90 (by rw [hL]; decide) ?_
            refine g_iincN h dX6_bets_91 rfl (by rw [hL]; decide) ?_
            refine g_goto h 7 dX6_bets_94 (by decide) ?_
            refine g_sub [(0, ra X 150), (1, .int k), (2, .int (mbW (σ.1 155) (σ.1 156) (σ.1 157) k (i + 1))), (3, .int (mbR (σ.1 155) (σ.1 156) (σ.1 157) k (i + 1))), (4, .int (nI (i + 1)))] ⟨rfl, rfl, (congrArg (fun z => some (Value.int z)) (by show _ = sumF _ _ i + _; first | (simp [mbW, mbR, c16, c28, c39, c64]; done) | (simp_all [mbW, mbR]; done))), (congrArg (fun z => some (Value.int z)) (by show _ = sumF _ _ i + _; first | (simp [mbW, mbR, c16, c28, c39, c64]; done) | (simp_all [mbW, mbR]; done))), rfl, trivial⟩ ?_
            exact ih (i + 1) (by omega)
          · refine g_aload_n h dX6_bets_67 rfl ?_
            refine gf6_25 h  dX6_bets_68 ?_
            refine g_iload h dX6_bets_71 rfl ?_
            refine g_ialdN h (k := 156) (by decide) (enc_156 X) rfl (by omega) (by decide) dX6_bets_73 ?_
            refine g_iload_n h dX6_bets_74 rfl ?_
            refine g_icne h 88 dX6_bets_75 (by decide) (fun c75 => ?_) (fun c75 => ?_)
            · refine g_iconst (v := 0) h dX6_bets_88 (by decide) ?_
              refine g_iadd h dX6_bets_89 ?_
              refine g_istore_n h dX6_bets_90 (by rw [hL]; decide) ?_
              refine g_iincN h dX6_bets_91 rfl (by rw [hL]; decide) ?_
              refine g_goto h 7 dX6_bets_94 (by decide) ?_
              refine g_sub [(0, ra X 150), (1, .int k), (2, .int (mbW (σ.1 155) (σ.1 156) (σ.1 157) k (i + 1))), (3, .int (mbR (σ.1 155) (σ.1 156) (σ.1 157) k (i + 1))), (4, .int (nI (i + 1)))] ⟨rfl, rfl, (congrArg (fun z => some (Value.int z)) (by show _ = sumF _ _ i + _; first | (simp [mbW, mbR, c16, c28, c39, c64, c75]; done) | (simp_all [mbW, mbR]; done))), (congrArg (fun z => some (Value.int z)) (by show _ = sumF _ _ i + _; first | (simp [mbW, mbR, c16, c28, c39, c64, c75]; done) | (simp_all [mbW, mbR]; done))), rfl, trivial⟩ ?_
              exact ih (i + 1) (by omega)
            · refine g_aload_n h dX6_bets_78 rfl ?_
              refine gf6_28 h  dX6_bets_79 ?_
              refine g_iload h dX6_bets_82 rfl ?_
              refine g_ialdN h (k := 157) (by decide) (enc_157 X) rfl (by omega) (by decide) dX6_bets_84 ?_
              refine g_goto h 89 dX6_bets_85 (by decide) ?_
              refine g_iadd h dX6_bets_89 ?_
              refine g_istore_n h dX6_bets_90 (by rw [hL]; decide) ?_
              refine g_iincN h dX6_bets_91 rfl (by rw [hL]; decide) ?_
              refine g_goto h 7 dX6_bets_94 (by decide) ?_
              refine g_sub [(0, ra X 150), (1, .int k), (2, .int (mbW (σ.1 155) (σ.1 156) (σ.1 157) k (i + 1))), (3, .int (mbR (σ.1 155) (σ.1 156) (σ.1 157) k (i + 1))), (4, .int (nI (i + 1)))] ⟨rfl, rfl, (congrArg (fun z => some (Value.int z)) (by show _ = sumF _ _ i + _; first | (simp [mbW, mbR, c16, c28, c39, c64, c75]; done) | (simp_all [mbW, mbR]; done))), (congrArg (fun z => some (Value.int z)) (by show _ = sumF _ _ i + _; first | (simp [mbW, mbR, c16, c28, c39, c64, c75]; done) | (simp_all [mbW, mbR]; done))), rfl, trivial⟩ ?_
              exact ih (i + 1) (by omega)
        · refine g_aload_n h dX6_bets_42 rfl ?_
          refine gf6_28 h  dX6_bets_43 ?_
          refine g_iload h dX6_bets_46 rfl ?_
          refine g_ialdN h (k := 157) (by decide) (enc_157 X) rfl (by omega) (by decide) dX6_bets_48 ?_
          refine g_goto h 53 dX6_bets_49 (by decide) ?_
          refine g_iadd h dX6_bets_53 ?_
          refine g_istore_n h dX6_bets_54 (by rw [hL]; decide) ?_
          refine g_iload_n h dX6_bets_55 rfl ?_
          refine g_aload_n h dX6_bets_56 rfl ?_
          refine gf6_22 h  dX6_bets_57 ?_
          refine g_iload h dX6_bets_60 rfl ?_
          refine g_ialdN h (k := 155) (by decide) (enc_155 X) rfl (by omega) (by decide) dX6_bets_62 ?_
          refine g_iconst (v := 1) h dX6_bets_63 (by decide) ?_
          refine g_icne h 88 dX6_bets_64 (by decide) (fun c64 => ?_) (fun c64 => ?_)
          · refine g_iconst (v := 0) h dX6_bets_88 (by decide) ?_
            refine g_iadd h dX6_bets_89 ?_
            refine g_istore_n h dX6_bets_90 (by rw [hL]; decide) ?_
            refine g_iincN h dX6_bets_91 rfl (by rw [hL]; decide) ?_
            refine g_goto h 7 dX6_bets_94 (by decide) ?_
            refine g_sub [(0, ra X 150), (1, .int k), (2, .int (mbW (σ.1 155) (σ.1 156) (σ.1 157) k (i + 1))), (3, .int (mbR (σ.1 155) (σ.1 156) (σ.1 157) k (i + 1))), (4, .int (nI (i + 1)))] ⟨rfl, rfl, (congrArg (fun z => some (Value.int z)) (by show _ = sumF _ _ i + _; first | (simp [mbW, mbR, c16, c28, c39, c64]; done) | (simp_all [mbW, mbR]; done))), (congrArg (fun z => some (Value.int z)) (by show _ = sumF _ _ i + _; first | (simp [mbW, mbR, c16, c28, c39, c64]; done) | (simp_all [mbW, mbR]; done))), rfl, trivial⟩ ?_
            exact ih (i + 1) (by omega)
          · refine g_aload_n h dX6_bets_67 rfl ?_
            refine gf6_25 h  dX6_bets_68 ?_
            refine g_iload h dX6_bets_71 rfl ?_
            refine g_ialdN h (k := 156) (by decide) (enc_156 X) rfl (by omega) (by decide) dX6_bets_73 ?_
            refine g_iload_n h dX6_bets_74 rfl ?_
            refine g_icne h 88 dX6_bets_75 (by decide) (fun c75 => ?_) (fun c75 => ?_)
            · refine g_iconst (v := 0) h dX6_bets_88 (by decide) ?_
              refine g_iadd h dX6_bets_89 ?_
              refine g_istore_n h dX6_bets_90 (by rw [hL]; decide) ?_
              refine g_iincN h dX6_bets_91 rfl (by rw [hL]; decide) ?_
              refine g_goto h 7 dX6_bets_94 (by decide) ?_
              refine g_sub [(0, ra X 150), (1, .int k), (2, .int (mbW (σ.1 155) (σ.1 156) (σ.1 157) k (i + 1))), (3, .int (mbR (σ.1 155) (σ.1 156) (σ.1 157) k (i + 1))), (4, .int (nI (i + 1)))] ⟨rfl, rfl, (congrArg (fun z => some (Value.int z)) (by show _ = sumF _ _ i + _; first | (simp [mbW, mbR, c16, c28, c39, c64, c75]; done) | (simp_all [mbW, mbR]; done))), (congrArg (fun z => some (Value.int z)) (by show _ = sumF _ _ i + _; first | (simp [mbW, mbR, c16, c28, c39, c64, c75]; done) | (simp_all [mbW, mbR]; done))), rfl, trivial⟩ ?_
              exact ih (i + 1) (by omega)
            · refine g_aload_n h dX6_bets_78 rfl ?_
              refine gf6_28 h  dX6_bets_79 ?_
              refine g_iload h dX6_bets_82 rfl ?_
              refine g_ialdN h (k := 157) (by decide) (enc_157 X) rfl (by omega) (by decide) dX6_bets_84 ?_
              refine g_goto h 89 dX6_bets_85 (by decide) ?_
              refine g_iadd h dX6_bets_89 ?_
              refine g_istore_n h dX6_bets_90 (by rw [hL]; decide) ?_
              refine g_iincN h dX6_bets_91 rfl (by rw [hL]; decide) ?_
              refine g_goto h 7 dX6_bets_94 (by decide) ?_
              refine g_sub [(0, ra X 150), (1, .int k), (2, .int (mbW (σ.1 155) (σ.1 156) (σ.1 157) k (i + 1))), (3, .int (mbR (σ.1 155) (σ.1 156) (σ.1 157) k (i + 1))), (4, .int (nI (i + 1)))] ⟨rfl, rfl, (congrArg (fun z => some (Value.int z)) (by show _ = sumF _ _ i + _; first | (simp [mbW, mbR, c16, c28, c39, c64, c75]; done) | (simp_all [mbW, mbR]; done))), (congrArg (fun z => some (Value.int z)) (by show _ = sumF _ _ i + _; first | (simp [mbW, mbR, c16, c28, c39, c64, c75]; done) | (simp_all [mbW, mbR]; done))), rfl, trivial⟩ ?_
              exact ih (i + 1) (by omega)
  refine g_iconst (v := 0) h dX6_bets_0 (by decide) ?_
  refine g_istore_n h dX6_bets_1 (by rw [hL]; decide) ?_
  refine g_iconst (v := 0) h dX6_bets_2 (by decide) ?_
  refine g_istore_n h dX6_bets_3 (by rw [hL]; decide) ?_
  refine g_iconst (v := 0) h dX6_bets_4 (by decide) ?_
  refine g_istore h dX6_bets_5 (by rw [hL]; decide) ?_
  refine g_sub [(0, ra X 150), (1, .int k), (2, .int (mbW (σ.1 155) (σ.1 156) (σ.1 157) k 0)), (3, .int (mbR (σ.1 155) (σ.1 156) (σ.1 157) k 0)), (4, .int (nI 0))] ⟨rfl, rfl, rfl, rfl, lk_0, trivial⟩ ?_
  exact LOOP1 n 0 (by omega)

def mLrn (c k : Int32) : Int32 := if k = 1 then (if 3 ≤ c then 3 else c + 1) else (if c ≤ 0 then 0 else c - 1)

set_option maxRecDepth 100000 in
set_option maxHeartbeats 4000000 in
theorem ct_X6_learns {l : Launch} {X : fX} {σ : fM} {i a : Nat} (hi : i < 6) (ha : a < 64) (hh : mhi (σ.1 151)) (hg : oGood (mo (σ.1 151) i)) (ht : oTab (mo (σ.1 151) i) = true) {k : Int32} : Ct l X yX6_learns cX6_learns 6 none 4 [ra X 150, .int (nI i), .int (nI a), .int k] σ none (pu σ 151 (73 + 42 * i + (10 + (oSlot (mo (σ.1 151) i) (nI a) ((σ.1 151) 3)).toNatClampNeg)) (mLrn ((mt (σ.1 151) i) (oSlot (mo (σ.1 151) i) (nI a) ((σ.1 151) 3)).toNatClampNeg) k)) := by
  refine Ct.of RX6 rfl (by decide) (Nat.le_of_ble_eq_true rfl) ?_
  intro x hL h hr
  refine g_sub [(0, ra X 150), (1, .int (nI i)), (2, .int (nI a)), (3, .int k)] ⟨rfl, rfl, rfl, rfl, trivial⟩ ?_
  obtain ⟨j, hj, ej⟩ := vp_in_of (oSlot_in hg ht (nI a) ((σ.1 151) 3)) (by decide)
  refine g_bipush (v := 10) h dX6_learns_0 (by decide) ?_
  refine g_aload_n h dX6_learns_2 rfl ?_
  refine g_iload_n h dX6_learns_3 rfl ?_
  refine g_iload_n h dX6_learns_4 rfl ?_
  refine cl6_58 h  (ct_X6_indexOf hi ha hh hg ht) rfl dX6_learns_5 rfl (Nat.le_of_ble_eq_true rfl) (by decide) ?_
  refine g_iadd h dX6_learns_8 ?_
  refine g_top (nI (10 + j)) (by rw [ej]; exact ten_add j) ?_
  refine g_istore h dX6_learns_9 (by rw [hL]; decide) ?_
  refine g_aload_n h dX6_learns_11 rfl ?_
  refine g_iload_n h dX6_learns_12 rfl ?_
  refine g_iload h dX6_learns_13 rfl ?_
  refine cl6_46 h  (ct_X6_part (i := i) (p := 10 + j) hi (by omega)) rfl dX6_learns_15 rfl (Nat.le_of_ble_eq_true rfl) (by decide) ?_
  refine g_istore h dX6_learns_18 (by rw [hL]; decide) ?_
  refine g_aload_n h dX6_learns_20 rfl ?_
  refine g_iload_n h dX6_learns_21 rfl ?_
  refine g_iload h dX6_learns_22 rfl ?_
  refine g_iload_n h dX6_learns_24 rfl ?_
  refine g_iconst (v := 1) h dX6_learns_25 (by decide) ?_
  refine g_icne h 46 dX6_learns_26 (by decide) (fun c26 => ?_) (fun c26 => ?_)
  · refine g_iload h dX6_learns_46 rfl ?_
    refine g_ifle h 58 dX6_learns_48 (by decide) (fun c48 => ?_) (fun c48 => ?_)
    · refine g_iconst (v := 0) h dX6_learns_58 (by decide) ?_
      refine cl6_82 h  (ct_X6_setPart (i := i) (p := 10 + j) hi (by omega)) rfl dX6_learns_59 rfl (Nat.le_of_ble_eq_true rfl) (by decide) ?_
      exact g_vret h hr dX6_learns_62 (by rw [ej, nI_clamp (by omega), show mt (σ.1 151) i j = mo (σ.1 151) i (10 + j) from rfl]; simp [mLrn, c26, c48])
    · refine g_iload h dX6_learns_51 rfl ?_
      refine g_iconst (v := 1) h dX6_learns_53 (by decide) ?_
      refine g_isub h dX6_learns_54 ?_
      refine g_goto h 59 dX6_learns_55 (by decide) ?_
      refine cl6_82 h  (ct_X6_setPart (i := i) (p := 10 + j) hi (by omega)) rfl dX6_learns_59 rfl (Nat.le_of_ble_eq_true rfl) (by decide) ?_
      exact g_vret h hr dX6_learns_62 (by rw [ej, nI_clamp (by omega), show mt (σ.1 151) i j = mo (σ.1 151) i (10 + j) from rfl]; simp [mLrn, c26, c48])
  · refine g_iload h dX6_learns_29 rfl ?_
    refine g_iconst (v := 3) h dX6_learns_31 (by decide) ?_
    refine g_icge h 42 dX6_learns_32 (by decide) (fun c32 => ?_) (fun c32 => ?_)
    · refine g_iconst (v := 3) h dX6_learns_42 (by decide) ?_
      refine g_goto h 59 dX6_learns_43 (by decide) ?_
      refine cl6_82 h  (ct_X6_setPart (i := i) (p := 10 + j) hi (by omega)) rfl dX6_learns_59 rfl (Nat.le_of_ble_eq_true rfl) (by decide) ?_
      exact g_vret h hr dX6_learns_62 (by rw [ej, nI_clamp (by omega), show mt (σ.1 151) i j = mo (σ.1 151) i (10 + j) from rfl]; simp [mLrn, c26, c32])
    · refine g_iload h dX6_learns_35 rfl ?_
      refine g_iconst (v := 1) h dX6_learns_37 (by decide) ?_
      refine g_iadd h dX6_learns_38 ?_
      refine g_goto h 59 dX6_learns_39 (by decide) ?_
      refine cl6_82 h  (ct_X6_setPart (i := i) (p := 10 + j) hi (by omega)) rfl dX6_learns_59 rfl (Nat.le_of_ble_eq_true rfl) (by decide) ?_
      exact g_vret h hr dX6_learns_62 (by rw [ej, nI_clamp (by omega), show mt (σ.1 151) i j = mo (σ.1 151) i (10 + j) from rfl]; simp [mLrn, c26, c32])
