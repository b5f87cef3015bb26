/-! the law's rows: a bank b of four rows, and the scratch row -/
def qI (b : Nat) : Nat := 150 + 5 * b
def oI (b : Nat) : Nat := 151 + 5 * b
def tI (b : Nat) : Nat := 152 + 5 * b
def vI (b : Nat) : Nat := 153 + 5 * b
/-- the bank's cells are there -/
def bk (X : fX) (b : Nat) : Prop := b = 0 ∨ (b = 1 ∧ X.2.2.2.2.1 = 4)
theorem bk_2 {X : fX} {b : Nat} (h : bk X b) : b = 0 ∨ b = 1 := h.elim Or.inl (fun q => Or.inr q.1)

theorem qI_lt {X : fX} {b : Nat} (h : bk X b) : qI b < nX X := by
  rcases h with rfl | ⟨rfl, e⟩
  · exact nX_lt (by decide)
  · unfold qI nX; omega
theorem enc_rq (X : fX) {b : Nat} (h : b = 0 ∨ b = 1) (row : Nat → Int32) (e : Int64) : enc X (qI b) row e = .inl (X.2.2.1 0, 8, .inl row) := by
  rcases h with rfl | rfl <;> rfl

theorem oI_lt {X : fX} {b : Nat} (h : bk X b) : oI b < nX X := by
  rcases h with rfl | ⟨rfl, e⟩
  · exact nX_lt (by decide)
  · unfold oI nX; omega
theorem enc_ro (X : fX) {b : Nat} (h : b = 0 ∨ b = 1) (row : Nat → Int32) (e : Int64) : enc X (oI b) row e = .inl (X.2.2.1 0, 50, .inl row) := by
  rcases h with rfl | rfl <;> rfl

theorem tI_lt {X : fX} {b : Nat} (h : bk X b) : tI b < nX X := by
  rcases h with rfl | ⟨rfl, e⟩
  · exact nX_lt (by decide)
  · unfold tI nX; omega
theorem enc_rt (X : fX) {b : Nat} (h : b = 0 ∨ b = 1) (row : Nat → Int32) (e : Int64) : enc X (tI b) row e = .inl (X.2.2.1 0, 40, .inl row) := by
  rcases h with rfl | rfl <;> rfl

theorem vI_lt {X : fX} {b : Nat} (h : bk X b) : vI b < nX X := by
  rcases h with rfl | ⟨rfl, e⟩
  · exact nX_lt (by decide)
  · unfold vI nX; omega
theorem enc_rv (X : fX) {b : Nat} (h : b = 0 ∨ b = 1) (row : Nat → Int32) (e : Int64) : enc X (vI b) row e = .inl (X.2.2.1 0, 24, .inl row) := by
  rcases h with rfl | rfl <;> rfl

/-- the rows of the bank b, and the scratch row, over a memory -/
def put5 (σ : fM) (b : Nat) (Q O T V w : Nat → Int32) : fM := (fun k => if k = qI b then Q else if k = oI b then O else if k = tI b then T else if k = vI b then V else if k = 154 then w else σ.1 k, σ.2)
section P5
variable {σ : fM} {b : Nat} {Q O T V w : Nat → Int32}
theorem p5_q : (put5 σ b Q O T V w).1 (qI b) = Q := if_pos rfl
theorem p5_o : (put5 σ b Q O T V w).1 (oI b) = O := by
  show (if oI b = qI b then Q else _) = _
  rw [if_neg (by unfold oI qI; omega), if_pos rfl]
theorem p5_t : (put5 σ b Q O T V w).1 (tI b) = T := by
  show (if tI b = qI b then Q else if tI b = oI b then O else _) = _
  rw [if_neg (by unfold tI qI; omega), if_neg (by unfold tI oI; omega), if_pos rfl]
theorem p5_v : (put5 σ b Q O T V w).1 (vI b) = V := by
  show (if vI b = qI b then Q else if vI b = oI b then O else if vI b = tI b then T else _) = _
  rw [if_neg (by unfold vI qI; omega), if_neg (by unfold vI oI; omega), if_neg (by unfold vI tI; omega), if_pos rfl]
theorem p5_w : (put5 σ b Q O T V w).1 154 = w := by
  show (if 154 = qI b then Q else if 154 = oI b then O else if 154 = tI b then T else if 154 = vI b then V else _) = _
  rw [if_neg (by unfold qI; omega), if_neg (by unfold oI; omega), if_neg (by unfold tI; omega), if_neg (by unfold vI; omega), if_pos rfl]
theorem p5_ne {k : Nat} (h1 : k ≠ qI b) (h2 : k ≠ oI b) (h3 : k ≠ tI b) (h4 : k ≠ vI b) (h5 : k ≠ 154) : (put5 σ b Q O T V w).1 k = σ.1 k := by
  show (if k = qI b then Q else if k = oI b then O else if k = tI b then T else if k = vI b then V else if k = 154 then w else σ.1 k) = _
  rw [if_neg h1, if_neg h2, if_neg h3, if_neg h4, if_neg h5]
theorem p5_lo {k : Nat} (h : k < 150) : (put5 σ b Q O T V w).1 k = σ.1 k := p5_ne (by unfold qI; omega) (by unfold oI; omega) (by unfold tI; omega) (by unfold vI; omega) (by omega)
/-- the other bank -/
theorem p5_b {b' : Nat} (hb : b' ≠ b) : (put5 σ b Q O T V w).1 (qI b') = σ.1 (qI b') ∧ (put5 σ b Q O T V w).1 (oI b') = σ.1 (oI b') ∧ (put5 σ b Q O T V w).1 (tI b') = σ.1 (tI b') ∧ (put5 σ b Q O T V w).1 (vI b') = σ.1 (vI b') :=
  ⟨p5_ne (by unfold qI; omega) (by unfold qI oI; omega) (by unfold qI tI; omega) (by unfold qI vI; omega) (by unfold qI; omega), p5_ne (by unfold oI qI; omega) (by unfold oI; omega) (by unfold oI tI; omega) (by unfold oI vI; omega) (by unfold oI; omega),
   p5_ne (by unfold tI qI; omega) (by unfold tI oI; omega) (by unfold tI; omega) (by unfold tI vI; omega) (by unfold tI; omega), p5_ne (by unfold vI qI; omega) (by unfold vI oI; omega) (by unfold vI tI; omega) (by unfold vI; omega) (by unfold vI; omega)⟩
theorem p5_2 : (put5 σ b Q O T V w).2 = σ.2 := rfl
theorem p5_self (h1 : σ.1 (qI b) = Q) (h2 : σ.1 (oI b) = O) (h3 : σ.1 (tI b) = T) (h4 : σ.1 (vI b) = V) (h5 : σ.1 154 = w) : put5 σ b Q O T V w = σ := by
  refine Prod.ext ?_ rfl
  funext k
  show (if k = qI b then Q else if k = oI b then O else if k = tI b then T else if k = vI b then V else if k = 154 then w else σ.1 k) = _
  by_cases c1 : k = qI b
  · rw [if_pos c1, c1, h1]
  · rw [if_neg c1]
    by_cases c2 : k = oI b
    · rw [if_pos c2, c2, h2]
    · rw [if_neg c2]
      by_cases c3 : k = tI b
      · rw [if_pos c3, c3, h3]
      · rw [if_neg c3]
        by_cases c4 : k = vI b
        · rw [if_pos c4, c4, h4]
        · rw [if_neg c4]
          by_cases c5 : k = 154
          · rw [if_pos c5, c5, h5]
          · rw [if_neg c5]
theorem p5_eq {τ : fM} (h2 : τ.2 = σ.2) (h0 : ∀ k, k ≠ qI b → k ≠ oI b → k ≠ tI b → k ≠ vI b → k ≠ 154 → τ.1 k = σ.1 k) (h : τ.1 (qI b) = Q ∧ τ.1 (oI b) = O ∧ τ.1 (tI b) = T ∧ τ.1 (vI b) = V ∧ τ.1 154 = w) : τ = put5 σ b Q O T V w := by
  rw [← p5_self h.1 h.2.1 h.2.2.1 h.2.2.2.1 h.2.2.2.2]
  refine Prod.ext ?_ h2
  funext k
  show (if k = qI b then Q else if k = oI b then O else if k = tI b then T else if k = vI b then V else if k = 154 then w else τ.1 k) = (if k = qI b then Q else if k = oI b then O else if k = tI b then T else if k = vI b then V else if k = 154 then w else σ.1 k)
  by_cases c1 : k = qI b
  · rw [if_pos c1, if_pos c1]
  · rw [if_neg c1, if_neg c1]
    by_cases c2 : k = oI b
    · rw [if_pos c2, if_pos c2]
    · rw [if_neg c2, if_neg c2]
      by_cases c3 : k = tI b
      · rw [if_pos c3, if_pos c3]
      · rw [if_neg c3, if_neg c3]
        by_cases c4 : k = vI b
        · rw [if_pos c4, if_pos c4]
        · rw [if_neg c4, if_neg c4]
          by_cases c5 : k = 154
          · rw [if_pos c5, if_pos c5]
          · rw [if_neg c5, if_neg c5]; exact h0 k c1 c2 c3 c4 c5
theorem p5_p5 {Q' O' T' V' w' : Nat → Int32} : put5 (put5 σ b Q O T V w) b Q' O' T' V' w' = put5 σ b Q' O' T' V' w' :=
  p5_eq rfl (fun k c1 c2 c3 c4 c5 => by rw [p5_ne c1 c2 c3 c4 c5, p5_ne c1 c2 c3 c4 c5]) ⟨p5_q, p5_o, p5_t, p5_v, p5_w⟩

theorem puR_q (r : Nat → Int32) : puR (put5 σ b Q O T V w) (qI b) r = put5 σ b r O T V w := 
  p5_eq rfl (fun k c1 c2 c3 c4 c5 => by rw [puR_ne _ c1, p5_ne c1 c2 c3 c4 c5]) ⟨by rw [puR_self], (puR_ne _ (by unfold oI qI; omega)).trans p5_o, (puR_ne _ (by unfold tI qI; omega)).trans p5_t, (puR_ne _ (by unfold vI qI; omega)).trans p5_v, (puR_ne _ (by unfold qI; omega)).trans p5_w⟩
theorem pu_q (j : Nat) (v : Int32) : pu (put5 σ b Q O T V w) (qI b) j v = put5 σ b (upd Q j v) O T V w := by rw [pu_puR, puR_q, p5_q]

theorem puR_o (r : Nat → Int32) : puR (put5 σ b Q O T V w) (oI b) r = put5 σ b Q r T V w := 
  p5_eq rfl (fun k c1 c2 c3 c4 c5 => by rw [puR_ne _ c2, p5_ne c1 c2 c3 c4 c5]) ⟨(puR_ne _ (by unfold qI oI; omega)).trans p5_q, by rw [puR_self], (puR_ne _ (by unfold tI oI; omega)).trans p5_t, (puR_ne _ (by unfold vI oI; omega)).trans p5_v, (puR_ne _ (by unfold oI; omega)).trans p5_w⟩
theorem pu_o (j : Nat) (v : Int32) : pu (put5 σ b Q O T V w) (oI b) j v = put5 σ b Q (upd O j v) T V w := by rw [pu_puR, puR_o, p5_o]

theorem puR_t (r : Nat → Int32) : puR (put5 σ b Q O T V w) (tI b) r = put5 σ b Q O r V w := 
  p5_eq rfl (fun k c1 c2 c3 c4 c5 => by rw [puR_ne _ c3, p5_ne c1 c2 c3 c4 c5]) ⟨(puR_ne _ (by unfold qI tI; omega)).trans p5_q, (puR_ne _ (by unfold oI tI; omega)).trans p5_o, by rw [puR_self], (puR_ne _ (by unfold vI tI; omega)).trans p5_v, (puR_ne _ (by unfold tI; omega)).trans p5_w⟩
theorem pu_t (j : Nat) (v : Int32) : pu (put5 σ b Q O T V w) (tI b) j v = put5 σ b Q O (upd T j v) V w := by rw [pu_puR, puR_t, p5_t]

theorem puR_v (r : Nat → Int32) : puR (put5 σ b Q O T V w) (vI b) r = put5 σ b Q O T r w := 
  p5_eq rfl (fun k c1 c2 c3 c4 c5 => by rw [puR_ne _ c4, p5_ne c1 c2 c3 c4 c5]) ⟨(puR_ne _ (by unfold qI vI; omega)).trans p5_q, (puR_ne _ (by unfold oI vI; omega)).trans p5_o, (puR_ne _ (by unfold tI vI; omega)).trans p5_t, by rw [puR_self], (puR_ne _ (by unfold vI; omega)).trans p5_w⟩
theorem pu_v (j : Nat) (v : Int32) : pu (put5 σ b Q O T V w) (vI b) j v = put5 σ b Q O T (upd V j v) w := by rw [pu_puR, puR_v, p5_v]

theorem puR_w (r : Nat → Int32) : puR (put5 σ b Q O T V w) 154 r = put5 σ b Q O T V r := 
  p5_eq rfl (fun k c1 c2 c3 c4 c5 => by rw [puR_ne _ c5, p5_ne c1 c2 c3 c4 c5]) ⟨(puR_ne _ (by unfold qI; omega)).trans p5_q, (puR_ne _ (by unfold oI; omega)).trans p5_o, (puR_ne _ (by unfold tI; omega)).trans p5_t, (puR_ne _ (by unfold vI; omega)).trans p5_v, by rw [puR_self]⟩
theorem pu_w (j : Nat) (v : Int32) : pu (put5 σ b Q O T V w) 154 j v = put5 σ b Q O T V (upd w j v) := by rw [pu_puR, puR_w, p5_w]

end P5
section LR
variable {l : Launch} {x : fC} {X : fX} {σ : fM} {L : List (Nat × Value)} {st : List Value} {pc : Nat} {cc : ByteArray} {own : String} {d : Nat} {b : Nat} {Q O T V w : Nat → Int32}

theorem g_ldq (h : Ok l x X cc own d) (hb : bk X b) {j : Nat} (hj : j < 8) (hd : decode cc pc = .ok (.iaload, 1)) (kk : G x X (put5 σ b Q O T V w) L (.int (Q j) :: st) (pc + 1)) : G x X (put5 σ b Q O T V w) L (.int (nI j) :: ra X (qI b) :: st) pc :=
  g_ialdN h (k := (qI b)) (qI_lt hb) (enc_rq X (bk_2 hb)) rfl hj (by decide) hd (by rw [p5_q]; exact kk)
theorem g_stq (h : Ok l x X cc own d) (hb : bk X b) {j : Nat} {v : Int32} (hj : j < 8) (hd : decode cc pc = .ok (.iastore, 1)) (kk : G x X (put5 σ b (upd Q j v) O T V w) L st (pc + 1)) : G x X (put5 σ b Q O T V w) L (.int v :: .int (nI j) :: ra X (qI b) :: st) pc :=
  g_iastN h (k := (qI b)) (qI_lt hb) (enc_rq X (bk_2 hb)) rfl hj (by decide) hd (by rw [pu_q]; exact kk)

theorem g_ldo (h : Ok l x X cc own d) (hb : bk X b) {j : Nat} (hj : j < 50) (hd : decode cc pc = .ok (.iaload, 1)) (kk : G x X (put5 σ b Q O T V w) L (.int (O j) :: st) (pc + 1)) : G x X (put5 σ b Q O T V w) L (.int (nI j) :: ra X (oI b) :: st) pc :=
  g_ialdN h (k := (oI b)) (oI_lt hb) (enc_ro X (bk_2 hb)) rfl hj (by decide) hd (by rw [p5_o]; exact kk)
theorem g_sto (h : Ok l x X cc own d) (hb : bk X b) {j : Nat} {v : Int32} (hj : j < 50) (hd : decode cc pc = .ok (.iastore, 1)) (kk : G x X (put5 σ b Q (upd O j v) T V w) L st (pc + 1)) : G x X (put5 σ b Q O T V w) L (.int v :: .int (nI j) :: ra X (oI b) :: st) pc :=
  g_iastN h (k := (oI b)) (oI_lt hb) (enc_ro X (bk_2 hb)) rfl hj (by decide) hd (by rw [pu_o]; exact kk)

theorem g_ldt (h : Ok l x X cc own d) (hb : bk X b) {j : Nat} (hj : j < 40) (hd : decode cc pc = .ok (.iaload, 1)) (kk : G x X (put5 σ b Q O T V w) L (.int (T j) :: st) (pc + 1)) : G x X (put5 σ b Q O T V w) L (.int (nI j) :: ra X (tI b) :: st) pc :=
  g_ialdN h (k := (tI b)) (tI_lt hb) (enc_rt X (bk_2 hb)) rfl hj (by decide) hd (by rw [p5_t]; exact kk)
theorem g_stt (h : Ok l x X cc own d) (hb : bk X b) {j : Nat} {v : Int32} (hj : j < 40) (hd : decode cc pc = .ok (.iastore, 1)) (kk : G x X (put5 σ b Q O (upd T j v) V w) L st (pc + 1)) : G x X (put5 σ b Q O T V w) L (.int v :: .int (nI j) :: ra X (tI b) :: st) pc :=
  g_iastN h (k := (tI b)) (tI_lt hb) (enc_rt X (bk_2 hb)) rfl hj (by decide) hd (by rw [pu_t]; exact kk)

theorem g_ldv (h : Ok l x X cc own d) (hb : bk X b) {j : Nat} (hj : j < 24) (hd : decode cc pc = .ok (.iaload, 1)) (kk : G x X (put5 σ b Q O T V w) L (.int (V j) :: st) (pc + 1)) : G x X (put5 σ b Q O T V w) L (.int (nI j) :: ra X (vI b) :: st) pc :=
  g_ialdN h (k := (vI b)) (vI_lt hb) (enc_rv X (bk_2 hb)) rfl hj (by decide) hd (by rw [p5_v]; exact kk)
theorem g_stv (h : Ok l x X cc own d) (hb : bk X b) {j : Nat} {v : Int32} (hj : j < 24) (hd : decode cc pc = .ok (.iastore, 1)) (kk : G x X (put5 σ b Q O T (upd V j v) w) L st (pc + 1)) : G x X (put5 σ b Q O T V w) L (.int v :: .int (nI j) :: ra X (vI b) :: st) pc :=
  g_iastN h (k := (vI b)) (vI_lt hb) (enc_rv X (bk_2 hb)) rfl hj (by decide) hd (by rw [pu_v]; exact kk)

theorem g_ldw (h : Ok l x X cc own d) {j : Nat} (hj : j < 15) (hd : decode cc pc = .ok (.iaload, 1)) (kk : G x X (put5 σ b Q O T V w) L (.int (w j) :: st) (pc + 1)) : G x X (put5 σ b Q O T V w) L (.int (nI j) :: ra X 154 :: st) pc :=
  g_ialdN h (k := 154) (nX_lt (by decide)) (enc_154 X) rfl hj (by decide) hd (by rw [p5_w]; exact kk)
theorem g_stw (h : Ok l x X cc own d) {j : Nat} {v : Int32} (hj : j < 15) (hd : decode cc pc = .ok (.iastore, 1)) (kk : G x X (put5 σ b Q O T V (upd w j v)) L st (pc + 1)) : G x X (put5 σ b Q O T V w) L (.int v :: .int (nI j) :: ra X 154 :: st) pc :=
  g_iastN h (k := 154) (nX_lt (by decide)) (enc_154 X) rfl hj (by decide) hd (by rw [pu_w]; exact kk)

end LR
/-! contracts whose memory behind is told by a property, and which may make cells -/
def fB (X : fX) (sz : Nat) : Addr → Prop := fun q => fA X q ∨ sz ≤ q
def fPd (X : fX) (av : List Value) (σ : fM) (sz : Nat) : Array Value → State → Prop := fun v U => fPc X av σ v U ∧ U.heap.size = sz
theorem fPd_blind (X : fX) (av : List Value) (σ : fM) (sz : Nat) : FrameBlind (fPd X av σ sz) := fun a U g mk h => ⟨fPc_blind X av σ a U g mk h.1, h.2⟩
def fQe (X : fX) (v : Option Value) (R : fM → Prop) (sz : Nat) : Array Value → State → Outcome → State → Prop := fun _ st oc t => (oc = .returned v ∧ ∃ σ', R σ' ∧ va_P X.1 vwCl (wl X σ') t.heap) ∧ va_F (fB X sz) st t
abbrev fRm (d mc ms : Nat) : Room := { frames := d, cells := mc, slots := ms, locals := 36 * d }
def CtE (l : Launch) (X : fX) (y : MethodName) (cc : ByteArray) (mL : Nat) (ret : Option FieldType) (d mc ms : Nat) (av : List Value) (σ : fM) (v : Option Value) (R : fM → Prop) : Prop :=
  ∀ sz, Met l y (fT y cc mL ret) (fRm d mc ms) (fPd X av σ sz) (fQe X v R sz) mc ms (fB X sz)
/-- the place, with so many cells and slots made so far -/
def kn (x : fC) (k n : Nat) : fC := (xp x, xl x, xe x, xR x, xs x, xm x, xa x, xb x, xM x, xc x, xA x, k, n, xQ x, xL x)
theorem va_T.wide {ty : FieldType} {t N : Nat} {f : Nat → Value} {A B : Nat → Prop} {U : State} {H : Heap} (h : va_T ty t N f A U H) (hAB : ∀ q : Nat, q < H.size → B q → A q) : va_T ty t N f B U H := by
  obtain ⟨cell, h1, h2, h3, h4, h5, h6, h7⟩ := h
  exact ⟨cell, h1, h2, h3, h4, h5, h6, fun q => h7 (hAB t (Array.getElem?_eq_some_iff.mp h1).1 q)⟩
theorem va_Z.wide {C n d : String} {v : Value} {A B : Nat → Prop} {U : State} {H : Heap} (h : va_Z C n d v A U H) (hAB : ∀ q : Nat, q < H.size → B q → A q) : va_Z C n d v B U H := by
  obtain ⟨cf, kf, fi, f, a, cell, h1, h2, h3, h4, h5, h6, h7, h8⟩ := h
  exact ⟨cf, kf, fi, f, a, cell, h1, h2, h3, h4, h5, h6, h7, fun q => h8 (hAB a (Array.getElem?_eq_some_iff.mp h5).1 q)⟩
theorem fZ.wide {X : fX} {A B : Addr → Prop} {U : State} {H : Heap} (h : fZ X A U H) (hAB : ∀ q : Nat, q < H.size → B q → A q) : fZ X B U H :=
  ⟨⟨h.1.1.wide hAB, h.1.2.wide hAB⟩, ⟨h.2.1.1.wide hAB, h.2.1.2.wide hAB⟩, h.2.2.wide hAB⟩
/-- an end, told by a property -/
def RtE (x : fC) (X : fX) (ret : Option FieldType) (v : Option Value) (R : fM → Prop) (sz mc ms : Nat) : Prop :=
  (xM x).sig.returnType = ret ∧ (xM x).locks = false ∧ xA x = fB X sz ∧ (xs x).heap.size = sz ∧ xQ x = MQ (xb x) (fQe X v R sz) (xa x) (xs x) mc ms (fB X sz)
theorem CtE.of {l : Launch} {X : fX} {y : MethodName} {cc : ByteArray} {mL : Nat} {ret : Option FieldType} {d mc ms : Nat} {av : List Value} {σ : fM} {v : Option Value} {R : fM → Prop} (own : String) (hown : y.cls = own) (hy : plainName y.cls = true) (hlen : (lg_sl av).length ≤ mL)
    (body : ∀ (x : fC) (sz : Nat), xL x = mL → xR x = fRm d mc ms → xk x = 0 → xn x = 0 → Ok l x X cc own d → RtE x X ret v R sz mc ms → G x X σ (lv_args 0 av) [] 0) : CtE l X y cc mL ret d mc ms av σ v R := by
  intro sz
  refine Met.ofW (cc := cc) (maxL := mL) (ret := ret) hy rfl ?_
  intro p e s m args below meth c s₁ B hml hv
  obtain ⟨⟨rfl, hP, hK, hAd, hZ⟩, hsz⟩ := hv
  have hts := atoms_spec (ws := fT y cc mL ret) B.pre
  have ho : s.vm.findClass own = some m.cls := hown ▸ findClass_of_methodNamed B.named
  rw [lg_entry_eq]
  subst hsz
  exact body (p, l, e, fRm d mc ms, s, m, av.toArray, below, meth, c, fB X s.heap.size, 0, 0, MQ below (fQe X v R s.heap.size) av.toArray s mc ms (fB X s.heap.size), mL) s.heap.size rfl rfl rfl rfl ⟨⟨rfl, B.exec, B.bytes, hml, ho⟩, fun w hw => hts w (List.mem_cons_of_mem _ hw), hK, ⟨hAd.1, fun k hk => Or.inl (hAd.2 k hk)⟩, hZ.wide (fun q hq h => h.elim id (fun z => absurd hq (Nat.not_lt.mpr z))), Nat.le_refl _, Nat.le_refl _, Nat.zero_le _, Nat.zero_le _⟩ ⟨B.returns, B.notSynchronized, rfl, rfl, rfl⟩ s.heap [] _ hP va_S.rf (lv_entry av hlen)
section RE
variable {l : Launch} {x : fC} {X : fX} {σ : fM} {L : List (Nat × Value)} {st : List Value} {pc : Nat} {cc : ByteArray} {own : String} {d : Nat}
/-- the end of a method that makes no cells -/
theorem g_iretE (h : Ok l x X cc own d) {r a : Int32} {ty : FieldType} {R : fM → Prop} {sz : Nat} (hr : RtE x X (some ty) (some (.int r)) R sz (xk x) (xn x)) (hn : narrow ty (.int a) = .int a) (hd : decode cc pc = .ok (.ireturn, 1)) (ha : a = r) (hσ : R σ) : G x X σ L [.int a] pc := fun H locs ls hP hS hl => by
  subst ha
  show W _ _ _ _ _ _ _ _ _ _ _ _ _ _ _ _
  rw [hr.2.2.2.2]
  rw [hr.2.2.1] at hS
  exact W.zret h.hx h.hb hr.1 hn (fun t ht hW => ⟨⟨rfl, σ, hσ, by rw [ht]; exact hP⟩, hS.F ht⟩) hS.2.2 hd hr.2.1
/-- behind a call whose memory behind is told by a property -/
theorem g_contE (h : Ok l x X cc own d) (hA : ∀ q, (xs x).heap.size ≤ q → xA x q) {H : Heap} {locs : List Loc} {ls : Array Slot} (hS : va_S (xA x) (xs x).heap H locs) (hl : lv_has ls (xL x) L) {v : Option Value} {R : fM → Prop} {rest : List Value} {a : Array Value} {mc ms : Nat}
    (hr : va_Run (xp x) (xl x) (xe x) (xR x) (xs x) (xm x) (xa x) (xb x) (xM x) (xc x) H locs (xk x) (xn x) mc ms (F0 (xm x) pc ls st) rest (fQe X v R H.size a) (fB X H.size)) (kk : ∀ σ', R σ' → G (kn x (xk x + mc) (xn x + ms)) X σ' L (v.toList ++ rest) (pc + 3)) :
    W (xp x) (xl x) (xe x) (xR x) (xs x) (xm x) (xa x) (xb x) (xM x) (xc x) H locs (xk x) (xn x) (xQ x) (F0 (xm x) pc ls st) := by
  intro T hT X0
  obtain ⟨v0, st₀, t, T', L0, h0, X', hL, e1, e2, ⟨⟨hv, σ', hR, hp⟩, hz, hk⟩, st⟩ := hr T hT X0
  cases hv
  rw [h0] at hz hk
  have hB : ∀ q, fB X H.size q → xA x q := fun q hq => hq.elim (fA_in h q) (fun z => hA q (Nat.le_trans hS.1 z))
  obtain ⟨t2, a1, b1⟩ := kk σ' hR T'.heap (locs ++ L0) ls (by rw [e1]; exact hp) ⟨Nat.le_trans hS.1 (by rw [e1]; exact hz), fun q h1 h2 => by rw [e1, hk q (Nat.lt_of_lt_of_le h1 hS.1) (fun z => h2 (hB q z))]; exact hS.2.1 q h1 h2, fun q hq => by
      rcases List.mem_append.mp hq with hh | hh
      · exact hS.2.2 q hh
      · exact hB _ (hL q hh)⟩ hl T' rfl X'
  exact ⟨t2, st t2 a1, b1⟩
theorem g_callE (h : Ok l x X cc own d) (hA : ∀ q, (xs x).heap.size ≤ q → xA x q) {y : MethodName} {cy : ByteArray} {mL idx d' n mc ms : Nat} {ret : Option FieldType} {av : List Value} {v : Option Value} {R : fM → Prop} {rest : List Value}
    (hG : GoodIn lw_gd (fT y cy mL ret)) (hl1 : Cond.methodLink own idx y ∈ lw_gd) (hs1 : Cond.static y ∈ lw_gd) (hi1 : Cond.initialized y.cls ∈ lw_gd) (hy : y.cls ≠ "java/lang/invoke/MethodHandle" ∧ y.cls ≠ "java/lang/invoke/VarHandle" ∧ (parseMethodDescriptor y.desc).map (fun d => d.parameters.length) = some n) (hmL : mL ≤ 17) (hn : av.length = n)
    (hC : CtE l X y cy mL ret d' mc ms av σ v R) (hd : decode cc pc = .ok (.invokestatic idx, 3)) (hst : st = av.reverse ++ rest) (hcat : (rest.map fun v => v.category).sum ≤ 8) (hdd : d' < d) (hcells : xk x + mc ≤ (xR x).cells) (hslots : xn x + ms ≤ (xR x).slots)
    (kk : ∀ σ', R σ' → G (kn x (xk x + mc) (xn x + ms)) X σ' L (v.toList ++ rest) (pc + 3)) : G x X σ L st pc := fun H locs ls hP hS hl => by
  refine g_contE h hA hS hl (va_runS (As := av) (rest := rest) ⟨h.hx, h.hb, h.hml, h.ho, h.hts⟩ (by have hC' := hC H.size; rw [← h.1.1] at hC'; exact hC') ⟨callB_of n (rm := fRm d' mc ms) h.hts hG rfl rfl rfl (h.hts _ hi1) (h.hts _ hl1) hy (show (fRm d' mc ms).frames + 1 ≤ (xR x).frames ∧ 8 + (mL + 11) + (fRm d' mc ms).locals ≤ (xR x).locals from g_room h hdd hmL), h.hts _ hs1⟩ ⟨fPd_blind _ _ _ _, fun U hU hW => ⟨⟨rfl, g_start h hP hS U hU hW⟩, by rw [hU]⟩⟩ rfl hn hl.1 hst (lv_room hcat) hd ⟨hcells, hslots⟩) kk
end RE
/-! new cells -/
theorem arrV_cg {cA : ClassId} {n : Nat} {f g : Nat → Value} (h : ∀ j, j < n → f j = g j) : arrV cA n f = arrV cA n g := by
  unfold arrV
  congr 1
  apply Array.ext
  · simp
  · intro i h1 h2
    simp at h1 ⊢
    exact h i h1
theorem at_q {D : va_G} {cl : List vw_C} {cA : ClassId} {n a : Nat} {f g : Nat → Option Nat} {H : Heap} (h : ∀ j, j < n → f j = g j) (k : va_at D cl (a, .inl (cA, n, .inr (.inr (.inr (.inr f))))) H) : va_at D cl (a, .inl (cA, n, .inr (.inr (.inr (.inr g))))) H := by
  show H[a]? = some (vp_cell cA (n, _))
  rw [vp_cell_q, ← arrV_cg (f := fun j => va_rf (f j)) (fun j hj => by rw [h j hj])]
  exact k
theorem at_i {D : va_G} {cl : List vw_C} {cA : ClassId} {n a : Nat} {f g : Nat → Int32} {H : Heap} (h : ∀ j, j < n → f j = g j) (k : va_at D cl (a, .inl (cA, n, .inl f)) H) : va_at D cl (a, .inl (cA, n, .inl g)) H := by
  show H[a]? = some (vp_cell cA (n, _))
  rw [vp_cell_i, ← arrV_cg (f := fun j => .int (f j)) (fun j hj => by rw [h j hj])]
  exact k
/-- where things are, with so many cells beside the 155, and other addresses beyond them -/
def Xe (X : fX) (f : Nat → Nat) (e : Nat) : fX := (X.1, f, X.2.2.1, X.2.2.2.1, e, X.2.2.2.2.2.1, X.2.2.2.2.2.2)
theorem at_X {X : fX} {f : Nat → Nat} {e k : Nat} (hf : ∀ i, i < 155 → f i = X.2.1 i) (hk : f k = X.2.1 k) {row : Nat → Int32} {lo : Int64} {H : Heap} (h : va_at X.1 vwCl (X.2.1 k, enc X k row lo) H) : va_at X.1 vwCl (f k, enc (Xe X f e) k row lo) H := by
  rw [hk]
  by_cases h150 : 150 ≤ k
  · have e1 : ∀ Y : fX, enc Y k row lo = .inl (Y.2.2.1 0, mlen k, .inl row) := fun Y => by
      unfold enc
      rw [if_neg (by omega), if_neg (by omega), if_neg (by omega), if_neg (by omega), if_neg (by omega), if_neg (by omega), if_neg (by omega)]
    rw [e1] at h ⊢
    exact h
  by_cases h6 : k < 6
  · rcases (show k = 0 ∨ k = 1 ∨ k = 2 ∨ k = 3 ∨ k = 4 ∨ k = 5 by omega) with rfl | rfl | rfl | rfl | rfl | rfl
    · rw [enc_0] at h ⊢
      show va_at X.1 vwCl (X.2.1 0, .inr (5, [.ref (f (iS 0)), .ref (f (iS 1)), .ref (f 1), .ref (f 3)])) H
      rw [hf _ (by decide), hf _ (by decide), hf _ (by decide), hf _ (by decide)]
      exact h
    · rw [enc_1] at h ⊢
      show va_at X.1 vwCl (X.2.1 1, .inr (2, [.ref (f 2), .int (row 1), .int (row 2)])) H
      rw [hf _ (by decide)]
      exact h
    · rw [enc_2] at h ⊢
      exact at_q (fun j hj => congrArg some (hf _ (by unfold iS; omega)).symm) h
    · rw [enc_3] at h ⊢
      show va_at X.1 vwCl (X.2.1 3, .inr (4, [.ref (f 4), .ref (f 5), .int (row 2), .int (row 3), .int (row 4), .int (row 5), .int (row 6), .int (row 7)])) H
      rw [hf _ (by decide), hf _ (by decide)]
      exact h
    · rw [enc_4] at h ⊢
      exact h
    · rw [enc_5] at h ⊢
      exact h
  obtain ⟨s, r, hs, hr, rfl⟩ : ∃ s r, s < 6 ∧ r < 24 ∧ k = 6 + 24 * s + r := ⟨(k - 6) / 24, (k - 6) % 24, by omega, by omega, by omega⟩
  by_cases c0 : r = 0
  · subst c0
    rw [show 6 + 24 * s + 0 = iS s from rfl, enc_S _ hs] at h ⊢
    show va_at X.1 vwCl (X.2.1 (iS s), .inr (3, [.ref (f (iOs s)), .ref (f (iLs s)), .ref (f (iSet s)), .int (row 3), .int (row 4), .int (row 5), .int (row 6), .int (row 7), .int (row 8), .long lo])) H
    rw [hf _ (by unfold iOs; omega), hf _ (by unfold iLs; omega), hf _ (by unfold iSet; omega)]
    exact h
  by_cases c1 : r = 1
  · subst c1
    rw [show 6 + 24 * s + 1 = iOs s from by unfold iOs; omega, enc_Os _ hs] at h ⊢
    exact at_q (fun j hj => congrArg some (hf _ (by unfold iO; omega)).symm) h
  by_cases c2 : r = 2
  · subst c2
    rw [show 6 + 24 * s + 2 = iLs s from by unfold iLs; omega, enc_Ls _ hs] at h ⊢
    exact at_q (fun j hj => congrArg some (hf _ (by unfold iL; omega)).symm) h
  by_cases c3 : r = 3
  · subst c3
    rw [show 6 + 24 * s + 3 = iSet s from by unfold iSet; omega, enc_Set _ hs] at h ⊢
    exact h
  by_cases c16 : r < 16
  · by_cases ce : r % 2 = 0
    · obtain ⟨i, hi, rfl⟩ : ∃ i, i < 6 ∧ r = 4 + 2 * i := ⟨(r - 4) / 2, by omega, by omega⟩
      rw [show 6 + 24 * s + (4 + 2 * i) = iO s i from by unfold iO; omega, enc_O _ hs hi] at h ⊢
      show va_at X.1 vwCl (X.2.1 (iO s i), .inr (1, [.int (row 0), .int (row 1), .int (row 2), .int (row 3), .int (row 4), .int (row 5), .int (row 6), .int (row 7), .int (row 8), .int (row 9), .int (row 10), .ref (f (iT s i))])) H
      rw [hf _ (by unfold iT; omega)]
      exact h
    · obtain ⟨i, hi, rfl⟩ : ∃ i, i < 6 ∧ r = 5 + 2 * i := ⟨(r - 5) / 2, by omega, by omega⟩
      rw [show 6 + 24 * s + (5 + 2 * i) = iT s i from by unfold iT; omega, enc_T _ hs hi] at h ⊢
      exact h
  · obtain ⟨i, hi, rfl⟩ : ∃ i, i < 8 ∧ r = 16 + i := ⟨r - 16, by omega, by omega⟩
    rw [show 6 + 24 * s + (16 + i) = iL s i from by unfold iL; omega, enc_L _ hs hi] at h ⊢
    exact h
/-- one more cell -/
def X1 (X : fX) (q : Nat) : fX := Xe X (fun k => if k = nX X then q else X.2.1 k) (X.2.2.2.2.1 + 1)
theorem nX_1 (X : fX) (q : Nat) : nX (X1 X q) = nX X + 1 := by show 155 + (X.2.2.2.2.1 + 1) = 155 + X.2.2.2.2.1 + 1; omega
theorem ra_eq {cA c0 : ClassId} {ty : FieldType} {U : State} (h1 : va_RA U cA ty) (h2 : va_RA U c0 ty) : cA = c0 := by
  cases ty with
  | object C =>
    obtain ⟨-, -, -, -, -, e1⟩ := h1
    obtain ⟨-, -, -, -, -, e2⟩ := h2
    exact Option.some.inj (e1.symm.trans e2)
  | _ => exact Option.some.inj (Eq.trans (Eq.symm h1) h2)
theorem last_K {D : va_G} {tys : List (ClassId × FieldType)} {cA : ClassId} {ty : FieldType} {U : State} (h : va_K D vwCl (tys ++ [(cA, ty)]) U) : va_RA U cA ty := (h.2 tys.length (cA, ty) (by simp)).2
section NW
variable {l : Launch} {x : fC} {X : fX} {σ : fM} {L : List (Nat × Value)} {st : List Value} {pc : Nat} {cc : ByteArray} {own : String} {d : Nat}
theorem g_newi (h : Ok l x X cc own d) (hA : ∀ q, (xs x).heap.size ≤ q → xA x q) {v : Int32} {N : Nat} (hn : v = nI N) (hN : N < 2 ^ 20) (hm : mlen (nX X) = N) (hcells : xk x + 1 ≤ (xR x).cells) (hslots : xn x + N ≤ (xR x).slots) (hd : decode cc pc = .ok (.newarray .int, 2))
    (kk : ∀ q : Nat, Ok l (kn x (xk x + 1) (xn x + N)) (X1 X q) cc own d → G (kn x (xk x + 1) (xn x + N)) (X1 X q) (puR σ (nX X) (fun _ => 0)) L (.ref q :: st) (pc + 2)) : G x X σ L (.int v :: st) pc := fun H locs ls hP hS hl => by
  subst hn
  refine va_newa (atype := .int) (a0 := (N, .inl (fun _ => 0))) h.hx h.hb (h.hts _ (lw_in 83 (by decide +kernel) rfl)) rfl h.hK hP (wl_D h.hA σ) hS hA (fun cA => rfl) (nI_nlt (b := 0) (Nat.zero_le N) (by omega)) (nI_clamp (by omega)) ?_ hcells hslots hd (fun q cA H1 hK1 hP1 hD1 hS1 => ?_)
  · show N * 4 ≤ 536870912
    omega
  · have e : cA = X.2.2.1 0 := ra_eq (last_K hK1) (h.hK.2 0 _ rfl).2
    rw [e] at hP1 hD1
    have hne : ∀ k, k < nX X → X.2.1 k ≠ q := fun k hk hq => by
      have hi := hD1.1 k (nX X) (X.2.1 k, enc X k (σ.1 k) (σ.2 k)) (q, .inl (X.2.2.1 0, N, .inl (fun _ => 0))) (by rw [List.getElem?_append_left (by rw [wl_len]; exact hk)]; exact wl_get hk) (by rw [List.getElem?_append_right (by rw [wl_len]; exact Nat.le_refl _), wl_len, Nat.sub_self]; rfl) hq
      omega
    have hqA : xA x q := hD1.2 (nX X) (q, .inl (X.2.2.1 0, N, .inl (fun _ => 0))) (by rw [List.getElem?_append_right (by rw [wl_len]; exact Nat.le_refl _), wl_len, Nat.sub_self]; rfl)
    have hlo : ∀ k, k < nX X → (X1 X q).2.1 k = X.2.1 k := fun k hk => if_neg (by omega)
    have hhi : (X1 X q).2.1 (nX X) = q := if_pos rfl
    have n155 : 155 ≤ nX X := Nat.le_add_right _ _
    have hAd : fAd (X1 X q) (xA x) := by
      refine ⟨fun i j hi hj e2 => ?_, fun k hk => ?_⟩
      · rw [nX_1] at hi hj
        by_cases ci : i = nX X
        · by_cases cj : j = nX X
          · rw [ci, cj]
          · rw [ci, hhi, hlo j (by omega)] at e2
            exact absurd e2.symm (hne j (by omega))
        · by_cases cj : j = nX X
          · rw [cj, hhi, hlo i (by omega)] at e2
            exact absurd e2 (hne i (by omega))
          · rw [hlo i (by omega), hlo j (by omega)] at e2
            exact h.hA.1 i j (by omega) (by omega) e2
      · rw [nX_1] at hk
        by_cases ck : k = nX X
        · rw [ck, hhi]; exact hqA
        · rw [hlo k (by omega)]; exact h.hA.2 k (by omega)
    refine kk q ⟨h.1, h.2.1, h.2.2.1, hAd, h.2.2.2.2.1, h.2.2.2.2.2.1, h.2.2.2.2.2.2.1, hcells, hslots⟩ H1 locs ls ?_ hS1 hl
    intro k w hw
    obtain ⟨hk, rfl⟩ := wl_inv hw
    rw [nX_1] at hk
    by_cases ck : k = nX X
    · subst ck
      have h9 := hP1 (nX X) (q, .inl (X.2.2.1 0, N, .inl (fun _ => 0))) (by rw [List.getElem?_append_right (by rw [wl_len]; exact Nat.le_refl _), wl_len, Nat.sub_self]; rfl)
      have e1 : ∀ (Y : fX) (row : Nat → Int32) (lo : Int64), enc Y (nX X) row lo = .inl (Y.2.2.1 0, mlen (nX X), .inl row) := fun Y row lo => by
        unfold enc
        rw [if_neg (by omega), if_neg (by omega), if_neg (by omega), if_neg (by omega), if_neg (by omega), if_neg (by omega), if_neg (by omega)]
      rw [e1, hm, hhi, puR_self]
      exact h9
    · have h9 := hP1 k (X.2.1 k, enc X k (σ.1 k) (σ.2 k)) (by rw [List.getElem?_append_left (by rw [wl_len]; omega)]; exact wl_get (by omega))
      rw [puR_ne _ ck]
      exact at_X (f := fun k => if k = nX X then q else X.2.1 k) (e := X.2.2.2.2.1 + 1) (fun i hi => if_neg (by omega)) (if_neg ck) h9
end NW
/-- fewer cells -/
theorem wl_less {X : fX} {f : Nat → Nat} {e : Nat} {σ : fM} {H : Heap} (hf : ∀ i, i < nX X → f i = X.2.1 i) (he : X.2.2.2.2.1 ≤ e) (hP : va_P X.1 vwCl (wl (Xe X f e) σ) H) : va_P X.1 vwCl (wl X σ) H := by
  intro k w hw
  obtain ⟨hk, rfl⟩ := wl_inv hw
  have n155 : 155 ≤ nX X := Nat.le_add_right _ _
  have h9 := hP k (f k, enc (Xe X f e) k (σ.1 k) (σ.2 k)) (wl_get (X := Xe X f e) (show k < 155 + e by unfold nX at hk; omega))
  rw [hf k hk] at h9
  exact at_X (X := Xe X f e) (f := X.2.1) (e := X.2.2.2.2.1) (fun i hi => (hf i (by omega)).symm) (hf k hk).symm (by show va_at X.1 vwCl (f k, _) H; rw [hf k hk]; exact h9)
