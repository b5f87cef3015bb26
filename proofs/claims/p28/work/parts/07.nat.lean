/-! rules of the JDK's members, of answers that are truth values -/
section NAT
variable {l : Launch} {x : fC} {X : fX} {σ : fM} {L : List (Nat × Value)} {st : List Value} {pc : Nat} {cc : ByteArray} {own : String} {d : Nat}
theorem g_ifeqB (h : Ok l x X cc own d) {b : Bool} {off : Int} (tgt : Nat) (hd : decode cc pc = .ok (.ifCond .eq off, 3)) (ht : (pc : Int) + off = (tgt : Int)) (kt : b = false → G x X σ L st tgt) (kf : b = true → G x X σ L st (pc + 3)) : G x X σ L (.int (bi b) :: st) pc := g_ifeq h tgt hd ht (fun c => kt ((bi_0 b).mp c)) (fun c => kf (by cases b with | false => exact absurd rfl c | true => rfl))
theorem g_ifneB (h : Ok l x X cc own d) {b : Bool} {off : Int} (tgt : Nat) (hd : decode cc pc = .ok (.ifCond .ne off, 3)) (ht : (pc : Int) + off = (tgt : Int)) (kt : b = true → G x X σ L st tgt) (kf : b = false → G x X σ L st (pc + 3)) : G x X σ L (.int (bi b) :: st) pc := g_ifne h tgt hd ht (fun c => kt (by cases b with | false => exact absurd rfl c | true => rfl)) (fun c => kf ((bi_0 b).mp c))
theorem g_min (h : Ok l x X cc own d) {idx : Nat} {a b : Int32} (hw : Cond.methodLink own idx Lib.Math.min.name ∈ lw_gd) (hd : decode cc pc = .ok (.invokestatic idx, 3)) (h0 : 0 < d) (hcat : (st.map fun v => v.category).sum ≤ 8) (k : G x X σ L (.int (if b < a then b else a) :: st) (pc + 3)) : G x X σ L (.int b :: .int a :: st) pc := fun H locs ls hP hS hl =>
  va_mmin h.hx h.hb (h.hml.trans hl.1.symm) h.ho (h.hts _ hw) (h.hts _ (lw_in 336 (by decide +kernel) rfl)) (h.hts _ (lw_in 8 (by decide +kernel) rfl)) (h.hts _ (lw_in 337 (by decide +kernel) rfl)) (by have := h.hF; omega) (by have := h.hF; omega) h.hC.1 h.hC.2 hd (k H locs ls hP hS hl)
theorem g_max (h : Ok l x X cc own d) {idx : Nat} {a b : Int32} (hw : Cond.methodLink own idx Lib.Math.max.name ∈ lw_gd) (hd : decode cc pc = .ok (.invokestatic idx, 3)) (h0 : 0 < d) (hcat : (st.map fun v => v.category).sum ≤ 8) (k : G x X σ L (.int (if a < b then b else a) :: st) (pc + 3)) : G x X σ L (.int b :: .int a :: st) pc := fun H locs ls hP hS hl =>
  va_mmax h.hx h.hb (h.hml.trans hl.1.symm) h.ho (h.hts _ hw) (h.hts _ (lw_in 379 (by decide +kernel) rfl)) (h.hts _ (lw_in 8 (by decide +kernel) rfl)) (h.hts _ (lw_in 380 (by decide +kernel) rfl)) (by have := h.hF; omega) (by have := h.hF; omega) h.hC.1 h.hC.2 hd (k H locs ls hP hS hl)
theorem g_min1_66 (h : Ok l x X cc RX1 d) {a b : Int32} (hd : decode cc pc = .ok (.invokestatic 66, 3)) (h0 : 0 < d) (hcat : (st.map fun v => v.category).sum ≤ 8) (k : G x X σ L (.int (if b < a then b else a) :: st) (pc + 3)) : G x X σ L (.int b :: .int a :: st) pc := g_min h (lw_in 335 (by decide +kernel) rfl) hd h0 hcat k
theorem g_min3_141 (h : Ok l x X cc RX3 d) {a b : Int32} (hd : decode cc pc = .ok (.invokestatic 141, 3)) (h0 : 0 < d) (hcat : (st.map fun v => v.category).sum ≤ 8) (k : G x X σ L (.int (if b < a then b else a) :: st) (pc + 3)) : G x X σ L (.int b :: .int a :: st) pc := g_min h (lw_in 355 (by decide +kernel) rfl) hd h0 hcat k
theorem g_max1_71 (h : Ok l x X cc RX1 d) {a b : Int32} (hd : decode cc pc = .ok (.invokestatic 71, 3)) (h0 : 0 < d) (hcat : (st.map fun v => v.category).sum ≤ 8) (k : G x X σ L (.int (if a < b then b else a) :: st) (pc + 3)) : G x X σ L (.int b :: .int a :: st) pc := g_max h (lw_in 378 (by decide +kernel) rfl) hd h0 hcat k
/-- a row of ints is put whole -/
def puR (σ : fM) (k : Nat) (row : Nat → Int32) : fM := (fun k' => if k' = k then row else σ.1 k', σ.2)
theorem puR_self (σ : fM) (k : Nat) (row : Nat → Int32) : (puR σ k row).1 k = row := by simp [puR]
theorem puR_ne {σ : fM} {k : Nat} {row : Nat → Int32} (k' : Nat) (h : k' ≠ k) : (puR σ k row).1 k' = σ.1 k' := by simp [puR, h]
/-- the first n ints are copied -/
def cpy (f g : Nat → Int32) (n : Nat) : Nat → Int32 := fun j => if j < n then f j else g j
theorem cpy_va (f g : Nat → Int32) (n : Nat) : va_cpy f g 0 0 n = cpy f g n := by
  funext j
  simp [va_cpy, cpy]
theorem g_copy (h : Ok l x X cc own d) {idx k0 k1 n n0 n1 : Nat} {i0 i1 i2 : Int32} (hw : Cond.methodLink own idx arraycopyName ∈ lw_gd) (hk0 : k0 < nX X) (hk1 : k1 < nX X) (he0 : ∀ row e, enc X k0 row e = .inl (X.2.2.1 0, n0, .inl row)) (he1 : ∀ row e, enc X k1 row e = .inl (X.2.2.1 0, n1, .inl row)) (e0 : i0 = nI 0) (e1 : i1 = nI 0) (e2 : i2 = nI n) (h0n : n ≤ n0) (h1n : n ≤ n1) (hn : n < 2 ^ 31)
    (hd : decode cc pc = .ok (.invokestatic idx, 3)) (h0 : 0 < d) (hcat : (st.map fun v => v.category).sum ≤ 8) (k : G x X (puR σ k1 (cpy (σ.1 k0) (σ.1 k1) n)) L st (pc + 3)) : G x X σ L (.int i2 :: .int i1 :: ra X k1 :: .int i0 :: ra X k0 :: st) pc := fun H locs ls hP hS hl => by
  subst e0; subst e1; subst e2
  have z0 : (nI 0).toNatClampNeg = 0 := nI_clamp (by decide)
  have zn : (nI n).toNatClampNeg = n := nI_clamp hn
  have hfr : 1 ≤ (xR x).frames := by have := h.hF; omega
  have e : nativeFrameWords "java/lang/System" "arraycopy" 5 ≤ 11 := by decide
  have hlo : (st.map fun v => v.category).sum + (nativeFrameWords "java/lang/System" "arraycopy" 5 + 11) ≤ (xR x).locals := by have := h.hF; omega
  have a1 : (nI 0).toNatClampNeg + (nI n).toNatClampNeg ≤ n0 := by rw [z0, zn]; omega
  have a2 : (nI 0).toNatClampNeg + (nI n).toNatClampNeg ≤ n1 := by rw [z0, zn]; omega
  refine va_copyi (ty := .int) h.hx h.hb (h.hml.trans hl.1.symm) h.ho (h.hts _ hw) (h.hts _ (lw_in 235 (by decide +kernel) rfl)) (h.hts _ (lw_in 234 (by decide +kernel) rfl)) (h.hts _ (lw_in 7 (by decide +kernel) rfl)) h.hK hP (wl_D h.hA σ) hS k0 k1 0 0 (by rw [wl_get hk0, he0]) (by rw [wl_get hk1, he1]) rfl rfl rfl (nI_pos (by decide)) (nI_pos (by decide)) (nI_pos hn) a1 a2 (fun _ _ => rfl) hfr hlo hd (fun H1 locs1 hP1 hD1 hS1 => k H1 locs1 ls ?_ hS1 hl)
  rw [z0, zn, cpy_va, wl_set (σ := σ) (σ' := puR σ k1 (cpy (σ.1 k0) (σ.1 k1) n)) (by rw [he1, puR_self]) (fun k' hne => puR_ne k' hne) (fun _ _ => rfl)] at hP1
  exact hP1
theorem g_alen (h : Ok l x X cc own d) {k n t : Nat} {ty : FieldType} (hk : k < nX X) (he : ∀ row e, enc X k row e = .inl (X.2.2.1 t, n, .inl row)) (ht : (fty X)[t]? = some (X.2.2.1 t, ty)) (hd : decode cc pc = .ok (.arraylength, 1)) (kk : G x X σ L (.int (nI n) :: st) (pc + 1)) : G x X σ L (ra X k :: st) pc := fun H locs ls hP hS hl =>
  va_alen (x := (n, .inl (σ.1 k))) h.hx h.hb h.hK hP k t (by rw [wl_get hk, he]) ht rfl hd (kk H locs ls hP hS hl)
theorem g_iinc1 (h : Ok l x X cc own d) {i : Nat} {v : Int32} (hd : decode cc pc = .ok (.iinc i 1, 3)) (hv : lk L i = some (.int v)) (hn : i < xL x) (k : G x X σ (ls1 L i (.int (v + 1))) st (pc + 3)) : G x X σ L st pc := g_iinc h hd hv hn k
theorem g_imulN (h : Ok l x X cc own d) {a b : Nat} (hd : decode cc pc = .ok (.imul, 1)) (k : G x X σ L (.int (nI (a * b)) :: st) (pc + 1)) : G x X σ L (.int (nI b) :: .int (nI a) :: st) pc := g_imul h hd (by rw [pk_mul]; exact k)
theorem g_iaddN (h : Ok l x X cc own d) {a b : Nat} (hd : decode cc pc = .ok (.iadd, 1)) (k : G x X σ L (.int (nI (a + b)) :: st) (pc + 1)) : G x X σ L (.int (nI b) :: .int (nI a) :: st) pc := g_iadd h hd (by rw [nI_add]; exact k)
/-- the script -/
theorem g_slen (h : Ok l x X cc own d) (hd : decode cc pc = .ok (.arraylength, 1)) (k : G x X σ L (.int (nI X.2.2.2.2.2.1) :: st) (pc + 1)) : G x X σ L (.ref (X.2.2.2.1 2) :: st) pc := fun H locs ls hP hS hl =>
  va_tlen h.hx h.hb h.hZ.2.2 hS (v := nI X.2.2.2.2.2.1) rfl hd (k H locs ls hP hS hl)
theorem g_sld (h : Ok l x X cc own d) {j : Nat} (hj : j < X.2.2.2.2.2.1) (h31 : j < 2 ^ 31) (hd : decode cc pc = .ok (.iaload, 1)) (k : G x X σ L (.int (X.2.2.2.2.2.2 j) :: st) (pc + 1)) : G x X σ L (.int (nI j) :: .ref (X.2.2.2.1 2) :: st) pc := fun H locs ls hP hS hl =>
  va_ti h.hx h.hb h.hZ.2.2 hS (by rintro (q | q); exact nI_pos h31 q; rw [nI_clamp h31] at q; omega) (by rw [nI_clamp h31]) hd (k H locs ls hP hS hl)
theorem lk_0 : some (Value.int 0) = some (Value.int (nI 0)) := by rw [nI_0]
end NAT
