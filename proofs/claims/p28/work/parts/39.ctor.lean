/-! constructors: worlds that grow -/
def ftc (c5 : Nat → ClassId) : List (ClassId × FieldType) := [(c5 0, .int), (c5 1, .char), (c5 2, .object RX1), (c5 3, .object RX0), (c5 4, .object RX3)]
def sF (j : Nat) : Int32 := if j = 0 then 5 else if j = 1 then 10 else 50
def fF (tF : Nat) (A : Addr → Prop) (U : State) (H : Heap) : Prop := va_Z "BranchBets" "SETTING_FIRST" "[I" (.ref tF) A U H ∧ va_T .int tF 3 (fun j => .int (sF j)) A U H
def fN (U : State) : Prop := va_Nw (.methodLinkNest "BranchBets$State" 24 yX0_init "BranchBets") U ∧ va_Nw (.fieldLinkNest "BranchBets$State" 29 "BranchBets" "SETTING_FIRST" "[I" "BranchBets") U ∧ va_AO RX1 U ∧ va_AO RX0 U ∧ va_AO RX3 U
theorem fN.warm {s U : State} (hW : s.WarmedH U.vm) (h : fN s) : fN U := ⟨va_Nw.warmM hW h.1, va_Nw.warmF hW h.2.1, va_AO.moved hW.alike h.2.2.1, va_AO.moved hW.alike h.2.2.2.1, va_AO.moved hW.alike h.2.2.2.2⟩
theorem fN.same {u U : State} (hv : U.vm = u.vm) (h : fN u) : fN U := ⟨va_Nw.same rfl hv.symm h.1, va_Nw.same rfl hv.symm h.2.1, va_AO.moved (by rw [hv]; exact Vm.Alike.refl _) h.2.2.1, va_AO.moved (by rw [hv]; exact Vm.Alike.refl _) h.2.2.2.1, va_AO.moved (by rw [hv]; exact Vm.Alike.refl _) h.2.2.2.2⟩
def Gc (x : fC) (D : va_G) (ws : va_W) (k n : Nat) (L : List (Nat × Value)) (st : List Value) (pc : Nat) : Prop :=
  ∀ (H : Heap) (locs : List Loc) (ls : Array Slot), va_P D vwCl ws H → va_D (xA x) ws → va_S (xA x) (xs x).heap H locs → lv_has ls (xL x) L →
    W (xp x) (xl x) (xe x) (xR x) (xs x) (xm x) (xa x) (xb x) (xM x) (xc x) H locs k n (xQ x) (F0 (xm x) pc ls st)
def Oc (l : Launch) (x : fC) (D : va_G) (c5 : Nat → ClassId) (tF : Nat) (cc : ByteArray) (own : String) (R0 : Room) : Prop :=
  (xl x = l ∧ (xp x).tables.exec = Jvm.exec ∧ (xc x).code = cc ∧ (xc x).maxLocals = xL x ∧ (xs x).vm.findClass own = some (xm x).cls) ∧ (∀ w ∈ lw_gd, w.before (xa x) (xs x) = true) ∧
  va_K D vwCl (ftc c5) (xs x) ∧ (∀ q, (xs x).heap.size ≤ q → xA x q) ∧ fF tF (xA x) (xs x) (xs x).heap ∧ xR x = R0 ∧ fN (xs x)
theorem mem_at {ws : va_W} {q : Nat × va_E} (h : q ∈ ws) : ∃ k : Nat, ws[k]? = some q := List.getElem?_of_mem h
theorem va_P_m {D : va_G} {cl : List vw_C} {ws : va_W} {H : Heap} : va_P D cl ws H ↔ ∀ q ∈ ws, va_at D cl q H :=
  ⟨fun h q hq => by obtain ⟨k, e⟩ := mem_at hq; exact h k q e, fun h k q e => h q (List.mem_of_getElem? e)⟩
theorem va_D_n {A : Nat → Prop} {ws : va_W} : va_D A ws ↔ (ws.map (·.1)).Nodup ∧ ∀ q ∈ ws, A q.1 := by
  constructor
  · intro h
    refine ⟨?_, fun q hq => by obtain ⟨k, e⟩ := mem_at hq; exact h.2 k q e⟩
    refine List.pairwise_iff_getElem.mpr (fun i j hi hj hij he => ?_)
    rw [List.getElem_map, List.getElem_map] at he
    simp only [List.length_map] at hi hj
    have := h.1 i j ws[i] ws[j] (List.getElem?_eq_getElem hi) (List.getElem?_eq_getElem hj) he
    omega
  · intro h
    refine ⟨fun i j p q hi hj e => ?_, fun k q e => h.2 q (List.mem_of_getElem? e)⟩
    obtain ⟨hli, ei⟩ := List.getElem?_eq_some_iff.mp hi
    obtain ⟨hlj, ej⟩ := List.getElem?_eq_some_iff.mp hj
    refine (List.getElem_inj (h₀ := by simpa using hli) (h₁ := by simpa using hlj) h.1).mp ?_
    rw [List.getElem_map, List.getElem_map, ei, ej, e]
section CT
variable {l : Launch} {x : fC} {D : va_G} {c5 : Nat → ClassId} {tF : Nat} {ws : va_W} {k n : Nat} {L : List (Nat × Value)} {st : List Value} {pc : Nat} {cc : ByteArray} {own : String} {R0 : Room}
theorem Oc.hx (h : Oc l x D c5 tF cc own R0) : (xp x).tables.exec = Jvm.exec := h.1.2.1
theorem Oc.hb (h : Oc l x D c5 tF cc own R0) : (xc x).code = cc := h.1.2.2.1
theorem Oc.hml (h : Oc l x D c5 tF cc own R0) : (xc x).maxLocals = xL x := h.1.2.2.2.1
theorem Oc.ho (h : Oc l x D c5 tF cc own R0) : (xs x).vm.findClass own = some (xm x).cls := h.1.2.2.2.2
theorem Oc.hts (h : Oc l x D c5 tF cc own R0) : ∀ w ∈ lw_gd, w.before (xa x) (xs x) = true := h.2.1
theorem Oc.hK (h : Oc l x D c5 tF cc own R0) : va_K D vwCl (ftc c5) (xs x) := h.2.2.1
theorem Oc.hA (h : Oc l x D c5 tF cc own R0) : ∀ q, (xs x).heap.size ≤ q → xA x q := h.2.2.2.1
theorem Oc.hF (h : Oc l x D c5 tF cc own R0) : fF tF (xA x) (xs x) (xs x).heap := h.2.2.2.2.1
theorem Oc.hR (h : Oc l x D c5 tF cc own R0) : xR x = R0 := h.2.2.2.2.2.1
theorem Oc.hN (h : Oc l x D c5 tF cc own R0) : fN (xs x) := h.2.2.2.2.2.2
theorem gc_sub (L' : List (Nat × Value)) (hs : lsub L L') (kk : Gc x D ws k n L' st pc) : Gc x D ws k n L st pc := fun H locs ls hP hD hS hl => kk H locs ls hP hD hS (lsub_has hl L' hs)
theorem gc_w (ws' : va_W) (hs : ws = ws') (kk : Gc x D ws' k n L st pc) : Gc x D ws k n L st pc := hs ▸ kk
theorem gc_aload (h : Oc l x D c5 tF cc own R0) {k4 : Fin 4} {v : Nat} (hd : decode cc pc = .ok (.aload_n k4, 1)) (hv : lk L (k4 : Nat) = some (.ref v)) (kk : Gc x D ws k n L (.ref v :: st) (pc + 1)) : Gc x D ws k n L st pc := fun H locs ls hP hD hS hl => lv_aload_n h.hx h.hb hd rfl (lk_has hl hv) (kk H locs ls hP hD hS hl)
theorem gc_iload (h : Oc l x D c5 tF cc own R0) {k4 : Fin 4} {v : Int32} (hd : decode cc pc = .ok (.iload_n k4, 1)) (hv : lk L (k4 : Nat) = some (.int v)) (kk : Gc x D ws k n L (.int v :: st) (pc + 1)) : Gc x D ws k n L st pc := fun H locs ls hP hD hS hl => lv_iload_n h.hx h.hb hd rfl (lk_has hl hv) (kk H locs ls hP hD hS hl)
theorem gc_istore (h : Oc l x D c5 tF cc own R0) {k4 : Fin 4} {v : Int32} (hd : decode cc pc = .ok (.istore_n k4, 1)) (hn : (k4 : Nat) < xL x) (kk : Gc x D ws k n (ls1 L (k4 : Nat) (.int v)) st (pc + 1)) : Gc x D ws k n L (.int v :: st) pc := fun H locs ls hP hD hS hl => lv_istore_n h.hx h.hb hd rfl hl hn rfl (fun ls' hl' => kk H locs ls' hP hD hS hl')
theorem gc_astore (h : Oc l x D c5 tF cc own R0) {k4 : Fin 4} {v : Nat} (hd : decode cc pc = .ok (.astore_n k4, 1)) (hn : (k4 : Nat) < xL x) (kk : Gc x D ws k n (ls1 L (k4 : Nat) (.ref v)) st (pc + 1)) : Gc x D ws k n L (.ref v :: st) pc := fun H locs ls hP hD hS hl => lv_astore_n h.hx h.hb hd rfl hl hn rfl (fun ls' hl' => kk H locs ls' hP hD hS hl')
theorem gc_iinc (h : Oc l x D c5 tF cc own R0) {i : Nat} {d : Int} {v : Int32} (hd : decode cc pc = .ok (.iinc i d, 3)) (hv : lk L i = some (.int v)) (hn : i < xL x) (kk : Gc x D ws k n (ls1 L i (.int (v + Int32.ofInt d))) st (pc + 3)) : Gc x D ws k n L st pc := fun H locs ls hP hD hS hl => by
  obtain ⟨q, hq⟩ := lk_place L i _ hv
  exact lv_iinc h.hx h.hb hd hl hq rfl hn rfl (fun ls' hl' => kk H locs ls' hP hD hS hl')
theorem gc_iconst (h : Oc l x D c5 tF cc own R0) {d : Int} (hd : decode cc pc = .ok (.iconst d, 1)) {v : Int32} (hv : Int32.ofInt d = v) (kk : Gc x D ws k n L (.int v :: st) (pc + 1)) : Gc x D ws k n L st pc := fun H locs ls hP hD hS hl => lv_iconst h.hx h.hb hd hv (kk H locs ls hP hD hS hl)
theorem gc_bipush (h : Oc l x D c5 tF cc own R0) {d : Int} (hd : decode cc pc = .ok (.bipush d, 2)) {v : Int32} (hv : (Int8.ofInt d).toInt32 = v) (kk : Gc x D ws k n L (.int v :: st) (pc + 2)) : Gc x D ws k n L st pc := fun H locs ls hP hD hS hl => lv_bipush h.hx h.hb hd hv (kk H locs ls hP hD hS hl)
theorem gc_sipush (h : Oc l x D c5 tF cc own R0) {d : Int} (hd : decode cc pc = .ok (.sipush d, 3)) {v : Int32} (hv : (Int16.ofInt d).toInt32 = v) (kk : Gc x D ws k n L (.int v :: st) (pc + 3)) : Gc x D ws k n L st pc := fun H locs ls hP hD hS hl => lv_sipush h.hx h.hb hd hv (kk H locs ls hP hD hS hl)
theorem gc_dup (h : Oc l x D c5 tF cc own R0) {a : Value} (hd : decode cc pc = .ok (.dup, 1)) (hc : a.category = 1) (kk : Gc x D ws k n L (a :: a :: st) (pc + 1)) : Gc x D ws k n L (a :: st) pc := fun H locs ls hP hD hS hl => lv_dup h.hx h.hb hd hc (kk H locs ls hP hD hS hl)
theorem gc_goto (h : Oc l x D c5 tF cc own R0) {off : Int} (tgt : Nat) (hd : decode cc pc = .ok (.goto off, 3)) (ht : (pc : Int) + off = (tgt : Int)) (kk : Gc x D ws k n L st tgt) : Gc x D ws k n L st pc := fun H locs ls hP hD hS hl => lv_goto h.hx h.hb hd ht (kk H locs ls hP hD hS hl)
theorem gc_ge (h : Oc l x D c5 tF cc own R0) {a b : Int32} {off : Int} (tgt : Nat) (hd : decode cc pc = .ok (.if_icmp .ge off, 3)) (ht : (pc : Int) + off = (tgt : Int)) (kt : b ≤ a → Gc x D ws k n L st tgt) (kf : ¬ b ≤ a → Gc x D ws k n L st (pc + 3)) : Gc x D ws k n L (.int b :: .int a :: st) pc := fun H locs ls hP hD hS hl => lv_icmp_ge h.hx h.hb hd ht (fun c => kt c H locs ls hP hD hS hl) (fun c => kf c H locs ls hP hD hS hl)
/-- a new object -/
theorem gc_new (h : Oc l x D c5 tF cc own R0) {C : String} {T : u_T} {N ci idx : Nat} {fs : List Value} (ty : Nat → FieldType) (hin : ∀ w ∈ u_ws C T N, w ∈ lw_gd) (hty : ∀ k, k < N → parseFieldDescriptor (T k).2.2.1 = some (ty k)) (hcl : Cond.classLink own idx C ∈ lw_gd) (hinst : Cond.instantiable C N ∈ lw_gd) (hini : Cond.initialized C ∈ lw_gd) (hc : vwCl[ci]? = some (C, T, N)) (hfs : ∀ j, j < N → defaultValue (ty j) = vp_V fs j) (hcells : k + 1 ≤ R0.cells) (hslots : n + N ≤ R0.slots) (hd : decode cc pc = .ok (.new idx, 3))
    (kk : ∀ q : Nat, Gc x D (ws ++ [(q, .inr (ci, fs))]) (k + 1) (n + N) L (.ref q :: st) (pc + 3)) : Gc x D ws k n L st pc := fun H locs ls hP hD hS hl =>
  va_new h.hx h.hb h.hts hin ty hty h.ho (h.hts _ hcl) (h.hts _ hinst) (h.hts _ hini) h.hK hP hD hS h.hA hc hfs (by rw [h.hR]; exact hcells) (by rw [h.hR]; exact hslots) hd (fun q H1 hP1 hD1 hS1 => kk q H1 locs ls hP1 hD1 hS1 hl)
/-- a new array of ints, or of chars -/
theorem gc_newi (h : Oc l x D c5 tF cc own R0) {v : Int32} {N : Nat} (harr : Cond.arrayClass .int ∈ lw_gd) (hn : v = nI N) (hN : N < 2 ^ 20) (hcells : k + 1 ≤ R0.cells) (hslots : n + N ≤ R0.slots) (hd : decode cc pc = .ok (.newarray .int, 2))
    (kk : ∀ q : Nat, Gc x D (ws ++ [(q, .inl (c5 0, N, .inl (fun _ => 0)))]) (k + 1) (n + N) L (.ref q :: st) (pc + 2)) : Gc x D ws k n L (.int v :: st) pc := fun H locs ls hP hD hS hl => by
  subst hn
  refine va_newa (atype := .int) (a0 := (N, .inl (fun _ => 0))) h.hx h.hb (h.hts _ harr) rfl h.hK hP hD hS h.hA (fun cA => rfl) (nI_nlt (b := 0) (Nat.zero_le N) (by omega)) (nI_clamp (by omega)) ?_ (by rw [h.hR]; exact hcells) (by rw [h.hR]; exact hslots) hd (fun q cA H1 hK1 hP1 hD1 hS1 => ?_)
  · show N * 4 ≤ 536870912
    omega
  · have e : cA = c5 0 := ra_eq (last_K hK1) (h.hK.2 0 _ rfl).2
    rw [e] at hP1 hD1
    exact kk q H1 locs ls hP1 hD1 hS1 hl
theorem gc_newc (h : Oc l x D c5 tF cc own R0) {v : Int32} {N : Nat} (harr : Cond.arrayClass .char ∈ lw_gd) (hn : v = nI N) (hN : N < 2 ^ 20) (hcells : k + 1 ≤ R0.cells) (hslots : n + N ≤ R0.slots) (hd : decode cc pc = .ok (.newarray .char, 2))
    (kk : ∀ q : Nat, Gc x D (ws ++ [(q, .inl (c5 1, N, .inl (fun _ => 0)))]) (k + 1) (n + N) L (.ref q :: st) (pc + 2)) : Gc x D ws k n L (.int v :: st) pc := fun H locs ls hP hD hS hl => by
  subst hn
  refine va_newa (atype := .char) (a0 := (N, .inl (fun _ => 0))) h.hx h.hb (h.hts _ harr) rfl h.hK hP hD hS h.hA (fun cA => rfl) (nI_nlt (b := 0) (Nat.zero_le N) (by omega)) (nI_clamp (by omega)) ?_ (by rw [h.hR]; exact hcells) (by rw [h.hR]; exact hslots) hd (fun q cA H1 hK1 hP1 hD1 hS1 => ?_)
  · show N * 2 ≤ 536870912
    omega
  · have e : cA = c5 1 := ra_eq (last_K hK1) (h.hK.2 1 _ rfl).2
    rw [e] at hP1 hD1
    exact kk q H1 locs ls hP1 hD1 hS1 hl
/-- a new array of objects -/
theorem gc_newq (h : Oc l x D c5 tF cc own R0) {v : Int32} {N idx t0 : Nat} {C : String} (hover : va_AO C (xs x)) (hlink : Cond.classLink own idx C ∈ lw_gd) (ht : (ftc c5)[t0]? = some (c5 t0, .object C)) (hn : v = nI N) (hN : N < 2 ^ 20) (hcells : k + 1 ≤ R0.cells) (hslots : n + N ≤ R0.slots) (hd : decode cc pc = .ok (.anewarray idx, 3))
    (kk : ∀ q : Nat, Gc x D (ws ++ [(q, .inl (c5 t0, N, .inr (.inr (.inr (.inr (fun _ => none))))))]) (k + 1) (n + N) L (.ref q :: st) (pc + 3)) : Gc x D ws k n L (.int v :: st) pc := fun H locs ls hP hD hS hl => by
  subst hn
  refine va_newq h.hx h.hb h.ho (h.hts _ hlink) hover h.hK hP hD hS h.hA (nI_nlt (b := 0) (Nat.zero_le N) (by omega)) (nI_clamp (by omega)) (by omega) (by rw [h.hR]; exact hcells) (by rw [h.hR]; exact hslots) hd (fun q cA H1 hK1 hP1 hD1 hS1 => ?_)
  have e : cA = c5 t0 := ra_eq (last_K hK1) (h.hK.2 t0 _ ht).2
  rw [e] at hP1 hD1
  exact kk q H1 locs ls hP1 hD1 hS1 hl
theorem gc_get (h : Oc l x D c5 tF cc own R0) {C : String} {T : u_T} {N ci idx a : Nat} {fs : List Value} {v : Value} (hin : ∀ w ∈ u_ws C T N, w ∈ lw_gd) (q0 : Nat) (he : ws[q0]? = some (a, .inr (ci, fs))) (hc : vwCl[ci]? = some (C, T, N)) (kf : Nat) (hk : kf < N) (hlink : Cond.fieldLink own idx (T kf).1 (T kf).2.1 (T kf).2.2.1 ∈ lw_gd) (hv : fs[kf]? = some v) (hd : decode cc pc = .ok (.getfield idx, 3)) (kk : Gc x D ws k n L (v :: st) (pc + 3)) : Gc x D ws k n L (.ref a :: st) pc := fun H locs ls hP hD hS hl =>
  va_get (D := D) (ci := ci) h.hx h.hb h.hts hin h.ho h.hK hP q0 he hc kf hk (h.hts _ hlink) (fun _ h9 => h9) hv hd (kk H locs ls hP hD hS hl)
/-- a final field of this class, in its constructor -/
theorem gc_putF (h : Oc l x D c5 tF cc own R0) {C : String} {T : u_T} {N ci idx a : Nat} {fs : List Value} {v : Value} {ty : FieldType} (ty0 : Nat → FieldType) (hin : ∀ w ∈ u_ws C T N, w ∈ lw_gd) (hty : ∀ k, k < N → parseFieldDescriptor (T k).2.2.1 = some (ty0 k)) (hnm : ∀ a, a < N → ∀ b, b < N → a ≠ b → (T a).2.1 ≠ (T b).2.1) (q0 : Nat) (he : ws[q0]? = some (a, .inr (ci, fs))) (hc : vwCl[ci]? = some (C, T, N)) (kf : Nat) (hk : kf < N) (hlink : Cond.fieldLink own idx (T kf).1 (T kf).2.1 (T kf).2.2.1 ∈ lw_gd) (hfin : (T kf).2.2.2 = true) (hin2 : (xM x).name = "<init>") (hdecl : (T kf).1 = own) (hp : parseFieldDescriptor (T kf).2.2.1 = some ty) (hn : narrow ty v = v) (hfit : fits ty v = true) (hl : kf < fs.length) (hd : decode cc pc = .ok (.putfield idx, 3)) (kk : Gc x D (ws.set q0 (a, .inr (ci, fs.set kf v))) k n L st (pc + 3)) : Gc x D ws k n L (v :: .ref a :: st) pc := fun H locs ls hP hD hS hl' =>
  va_putF (D := D) (ci := ci) (v := v) (ty := ty) h.hx h.hb h.hts hin ty0 hty hnm h.ho h.hK hP hD hS q0 he hc kf hk (h.hts _ hlink) (fun _ h9 => h9) hfin hin2 hdecl hp hn hfit hl hd (fun H1 locs1 hP1 hD1 hS1 => kk H1 locs1 ls hP1 hD1 hS1 hl')
/-- an object goes into an array -/
theorem gc_astq (h : Oc l x D c5 tF cc own R0) {q0 t0 ci a N v : Nat} {r : vw_C} {vs : List Value} {f : Nat → Option Nat} {i : Int32} {j : Nat} (ha : ws[q0]? = some (a, .inl (c5 t0, N, .inr (.inr (.inr (.inr f)))))) (ht : (ftc c5)[t0]? = some (c5 t0, .object r.1)) (hv : (v, (.inr (ci, vs) : va_E)) ∈ ws) (hc : vwCl[ci]? = some r) (hi : i = nI j) (hj : j < N) (hN : N < 2 ^ 20) (hd : decode cc pc = .ok (.aastore, 1))
    (kk : Gc x D (ws.set q0 (a, .inl (c5 t0, N, .inr (.inr (.inr (.inr (va_up f j (some v)))))))) k n L st (pc + 1)) : Gc x D ws k n L (.ref v :: .int i :: .ref a :: st) pc := fun H locs ls hP hD hS hl => by
  subst hi
  obtain ⟨qk, hqk⟩ := mem_at hv
  refine va_astq h.hx h.hb h.hK hP hD hS q0 t0 qk ci ha ht hqk hc (vp_in_nI hj (by omega)) hd (fun H1 locs1 hP1 hD1 hS1 => ?_)
  rw [nI_clamp (by omega)] at hP1 hD1
  exact kk H1 locs1 ls hP1 hD1 hS1 hl
theorem gc_iast (h : Oc l x D c5 tF cc own R0) {q0 a N : Nat} {f : Nat → Int32} {i v : Int32} {j : Nat} (ha : ws[q0]? = some (a, .inl (c5 0, N, .inl f))) (hi : i = nI j) (hj : j < N) (hN : N < 2 ^ 20) (hd : decode cc pc = .ok (.iastore, 1))
    (kk : Gc x D (ws.set q0 (a, .inl (c5 0, N, .inl (upd f j v)))) k n L st (pc + 1)) : Gc x D ws k n L (.int v :: .int i :: .ref a :: st) pc := fun H locs ls hP hD hS hl => by
  subst hi
  refine va_iast h.hx h.hb h.hK hP hD hS q0 0 ha rfl (vp_in_nI hj (by omega)) hd (fun H1 locs1 hP1 hD1 hS1 => ?_)
  rw [nI_clamp (by omega)] at hP1 hD1
  exact kk H1 locs1 ls hP1 hD1 hS1 hl
theorem gc_gF (h : Oc l x D c5 tF cc RX3 R0) (hd : decode cc pc = .ok (.getstatic 29, 3)) (kk : Gc x D ws k n L (.ref tF :: st) (pc + 3)) : Gc x D ws k n L st pc := fun H locs ls hP hD hS hl =>
  va_getsN h.hx h.hb h.hF.1 hS h.ho (va_Nw.use rfl h.hN.2.1) (fun _ h9 => h9) hd (kk H locs ls hP hD hS hl)
theorem gc_tiF (h : Oc l x D c5 tF cc own R0) {i : Int32} {j : Nat} (hi : i = nI j) (hj : j < 3) (hd : decode cc pc = .ok (.iaload, 1)) (kk : Gc x D ws k n L (.int (sF j) :: st) (pc + 1)) : Gc x D ws k n L (.int i :: .ref tF :: st) pc := fun H locs ls hP hD hS hl => by
  subst hi
  exact va_ti h.hx h.hb h.hF.2 hS (vp_in_nI hj (by decide)) (by rw [nI_clamp (by omega)]) hd (kk H locs ls hP hD hS hl)
end CT
