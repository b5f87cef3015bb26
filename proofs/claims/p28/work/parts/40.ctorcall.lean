/-! constructors: calls and ends -/
section CE
variable {l : Launch} {x : fC} {D : va_G} {c5 : Nat → ClassId} {tF : Nat} {ws : va_W} {k n : Nat} {L : List (Nat × Value)} {st : List Value} {pc : Nat} {cc : ByteArray} {own : String} {R0 : Room}
theorem gc_obj (h : Oc l x D c5 tF cc own R0) {idx a : Nat} (h1 : Cond.methodLink own idx objectInit ∈ lw_gd) (h2 : Cond.instanceMethod objectInit ∈ lw_gd) (h3 : Cond.code objectInit object_method_1_code 1 none ∈ lw_gd) (hf : 1 ≤ R0.frames) (hlo : 30 ≤ R0.locals) (hd : decode cc pc = .ok (.invokespecial idx, 3)) (kk : Gc x D ws k n L [] (pc + 3)) : Gc x D ws k n L [.ref a] pc := fun H locs ls hP hD hS hl => by
  refine W.objInit h.hx h.hb h.ho (h.hts _ h1) (h.hts _ h2) (h.hts _ h3) rfl (by rw [h.hml]; exact hl.1) rfl hd ?_ ?_ ?_
  · rw [h.hR]
    exact hf
  · rw [h.hR]
    exact Nat.le_trans (Nat.le_of_ble_eq_true rfl) hlo
  · exact W.eq (g2 := F0 (xm x) (pc + 3) ls []) rfl (kk H locs ls hP hD hS hl)
/-- a constructor: from its object with nothing in it, to a world that B tells -/
def cnP (D : va_G) (c5 : Nat → ClassId) (tF : Nat) (e0 : va_E) (h sz : Nat) : Array Value → State → Prop := fun v U => v = #[.ref h] ∧ U.heap.size = sz ∧ va_P D vwCl [(h, e0)] U.heap ∧ va_K D vwCl (ftc c5) U ∧ fF tF (va_A [(h, e0)] sz) U U.heap ∧ fN U
def cnQ (D : va_G) (e0 : va_E) (B : Nat → va_W → Prop) (h sz : Nat) : Array Value → State → Outcome → State → Prop := fun _ st0 oc t => (oc = .returned none ∧ ∃ w, B h w ∧ va_P D vwCl w t.heap ∧ va_D (va_A [(h, e0)] sz) w) ∧ va_F (va_A [(h, e0)] sz) st0 t
def Cn (l : Launch) (y : MethodName) (cc : ByteArray) (mL : Nat) (R0 : Room) (mc ms : Nat) (D : va_G) (c5 : Nat → ClassId) (tF : Nat) (e0 : va_E) (B : Nat → va_W → Prop) : Prop := ∀ h sz : Nat,
  Met l y (fT y cc mL none) R0 (cnP D c5 tF e0 h sz) (cnQ D e0 B h sz) mc ms (va_A [(h, e0)] sz)
theorem fF.kept {A : Addr → Prop} {U : State} {H H1 : Heap} (h : fF tF A U H) (hq : ∀ a : Nat, a < H.size → ¬ A a → H1[a]? = H[a]?) : fF tF A U H1 := ⟨h.1.kept hq, h.2.kept hq⟩
theorem fF.moved {A : Addr → Prop} {u U : State} {H : Heap} (hvm : u.vm.Alike U.vm) (h : fF tF A u H) : fF tF A U H := ⟨h.1.moved hvm, h.2.moved hvm⟩
theorem fF.narrow {A B : Addr → Prop} {U : State} {H : Heap} (h : fF tF A U H) (hAB : ∀ q, B q → A q) : fF tF B U H := ⟨h.1.narrow hAB, h.2.narrow hAB⟩
theorem cnP_blind (D : va_G) (c5 : Nat → ClassId) (tF : Nat) (e0 : va_E) (h sz : Nat) : FrameBlind (cnP D c5 tF e0 h sz) := fun a U g mk qq => by
  obtain ⟨a0, a1, aP, aK, aF, aN⟩ := qq
  exact ⟨a0, a1, aP, va_K.moved (u := U) (U := U.calling g mk a) (Vm.Alike.refl U.vm) aK, fF.moved (u := U) (U := U.calling g mk a) (Vm.Alike.refl U.vm) aF, fN.same (u := U) (U := U.calling g mk a) rfl aN⟩
/-- a constructor out of its walk -/
theorem Cn.of {y : MethodName} {mL : Nat} {mc ms : Nat} {e0 : va_E} {B : Nat → va_W → Prop} (hown : y.cls = own) (hy : plainName y.cls = true) (hyn : y.name = "<init>") (hlen : 1 ≤ mL) (hc : R0.cells = mc) (hs : R0.slots = ms)
    (body : ∀ (x : fC) (h : Nat), xL x = mL → Oc l x D c5 tF cc own R0 → (xM x).name = "<init>" → (∀ (pc : Nat) (w : va_W) (L : List (Nat × Value)), decode cc pc = .ok (.return_, 1) → B h w → Gc x D w mc ms L [] pc) → Gc x D [(h, e0)] 0 0 [(0, .ref h)] [] 0) : Cn l y cc mL R0 mc ms D c5 tF e0 B := by
  intro h sz
  refine Met.ofW (cc := cc) (maxL := mL) (ret := none) hy rfl ?_
  intro p e s m args below meth c s₁ B0 hml hv
  obtain ⟨rfl, hsz, hP, hK, hZ, hN⟩ := hv
  have hts := atoms_spec (ws := fT y cc mL none) B0.pre
  have ho : s.vm.findClass own = some m.cls := hown ▸ findClass_of_methodNamed B0.named
  have hin : meth.name = "<init>" := (name_of_methodNamed B0.named B0.method).1.trans hyn
  subst hsz
  have hl := lv_entry ([.ref h]) (n := mL) (show (lg_sl [Value.ref h]).length ≤ mL from hlen)
  rw [lg_entry_eq]
  have hA : ∀ q : Nat, s.heap.size ≤ q → va_A [(h, e0)] s.heap.size q := fun q hq => Or.inr hq
  have hD : va_D (va_A [(h, e0)] s.heap.size) [(h, e0)] := by
    rw [va_D_n]
    exact ⟨by simp, fun q hq => by rw [List.mem_singleton.mp hq]; exact va_A.in (k := 0) rfl⟩
  refine body (p, l, e, R0, s, m, #[.ref h], below, meth, c, va_A [(h, e0)] s.heap.size, 0, 0, MQ below (cnQ D e0 B h s.heap.size) #[.ref h] s mc ms (va_A [(h, e0)] s.heap.size), mL) h rfl ⟨⟨rfl, B0.exec, B0.bytes, hml, ho⟩, fun w hw => hts w (List.mem_cons_of_mem _ hw), hK, hA, hZ, rfl, hN⟩ hin ?_ s.heap [] _ hP hD va_S.rf hl
  intro pc w L hd hB H locs ls hP hD hS hl
  show W p l e R0 s m #[.ref h] below meth c H locs mc ms (MQ below (cnQ D e0 B h s.heap.size) #[.ref h] s mc ms (va_A [(h, e0)] s.heap.size)) (F0 m pc ls [])
  exact W.vret B0.exec B0.bytes B0.returns (fun t ht hW => ⟨⟨rfl, w, hB, by rw [ht]; exact hP, hD⟩, hS.F ht⟩) hS.2.2 hd B0.notSynchronized
section RUN
variable {mc ms q : Nat} {e0 : va_E} {B : Nat → va_W → Prop} {rest : List Value} {a0 : Array Value} {H : Heap} {locs : List Loc} {ls : Array Slot}
theorem cn_in (h : Oc l x D c5 tF cc own R0) (hD : va_D (xA x) (ws ++ [(q, e0)])) (hS : va_S (xA x) (xs x).heap H locs) : ∀ a, va_A [(q, e0)] H.size a → xA x a := fun a ha => by
  have hDn := va_D_n.mp hD
  rcases ha with ⟨i, e, he⟩ | ha
  · have e2 := congrArg Prod.fst (List.mem_singleton.mp (List.mem_of_getElem? he))
    exact (show a = q from e2) ▸ hDn.2 (q, e0) (List.mem_append_right _ List.mem_cons_self)
  · exact h.hA a (Nat.le_trans hS.1 ha)
theorem cn_pre (h : Oc l x D c5 tF cc own R0) (hP : va_P D vwCl (ws ++ [(q, e0)]) H) (hD : va_D (xA x) (ws ++ [(q, e0)])) (hS : va_S (xA x) (xs x).heap H locs) : PreS (xs x) H (cnP D c5 tF e0 q H.size) (.ref q :: []) :=
  ⟨cnP_blind _ _ _ _ _ _, fun U hU hW => ⟨rfl, by rw [hU], by rw [hU, va_P_m]; exact fun q' hq' => va_P_m.mp hP q' (List.mem_append_right _ hq'), va_K.moved hW.alike h.hK, by
        rw [hU]
        exact fF.moved hW.alike (((h.hF.kept hS.2.1)).narrow (cn_in h hD hS)), h.hN.warm hW⟩⟩
theorem cn_cont (h : Oc l x D c5 tF cc own R0) (hP : va_P D vwCl (ws ++ [(q, e0)]) H) (hD : va_D (xA x) (ws ++ [(q, e0)])) (hS : va_S (xA x) (xs x).heap H locs) (hl : lv_has ls (xL x) L)
    (hr : va_Run (xp x) (xl x) (xe x) (xR x) (xs x) (xm x) (xa x) (xb x) (xM x) (xc x) H locs k n mc ms (F0 (xm x) pc ls st) rest (cnQ D e0 B q H.size a0) (va_A [(q, e0)] H.size)) (kk : ∀ w, B q w → Gc x D (ws ++ w) (k + mc) (n + ms) L rest (pc + 3)) :
    W (xp x) (xl x) (xe x) (xR x) (xs x) (xm x) (xa x) (xb x) (xM x) (xc x) H locs k n (xQ x) (F0 (xm x) pc ls st) := by
  have hPm := va_P_m.mp hP
  have hDn := va_D_n.mp hD
  have hAA := cn_in h hD hS
  have hlt : ∀ q' ∈ ws ++ [(q, e0)], q'.1 < H.size := fun q' hq' => by
    obtain ⟨i, hi⟩ := mem_at hq'
    exact (hP i q' hi).lt
  intro T hT X0
  obtain ⟨v0, st₀, t, T', L0, h0, X', hL, e1, e2, ⟨⟨hv, w, hB, hp, hdw⟩, hz, hk⟩, st1⟩ := hr T hT X0
  cases hv
  rw [h0] at hz hk
  have hdn := va_D_n.mp hdw
  have hne : ∀ q' ∈ ws, q'.1 ≠ q := fun q' hq' e => by
    have nd := hDn.1
    rw [List.map_append, List.nodup_append] at nd
    exact nd.2.2 q'.1 (List.mem_map_of_mem hq') q (by simp) e
  have hnA : ∀ q' ∈ ws, ¬ va_A [(q, e0)] H.size q'.1 := fun q' hq' ha => by
    rcases ha with ⟨i, e, he⟩ | ha
    · have := congrArg Prod.fst (List.mem_singleton.mp (List.mem_of_getElem? he))
      exact hne q' hq' this
    · have := hlt q' (List.mem_append_left _ hq')
      omega
  have hPw : va_P D vwCl ws t.heap := (show va_P D vwCl ws H from va_P_m.mpr (fun q' hq' => hPm q' (List.mem_append_left _ hq'))).kept (fun i q' hi => hk _ (hlt q' (List.mem_append_left _ (List.mem_of_getElem? hi))) (hnA q' (List.mem_of_getElem? hi)))
  obtain ⟨t2, a1, b1⟩ := kk w hB T'.heap (locs ++ L0) ls (by rw [e1]; exact hPw.app hp) (va_D_n.mpr ⟨by
      rw [List.map_append, List.nodup_append]
      refine ⟨(List.nodup_append.mp (by rw [← List.map_append]; exact hDn.1)).1, hdn.1, fun a ha b hb e => ?_⟩
      obtain ⟨q', hq', rfl⟩ := List.mem_map.mp ha
      obtain ⟨q2, hq2, rfl⟩ := List.mem_map.mp hb
      exact hnA q' hq' (by rw [e]; exact hdn.2 q2 hq2), fun q' hq' => by
      rcases List.mem_append.mp hq' with hh | hh
      · exact hDn.2 q' (List.mem_append_left _ hh)
      · exact hAA _ (hdn.2 q' hh)⟩)
    ⟨Nat.le_trans hS.1 (by rw [e1]; exact hz), fun q' h1 h2 => by rw [e1, hk q' (Nat.lt_of_lt_of_le h1 hS.1) (fun z => h2 (hAA q' z))]; exact hS.2.1 q' h1 h2, fun q' hq' => by
      rcases List.mem_append.mp hq' with hh | hh
      · exact hS.2.2 q' hh
      · exact hAA _ (hL q' hh)⟩ hl T' rfl X'
  exact ⟨t2, st1 t2 a1, b1⟩
end RUN
/-- a constructor is called -/
theorem gc_ctor (h : Oc l x D c5 tF cc own R0) {y : MethodName} {cy : ByteArray} {mL mc ms idx q : Nat} {R1 : Room} {e0 : va_E} {B : Nat → va_W → Prop} {rest : List Value} (hC : Cn l y cy mL R1 mc ms D c5 tF e0 B) (hcode : Cond.code y cy mL none ∈ lw_gd) (hlink : Cond.methodLink own idx y ∈ lw_gd) (hinst : Cond.instanceMethod y ∈ lw_gd) (hini : Cond.initialized y.cls ∈ lw_gd) (hyn : y.name = "<init>") (hpar : y.cls ≠ "java/lang/invoke/MethodHandle" ∧ y.cls ≠ "java/lang/invoke/VarHandle" ∧ (parseMethodDescriptor y.desc).map (fun d => d.parameters.length) = some 0) (hc : R1.cells = mc) (hs : R1.slots = ms)
    (hfr : R1.frames + 1 ≤ R0.frames) (hlo : 8 + (mL + 11) + R1.locals ≤ R0.locals) (hcat : (rest.map fun v => v.category).sum ≤ 8) (hcells : k + mc ≤ R0.cells) (hslots : n + ms ≤ R0.slots) (hd : decode cc pc = .ok (.invokespecial idx, 3))
    (kk : ∀ w, B q w → Gc x D (ws ++ w) (k + mc) (n + ms) L rest (pc + 3)) : Gc x D (ws ++ [(q, e0)]) k n L (.ref q :: rest) pc := fun H locs ls hP hD hS hl =>
  cn_cont h hP hD hS hl (va_runI (As := []) (rest := rest) (b := q) ⟨h.hx, h.hb, h.hml, h.ho, h.hts⟩ (by have hC' := hC q H.size; rw [← h.1.1] at hC'; exact hC') (cwI 0 h.hts (gd_T hcode) rfl hc hs (h.hts _ hini) (h.hts _ hlink) (h.hts _ hinst) hyn hpar (by rw [h.hR]; exact ⟨hfr, hlo⟩)) (cn_pre h hP hD hS) rfl rfl hl.1 rfl (lv_room hcat) hd (by rw [h.hR]; exact ⟨hcells, hslots⟩)) kk
/-- Loan's constructor, a nest mate's -/
theorem gc_ctorN (h : Oc l x D c5 tF cc own R0) (how : own = "BranchBets$State") {mL mc ms q : Nat} {R1 : Room} {e0 : va_E} {B : Nat → va_W → Prop} {rest : List Value} (hC : Cn l yX0_init cX0_init mL R1 mc ms D c5 tF e0 B) (hcode : Cond.code yX0_init cX0_init mL none ∈ lw_gd) (hinst : Cond.instanceMethod yX0_init ∈ lw_gd) (hini : Cond.initialized yX0_init.cls ∈ lw_gd) (hyn : yX0_init.name = "<init>") (hpar : yX0_init.cls ≠ "java/lang/invoke/MethodHandle" ∧ yX0_init.cls ≠ "java/lang/invoke/VarHandle" ∧ (parseMethodDescriptor yX0_init.desc).map (fun d => d.parameters.length) = some 0) (hc : R1.cells = mc) (hs : R1.slots = ms)
    (hfr : R1.frames + 1 ≤ R0.frames) (hlo : 8 + (mL + 11) + R1.locals ≤ R0.locals) (hcat : (rest.map fun v => v.category).sum ≤ 8) (hcells : k + mc ≤ R0.cells) (hslots : n + ms ≤ R0.slots) (hd : decode cc pc = .ok (.invokespecial 24, 3))
    (kk : ∀ w, B q w → Gc x D (ws ++ w) (k + mc) (n + ms) L rest (pc + 3)) : Gc x D (ws ++ [(q, e0)]) k n L (.ref q :: rest) pc := fun H locs ls hP hD hS hl => by
  subst how
  exact cn_cont h hP hD hS hl (va_runIN (As := []) (rest := rest) (b := q) ⟨h.hx, h.hb, h.hml, h.ho, h.hts⟩ (by have hC' := hC q H.size; rw [← h.1.1] at hC'; exact hC') ⟨va_cnB 0 h.hts (gd_T hcode) rfl hc hs h.hN.1 (h.hts _ hini) hpar (by rw [h.hR]; exact ⟨hfr, hlo⟩), hyn, h.hts _ hinst⟩ (cn_pre h hP hD hS) rfl rfl hl.1 rfl (lv_room hcat) hd (by rw [h.hR]; exact ⟨hcells, hslots⟩)) kk
end CE
