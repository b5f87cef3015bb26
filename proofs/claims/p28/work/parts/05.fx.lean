/-! the flat memory of both systems, the judgement G, its rules -/
/-- what the ints of a cell are (cell's number, slot), and the long of a cell -/
abbrev fM : Type := (Nat → Nat → Int32) × (Nat → Int64)
/-- where things are: classes' ids and slots, the cells' addresses, the array classes' ids, the addresses of statics (and of the script), how many cells there are beside 155, the script's length, the script -/
abbrev fX : Type := va_G × (Nat → Nat) × (Nat → ClassId) × (Nat → Nat) × Nat × Nat × (Nat → Int32)
/-- how many cells there are: the system's 150, the law's five rows, and those that are made for a while -/
def nX (X : fX) : Nat := 155 + X.2.2.2.2.1
theorem nX_lt {X : fX} {k : Nat} (h : k < 155) : k < nX X := Nat.lt_of_lt_of_le h (Nat.le_add_right _ _)
def iS (s : Nat) : Nat := 6 + 24 * s
def iOs (s : Nat) : Nat := 7 + 24 * s
def iLs (s : Nat) : Nat := 8 + 24 * s
def iSet (s : Nat) : Nat := 9 + 24 * s
def iO (s i : Nat) : Nat := 10 + 24 * s + 2 * i
def iT (s i : Nat) : Nat := 11 + 24 * s + 2 * i
def iL (s l : Nat) : Nat := 22 + 24 * s + l
abbrev ra (X : fX) (k : Nat) : Value := .ref (X.2.1 k)
def encS (X : fX) (s r : Nat) (row : Nat → Int32) (e : Int64) : va_E :=
  if r = 0 then .inr (3, [ra X (iOs s), ra X (iLs s), ra X (iSet s), .int (row 3), .int (row 4), .int (row 5), .int (row 6), .int (row 7), .int (row 8), .long e])
  else if r = 1 then .inl (X.2.2.1 2, 6, .inr (.inr (.inr (.inr (fun j => some (X.2.1 (iO s j)))))))
  else if r = 2 then .inl (X.2.2.1 3, 8, .inr (.inr (.inr (.inr (fun j => some (X.2.1 (iL s j)))))))
  else if r = 3 then .inl (X.2.2.1 0, 3, .inl row)
  else if r < 16 then
    (if r % 2 = 0 then .inr (1, [.int (row 0), .int (row 1), .int (row 2), .int (row 3), .int (row 4), .int (row 5), .int (row 6), .int (row 7), .int (row 8), .int (row 9), .int (row 10), ra X (6 + 24 * s + r + 1)])
     else .inl (X.2.2.1 0, 32, .inl row))
  else .inr (0, [.int (row 0), .int (row 1), .int (row 2)])
def mlen (k : Nat) : Nat := if k = 150 then 8 else if k = 151 then 50 else if k = 152 then 40 else if k = 153 then 24 else if k = 154 then 15 else if k = 155 then 8 else if k = 156 then 50 else if k = 157 then 40 else 24
def enc (X : fX) (k : Nat) (row : Nat → Int32) (e : Int64) : va_E :=
  if k = 0 then .inr (5, [ra X (iS 0), ra X (iS 1), ra X 1, ra X 3])
  else if k = 1 then .inr (2, [ra X 2, .int (row 1), .int (row 2)])
  else if k = 2 then .inl (X.2.2.1 4, 4, .inr (.inr (.inr (.inr (fun j => some (X.2.1 (iS (2 + j))))))))
  else if k = 3 then .inr (4, [ra X 4, ra X 5, .int (row 2), .int (row 3), .int (row 4), .int (row 5), .int (row 6), .int (row 7)])
  else if k = 4 then .inl (X.2.2.1 1, 80, .inl row)
  else if k = 5 then .inl (X.2.2.1 0, 2, .inl row)
  else if k < 150 then encS X ((k - 6) / 24) ((k - 6) % 24) row e
  else .inl (X.2.2.1 0, mlen k, .inl row)
theorem enc_S (X : fX) {s : Nat} (hs : s < 6) (row : Nat → Int32) (e : Int64) : enc X (iS s) row e = .inr (3, [ra X (iOs s), ra X (iLs s), ra X (iSet s), .int (row 3), .int (row 4), .int (row 5), .int (row 6), .int (row 7), .int (row 8), .long e]) := by
  unfold enc iS
  rw [if_neg (by omega), if_neg (by omega), if_neg (by omega), if_neg (by omega), if_neg (by omega), if_neg (by omega), if_pos (by omega), show (6 + 24 * s - 6) / 24 = s by omega, show (6 + 24 * s - 6) % 24 = 0 by omega]
  unfold encS
  rw [if_pos rfl]
theorem enc_Os (X : fX) {s : Nat} (hs : s < 6) (row : Nat → Int32) (e : Int64) : enc X (iOs s) row e = .inl (X.2.2.1 2, 6, .inr (.inr (.inr (.inr (fun j => some (X.2.1 (iO s j))))))) := by
  unfold enc iOs
  rw [if_neg (by omega), if_neg (by omega), if_neg (by omega), if_neg (by omega), if_neg (by omega), if_neg (by omega), if_pos (by omega), show (7 + 24 * s - 6) / 24 = s by omega, show (7 + 24 * s - 6) % 24 = 1 by omega]
  unfold encS
  rw [if_neg (by omega), if_pos rfl]
theorem enc_Ls (X : fX) {s : Nat} (hs : s < 6) (row : Nat → Int32) (e : Int64) : enc X (iLs s) row e = .inl (X.2.2.1 3, 8, .inr (.inr (.inr (.inr (fun j => some (X.2.1 (iL s j))))))) := by
  unfold enc iLs
  rw [if_neg (by omega), if_neg (by omega), if_neg (by omega), if_neg (by omega), if_neg (by omega), if_neg (by omega), if_pos (by omega), show (8 + 24 * s - 6) / 24 = s by omega, show (8 + 24 * s - 6) % 24 = 2 by omega]
  unfold encS
  rw [if_neg (by omega), if_neg (by omega), if_pos rfl]
theorem enc_Set (X : fX) {s : Nat} (hs : s < 6) (row : Nat → Int32) (e : Int64) : enc X (iSet s) row e = .inl (X.2.2.1 0, 3, .inl row) := by
  unfold enc iSet
  rw [if_neg (by omega), if_neg (by omega), if_neg (by omega), if_neg (by omega), if_neg (by omega), if_neg (by omega), if_pos (by omega), show (9 + 24 * s - 6) / 24 = s by omega, show (9 + 24 * s - 6) % 24 = 3 by omega]
  unfold encS
  rw [if_neg (by omega), if_neg (by omega), if_neg (by omega), if_pos rfl]
theorem enc_O (X : fX) {s i : Nat} (hs : s < 6) (hi : i < 6) (row : Nat → Int32) (e : Int64) : enc X (iO s i) row e = .inr (1, [.int (row 0), .int (row 1), .int (row 2), .int (row 3), .int (row 4), .int (row 5), .int (row 6), .int (row 7), .int (row 8), .int (row 9), .int (row 10), ra X (iT s i)]) := by
  unfold enc iO iT
  rw [if_neg (by omega), if_neg (by omega), if_neg (by omega), if_neg (by omega), if_neg (by omega), if_neg (by omega), if_pos (by omega), show (10 + 24 * s + 2 * i - 6) / 24 = s by omega, show (10 + 24 * s + 2 * i - 6) % 24 = 4 + 2 * i by omega]
  unfold encS
  rw [if_neg (by omega), if_neg (by omega), if_neg (by omega), if_neg (by omega), if_pos (by omega), if_pos (by omega), show 6 + 24 * s + (4 + 2 * i) + 1 = 11 + 24 * s + 2 * i by omega]
theorem enc_T (X : fX) {s i : Nat} (hs : s < 6) (hi : i < 6) (row : Nat → Int32) (e : Int64) : enc X (iT s i) row e = .inl (X.2.2.1 0, 32, .inl row) := by
  unfold enc iT
  rw [if_neg (by omega), if_neg (by omega), if_neg (by omega), if_neg (by omega), if_neg (by omega), if_neg (by omega), if_pos (by omega), show (11 + 24 * s + 2 * i - 6) / 24 = s by omega, show (11 + 24 * s + 2 * i - 6) % 24 = 5 + 2 * i by omega]
  unfold encS
  rw [if_neg (by omega), if_neg (by omega), if_neg (by omega), if_neg (by omega), if_pos (by omega), if_neg (by omega)]
theorem enc_L (X : fX) {s i : Nat} (hs : s < 6) (hi : i < 8) (row : Nat → Int32) (e : Int64) : enc X (iL s i) row e = .inr (0, [.int (row 0), .int (row 1), .int (row 2)]) := by
  unfold enc iL
  rw [if_neg (by omega), if_neg (by omega), if_neg (by omega), if_neg (by omega), if_neg (by omega), if_neg (by omega), if_pos (by omega), show (22 + 24 * s + i - 6) / 24 = s by omega, show (22 + 24 * s + i - 6) % 24 = 16 + i by omega]
  unfold encS
  rw [if_neg (by omega), if_neg (by omega), if_neg (by omega), if_neg (by omega), if_neg (by omega)]
theorem iS_lt {X : fX} {s : Nat} (hs : s < 6) : iS s < nX X := nX_lt (by unfold iS; omega)
theorem iOs_lt {X : fX} {s : Nat} (hs : s < 6) : iOs s < nX X := nX_lt (by unfold iOs; omega)
theorem iLs_lt {X : fX} {s : Nat} (hs : s < 6) : iLs s < nX X := nX_lt (by unfold iLs; omega)
theorem iSet_lt {X : fX} {s : Nat} (hs : s < 6) : iSet s < nX X := nX_lt (by unfold iSet; omega)
theorem iO_lt {X : fX} {s i : Nat} (hs : s < 6) (hi : i < 6) : iO s i < nX X := nX_lt (by unfold iO; omega)
theorem iT_lt {X : fX} {s i : Nat} (hs : s < 6) (hi : i < 6) : iT s i < nX X := nX_lt (by unfold iT; omega)
theorem iL_lt {X : fX} {s i : Nat} (hs : s < 6) (hi : i < 8) : iL s i < nX X := nX_lt (by unfold iL; omega)
/-- the world: a list of all cells -/
def wl (X : fX) (σ : fM) : va_W := (List.range (nX X)).map (fun k => (X.2.1 k, enc X k (σ.1 k) (σ.2 k)))
theorem wl_get {X : fX} {σ : fM} {k : Nat} (hk : k < nX X) : (wl X σ)[k]? = some (X.2.1 k, enc X k (σ.1 k) (σ.2 k)) := by
  simp [wl, hk]
theorem wl_set {X : fX} {σ σ' : fM} {k : Nat} {v : va_E} (hv : enc X k (σ'.1 k) (σ'.2 k) = v) (h1 : ∀ k', k' ≠ k → σ'.1 k' = σ.1 k') (h2 : ∀ k', k' ≠ k → σ'.2 k' = σ.2 k') : (wl X σ).set k (X.2.1 k, v) = wl X σ' := by
  apply List.ext_getElem?
  intro q
  by_cases hq : q = k
  · subst hq
    by_cases hl : q < nX X
    · rw [List.getElem?_set_self (by simp [wl]; exact hl), wl_get hl, hv]
    · rw [List.getElem?_eq_none (by simp [wl]; omega), List.getElem?_eq_none (by simp [wl]; omega)]
  · rw [List.getElem?_set_ne (fun h => hq h.symm)]
    by_cases hl : q < nX X
    · rw [wl_get hl, wl_get hl, h1 q hq, h2 q hq]
    · rw [List.getElem?_eq_none (by simp [wl]; omega), List.getElem?_eq_none (by simp [wl]; omega)]
/-- one int is put -/
def pu (σ : fM) (k j : Nat) (v : Int32) : fM := (fun k' j' => if k' = k ∧ j' = j then v else σ.1 k' j', σ.2)
/-- one long is put -/
def puL (σ : fM) (k : Nat) (v : Int64) : fM := (σ.1, fun k' => if k' = k then v else σ.2 k')
theorem pu_row (σ : fM) (k j : Nat) (v : Int32) : (pu σ k j v).1 k = fun j' => if j' = j then v else σ.1 k j' := by funext j'; simp [pu]
theorem pu_ne {σ : fM} {k j : Nat} {v : Int32} (k' : Nat) (h : k' ≠ k) : (pu σ k j v).1 k' = σ.1 k' := by funext j'; simp [pu, h]
/-- locals -/
def lk : List (Nat × Value) → Nat → Option Value
  | [], _ => none
  | q :: t, i => match Nat.beq q.1 i with
    | true => some q.2
    | false => lk t i
theorem lk_mem : ∀ (L : List (Nat × Value)) (i : Nat) (v : Value), lk L i = some v → (i, v) ∈ L
  | [], _, _, h => by cases h
  | q :: t, i, v, h => by
    unfold lk at h
    cases hb : Nat.beq q.1 i with
    | true =>
      rw [hb] at h
      have h1 := Nat.eq_of_beq_eq_true hb
      have h2 : q.2 = v := Option.some.inj h
      rw [← h1, ← h2]
      exact List.mem_cons_self
    | false =>
      rw [hb] at h
      exact List.mem_cons_of_mem _ (lk_mem t i v h)
theorem lk_has {ls : Array Slot} {nL : Nat} {L : List (Nat × Value)} (h : lv_has ls nL L) {i : Nat} {v : Value} (hk : lk L i = some v) : ls[i]? = some (.val v) := h.2.2 (i, v) (lk_mem L i v hk)
def ls1 (L : List (Nat × Value)) (i : Nat) (v : Value) : List (Nat × Value) := (i, v) :: L.filter (fun q => !(q.1 == i) && !(q.1 + 1 == i && q.2.category == 2))
def ls2 (L : List (Nat × Value)) (i : Nat) (v : Value) : List (Nat × Value) := (i, v) :: L.filter (fun q => !(q.1 == i) && (!(q.1 == i + 1) && !(q.1 + 1 == i && q.2.category == 2)))
def lsub (L : List (Nat × Value)) : List (Nat × Value) → Prop
  | [] => True
  | q :: t => lk L q.1 = some q.2 ∧ lsub L t
theorem lsub_has {ls : Array Slot} {nL : Nat} {L : List (Nat × Value)} (h : lv_has ls nL L) : ∀ (L' : List (Nat × Value)), lsub L L' → lv_has ls nL L'
  | [], _ => ⟨h.1, h.2.1, fun q hq => by cases hq⟩
  | q :: t, hs => by
    refine ⟨h.1, h.2.1, fun x hx => ?_⟩
    rcases List.mem_cons.mp hx with rfl | hx
    · exact lk_has h hs.1
    · exact (lsub_has h t hs.2).2.2 x hx
/-- array classes -/
def fty (X : fX) : List (ClassId × FieldType) := [(X.2.2.1 0, .int), (X.2.2.1 1, .char), (X.2.2.1 2, .object RX1), (X.2.2.1 3, .object RX0), (X.2.2.1 4, .object RX3)]
/-- the system's own cells -/
def fA (X : fX) : Addr → Prop := fun q => ∃ k, k < nX X ∧ q = X.2.1 k
def fAd (X : fX) (A : Addr → Prop) : Prop := (∀ i j, i < nX X → j < nX X → X.2.1 i = X.2.1 j → i = j) ∧ ∀ k, k < nX X → A (X.2.1 k)
theorem wl_len (X : fX) (σ : fM) : (wl X σ).length = nX X := by simp [wl]
theorem wl_inv {X : fX} {σ : fM} {k : Nat} {q : Nat × va_E} (h : (wl X σ)[k]? = some q) : k < nX X ∧ q = (X.2.1 k, enc X k (σ.1 k) (σ.2 k)) := by
  have hk : k < nX X := by
    rcases Nat.lt_or_ge k (nX X) with h1 | h1
    · exact h1
    · rw [List.getElem?_eq_none (by rw [wl_len]; exact h1)] at h; cases h
  rw [wl_get hk] at h
  exact ⟨hk, (Option.some.inj h).symm⟩
theorem wl_D {X : fX} {A : Addr → Prop} (h : fAd X A) (σ : fM) : va_D A (wl X σ) := by
  refine ⟨fun i j p q hi hj e => ?_, fun k q hk => ?_⟩
  · obtain ⟨h1, rfl⟩ := wl_inv hi
    obtain ⟨h2, rfl⟩ := wl_inv hj
    exact h.1 i j h1 h2 e
  · obtain ⟨h1, rfl⟩ := wl_inv hk
    exact h.2 k h1
/-- what stands beside the cells: static arrays -/
def fZ (X : fX) (A : Addr → Prop) (U : State) (H : Heap) : Prop :=
  (va_Z "BranchBets" "SETTING_LEAST" "[I" (.ref (X.2.2.2.1 0)) A U H ∧ va_T .int (X.2.2.2.1 0) 3 (fun j => .int (if j = 0 then 1 else 0)) A U H) ∧
  (va_Z "BranchBets" "SETTING_MOST" "[I" (.ref (X.2.2.2.1 1)) A U H ∧ va_T .int (X.2.2.2.1 1) 3 (fun j => .int (if j = 2 then 100 else 50)) A U H) ∧
  va_T .int (X.2.2.2.1 2) X.2.2.2.2.2.1 (fun j => .int (X.2.2.2.2.2.2 j)) A U H
theorem fZ.kept {X : fX} {A : Addr → Prop} {U : State} {H H1 : Heap} (h : fZ X A U H) (hq : ∀ a : Nat, a < H.size → ¬ A a → H1[a]? = H[a]?) : fZ X A U H1 :=
  ⟨⟨h.1.1.kept hq, h.1.2.kept hq⟩, ⟨h.2.1.1.kept hq, h.2.1.2.kept hq⟩, h.2.2.kept hq⟩
theorem fZ.moved {X : fX} {A : Addr → Prop} {u U : State} {H : Heap} (hvm : u.vm.Alike U.vm) (h : fZ X A u H) : fZ X A U H :=
  ⟨⟨h.1.1.moved hvm, h.1.2.moved hvm⟩, ⟨h.2.1.1.moved hvm, h.2.1.2.moved hvm⟩, h.2.2.moved hvm⟩
theorem fZ.narrow {X : fX} {A B : Addr → Prop} {U : State} {H : Heap} (h : fZ X A U H) (hAB : ∀ q, B q → A q) : fZ X B U H :=
  ⟨⟨h.1.1.narrow hAB, h.1.2.narrow hAB⟩, ⟨h.2.1.1.narrow hAB, h.2.1.2.narrow hAB⟩, h.2.2.narrow hAB⟩
/-- a method's start: the arguments, the world, and what stands beside it -/
def fI (X : fX) (σ : fM) (U : State) : Prop := va_P X.1 vwCl (wl X σ) U.heap ∧ va_K X.1 vwCl (fty X) U ∧ fAd X (fA X) ∧ fZ X (fA X) U U.heap
def fPc (X : fX) (av : List Value) (σ : fM) : Array Value → State → Prop := fun v U => v = av.toArray ∧ fI X σ U
theorem fPc_blind (X : fX) (av : List Value) (σ : fM) : FrameBlind (fPc X av σ) := fun a U g mk h => by
  obtain ⟨h0, h1, h2, h3, h4⟩ := h
  exact ⟨h0, h1, va_K.moved (u := U) (U := U.calling g mk a) (Vm.Alike.refl U.vm) h2, h3, fZ.moved (u := U) (U := U.calling g mk a) (Vm.Alike.refl U.vm) h4⟩
/-- a method's end: its answer and the memory behind it -/
def fQc (X : fX) (v : Option Value) (σ : fM) : Array Value → State → Outcome → State → Prop := fun _ st oc t => (oc = .returned v ∧ va_P X.1 vwCl (wl X σ) t.heap) ∧ va_F (fA X) st t
abbrev fT (y : MethodName) (cc : ByteArray) (mL : Nat) (ret : Option FieldType) : List Cond := .code y cc mL ret :: lw_gd
abbrev fR (d : Nat) : Room := { frames := d, cells := 0, slots := 0, locals := 36 * d }
/-- the contract: with the arguments av over the memory σ the method y answers v and leaves the memory σ' -/
def Ct (l : Launch) (X : fX) (y : MethodName) (cc : ByteArray) (mL : Nat) (ret : Option FieldType) (d : Nat) (av : List Value) (σ : fM) (v : Option Value) (σ' : fM) : Prop :=
  Met l y (fT y cc mL ret) (fR d) (fPc X av σ) (fQc X v σ') 0 0 (fA X)
/-- the place of a walk -/
abbrev fC : Type := Program × Launch × Env × Room × State × MethodId × Array Value × List Frame × Method × Code × (Addr → Prop) × Nat × Nat × (State → Prop) × Nat
abbrev xp (x : fC) : Program := x.1
abbrev xl (x : fC) : Launch := x.2.1
abbrev xe (x : fC) : Env := x.2.2.1
abbrev xR (x : fC) : Room := x.2.2.2.1
abbrev xs (x : fC) : State := x.2.2.2.2.1
abbrev xm (x : fC) : MethodId := x.2.2.2.2.2.1
abbrev xa (x : fC) : Array Value := x.2.2.2.2.2.2.1
abbrev xb (x : fC) : List Frame := x.2.2.2.2.2.2.2.1
abbrev xM (x : fC) : Method := x.2.2.2.2.2.2.2.2.1
abbrev xc (x : fC) : Code := x.2.2.2.2.2.2.2.2.2.1
abbrev xA (x : fC) : Addr → Prop := x.2.2.2.2.2.2.2.2.2.2.1
abbrev xk (x : fC) : Nat := x.2.2.2.2.2.2.2.2.2.2.2.1
abbrev xn (x : fC) : Nat := x.2.2.2.2.2.2.2.2.2.2.2.2.1
abbrev xQ (x : fC) : State → Prop := x.2.2.2.2.2.2.2.2.2.2.2.2.2.1
abbrev xL (x : fC) : Nat := x.2.2.2.2.2.2.2.2.2.2.2.2.2.2
def G (x : fC) (X : fX) (σ : fM) (L : List (Nat × Value)) (st : List Value) (pc : Nat) : Prop :=
  ∀ (H : Heap) (locs : List Loc) (ls : Array Slot), va_P X.1 vwCl (wl X σ) H → va_S (xA x) (xs x).heap H locs → lv_has ls (xL x) L →
    W (xp x) (xl x) (xe x) (xR x) (xs x) (xm x) (xa x) (xb x) (xM x) (xc x) H locs (xk x) (xn x) (xQ x) (F0 (xm x) pc ls st)
/-- what a walk may use: the machine, the code, the words, the classes, the room -/
def Ok (l : Launch) (x : fC) (X : fX) (cc : ByteArray) (own : String) (d : Nat) : Prop :=
  (xl x = l ∧ (xp x).tables.exec = Jvm.exec ∧ (xc x).code = cc ∧ (xc x).maxLocals = xL x ∧ (xs x).vm.findClass own = some (xm x).cls) ∧ (∀ w ∈ lw_gd, w.before (xa x) (xs x) = true) ∧
  va_K X.1 vwCl (fty X) (xs x) ∧ fAd X (xA x) ∧ fZ X (xA x) (xs x) (xs x).heap ∧ d ≤ (xR x).frames ∧ 36 * d ≤ (xR x).locals ∧ xk x ≤ (xR x).cells ∧ xn x ≤ (xR x).slots
/-- a method's end -/
def Rt (x : fC) (X : fX) (ret : Option FieldType) (v : Option Value) (σ' : fM) : Prop :=
  (xM x).sig.returnType = ret ∧ (xM x).locks = false ∧ xA x = fA X ∧ xQ x = MQ (xb x) (fQc X v σ') (xa x) (xs x) (xk x) (xn x) (fA X)



theorem Ok.hx {l : Launch} {x : fC} {X : fX} {cc : ByteArray} {own : String} {d : Nat} (h : Ok l x X cc own d) : (xp x).tables.exec = Jvm.exec := h.1.2.1
theorem Ok.hb {l : Launch} {x : fC} {X : fX} {cc : ByteArray} {own : String} {d : Nat} (h : Ok l x X cc own d) : (xc x).code = cc := h.1.2.2.1
theorem Ok.hml {l : Launch} {x : fC} {X : fX} {cc : ByteArray} {own : String} {d : Nat} (h : Ok l x X cc own d) : (xc x).maxLocals = xL x := h.1.2.2.2.1
theorem Ok.ho {l : Launch} {x : fC} {X : fX} {cc : ByteArray} {own : String} {d : Nat} (h : Ok l x X cc own d) : (xs x).vm.findClass own = some (xm x).cls := h.1.2.2.2.2
theorem Ok.hts {l : Launch} {x : fC} {X : fX} {cc : ByteArray} {own : String} {d : Nat} (h : Ok l x X cc own d) : ∀ w ∈ lw_gd, w.before (xa x) (xs x) = true := h.2.1
theorem Ok.hK {l : Launch} {x : fC} {X : fX} {cc : ByteArray} {own : String} {d : Nat} (h : Ok l x X cc own d) : va_K X.1 vwCl (fty X) (xs x) := h.2.2.1
theorem Ok.hA {l : Launch} {x : fC} {X : fX} {cc : ByteArray} {own : String} {d : Nat} (h : Ok l x X cc own d) : fAd X (xA x) := h.2.2.2.1
theorem Ok.hZ {l : Launch} {x : fC} {X : fX} {cc : ByteArray} {own : String} {d : Nat} (h : Ok l x X cc own d) : fZ X (xA x) (xs x) (xs x).heap := h.2.2.2.2.1
theorem Ok.hF {l : Launch} {x : fC} {X : fX} {cc : ByteArray} {own : String} {d : Nat} (h : Ok l x X cc own d) : d ≤ (xR x).frames ∧ 36 * d ≤ (xR x).locals := ⟨h.2.2.2.2.2.1, h.2.2.2.2.2.2.1⟩
theorem Ok.hC {l : Launch} {x : fC} {X : fX} {cc : ByteArray} {own : String} {d : Nat} (h : Ok l x X cc own d) : xk x ≤ (xR x).cells ∧ xn x ≤ (xR x).slots := h.2.2.2.2.2.2.2
/-- a contract out of its walk -/
theorem Ct.of {l : Launch} {X : fX} {y : MethodName} {cc : ByteArray} {mL : Nat} {ret : Option FieldType} {d : Nat} {av : List Value} {σ : fM} {v : Option Value} {σ' : fM} (own : String) (hown : y.cls = own) (hy : plainName y.cls = true) (hlen : (lg_sl av).length ≤ mL)
    (body : ∀ x : fC, xL x = mL → Ok l x X cc own d → Rt x X ret v σ' → G x X σ (lv_args 0 av) [] 0) : Ct l X y cc mL ret d av σ v σ' := by
  refine Met.ofW (cc := cc) (maxL := mL) (ret := ret) hy rfl ?_
  intro p e s m args below meth c s₁ B hml hv
  obtain ⟨rfl, hP, hK, hAd, hZ⟩ := hv
  have hts := atoms_spec (ws := fT y cc mL ret) B.pre
  have ho : s.vm.findClass own = some m.cls := hown ▸ findClass_of_methodNamed B.named
  rw [lg_entry_eq]
  exact body (p, l, e, fR d, s, m, av.toArray, below, meth, c, fA X, 0, 0, MQ below (fQc X v σ') av.toArray s 0 0 (fA X), mL) rfl ⟨⟨rfl, B.exec, B.bytes, hml, ho⟩, fun w hw => hts w (List.mem_cons_of_mem _ hw), hK, hAd, hZ, Nat.le_refl _, Nat.le_refl _, Nat.le_refl _, Nat.le_refl _⟩ ⟨B.returns, B.notSynchronized, rfl, rfl⟩ s.heap [] _ hP va_S.rf (lv_entry av hlen)
section RULES
variable {l : Launch} {x : fC} {X : fX} {σ : fM} {L : List (Nat × Value)} {st : List Value} {pc : Nat} {cc : ByteArray} {own : String} {d : Nat}
theorem g_sub (L' : List (Nat × Value)) (hs : lsub L L') (k : G x X σ L' st pc) : G x X σ L st pc := fun H locs ls hP hS hl => k H locs ls hP hS (lsub_has hl L' hs)
theorem g_mem (σ' : fM) (hs : σ = σ') (k : G x X σ' L st pc) : G x X σ L st pc := hs ▸ k
theorem g_st (st' : List Value) (hs : st = st') (k : G x X σ L st' pc) : G x X σ L st pc := hs ▸ k

theorem g_iadd (h : Ok l x X cc own d) {a b : Int32} (hd : decode cc pc = .ok (.iadd, 1)) (k : G x X σ L (.int (a + b) :: st) (pc + 1)) : G x X σ L (.int b :: .int a :: st) pc := fun H locs ls hP hS hl => lv_iadd h.hx h.hb hd (k H locs ls hP hS hl)
theorem g_isub (h : Ok l x X cc own d) {a b : Int32} (hd : decode cc pc = .ok (.isub, 1)) (k : G x X σ L (.int (a - b) :: st) (pc + 1)) : G x X σ L (.int b :: .int a :: st) pc := fun H locs ls hP hS hl => lv_isub h.hx h.hb hd (k H locs ls hP hS hl)
theorem g_imul (h : Ok l x X cc own d) {a b : Int32} (hd : decode cc pc = .ok (.imul, 1)) (k : G x X σ L (.int (a * b) :: st) (pc + 1)) : G x X σ L (.int b :: .int a :: st) pc := fun H locs ls hP hS hl => lv_imul h.hx h.hb hd (k H locs ls hP hS hl)
theorem g_iand (h : Ok l x X cc own d) {a b : Int32} (hd : decode cc pc = .ok (.iand, 1)) (k : G x X σ L (.int (a &&& b) :: st) (pc + 1)) : G x X σ L (.int b :: .int a :: st) pc := fun H locs ls hP hS hl => lv_iand h.hx h.hb hd (k H locs ls hP hS hl)
theorem g_ior (h : Ok l x X cc own d) {a b : Int32} (hd : decode cc pc = .ok (.ior, 1)) (k : G x X σ L (.int (a ||| b) :: st) (pc + 1)) : G x X σ L (.int b :: .int a :: st) pc := fun H locs ls hP hS hl => lv_ior h.hx h.hb hd (k H locs ls hP hS hl)
theorem g_ixor (h : Ok l x X cc own d) {a b : Int32} (hd : decode cc pc = .ok (.ixor, 1)) (k : G x X σ L (.int (a ^^^ b) :: st) (pc + 1)) : G x X σ L (.int b :: .int a :: st) pc := fun H locs ls hP hS hl => lv_ixor h.hx h.hb hd (k H locs ls hP hS hl)
theorem g_idiv (h : Ok l x X cc own d) {a b : Int32} (hd : decode cc pc = .ok (.idiv, 1)) (hne : ¬ b = 0) (k : G x X σ L (.int (a / b) :: st) (pc + 1)) : G x X σ L (.int b :: .int a :: st) pc := fun H locs ls hP hS hl => lv_idiv h.hx h.hb hd hne (k H locs ls hP hS hl)
theorem g_irem (h : Ok l x X cc own d) {a b : Int32} (hd : decode cc pc = .ok (.irem, 1)) (hne : ¬ b = 0) (k : G x X σ L (.int (a - a / b * b) :: st) (pc + 1)) : G x X σ L (.int b :: .int a :: st) pc := fun H locs ls hP hS hl => lv_irem h.hx h.hb hd hne (k H locs ls hP hS hl)
theorem g_ineg (h : Ok l x X cc own d) {a : Int32} (hd : decode cc pc = .ok (.ineg, 1)) (k : G x X σ L (.int (-a) :: st) (pc + 1)) : G x X σ L (.int a :: st) pc := fun H locs ls hP hS hl => lv_ineg h.hx h.hb hd (k H locs ls hP hS hl)
theorem g_ladd (h : Ok l x X cc own d) {a b : Int64} (hd : decode cc pc = .ok (.ladd, 1)) (k : G x X σ L (.long (a + b) :: st) (pc + 1)) : G x X σ L (.long b :: .long a :: st) pc := fun H locs ls hP hS hl => lv_ladd h.hx h.hb hd (k H locs ls hP hS hl)
theorem g_lsub (h : Ok l x X cc own d) {a b : Int64} (hd : decode cc pc = .ok (.lsub, 1)) (k : G x X σ L (.long (a - b) :: st) (pc + 1)) : G x X σ L (.long b :: .long a :: st) pc := fun H locs ls hP hS hl => lv_lsub h.hx h.hb hd (k H locs ls hP hS hl)
theorem g_lmul (h : Ok l x X cc own d) {a b : Int64} (hd : decode cc pc = .ok (.lmul, 1)) (k : G x X σ L (.long (a * b) :: st) (pc + 1)) : G x X σ L (.long b :: .long a :: st) pc := fun H locs ls hP hS hl => lv_lmul h.hx h.hb hd (k H locs ls hP hS hl)
theorem g_land (h : Ok l x X cc own d) {a b : Int64} (hd : decode cc pc = .ok (.land, 1)) (k : G x X σ L (.long (a &&& b) :: st) (pc + 1)) : G x X σ L (.long b :: .long a :: st) pc := fun H locs ls hP hS hl => lv_land h.hx h.hb hd (k H locs ls hP hS hl)
theorem g_lor (h : Ok l x X cc own d) {a b : Int64} (hd : decode cc pc = .ok (.lor, 1)) (k : G x X σ L (.long (a ||| b) :: st) (pc + 1)) : G x X σ L (.long b :: .long a :: st) pc := fun H locs ls hP hS hl => lv_lor h.hx h.hb hd (k H locs ls hP hS hl)
theorem g_ldiv (h : Ok l x X cc own d) {a b : Int64} (hd : decode cc pc = .ok (.ldiv, 1)) (hne : ¬ b = 0) (k : G x X σ L (.long (a / b) :: st) (pc + 1)) : G x X σ L (.long b :: .long a :: st) pc := fun H locs ls hP hS hl => lv_ldiv h.hx h.hb hd hne (k H locs ls hP hS hl)
theorem g_lrem (h : Ok l x X cc own d) {a b : Int64} (hd : decode cc pc = .ok (.lrem, 1)) (hne : ¬ b = 0) (k : G x X σ L (.long (a - a / b * b) :: st) (pc + 1)) : G x X σ L (.long b :: .long a :: st) pc := fun H locs ls hP hS hl => lv_lrem h.hx h.hb hd hne (k H locs ls hP hS hl)
theorem g_lcmp (h : Ok l x X cc own d) {a b : Int64} (hd : decode cc pc = .ok (.lcmp, 1)) (k : G x X σ L (.int (lg_cmp a b) :: st) (pc + 1)) : G x X σ L (.long b :: .long a :: st) pc := fun H locs ls hP hS hl => W.lcmp h.hx h.hb hd (k H locs ls hP hS hl)
theorem g_ishl (h : Ok l x X cc own d) {a b : Int32} (hd : decode cc pc = .ok (.ishl, 1)) (k : G x X σ L (.int (a <<< (b &&& 31)) :: st) (pc + 1)) : G x X σ L (.int b :: .int a :: st) pc := fun H locs ls hP hS hl => lv_ishl h.hx h.hb hd (k H locs ls hP hS hl)
theorem g_ishr (h : Ok l x X cc own d) {a b : Int32} (hd : decode cc pc = .ok (.ishr, 1)) (k : G x X σ L (.int (a >>> (b &&& 31)) :: st) (pc + 1)) : G x X σ L (.int b :: .int a :: st) pc := fun H locs ls hP hS hl => lv_ishr h.hx h.hb hd (k H locs ls hP hS hl)
theorem g_lshl (h : Ok l x X cc own d) {a : Int64} {b : Int32} (hd : decode cc pc = .ok (.lshl, 1)) (k : G x X σ L (.long (a <<< (b.toInt64 &&& 63)) :: st) (pc + 1)) : G x X σ L (.int b :: .long a :: st) pc := fun H locs ls hP hS hl => lv_lshl h.hx h.hb hd rfl (k H locs ls hP hS hl)
theorem g_lushr (h : Ok l x X cc own d) {a : Int64} {b : Int32} (hd : decode cc pc = .ok (.lushr, 1)) (k : G x X σ L (.long ((a.toUInt64 >>> (b.toInt64.toUInt64 &&& Int64.toUInt64 63)).toInt64) :: st) (pc + 1)) : G x X σ L (.int b :: .long a :: st) pc := fun H locs ls hP hS hl => lv_lushr h.hx h.hb hd rfl (k H locs ls hP hS hl)
theorem g_i2l (h : Ok l x X cc own d) {a : Int32} (hd : decode cc pc = .ok (.i2l, 1)) (k : G x X σ L (.long a.toInt64 :: st) (pc + 1)) : G x X σ L (.int a :: st) pc := fun H locs ls hP hS hl => lv_i2l h.hx h.hb hd rfl (k H locs ls hP hS hl)
theorem g_l2i (h : Ok l x X cc own d) {a : Int64} (hd : decode cc pc = .ok (.l2i, 1)) (k : G x X σ L (.int a.toInt32 :: st) (pc + 1)) : G x X σ L (.long a :: st) pc := fun H locs ls hP hS hl => lv_l2i h.hx h.hb hd rfl (k H locs ls hP hS hl)
theorem g_i2c (h : Ok l x X cc own d) {a : Int32} (hd : decode cc pc = .ok (.i2c, 1)) (k : G x X σ L (.int (a.toUInt32 % 65536).toInt32 :: st) (pc + 1)) : G x X σ L (.int a :: st) pc := fun H locs ls hP hS hl => lv_i2c h.hx h.hb hd rfl (k H locs ls hP hS hl)
theorem g_iconst (h : Ok l x X cc own d) {n : Int} (hd : decode cc pc = .ok (.iconst n, 1)) {v : Int32} (hv : Int32.ofInt n = v) (k : G x X σ L (.int v :: st) (pc + 1)) : G x X σ L (st) pc := fun H locs ls hP hS hl => lv_iconst h.hx h.hb hd hv (k H locs ls hP hS hl)
theorem g_bipush (h : Ok l x X cc own d) {n : Int} (hd : decode cc pc = .ok (.bipush n, 2)) {v : Int32} (hv : (Int8.ofInt n).toInt32 = v) (k : G x X σ L (.int v :: st) (pc + 2)) : G x X σ L (st) pc := fun H locs ls hP hS hl => lv_bipush h.hx h.hb hd hv (k H locs ls hP hS hl)
theorem g_sipush (h : Ok l x X cc own d) {n : Int} (hd : decode cc pc = .ok (.sipush n, 3)) {v : Int32} (hv : (Int16.ofInt n).toInt32 = v) (k : G x X σ L (.int v :: st) (pc + 3)) : G x X σ L (st) pc := fun H locs ls hP hS hl => lv_sipush h.hx h.hb hd hv (k H locs ls hP hS hl)
theorem g_lconst (h : Ok l x X cc own d) {n : Fin 2} (hd : decode cc pc = .ok (.lconst n, 1)) {v : Int64} (hv : Int64.ofNat (n : Nat) = v) (k : G x X σ L (.long v :: st) (pc + 1)) : G x X σ L (st) pc := fun H locs ls hP hS hl => lv_lconst h.hx h.hb hd hv (k H locs ls hP hS hl)
theorem g_dup (h : Ok l x X cc own d) {a : Value} (hd : decode cc pc = .ok (.dup, 1)) (hc : a.category = 1) (k : G x X σ L (a :: a :: st) (pc + 1)) : G x X σ L (a :: st) pc := fun H locs ls hP hS hl => lv_dup h.hx h.hb hd hc (k H locs ls hP hS hl)
theorem g_dup_x1 (h : Ok l x X cc own d) {a b : Value} (hd : decode cc pc = .ok (.dup_x1, 1)) (hc : a.category = 1) (hc2 : b.category = 1) (k : G x X σ L (a :: b :: a :: st) (pc + 1)) : G x X σ L (a :: b :: st) pc := fun H locs ls hP hS hl => lv_dup_x1 h.hx h.hb hd hc hc2 (k H locs ls hP hS hl)
theorem g_dup_x2 (h : Ok l x X cc own d) {a b c : Value} (hd : decode cc pc = .ok (.dup_x2, 1)) (hc : a.category = 1) (hc2 : b.category = 1) (hc3 : c.category = 1) (k : G x X σ L (a :: b :: c :: a :: st) (pc + 1)) : G x X σ L (a :: b :: c :: st) pc := fun H locs ls hP hS hl => lv_dup_x2 h.hx h.hb hd hc hc2 hc3 (k H locs ls hP hS hl)
theorem g_dup2 (h : Ok l x X cc own d) {a b : Value} (hd : decode cc pc = .ok (.dup2, 1)) (hc : a.category = 1) (hc2 : b.category = 1) (k : G x X σ L (a :: b :: a :: b :: st) (pc + 1)) : G x X σ L (a :: b :: st) pc := fun H locs ls hP hS hl => lv_dup2_11 h.hx h.hb hd hc hc2 (k H locs ls hP hS hl)
theorem g_pop (h : Ok l x X cc own d) {a : Value} (hd : decode cc pc = .ok (.pop, 1)) (hc : a.category = 1) (k : G x X σ L (st) (pc + 1)) : G x X σ L (a :: st) pc := fun H locs ls hP hS hl => lv_pop h.hx h.hb hd hc (k H locs ls hP hS hl)
theorem g_i2f (h : Ok l x X cc own d) {a : Int32} (hd : decode cc pc = .ok (.i2f, 1)) (k : G x X σ L (.float (FP.i2f a) :: st) (pc + 1)) : G x X σ L (.int a :: st) pc := fun H locs ls hP hS hl => lv_i2f h.hx h.hb hd (k H locs ls hP hS hl)
theorem g_f2i (h : Ok l x X cc own d) {a : UInt32} (hd : decode cc pc = .ok (.f2i, 1)) (k : G x X σ L (.int (FP.f2i a) :: st) (pc + 1)) : G x X σ L (.float a :: st) pc := fun H locs ls hP hS hl => lv_f2i h.hx h.hb hd (k H locs ls hP hS hl)
theorem g_fcmp (h : Ok l x X cc own d) {a b : UInt32} {o : CmpOp} (hd : decode cc pc = .ok (.fcmp o, 1)) (k : G x X σ L (.int (Op.cmpValue (FP.fcmp a b) o) :: st) (pc + 1)) : G x X σ L (.float b :: .float a :: st) pc := fun H locs ls hP hS hl => lv_fcmp h.hx h.hb hd (k H locs ls hP hS hl)
theorem g_fmul (h : Ok l x X cc own d) {a b : UInt32} (hd : decode cc pc = .ok (.fmul, 1)) (hne : vf_n32 (FP.fmul a b)) (k : G x X σ L (.float (FP.fmul a b) :: st) (pc + 1)) : G x X σ L (.float b :: .float a :: st) pc := fun H locs ls hP hS hl => lv_fmul h.hx h.hb hd hne (k H locs ls hP hS hl)
theorem g_fdiv (h : Ok l x X cc own d) {a b : UInt32} (hd : decode cc pc = .ok (.fdiv, 1)) (hne : vf_n32 (FP.fdiv a b)) (k : G x X σ L (.float (FP.fdiv a b) :: st) (pc + 1)) : G x X σ L (.float b :: .float a :: st) pc := fun H locs ls hP hS hl => lv_fdiv h.hx h.hb hd hne (k H locs ls hP hS hl)
theorem g_fconst1 (h : Ok l x X cc own d) (hd : decode cc pc = .ok (.fconst 1, 1)) (k : G x X σ L (.float FP.fconst1 :: st) (pc + 1)) : G x X σ L (st) pc := fun H locs ls hP hS hl => lv_fconst1 h.hx h.hb hd (k H locs ls hP hS hl)
theorem g_fconst2 (h : Ok l x X cc own d) (hd : decode cc pc = .ok (.fconst 2, 1)) (k : G x X σ L (.float FP.fconst2 :: st) (pc + 1)) : G x X σ L (st) pc := fun H locs ls hP hS hl => lv_fconst2 h.hx h.hb hd (k H locs ls hP hS hl)
theorem g_iload_n (h : Ok l x X cc own d) {k4 : Fin 4} {v : Int32} (hd : decode cc pc = .ok (.iload_n k4, 1)) (hv : lk L (k4 : Nat) = some (.int v)) (k : G x X σ L (.int v :: st) (pc + 1)) : G x X σ L st pc := fun H locs ls hP hS hl => lv_iload_n h.hx h.hb hd rfl (lk_has hl hv) (k H locs ls hP hS hl)
theorem g_iload (h : Ok l x X cc own d) {i : Nat} {v : Int32} (hd : decode cc pc = .ok (.iload i, 2)) (hv : lk L i = some (.int v)) (k : G x X σ L (.int v :: st) (pc + 2)) : G x X σ L st pc := fun H locs ls hP hS hl => lv_iload h.hx h.hb hd (lk_has hl hv) (k H locs ls hP hS hl)
theorem g_istore_n (h : Ok l x X cc own d) {k4 : Fin 4} {v : Int32} (hd : decode cc pc = .ok (.istore_n k4, 1)) (hn : (k4 : Nat) < xL x) (k : G x X σ (ls1 L (k4 : Nat) (.int v)) st (pc + 1)) : G x X σ L (.int v :: st) pc := fun H locs ls hP hS hl => lv_istore_n h.hx h.hb hd rfl hl hn rfl (fun ls' hl' => k H locs ls' hP hS hl')
theorem g_istore (h : Ok l x X cc own d) {i : Nat} {v : Int32} (hd : decode cc pc = .ok (.istore i, 2)) (hn : i < xL x) (k : G x X σ (ls1 L i (.int v)) st (pc + 2)) : G x X σ L (.int v :: st) pc := fun H locs ls hP hS hl => lv_istore h.hx h.hb hd hl hn rfl (fun ls' hl' => k H locs ls' hP hS hl')
theorem g_lload_n (h : Ok l x X cc own d) {k4 : Fin 4} {v : Int64} (hd : decode cc pc = .ok (.lload_n k4, 1)) (hv : lk L (k4 : Nat) = some (.long v)) (k : G x X σ L (.long v :: st) (pc + 1)) : G x X σ L st pc := fun H locs ls hP hS hl => lv_lload_n h.hx h.hb hd rfl (lk_has hl hv) (k H locs ls hP hS hl)
theorem g_lload (h : Ok l x X cc own d) {i : Nat} {v : Int64} (hd : decode cc pc = .ok (.lload i, 2)) (hv : lk L i = some (.long v)) (k : G x X σ L (.long v :: st) (pc + 2)) : G x X σ L st pc := fun H locs ls hP hS hl => lv_lload h.hx h.hb hd (lk_has hl hv) (k H locs ls hP hS hl)
theorem g_lstore_n (h : Ok l x X cc own d) {k4 : Fin 4} {v : Int64} (hd : decode cc pc = .ok (.lstore_n k4, 1)) (hn : (k4 : Nat) + 1 < xL x) (k : G x X σ (ls2 L (k4 : Nat) (.long v)) st (pc + 1)) : G x X σ L (.long v :: st) pc := fun H locs ls hP hS hl => lv_lstore_n h.hx h.hb hd rfl hl hn rfl (fun ls' hl' => k H locs ls' hP hS hl')
theorem g_lstore (h : Ok l x X cc own d) {i : Nat} {v : Int64} (hd : decode cc pc = .ok (.lstore i, 2)) (hn : i + 1 < xL x) (k : G x X σ (ls2 L i (.long v)) st (pc + 2)) : G x X σ L (.long v :: st) pc := fun H locs ls hP hS hl => lv_lstore h.hx h.hb hd hl hn rfl (fun ls' hl' => k H locs ls' hP hS hl')
theorem g_fload_n (h : Ok l x X cc own d) {k4 : Fin 4} {v : UInt32} (hd : decode cc pc = .ok (.fload_n k4, 1)) (hv : lk L (k4 : Nat) = some (.float v)) (k : G x X σ L (.float v :: st) (pc + 1)) : G x X σ L st pc := fun H locs ls hP hS hl => lv_fload_n h.hx h.hb hd rfl (lk_has hl hv) (k H locs ls hP hS hl)
theorem g_fload (h : Ok l x X cc own d) {i : Nat} {v : UInt32} (hd : decode cc pc = .ok (.fload i, 2)) (hv : lk L i = some (.float v)) (k : G x X σ L (.float v :: st) (pc + 2)) : G x X σ L st pc := fun H locs ls hP hS hl => lv_fload h.hx h.hb hd (lk_has hl hv) (k H locs ls hP hS hl)
theorem g_fstore_n (h : Ok l x X cc own d) {k4 : Fin 4} {v : UInt32} (hd : decode cc pc = .ok (.fstore_n k4, 1)) (hn : (k4 : Nat) < xL x) (k : G x X σ (ls1 L (k4 : Nat) (.float v)) st (pc + 1)) : G x X σ L (.float v :: st) pc := fun H locs ls hP hS hl => lv_fstore_n h.hx h.hb hd rfl hl hn rfl (fun ls' hl' => k H locs ls' hP hS hl')
theorem g_fstore (h : Ok l x X cc own d) {i : Nat} {v : UInt32} (hd : decode cc pc = .ok (.fstore i, 2)) (hn : i < xL x) (k : G x X σ (ls1 L i (.float v)) st (pc + 2)) : G x X σ L (.float v :: st) pc := fun H locs ls hP hS hl => lv_fstore h.hx h.hb hd hl hn rfl (fun ls' hl' => k H locs ls' hP hS hl')
theorem g_aload_n (h : Ok l x X cc own d) {k4 : Fin 4} {v : Nat} (hd : decode cc pc = .ok (.aload_n k4, 1)) (hv : lk L (k4 : Nat) = some (.ref v)) (k : G x X σ L (.ref v :: st) (pc + 1)) : G x X σ L st pc := fun H locs ls hP hS hl => lv_aload_n h.hx h.hb hd rfl (lk_has hl hv) (k H locs ls hP hS hl)
theorem g_aload (h : Ok l x X cc own d) {i : Nat} {v : Nat} (hd : decode cc pc = .ok (.aload i, 2)) (hv : lk L i = some (.ref v)) (k : G x X σ L (.ref v :: st) (pc + 2)) : G x X σ L st pc := fun H locs ls hP hS hl => lv_aload h.hx h.hb hd (lk_has hl hv) (k H locs ls hP hS hl)
theorem g_astore_n (h : Ok l x X cc own d) {k4 : Fin 4} {v : Nat} (hd : decode cc pc = .ok (.astore_n k4, 1)) (hn : (k4 : Nat) < xL x) (k : G x X σ (ls1 L (k4 : Nat) (.ref v)) st (pc + 1)) : G x X σ L (.ref v :: st) pc := fun H locs ls hP hS hl => lv_astore_n h.hx h.hb hd rfl hl hn rfl (fun ls' hl' => k H locs ls' hP hS hl')
theorem g_astore (h : Ok l x X cc own d) {i : Nat} {v : Nat} (hd : decode cc pc = .ok (.astore i, 2)) (hn : i < xL x) (k : G x X σ (ls1 L i (.ref v)) st (pc + 2)) : G x X σ L (.ref v :: st) pc := fun H locs ls hP hS hl => lv_astore h.hx h.hb hd hl hn rfl (fun ls' hl' => k H locs ls' hP hS hl')
theorem lk_place : ∀ (L : List (Nat × Value)) (i : Nat) (v : Value), lk L i = some v → ∃ k : Nat, L[k]? = some (i, v) := fun L i v h => List.getElem?_of_mem (lk_mem L i v h)
theorem g_iinc (h : Ok l x X cc own d) {i : Nat} {n : Int} {v : Int32} (hd : decode cc pc = .ok (.iinc i n, 3)) (hv : lk L i = some (.int v)) (hn : i < xL x) (k : G x X σ (ls1 L i (.int (v + Int32.ofInt n))) st (pc + 3)) : G x X σ L st pc := fun H locs ls hP hS hl => by
  obtain ⟨q, hq⟩ := lk_place L i _ hv
  exact lv_iinc h.hx h.hb hd hl hq rfl hn rfl (fun ls' hl' => k H locs ls' hP hS hl')
theorem g_ifeq (h : Ok l x X cc own d) {a : Int32} {off : Int} (tgt : Nat) (hd : decode cc pc = .ok (.ifCond .eq off, 3)) (ht : (pc : Int) + off = (tgt : Int)) (kt : a = 0 → G x X σ L st tgt) (kf : ¬ a = 0 → G x X σ L st (pc + 3)) : G x X σ L (.int a :: st) pc := fun H locs ls hP hS hl => lv_if_eq h.hx h.hb hd ht (fun c => kt c H locs ls hP hS hl) (fun c => kf c H locs ls hP hS hl)
theorem g_ifne (h : Ok l x X cc own d) {a : Int32} {off : Int} (tgt : Nat) (hd : decode cc pc = .ok (.ifCond .ne off, 3)) (ht : (pc : Int) + off = (tgt : Int)) (kt : ¬ a = 0 → G x X σ L st tgt) (kf : a = 0 → G x X σ L st (pc + 3)) : G x X σ L (.int a :: st) pc := fun H locs ls hP hS hl => lv_if_ne h.hx h.hb hd ht (fun c => kt c H locs ls hP hS hl) (fun c => kf c H locs ls hP hS hl)
theorem g_iflt (h : Ok l x X cc own d) {a : Int32} {off : Int} (tgt : Nat) (hd : decode cc pc = .ok (.ifCond .lt off, 3)) (ht : (pc : Int) + off = (tgt : Int)) (kt : a < 0 → G x X σ L st tgt) (kf : ¬ a < 0 → G x X σ L st (pc + 3)) : G x X σ L (.int a :: st) pc := fun H locs ls hP hS hl => lv_if_lt h.hx h.hb hd ht (fun c => kt c H locs ls hP hS hl) (fun c => kf c H locs ls hP hS hl)
theorem g_ifge (h : Ok l x X cc own d) {a : Int32} {off : Int} (tgt : Nat) (hd : decode cc pc = .ok (.ifCond .ge off, 3)) (ht : (pc : Int) + off = (tgt : Int)) (kt : 0 ≤ a → G x X σ L st tgt) (kf : ¬ 0 ≤ a → G x X σ L st (pc + 3)) : G x X σ L (.int a :: st) pc := fun H locs ls hP hS hl => lv_if_ge h.hx h.hb hd ht (fun c => kt c H locs ls hP hS hl) (fun c => kf c H locs ls hP hS hl)
theorem g_ifgt (h : Ok l x X cc own d) {a : Int32} {off : Int} (tgt : Nat) (hd : decode cc pc = .ok (.ifCond .gt off, 3)) (ht : (pc : Int) + off = (tgt : Int)) (kt : 0 < a → G x X σ L st tgt) (kf : ¬ 0 < a → G x X σ L st (pc + 3)) : G x X σ L (.int a :: st) pc := fun H locs ls hP hS hl => lv_if_gt h.hx h.hb hd ht (fun c => kt c H locs ls hP hS hl) (fun c => kf c H locs ls hP hS hl)
theorem g_ifle (h : Ok l x X cc own d) {a : Int32} {off : Int} (tgt : Nat) (hd : decode cc pc = .ok (.ifCond .le off, 3)) (ht : (pc : Int) + off = (tgt : Int)) (kt : a ≤ 0 → G x X σ L st tgt) (kf : ¬ a ≤ 0 → G x X σ L st (pc + 3)) : G x X σ L (.int a :: st) pc := fun H locs ls hP hS hl => lv_if_le h.hx h.hb hd ht (fun c => kt c H locs ls hP hS hl) (fun c => kf c H locs ls hP hS hl)
theorem g_iceq (h : Ok l x X cc own d) {a b : Int32} {off : Int} (tgt : Nat) (hd : decode cc pc = .ok (.if_icmp .eq off, 3)) (ht : (pc : Int) + off = (tgt : Int)) (kt : a = b → G x X σ L st tgt) (kf : ¬ a = b → G x X σ L st (pc + 3)) : G x X σ L (.int b :: .int a :: st) pc := fun H locs ls hP hS hl => lv_icmp_eq h.hx h.hb hd ht (fun c => kt c H locs ls hP hS hl) (fun c => kf c H locs ls hP hS hl)
theorem g_icne (h : Ok l x X cc own d) {a b : Int32} {off : Int} (tgt : Nat) (hd : decode cc pc = .ok (.if_icmp .ne off, 3)) (ht : (pc : Int) + off = (tgt : Int)) (kt : ¬ a = b → G x X σ L st tgt) (kf : a = b → G x X σ L st (pc + 3)) : G x X σ L (.int b :: .int a :: st) pc := fun H locs ls hP hS hl => lv_icmp_ne h.hx h.hb hd ht (fun c => kt c H locs ls hP hS hl) (fun c => kf c H locs ls hP hS hl)
theorem g_iclt (h : Ok l x X cc own d) {a b : Int32} {off : Int} (tgt : Nat) (hd : decode cc pc = .ok (.if_icmp .lt off, 3)) (ht : (pc : Int) + off = (tgt : Int)) (kt : a < b → G x X σ L st tgt) (kf : ¬ a < b → G x X σ L st (pc + 3)) : G x X σ L (.int b :: .int a :: st) pc := fun H locs ls hP hS hl => lv_icmp_lt h.hx h.hb hd ht (fun c => kt c H locs ls hP hS hl) (fun c => kf c H locs ls hP hS hl)
theorem g_icge (h : Ok l x X cc own d) {a b : Int32} {off : Int} (tgt : Nat) (hd : decode cc pc = .ok (.if_icmp .ge off, 3)) (ht : (pc : Int) + off = (tgt : Int)) (kt : b ≤ a → G x X σ L st tgt) (kf : ¬ b ≤ a → G x X σ L st (pc + 3)) : G x X σ L (.int b :: .int a :: st) pc := fun H locs ls hP hS hl => lv_icmp_ge h.hx h.hb hd ht (fun c => kt c H locs ls hP hS hl) (fun c => kf c H locs ls hP hS hl)
theorem g_icgt (h : Ok l x X cc own d) {a b : Int32} {off : Int} (tgt : Nat) (hd : decode cc pc = .ok (.if_icmp .gt off, 3)) (ht : (pc : Int) + off = (tgt : Int)) (kt : b < a → G x X σ L st tgt) (kf : ¬ b < a → G x X σ L st (pc + 3)) : G x X σ L (.int b :: .int a :: st) pc := fun H locs ls hP hS hl => lv_icmp_gt h.hx h.hb hd ht (fun c => kt c H locs ls hP hS hl) (fun c => kf c H locs ls hP hS hl)
theorem g_icle (h : Ok l x X cc own d) {a b : Int32} {off : Int} (tgt : Nat) (hd : decode cc pc = .ok (.if_icmp .le off, 3)) (ht : (pc : Int) + off = (tgt : Int)) (kt : a ≤ b → G x X σ L st tgt) (kf : ¬ a ≤ b → G x X σ L st (pc + 3)) : G x X σ L (.int b :: .int a :: st) pc := fun H locs ls hP hS hl => lv_icmp_le h.hx h.hb hd ht (fun c => kt c H locs ls hP hS hl) (fun c => kf c H locs ls hP hS hl)
theorem g_goto (h : Ok l x X cc own d) {off : Int} (tgt : Nat) (hd : decode cc pc = .ok (.goto off, 3)) (ht : (pc : Int) + off = (tgt : Int)) (k : G x X σ L st tgt) : G x X σ L st pc := fun H locs ls hP hS hl => lv_goto h.hx h.hb hd ht (k H locs ls hP hS hl)
theorem g_tsIn (h : Ok l x X cc own d) {dflt lo hi : Int} {offs : Array Int} {len : Nat} {a : Int32} {off : Int} (tgt : Nat) (hd : decode cc pc = .ok (.tableswitch dflt lo hi offs, len)) (h1 : ¬ a.toInt < lo) (h2 : ¬ hi < a.toInt) (hoff : offs[(a.toInt - lo).toNat]? = some off) (ht : (pc : Int) + off = (tgt : Int)) (k : G x X σ L st tgt) : G x X σ L (.int a :: st) pc := fun H locs ls hP hS hl => lv_tableIn h.hx h.hb hd h1 h2 hoff ht (k H locs ls hP hS hl)
theorem g_tsOut (h : Ok l x X cc own d) {dflt lo hi : Int} {offs : Array Int} {len : Nat} {a : Int32} (tgt : Nat) (hd : decode cc pc = .ok (.tableswitch dflt lo hi offs, len)) (h1 : a.toInt < lo ∨ hi < a.toInt) (ht : (pc : Int) + dflt = (tgt : Int)) (k : G x X σ L st tgt) : G x X σ L (.int a :: st) pc := fun H locs ls hP hS hl => lv_tableOut h.hx h.hb hd h1 ht (k H locs ls hP hS hl)
theorem g_ldc (h : Ok l x X cc own d) {idx : Nat} (v : Int32) (hw : Cond.constant own idx v ∈ lw_gd) (hd : decode cc pc = .ok (.ldc idx, 2)) (k : G x X σ L (.int v :: st) (pc + 2)) : G x X σ L st pc := fun H locs ls hP hS hl => lv_ldc h.hx h.hb h.ho (h.hts _ hw) hd (k H locs ls hP hS hl)
theorem g_ldc2 (h : Ok l x X cc own d) {idx : Nat} (v : Int64) (hw : Cond.constantLong own idx v ∈ lw_gd) (hd : decode cc pc = .ok (.ldc2_w idx, 3)) (k : G x X σ L (.long v :: st) (pc + 3)) : G x X σ L st pc := fun H locs ls hP hS hl => lv_ldc2 h.hx h.hb h.ho (h.hts _ hw) hd (k H locs ls hP hS hl)
theorem g_ldcf (h : Ok l x X cc own d) {idx : Nat} (v : UInt32) (hw : Cond.constantFloat own idx v ∈ lw_gd) (hd : decode cc pc = .ok (.ldc idx, 2)) (k : G x X σ L (.float v :: st) (pc + 2)) : G x X σ L st pc := fun H locs ls hP hS hl => lv_ldcf h.hx h.hb h.ho (h.hts _ hw) hd (k H locs ls hP hS hl)
/-- ends -/
theorem g_iret (h : Ok l x X cc own d) {r a : Int32} {σ' : fM} (hr : Rt x X (some .int) (some (.int r)) σ') (hd : decode cc pc = .ok (.ireturn, 1)) (ha : a = r) (hσ : σ = σ') : G x X σ L [.int a] pc := fun H locs ls hP hS hl => by
  subst ha; subst hσ
  show W _ _ _ _ _ _ _ _ _ _ _ _ _ _ _ _
  rw [hr.2.2.2]
  rw [hr.2.2.1] at hS
  exact W.iret h.hx h.hb hr.1 (fun t ht hW => ⟨⟨rfl, by rw [ht]; exact hP⟩, hS.F ht⟩) hS.2.2 hd hr.2.1
theorem g_zret (h : Ok l x X cc own d) {r a : Int32} {ty : FieldType} {σ' : fM} (hr : Rt x X (some ty) (some (.int r)) σ') (hn : narrow ty (.int a) = .int a) (hd : decode cc pc = .ok (.ireturn, 1)) (ha : a = r) (hσ : σ = σ') : G x X σ L [.int a] pc := fun H locs ls hP hS hl => by
  subst ha; subst hσ
  show W _ _ _ _ _ _ _ _ _ _ _ _ _ _ _ _
  rw [hr.2.2.2]
  rw [hr.2.2.1] at hS
  exact W.zret h.hx h.hb hr.1 hn (fun t ht hW => ⟨⟨rfl, by rw [ht]; exact hP⟩, hS.F ht⟩) hS.2.2 hd hr.2.1
theorem g_vret (h : Ok l x X cc own d) {σ' : fM} (hr : Rt x X none none σ') (hd : decode cc pc = .ok (.return_, 1)) (hσ : σ = σ') : G x X σ L [] pc := fun H locs ls hP hS hl => by
  subst hσ
  show W _ _ _ _ _ _ _ _ _ _ _ _ _ _ _ _
  rw [hr.2.2.2]
  rw [hr.2.2.1] at hS
  exact W.vret h.hx h.hb hr.1 (fun t ht hW => ⟨⟨rfl, by rw [ht]; exact hP⟩, hS.F ht⟩) hS.2.2 hd hr.2.1
/-- an int array is read -/
theorem g_iald (h : Ok l x X cc own d) {k n : Nat} {i : Int32} (hk : k < nX X) (he : ∀ row e, enc X k row e = .inl (X.2.2.1 0, n, .inl row)) (hin : vp_in i n) (hd : decode cc pc = .ok (.iaload, 1)) (kk : G x X σ L (.int (σ.1 k i.toNatClampNeg) :: st) (pc + 1)) : G x X σ L (.int i :: ra X k :: st) pc := fun H locs ls hP hS hl =>
  va_iald h.hx h.hb h.hK hP k 0 (by rw [wl_get hk, he]) rfl hin hd (kk H locs ls hP hS hl)
theorem g_cald (h : Ok l x X cc own d) {k n : Nat} {i : Int32} (hk : k < nX X) (he : ∀ row e, enc X k row e = .inl (X.2.2.1 1, n, .inl row)) (hin : vp_in i n) (hd : decode cc pc = .ok (.caload, 1)) (kk : G x X σ L (.int (σ.1 k i.toNatClampNeg) :: st) (pc + 1)) : G x X σ L (.int i :: ra X k :: st) pc := fun H locs ls hP hS hl =>
  va_cald h.hx h.hb h.hK hP k 1 (by rw [wl_get hk, he]) rfl hin hd (kk H locs ls hP hS hl)
theorem pu_upd (σ : fM) (k j : Nat) (v : Int32) : (pu σ k j v).1 k = upd (σ.1 k) j v := by rw [pu_row]; rfl
theorem g_iast (h : Ok l x X cc own d) {k n : Nat} {i v : Int32} (hk : k < nX X) (he : ∀ row e, enc X k row e = .inl (X.2.2.1 0, n, .inl row)) (hin : vp_in i n) (hd : decode cc pc = .ok (.iastore, 1)) (kk : G x X (pu σ k i.toNatClampNeg v) L st (pc + 1)) : G x X σ L (.int v :: .int i :: ra X k :: st) pc := fun H locs ls hP hS hl =>
  va_iast h.hx h.hb h.hK hP (wl_D h.hA σ) hS k 0 (by rw [wl_get hk, he]) rfl hin hd (fun H1 locs1 hP1 hD1 hS1 => kk H1 locs1 ls (by rw [wl_set (σ' := pu σ k i.toNatClampNeg v) (by rw [he, pu_upd]) (fun k' hne => pu_ne k' hne) (fun _ _ => rfl)] at hP1; exact hP1) hS1 hl)
theorem g_cast (h : Ok l x X cc own d) {k n : Nat} {i v : Int32} (hk : k < nX X) (he : ∀ row e, enc X k row e = .inl (X.2.2.1 1, n, .inl row)) (hin : vp_in i n) (hv : vp_nar .char v = v) (hd : decode cc pc = .ok (.castore, 1)) (kk : G x X (pu σ k i.toNatClampNeg v) L st (pc + 1)) : G x X σ L (.int v :: .int i :: ra X k :: st) pc := fun H locs ls hP hS hl =>
  va_cast h.hx h.hb h.hK hP (wl_D h.hA σ) hS k 1 (by rw [wl_get hk, he]) rfl hin hd (fun H1 locs1 hP1 hD1 hS1 => kk H1 locs1 ls (by rw [hv, wl_set (σ' := pu σ k i.toNatClampNeg v) (by rw [he, pu_upd]) (fun k' hne => pu_ne k' hne) (fun _ _ => rfl)] at hP1; exact hP1) hS1 hl)
/-- an array of objects is read -/
theorem g_aald (h : Ok l x X cc own d) {k n t : Nat} {i : Int32} {C : String} {f : Nat → Nat} (hk : k < nX X) (he : ∀ row e, enc X k row e = .inl (X.2.2.1 t, n, .inr (.inr (.inr (.inr (fun j => some (X.2.1 (f j)))))))) (ht : (fty X)[t]? = some (X.2.2.1 t, .object C)) (hin : vp_in i n) (hd : decode cc pc = .ok (.aaload, 1)) (kk : G x X σ L (ra X (f i.toNatClampNeg) :: st) (pc + 1)) : G x X σ L (.int i :: ra X k :: st) pc := fun H locs ls hP hS hl =>
  va_aldq (f := fun j => some (X.2.1 (f j))) h.hx h.hb h.hK hP k t (by rw [wl_get hk, he]) ht hin hd (kk H locs ls hP hS hl)
/-- rows with a counter -/
theorem g_ialdN (h : Ok l x X cc own d) {k n j : Nat} {i : Int32} (hk : k < nX X) (he : ∀ row e, enc X k row e = .inl (X.2.2.1 0, n, .inl row)) (hi : i = nI j) (hj : j < n) (hn : n < 2 ^ 31) (hd : decode cc pc = .ok (.iaload, 1)) (kk : G x X σ L (.int (σ.1 k j) :: st) (pc + 1)) : G x X σ L (.int i :: ra X k :: st) pc := by
  subst hi
  exact g_iald h hk he (vp_in_nI hj hn) hd (by rw [nI_clamp (Nat.lt_trans hj hn)]; exact kk)
theorem g_iastN (h : Ok l x X cc own d) {k n j : Nat} {i v : Int32} (hk : k < nX X) (he : ∀ row e, enc X k row e = .inl (X.2.2.1 0, n, .inl row)) (hi : i = nI j) (hj : j < n) (hn : n < 2 ^ 31) (hd : decode cc pc = .ok (.iastore, 1)) (kk : G x X (pu σ k j v) L st (pc + 1)) : G x X σ L (.int v :: .int i :: ra X k :: st) pc := by
  subst hi
  exact g_iast h hk he (vp_in_nI hj hn) hd (by rw [nI_clamp (Nat.lt_trans hj hn)]; exact kk)
theorem g_caldN (h : Ok l x X cc own d) {k n j : Nat} {i : Int32} (hk : k < nX X) (he : ∀ row e, enc X k row e = .inl (X.2.2.1 1, n, .inl row)) (hi : i = nI j) (hj : j < n) (hn : n < 2 ^ 31) (hd : decode cc pc = .ok (.caload, 1)) (kk : G x X σ L (.int (σ.1 k j) :: st) (pc + 1)) : G x X σ L (.int i :: ra X k :: st) pc := by
  subst hi
  exact g_cald h hk he (vp_in_nI hj hn) hd (by rw [nI_clamp (Nat.lt_trans hj hn)]; exact kk)
theorem g_castN (h : Ok l x X cc own d) {k n j : Nat} {i v : Int32} (hk : k < nX X) (he : ∀ row e, enc X k row e = .inl (X.2.2.1 1, n, .inl row)) (hi : i = nI j) (hj : j < n) (hn : n < 2 ^ 31) (hv : vp_nar .char v = v) (hd : decode cc pc = .ok (.castore, 1)) (kk : G x X (pu σ k j v) L st (pc + 1)) : G x X σ L (.int v :: .int i :: ra X k :: st) pc := by
  subst hi
  exact g_cast h hk he (vp_in_nI hj hn) hv hd (by rw [nI_clamp (Nat.lt_trans hj hn)]; exact kk)
theorem g_aaldN (h : Ok l x X cc own d) {k n t j : Nat} {i : Int32} {C : String} {f : Nat → Nat} (hk : k < nX X) (he : ∀ row e, enc X k row e = .inl (X.2.2.1 t, n, .inr (.inr (.inr (.inr (fun j => some (X.2.1 (f j)))))))) (ht : (fty X)[t]? = some (X.2.2.1 t, .object C)) (hi : i = nI j) (hj : j < n) (hn : n < 2 ^ 31) (hd : decode cc pc = .ok (.aaload, 1)) (kk : G x X σ L (ra X (f j) :: st) (pc + 1)) : G x X σ L (.int i :: ra X k :: st) pc := by
  subst hi
  exact g_aald h hk he ht (vp_in_nI hj hn) hd (by rw [nI_clamp (Nat.lt_trans hj hn)]; exact kk)
theorem g_aaldO (h : Ok l x X cc own d) {s j : Nat} {i : Int32} (hs : s < 6) (hi : i = nI j) (hj : j < 6) (hd : decode cc pc = .ok (.aaload, 1)) (kk : G x X σ L (ra X (iO s j) :: st) (pc + 1)) : G x X σ L (.int i :: ra X (iOs s) :: st) pc := g_aaldN (f := iO s) h (iOs_lt hs) (enc_Os X hs) rfl hi hj (by decide) hd kk
theorem g_aaldL (h : Ok l x X cc own d) {s j : Nat} {i : Int32} (hs : s < 6) (hi : i = nI j) (hj : j < 8) (hd : decode cc pc = .ok (.aaload, 1)) (kk : G x X σ L (ra X (iL s j) :: st) (pc + 1)) : G x X σ L (.int i :: ra X (iLs s) :: st) pc := g_aaldN (f := iL s) h (iLs_lt hs) (enc_Ls X hs) rfl hi hj (by decide) hd kk
theorem g_ialdT (h : Ok l x X cc own d) {s i : Nat} {j : Int32} (hs : s < 6) (hi : i < 6) (hj : vp_in j 32) (hd : decode cc pc = .ok (.iaload, 1)) (kk : G x X σ L (.int (σ.1 (iT s i) j.toNatClampNeg) :: st) (pc + 1)) : G x X σ L (.int j :: ra X (iT s i) :: st) pc := g_iald h (iT_lt hs hi) (enc_T X hs hi) hj hd kk
theorem g_iastT (h : Ok l x X cc own d) {s i : Nat} {j v : Int32} (hs : s < 6) (hi : i < 6) (hj : vp_in j 32) (hd : decode cc pc = .ok (.iastore, 1)) (kk : G x X (pu σ (iT s i) j.toNatClampNeg v) L st (pc + 1)) : G x X σ L (.int v :: .int j :: ra X (iT s i) :: st) pc := g_iast h (iT_lt hs hi) (enc_T X hs hi) hj hd kk
theorem g_ialdSet (h : Ok l x X cc own d) {s j : Nat} {i : Int32} (hs : s < 6) (hi : i = nI j) (hj : j < 3) (hd : decode cc pc = .ok (.iaload, 1)) (kk : G x X σ L (.int (σ.1 (iSet s) j) :: st) (pc + 1)) : G x X σ L (.int i :: ra X (iSet s) :: st) pc := g_ialdN h (iSet_lt hs) (enc_Set X hs) hi hj (by decide) hd kk
theorem g_iincN (h : Ok l x X cc own d) {i j : Nat} (hd : decode cc pc = .ok (.iinc i 1, 3)) (hv : lk L i = some (.int (nI j))) (hn : i < xL x) (k : G x X σ (ls1 L i (.int (nI (j + 1)))) st (pc + 3)) : G x X σ L st pc := g_iinc h hd hv hn (by rw [show nI j + Int32.ofInt 1 = nI (j + 1) from nI_1 j]; exact k)
/-- a mark of the stack's top: its value may be told in other words -/
theorem g_top {a : Int32} (b : Int32) (e : a = b) (k : G x X σ L (.int b :: st) pc) : G x X σ L (.int a :: st) pc := e ▸ k
end RULES
def bi (b : Bool) : Int32 := if b = true then 1 else 0
theorem bi_0 (b : Bool) : bi b = 0 ↔ b = false := by cases b <;> decide
theorem bi_1 (b : Bool) : bi b = 1 ↔ b = true := by cases b <;> decide
theorem bi_n (b : Bool) : narrow .boolean (.int (bi b)) = .int (bi b) := by cases b <;> decide

