/-! State: bets and loans -/
/-- all but purses and what is owed stays -/
def frm2 (s : Nat) (σ τ : fM) : Prop := τ.2 = σ.2 ∧ ∀ k j, (j = 2 → (∀ i, i < 6 → k ≠ iO s i) ∧ ∀ i, i < 8 → k ≠ iL s i) → τ.1 k j = σ.1 k j
theorem frm2.rf (s : Nat) (σ : fM) : frm2 s σ σ := ⟨rfl, fun _ _ _ => rfl⟩
theorem frm2.tr {s : Nat} {σ τ υ : fM} (h1 : frm2 s σ τ) (h2 : frm2 s τ υ) : frm2 s σ υ := ⟨h2.1.trans h1.1, fun k j h => (h2.2 k j h).trans (h1.2 k j h)⟩
theorem frm2.O {s i : Nat} (hi : i < 6) (σ : fM) (v : Int32) : frm2 s σ (pu σ (iO s i) 2 v) := ⟨rfl, fun k j h => by
  simp only [pu]
  rw [if_neg]
  rintro ⟨h1, h2⟩
  exact (h h2).1 i hi h1⟩
theorem frm2.L {s i : Nat} (hi : i < 8) (σ : fM) (v : Int32) : frm2 s σ (pu σ (iL s i) 2 v) := ⟨rfl, fun k j h => by
  simp only [pu]
  rw [if_neg]
  rintro ⟨h1, h2⟩
  exact (h h2).2 i hi h1⟩
theorem frm2.S {s : Nat} {σ τ : fM} (h : frm2 s σ τ) (s' j : Nat) : τ.1 (iS s') j = σ.1 (iS s') j := h.2 _ _ (fun _ => ⟨fun i hi => (iO_S s i s' hi).symm, fun l hl => (iL_S s l s' hl).symm⟩)
theorem frm2.Set {s : Nat} {σ τ : fM} (h : frm2 s σ τ) (s' j : Nat) : τ.1 (iSet s') j = σ.1 (iSet s') j := h.2 _ _ (fun _ => ⟨fun i hi => (iO_Set s i s' hi).symm, fun l hl => (iL_Set s l s' hl).symm⟩)
theorem frm2.n2 {s : Nat} {σ τ : fM} (h : frm2 s σ τ) (k j : Nat) (hj : j ≠ 2) : τ.1 k j = σ.1 k j := h.2 _ _ (fun e => absurd e hj)
theorem frm2.cnt {s n m : Nat} {σ τ : fM} (h : frm2 s σ τ) (hc : cnt σ s n m) : cnt τ s n m := ⟨by rw [h.S]; exact hc.1, by rw [h.S]; exact hc.2.1, hc.2.2⟩
/-- the creditors of all loans are oracles -/
def crd (σ : fM) (s m : Nat) : Prop := ∀ l, l < m → ∃ c : Nat, c < 6 ∧ σ.1 (iL s l) 0 = nI c
theorem frm2.crd {s m : Nat} {σ τ : fM} (h : frm2 s σ τ) (hc : crd σ s m) : crd τ s m := fun l hl => by rw [h.n2 _ _ (by decide)]; exact hc l hl
def payStep (s e l : Nat) (z : fM × Int32) : fM × Int32 :=
  if z.2 ≤ 0 then z else if ¬ z.1.1 (iL s l) 1 = nI e then z else
    let c := if z.1.1 (iL s l) 2 < z.2 then z.1.1 (iL s l) 2 else z.2
    let τ1 := pu z.1 (iL s l) 2 (z.1.1 (iL s l) 2 - c)
    let τ2 := pu τ1 (iO s e) 2 (τ1.1 (iO s e) 2 - c)
    let k := (z.1.1 (iL s l) 0).toNatClampNeg
    (pu τ2 (iO s k) 2 (τ2.1 (iO s k) 2 + c), z.2 - c)
def payF (s e : Nat) (z : fM × Int32) : Nat → fM × Int32
  | 0 => z
  | l + 1 => payStep s e l (payF s e z l)
theorem payStep_frm {s e l : Nat} (he : e < 6) (hl : l < 8) {z : fM × Int32} (hc : ∃ c : Nat, c < 6 ∧ z.1.1 (iL s l) 0 = nI c) : frm2 s z.1 (payStep s e l z).1 := by
  unfold payStep
  split
  · exact frm2.rf _ _
  · split
    · exact frm2.rf _ _
    · obtain ⟨c, hc6, hce⟩ := hc
      have hk : (z.1.1 (iL s l) 0).toNatClampNeg = c := by rw [hce]; exact nI_clamp (by omega)
      dsimp only
      rw [hk]
      exact ((frm2.L hl _ _).tr (frm2.O he _ _)).tr (frm2.O hc6 _ _)
theorem payF_frm {s e m : Nat} (he : e < 6) (hm : m ≤ 8) {z : fM × Int32} (hc : crd z.1 s m) : ∀ l, l ≤ m → frm2 s z.1 (payF s e z l).1
  | 0, _ => frm2.rf _ _
  | l + 1, h => by
    have ih := payF_frm he hm hc l (by omega)
    exact ih.tr (payStep_frm he (by omega) (ih.crd hc l (by omega)))
theorem payF_stop {s e : Nat} {z : fM × Int32} {l : Nat} (h : (payF s e z l).2 ≤ 0) : ∀ m, l ≤ m → payF s e z m = payF s e z l
  | 0, hm => by have : l = 0 := by omega
                rw [this]
  | m + 1, hm => by
    by_cases hl : l = m + 1
    · rw [hl]
    · have ih := payF_stop h m (by omega)
      show payStep s e m (payF s e z m) = _
      rw [ih, payStep, if_pos h]
def payM (σ : fM) (s m e : Nat) (got : Int32) : fM := (payF s e (σ, got * σ.1 (iSet s) 2 / 100) m).1
theorem payM_frm {s e m : Nat} (he : e < 6) (hm : m ≤ 8) {σ : fM} (hc : crd σ s m) (got : Int32) : frm2 s σ (payM σ s m e got) := payF_frm (z := (σ, _)) he hm hc m (Nat.le_refl m)

set_option maxRecDepth 100000 in
set_option maxHeartbeats 4000000 in
theorem ct_X3_payCreditors {l : Launch} {X : fX} {σ : fM} {s n m : Nat} (hs : s < 6) (hc : cnt σ s n m) {e : Nat} (he : e < 6) (hcr : crd σ s m) {g : Int32} : Ct l X yX3_payCreditors cX3_payCreditors 7 none 1 [ra X (iS s), .int (nI e), .int g] σ none (payM σ s m e g) := by
  refine Ct.of RX3 rfl (by decide) (Nat.le_of_ble_eq_true rfl) ?_
  intro x hL h hr
  refine g_sub [(0, ra X (iS s)), (1, .int (nI e)), (2, .int g)] ⟨rfl, rfl, rfl, trivial⟩ ?_
  obtain ⟨hn, hm, hn6, hm8⟩ := id hc
  have LOOP : ∀ (q i : Nat), i + q = m → G x X (payF s e (σ, g * σ.1 (iSet s) 2 / 100) i).1 [(0, ra X (iS s)), (1, .int (nI e)), (3, .int (payF s e (σ, g * σ.1 (iSet s) 2 / 100) i).2), (4, .int (nI i))] [] 15 := by
    intro q
    induction q with
    | zero =>
      intro i hi 
      have hie : i = m := by omega
      rw [hie]
      have hm : (payF s e (σ, g * σ.1 (iSet s) 2 / 100) m).1.1 (iS s) 4 = nI m := by rw [(payF_frm (z := (σ, g * σ.1 (iSet s) 2 / 100)) he hm8 hcr m (Nat.le_refl m)).S]; exact hm
      refine g_iload h dX3_payCreditors_15 rfl ?_
      refine g_aload_n h dX3_payCreditors_17 rfl ?_
      refine gf3_40 h (by omega) dX3_payCreditors_18 ?_
      refine g_icge h 116 dX3_payCreditors_21 (by decide) (fun c21 => ?_) (fun c21 => absurd (by rw [hm]; exact Int32.le_refl _) c21)
      exact g_vret h hr dX3_payCreditors_116 rfl
    | succ q ih =>
      intro i hi 
      have hlt : i < m := by omega
      have hf : frm2 s σ (payF s e (σ, g * σ.1 (iSet s) 2 / 100) i).1 := payF_frm (z := (σ, g * σ.1 (iSet s) 2 / 100)) he hm8 hcr i (by omega)
      obtain ⟨cr, hcr6, hcre⟩ := hf.crd hcr i hlt
      have hm : (payF s e (σ, g * σ.1 (iSet s) 2 / 100) i).1.1 (iS s) 4 = nI m := by rw [hf.S]; exact hm
      generalize hz : payF s e (σ, g * σ.1 (iSet s) 2 / 100) i = z at hf hm hcre ⊢
      have hk : (z.1.1 (iL s i) 0).toNatClampNeg = cr := by rw [hcre]; exact nI_clamp (by omega)
      refine g_iload h dX3_payCreditors_15 rfl ?_
      refine g_aload_n h dX3_payCreditors_17 rfl ?_
      refine gf3_40 h (by omega) dX3_payCreditors_18 ?_
      refine g_icge h 116 dX3_payCreditors_21 (by decide) (fun c21 => absurd c21 (by rw [hm]; exact nI_ge hlt (by omega))) (fun c21 => ?_)
      refine g_iload_n h dX3_payCreditors_24 rfl ?_
      refine g_ifle h 116 dX3_payCreditors_25 (by decide) (fun c25 => ?_) (fun c25 => ?_)
      · refine g_mem (payF s e (σ, g * σ.1 (iSet s) 2 / 100) m).1 (by rw [payF_stop (by rw [hz]; exact c25) m (by omega), hz]) ?_
        exact g_vret h hr dX3_payCreditors_116 rfl
      · refine g_aload_n h dX3_payCreditors_28 rfl ?_
        refine gf3_20 h (by omega) dX3_payCreditors_29 ?_
        refine g_iload h dX3_payCreditors_32 rfl ?_
        refine g_aaldL h (by omega) rfl (by omega) dX3_payCreditors_34 ?_
        refine g_astore h dX3_payCreditors_35 (by rw [hL]; decide) ?_
        refine g_aload h dX3_payCreditors_37 rfl ?_
        refine gf3_91 h (by omega) (by omega) dX3_payCreditors_39 ?_
        refine g_iload_n h dX3_payCreditors_42 rfl ?_
        refine g_icne h 110 dX3_payCreditors_43 (by decide) (fun c43 => ?_) (fun c43 => ?_)
        · refine g_iincN h dX3_payCreditors_110 rfl (by rw [hL]; decide) ?_
          refine g_goto h 15 dX3_payCreditors_113 (by decide) ?_
          refine g_mem (payF s e (σ, g * σ.1 (iSet s) 2 / 100) (i + 1)).1 (by show _ = (payStep s e i (payF s e (σ, g * σ.1 (iSet s) 2 / 100) i)).1; rw [hz]; simp [payStep, hk, c21, c25, c43]) ?_
          refine g_sub [(0, ra X (iS s)), (1, .int (nI e)), (3, .int (payF s e (σ, g * σ.1 (iSet s) 2 / 100) (i + 1)).2), (4, .int (nI (i + 1)))] ⟨rfl, rfl, (congrArg (fun z => some (Value.int z)) (by show _ = (payStep s e i (payF s e (σ, g * σ.1 (iSet s) 2 / 100) i)).2; rw [hz]; simp [payStep, hk, c21, c25, c43])), rfl, trivial⟩ ?_
          exact ih (i + 1) (by omega)
        · refine g_iload_n h dX3_payCreditors_46 rfl ?_
          refine g_aload h dX3_payCreditors_47 rfl ?_
          refine gf3_94 h (by omega) (by omega) dX3_payCreditors_49 ?_
          refine g_min3_141 h dX3_payCreditors_52 (by decide) (Nat.le_of_ble_eq_true rfl) ?_
          refine g_istore h dX3_payCreditors_55 (by rw [hL]; decide) ?_
          refine g_iload_n h dX3_payCreditors_57 rfl ?_
          refine g_iload h dX3_payCreditors_58 rfl ?_
          refine g_isub h dX3_payCreditors_60 ?_
          refine g_istore_n h dX3_payCreditors_61 (by rw [hL]; decide) ?_
          refine g_aload h dX3_payCreditors_62 rfl ?_
          refine g_dup h dX3_payCreditors_64 rfl ?_
          refine gf3_94 h (by omega) (by omega) dX3_payCreditors_65 ?_
          refine g_iload h dX3_payCreditors_68 rfl ?_
          refine g_isub h dX3_payCreditors_70 ?_
          refine gp3_94 h (by omega) (by omega) dX3_payCreditors_71 ?_
          refine g_aload_n h dX3_payCreditors_74 rfl ?_
          refine gf3_11 h (by omega) dX3_payCreditors_75 ?_
          refine g_iload_n h dX3_payCreditors_78 rfl ?_
          refine g_aaldO h (by omega) rfl he dX3_payCreditors_79 ?_
          refine g_dup h dX3_payCreditors_80 rfl ?_
          refine gf3_85 h (by omega) (by omega) dX3_payCreditors_81 ?_
          refine g_iload h dX3_payCreditors_84 rfl ?_
          refine g_isub h dX3_payCreditors_86 ?_
          refine gp3_85 h (by omega) (by omega) dX3_payCreditors_87 ?_
          refine g_aload_n h dX3_payCreditors_90 rfl ?_
          refine gf3_11 h (by omega) dX3_payCreditors_91 ?_
          refine g_aload h dX3_payCreditors_94 rfl ?_
          refine gf3_88 h (by omega) (by omega) dX3_payCreditors_96 ?_
          refine g_aaldO h (by omega) (by rw [pu_ne _ (iL_O s i s e (by omega) he), pu_puR, puR_self, upd_n _ _ _ _ (by decide)]; exact hcre) hcr6 dX3_payCreditors_99 ?_
          refine g_dup h dX3_payCreditors_100 rfl ?_
          refine gf3_85 h (by omega) (by omega) dX3_payCreditors_101 ?_
          refine g_iload h dX3_payCreditors_104 rfl ?_
          refine g_iadd h dX3_payCreditors_106 ?_
          refine gp3_85 h (by omega) (by omega) dX3_payCreditors_107 ?_
          refine g_iincN h dX3_payCreditors_110 rfl (by rw [hL]; decide) ?_
          refine g_goto h 15 dX3_payCreditors_113 (by decide) ?_
          refine g_mem (payF s e (σ, g * σ.1 (iSet s) 2 / 100) (i + 1)).1 (by show _ = (payStep s e i (payF s e (σ, g * σ.1 (iSet s) 2 / 100) i)).1; rw [hz]; simp [payStep, hk, c21, c25, c43]) ?_
          refine g_sub [(0, ra X (iS s)), (1, .int (nI e)), (3, .int (payF s e (σ, g * σ.1 (iSet s) 2 / 100) (i + 1)).2), (4, .int (nI (i + 1)))] ⟨rfl, rfl, (congrArg (fun z => some (Value.int z)) (by show _ = (payStep s e i (payF s e (σ, g * σ.1 (iSet s) 2 / 100) i)).2; rw [hz]; simp [payStep, hk, c21, c25, c43])), rfl, trivial⟩ ?_
          exact ih (i + 1) (by omega)
  refine g_iload_n h dX3_payCreditors_0 rfl ?_
  refine g_aload_n h dX3_payCreditors_1 rfl ?_
  refine gf3_25 h (by omega) dX3_payCreditors_2 ?_
  refine g_iconst (v := 2) h dX3_payCreditors_5 (by decide) ?_
  refine g_ialdSet h (by omega) (show (2 : Int32) = nI 2 by decide) (by decide) dX3_payCreditors_6 ?_
  refine g_imul h dX3_payCreditors_7 ?_
  refine g_bipush (v := 100) h dX3_payCreditors_8 (by decide) ?_
  refine g_idiv h dX3_payCreditors_10 (by decide) ?_
  refine g_istore_n h dX3_payCreditors_11 (by rw [hL]; decide) ?_
  refine g_iconst (v := 0) h dX3_payCreditors_12 (by decide) ?_
  refine g_istore h dX3_payCreditors_13 (by rw [hL]; decide) ?_
  refine g_sub [(0, ra X (iS s)), (1, .int (nI e)), (3, .int (payF s e (σ, g * σ.1 (iSet s) 2 / 100) 0).2), (4, .int (nI 0))] ⟨rfl, rfl, rfl, lk_0, trivial⟩ ?_
  exact LOOP m 0 (by omega)

def dropStep (s l : Nat) (z : fM × Nat) : fM × Nat := if z.1.1 (iL s l) 2 ≤ 0 then z else (puR z.1 (iL s z.2) (lCopy (z.1.1 (iL s l)) (z.1.1 (iL s z.2))), z.2 + 1)
def dropF (s : Nat) (z : fM × Nat) : Nat → fM × Nat
  | 0 => z
  | l + 1 => dropStep s l (dropF s z l)
def dropM (σ : fM) (s m : Nat) : fM := pu (dropF s (σ, 0) m).1 (iS s) 4 (nI (dropF s (σ, 0) m).2)
theorem dropF_le (s : Nat) (σ : fM) : ∀ l, (dropF s (σ, 0) l).2 ≤ l
  | 0 => Nat.le_refl 0
  | l + 1 => by
    have ih := dropF_le s σ l
    show (dropStep s l (dropF s (σ, 0) l)).2 ≤ l + 1
    unfold dropStep
    split
    · omega
    · show _ + 1 ≤ _; omega
theorem dropF_ne {s : Nat} {σ : fM} {k : Nat} (hk : ∀ i, i < 8 → k ≠ iL s i) : ∀ l, l ≤ 8 → (dropF s (σ, 0) l).1.1 k = σ.1 k
  | 0, _ => rfl
  | l + 1, h => by
    have ih := dropF_ne (σ := σ) hk l (by omega)
    have hle := dropF_le s σ l
    show (dropStep s l (dropF s (σ, 0) l)).1.1 k = _
    unfold dropStep
    split
    · exact ih
    · rw [← ih]; exact puR_ne _ (hk _ (by omega))
theorem dropF_S {s : Nat} {σ : fM} (s' : Nat) {l : Nat} (h : l ≤ 8) : (dropF s (σ, 0) l).1.1 (iS s') = σ.1 (iS s') := dropF_ne (fun i hi => (iL_S s i s' hi).symm) l h
theorem lCopy_self (f : Nat → Int32) : lCopy f f = f := by
  funext j
  unfold lCopy upd
  by_cases h2 : j = 2
  · subst h2; rfl
  · by_cases h1 : j = 1
    · subst h1; rfl
    · by_cases h0 : j = 0
      · subst h0; rfl
      · simp [h0, h1, h2]

set_option maxRecDepth 100000 in
set_option maxHeartbeats 4000000 in
theorem ct_X0_copySelf {l : Launch} {X : fX} {σ : fM} {s i : Nat} (hs : s < 6) (hi : i < 8) : Ct l X yX0_copyFrom cX0_copyFrom 2 none 0 [ra X (iL s i), ra X (iL s i)] σ none σ := by
  refine Ct.of RX0 rfl (by decide) (Nat.le_of_ble_eq_true rfl) ?_
  intro x hL h hr
  refine g_sub [(0, ra X (iL s i)), (1, ra X (iL s i))] ⟨rfl, rfl, trivial⟩ ?_
  refine g_aload_n h dX0_copyFrom_0 rfl ?_
  refine g_aload_n h dX0_copyFrom_1 rfl ?_
  refine gf0_7 h (by omega) (by omega) dX0_copyFrom_2 ?_
  refine gp0_7 h (by omega) (by omega) dX0_copyFrom_5 ?_
  refine g_aload_n h dX0_copyFrom_8 rfl ?_
  refine g_aload_n h dX0_copyFrom_9 rfl ?_
  refine gf0_13 h (by omega) (by omega) dX0_copyFrom_10 ?_
  refine gp0_13 h (by omega) (by omega) dX0_copyFrom_13 ?_
  refine g_aload_n h dX0_copyFrom_16 rfl ?_
  refine g_aload_n h dX0_copyFrom_17 rfl ?_
  refine gf0_16 h (by omega) (by omega) dX0_copyFrom_18 ?_
  refine gp0_16 h (by omega) (by omega) dX0_copyFrom_21 ?_
  exact g_vret h hr dX0_copyFrom_24 (by simp +decide only [pu_puR, puR_puR, puR_self, upd_n, upd_s]; exact (congrArg (puR σ _) (lCopy_self (σ.1 (iL s i)))).trans (puR_id σ _))


theorem ct_X0_copyAny {l : Launch} {X : fX} {σ : fM} {s i i2 : Nat} (hs : s < 6) (hi : i < 8) (hi2 : i2 < 8) : Ct l X yX0_copyFrom cX0_copyFrom 2 (none) 0 [ra X (iL s i), ra X (iL s i2)] σ none (puR σ (iL s i) (lCopy (σ.1 (iL s i2)) (σ.1 (iL s i)))) := by
  by_cases h : i2 = i
  · subst h
    rw [lCopy_self, puR_id]
    exact ct_X0_copySelf hs hi
  · exact ct_X0_copyFrom hs hi hs hi2 (fun e => h (iL_inj s _ _ e))

set_option maxRecDepth 100000 in
set_option maxHeartbeats 4000000 in
theorem ct_X3_dropLoansPaidBack {l : Launch} {X : fX} {σ : fM} {s n m : Nat} (hs : s < 6) (hc : cnt σ s n m) : Ct l X yX3_dropLoansPaidBack cX3_dropLoansPaidBack 3 none 1 [ra X (iS s)] σ none (dropM σ s m) := by
  refine Ct.of RX3 rfl (by decide) (Nat.le_of_ble_eq_true rfl) ?_
  intro x hL h hr
  refine g_sub [(0, ra X (iS s))] ⟨rfl, trivial⟩ ?_
  obtain ⟨hn, hm, hn6, hm8⟩ := id hc
  have LOOP : ∀ (q i : Nat), i + q = m → G x X (dropF s (σ, 0) i).1 [(0, ra X (iS s)), (1, .int (nI (dropF s (σ, 0) i).2)), (2, .int (nI i))] [] 4 := by
    intro q
    induction q with
    | zero =>
      intro i hi 
      have hie : i = m := by omega
      rw [hie]
      have hm : (dropF s (σ, 0) m).1.1 (iS s) 4 = nI m := by rw [dropF_S s (by omega)]; exact hm
      refine g_iload_n h dX3_dropLoansPaidBack_4 rfl ?_
      refine g_aload_n h dX3_dropLoansPaidBack_5 rfl ?_
      refine gf3_40 h (by omega) dX3_dropLoansPaidBack_6 ?_
      refine g_icge h 48 dX3_dropLoansPaidBack_9 (by decide) (fun c9 => ?_) (fun c9 => absurd (by rw [hm]; exact Int32.le_refl _) c9)
      refine g_aload_n h dX3_dropLoansPaidBack_48 rfl ?_
      refine g_iload_n h dX3_dropLoansPaidBack_49 rfl ?_
      refine gp3_40 h (by omega) dX3_dropLoansPaidBack_50 ?_
      exact g_vret h hr dX3_dropLoansPaidBack_53 rfl
    | succ q ih =>
      intro i hi 
      have hlt : i < m := by omega
      have hle := dropF_le s σ i
      have hm : (dropF s (σ, 0) i).1.1 (iS s) 4 = nI m := by rw [dropF_S s (by omega)]; exact hm
      generalize hz : dropF s (σ, 0) i = z at hle hm ⊢
      refine g_iload_n h dX3_dropLoansPaidBack_4 rfl ?_
      refine g_aload_n h dX3_dropLoansPaidBack_5 rfl ?_
      refine gf3_40 h (by omega) dX3_dropLoansPaidBack_6 ?_
      refine g_icge h 48 dX3_dropLoansPaidBack_9 (by decide) (fun c9 => absurd c9 (by rw [hm]; exact nI_ge hlt (by omega))) (fun c9 => ?_)
      refine g_aload_n h dX3_dropLoansPaidBack_12 rfl ?_
      refine gf3_20 h (by omega) dX3_dropLoansPaidBack_13 ?_
      refine g_iload_n h dX3_dropLoansPaidBack_16 rfl ?_
      refine g_aaldL h (by omega) rfl (by omega) dX3_dropLoansPaidBack_17 ?_
      refine gf3_94 h (by omega) (by omega) dX3_dropLoansPaidBack_18 ?_
      refine g_ifle h 42 dX3_dropLoansPaidBack_21 (by decide) (fun c21 => ?_) (fun c21 => ?_)
      · refine g_iincN h dX3_dropLoansPaidBack_42 rfl (by rw [hL]; decide) ?_
        refine g_goto h 4 dX3_dropLoansPaidBack_45 (by decide) ?_
        refine g_mem (dropF s (σ, 0) (i + 1)).1 (by show _ = (dropStep s i (dropF s (σ, 0) i)).1; rw [hz]; simp [dropStep, c9, c21]) ?_
        refine g_sub [(0, ra X (iS s)), (1, .int (nI (dropF s (σ, 0) (i + 1)).2)), (2, .int (nI (i + 1)))] ⟨rfl, (congrArg (fun z => some (Value.int z)) (by show _ = nI (dropStep s i (dropF s (σ, 0) i)).2; rw [hz]; simp [dropStep, c9, c21, nI_succ])), rfl, trivial⟩ ?_
        exact ih (i + 1) (by omega)
      · refine g_aload_n h dX3_dropLoansPaidBack_24 rfl ?_
        refine gf3_20 h (by omega) dX3_dropLoansPaidBack_25 ?_
        refine g_iload_n h dX3_dropLoansPaidBack_28 rfl ?_
        refine g_aaldL h (by omega) rfl (by omega) dX3_dropLoansPaidBack_29 ?_
        refine g_aload_n h dX3_dropLoansPaidBack_30 rfl ?_
        refine gf3_20 h (by omega) dX3_dropLoansPaidBack_31 ?_
        refine g_iload_n h dX3_dropLoansPaidBack_34 rfl ?_
        refine g_aaldL h (by omega) rfl (by omega) dX3_dropLoansPaidBack_35 ?_
        refine cl3_43 h (by omega) (by omega) (ct_X0_copyAny hs (by omega) (by omega)) rfl dX3_dropLoansPaidBack_36 rfl (Nat.le_of_ble_eq_true rfl) (by decide) ?_
        refine g_iincN h dX3_dropLoansPaidBack_39 rfl (by rw [hL]; decide) ?_
        refine g_iincN h dX3_dropLoansPaidBack_42 rfl (by rw [hL]; decide) ?_
        refine g_goto h 4 dX3_dropLoansPaidBack_45 (by decide) ?_
        refine g_mem (dropF s (σ, 0) (i + 1)).1 (by show _ = (dropStep s i (dropF s (σ, 0) i)).1; rw [hz]; simp [dropStep, c9, c21]) ?_
        refine g_sub [(0, ra X (iS s)), (1, .int (nI (dropF s (σ, 0) (i + 1)).2)), (2, .int (nI (i + 1)))] ⟨rfl, (congrArg (fun z => some (Value.int z)) (by show _ = nI (dropStep s i (dropF s (σ, 0) i)).2; rw [hz]; simp [dropStep, c9, c21, nI_succ])), rfl, trivial⟩ ?_
        exact ih (i + 1) (by omega)
  refine g_iconst (v := 0) h dX3_dropLoansPaidBack_0 (by decide) ?_
  refine g_istore_n h dX3_dropLoansPaidBack_1 (by rw [hL]; decide) ?_
  refine g_iconst (v := 0) h dX3_dropLoansPaidBack_2 (by decide) ?_
  refine g_istore_n h dX3_dropLoansPaidBack_3 (by rw [hL]; decide) ?_
  refine g_sub [(0, ra X (iS s)), (1, .int (nI (dropF s (σ, 0) 0).2)), (2, .int (nI 0))] ⟨rfl, lk_0, lk_0, trivial⟩ ?_
  exact LOOP m 0 (by omega)

def stk (σ : fM) (s n : Nat) (b : Int32) : Int32 := sumF 0 (fun i => if σ.1 (iO s i) 9 = b then σ.1 (iO s i) 10 else 0) n
def setlStep (s m : Nat) (k left right : Int32) (i : Nat) (z : fM × Int32) : fM × Int32 :=
  if ¬ z.1.1 (iO s i) 9 = k then (pu z.1 (iO s i) 2 (z.1.1 (iO s i) 2 - z.1.1 (iO s i) 10), z.2)
  else (payM (pu z.1 (iO s i) 2 (z.1.1 (iO s i) 2 + left * z.1.1 (iO s i) 10 / right)) s m i (left * z.1.1 (iO s i) 10 / right), z.2 + left * z.1.1 (iO s i) 10 / right)
def setlF (s m : Nat) (k left right : Int32) (z : fM × Int32) : Nat → fM × Int32
  | 0 => z
  | i + 1 => setlStep s m k left right i (setlF s m k left right z i)
theorem setlStep_frm {s m i : Nat} {k left right : Int32} (hi : i < 6) (hm : m ≤ 8) {z : fM × Int32} (hc : crd z.1 s m) : frm2 s z.1 (setlStep s m k left right i z).1 := by
  unfold setlStep
  split
  · exact frm2.O hi _ _
  · exact (frm2.O hi _ _).tr (payM_frm hi hm ((frm2.O hi _ _).crd hc) _)
theorem setlF_frm {s m n : Nat} {k left right : Int32} (hn : n ≤ 6) (hm : m ≤ 8) {z : fM × Int32} (hc : crd z.1 s m) : ∀ i, i ≤ n → frm2 s z.1 (setlF s m k left right z i).1
  | 0, _ => frm2.rf _ _
  | i + 1, h => by
    have ih := setlF_frm (k := k) (left := left) (right := right) hn hm hc i (by omega)
    exact ih.tr (setlStep_frm (by omega) hm (ih.crd hc))
def setlLeft (σ : fM) (s n : Nat) (k : Int32) : Int32 := stk σ s n (1 - k) - stk σ s n (1 - k) * σ.1 (iSet s) 1 / 100
def setlZ (σ : fM) (s n m : Nat) (k : Int32) : fM × Int32 := setlF s m k (setlLeft σ s n k) (stk σ s n k) (pu σ (iS s) 8 (σ.1 (iS s) 8 + 1), 0) n
def setlV (σ : fM) (s n : Nat) (k : Int32) : Int32 := if stk σ s n (1 - k) ≤ 0 then 0 else if 0 < stk σ s n k then stk σ s n (1 - k) else 0
def setlM (σ : fM) (s n m : Nat) (k : Int32) : fM := if stk σ s n (1 - k) ≤ 0 then σ else if 0 < stk σ s n k then
  dropM (pu (setlZ σ s n m k).1 (iS s) 5 ((setlZ σ s n m k).1.1 (iS s) 5 + (stk σ s n (1 - k) - (setlZ σ s n m k).2))) s m else σ
theorem crd_S {σ : fM} {s m : Nat} (h : crd σ s m) (hm : m ≤ 8) (j : Nat) (v : Int32) : crd (pu σ (iS s) j v) s m := fun l hl => by rw [pu_ne _ (iL_S s l s (by omega))]; exact h l hl

set_option maxRecDepth 100000 in
set_option maxHeartbeats 4000000 in
theorem ct_X3_settleBets {l : Launch} {X : fX} {σ : fM} {s n m : Nat} (hs : s < 6) (hc : cnt σ s n m) (hcr : crd σ s m) {k : Int32} : Ct l X yX3_settleBets cX3_settleBets 9 (some .int) 2 [ra X (iS s), .int k] σ (some (.int (setlV σ s n k))) (setlM σ s n m k) := by
  refine Ct.of RX3 rfl (by decide) (Nat.le_of_ble_eq_true rfl) ?_
  intro x hL h hr
  refine g_sub [(0, ra X (iS s)), (1, .int k)] ⟨rfl, rfl, trivial⟩ ?_
  obtain ⟨hn, hm, hn6, hm8⟩ := id hc
  refine g_aload_n h dX3_settleBets_0 rfl ?_
  refine g_iconst (v := 1) h dX3_settleBets_1 (by decide) ?_
  refine g_iload_n h dX3_settleBets_2 rfl ?_
  refine g_isub h dX3_settleBets_3 ?_
  refine cl3_132 h (by omega) (ct_X3_stakesOn hs hc) rfl dX3_settleBets_4 rfl (Nat.le_of_ble_eq_true rfl) (by decide) ?_
  refine g_istore_n h dX3_settleBets_7 (by rw [hL]; decide) ?_
  refine g_aload_n h dX3_settleBets_8 rfl ?_
  refine g_iload_n h dX3_settleBets_9 rfl ?_
  refine cl3_132 h (by omega) (ct_X3_stakesOn hs hc) rfl dX3_settleBets_10 rfl (Nat.le_of_ble_eq_true rfl) (by decide) ?_
  refine g_istore_n h dX3_settleBets_13 (by rw [hL]; decide) ?_
  refine g_iload_n h dX3_settleBets_14 rfl ?_
  refine g_ifle h 22 dX3_settleBets_15 (by decide) (fun c15 => ?_) (fun c15 => ?_)
  · refine g_iconst (v := 0) h dX3_settleBets_22 (by decide) ?_
    exact g_iret h hr dX3_settleBets_23 (by first | exact (if_pos c15).symm | exact ((if_neg c15).trans (if_neg c19)).symm) (by first | exact (if_pos c15).symm | exact ((if_neg c15).trans (if_neg c19)).symm)
  · refine g_iload_n h dX3_settleBets_18 rfl ?_
    refine g_ifgt h 24 dX3_settleBets_19 (by decide) (fun c19 => ?_) (fun c19 => ?_)
    · have hc1 : cnt (pu σ (iS s) 8 (σ.1 (iS s) 8 + 1)) s n m := ⟨by rw [pu_puR, puR_self, upd_n _ _ _ _ (by decide)]; exact hn, by rw [pu_puR, puR_self, upd_n _ _ _ _ (by decide)]; exact hm, hn6, hm8⟩
      have c15 : ¬ stk σ s n (1 - k) ≤ 0 := c15
      have c19 : 0 < stk σ s n k := c19
      have hrn : ¬ stk σ s n k = 0 := fun e => by rw [e] at c19; exact absurd c19 (by decide)
      have hv : setlV σ s n k = stk σ s n (1 - k) := by unfold setlV; rw [if_neg c15, if_pos c19]
      have hM : setlM σ s n m k = dropM (pu (setlZ σ s n m k).1 (iS s) 5 ((setlZ σ s n m k).1.1 (iS s) 5 + (stk σ s n (1 - k) - (setlZ σ s n m k).2))) s m := by unfold setlM; rw [if_neg c15, if_pos c19]
      have LOOP : ∀ (q i : Nat), i + q = n → G x X (setlF s m k (setlLeft σ s n k) (stk σ s n k) (pu σ (iS s) 8 (σ.1 (iS s) 8 + 1), 0) i).1 [(0, ra X (iS s)), (1, .int k), (2, .int (stk σ s n (1 - k))), (3, .int (stk σ s n k)), (4, .int (setlLeft σ s n k)), (5, .int (setlF s m k (setlLeft σ s n k) (stk σ s n k) (pu σ (iS s) 8 (σ.1 (iS s) 8 + 1), 0) i).2), (6, .int (nI i))] [] 55 := by
        intro q
        induction q with
        | zero =>
          intro i hi 
          have hie : i = n := by omega
          rw [hie]
          have hf : frm2 s (pu σ (iS s) 8 (σ.1 (iS s) 8 + 1)) (setlF s m k (setlLeft σ s n k) (stk σ s n k) (pu σ (iS s) 8 (σ.1 (iS s) 8 + 1), 0) n).1 := setlF_frm (z := (pu σ (iS s) 8 (σ.1 (iS s) 8 + 1), 0)) hn6 hm8 (crd_S hcr hm8 _ _) n (Nat.le_refl n)
          have hn : (setlF s m k (setlLeft σ s n k) (stk σ s n k) (pu σ (iS s) 8 (σ.1 (iS s) 8 + 1), 0) n).1.1 (iS s) 3 = nI n := (hf.cnt hc1).1
          have hcD : cnt (pu (setlF s m k (setlLeft σ s n k) (stk σ s n k) (pu σ (iS s) 8 (σ.1 (iS s) 8 + 1), 0) n).1 (iS s) 5 ((setlF s m k (setlLeft σ s n k) (stk σ s n k) (pu σ (iS s) 8 (σ.1 (iS s) 8 + 1), 0) n).1.1 (iS s) 5 + (stk σ s n (1 - k) - (setlF s m k (setlLeft σ s n k) (stk σ s n k) (pu σ (iS s) 8 (σ.1 (iS s) 8 + 1), 0) n).2))) s n m := ⟨by rw [pu_puR, puR_self, upd_n _ _ _ _ (by decide)]; exact (hf.cnt hc1).1, by rw [pu_puR, puR_self, upd_n _ _ _ _ (by decide)]; exact (hf.cnt hc1).2.1, hn6, hm8⟩
          refine g_iload h dX3_settleBets_55 rfl ?_
          refine g_aload_n h dX3_settleBets_57 rfl ?_
          refine gf3_32 h (by omega) dX3_settleBets_58 ?_
          refine g_icge h 145 dX3_settleBets_61 (by decide) (fun c61 => ?_) (fun c61 => absurd (by rw [hn]; exact Int32.le_refl _) c61)
          refine g_aload_n h dX3_settleBets_145 rfl ?_
          refine g_dup h dX3_settleBets_146 rfl ?_
          refine gf3_52 h (by omega) dX3_settleBets_147 ?_
          refine g_iload_n h dX3_settleBets_150 rfl ?_
          refine g_iload h dX3_settleBets_151 rfl ?_
          refine g_isub h dX3_settleBets_153 ?_
          refine g_iadd h dX3_settleBets_154 ?_
          refine gp3_52 h (by omega) dX3_settleBets_155 ?_
          refine g_aload_n h dX3_settleBets_158 rfl ?_
          refine cl3_138 h (by omega) (ct_X3_dropLoansPaidBack hs hcD) rfl dX3_settleBets_159 rfl (Nat.le_of_ble_eq_true rfl) (by decide) ?_
          refine g_iload_n h dX3_settleBets_162 rfl ?_
          exact g_iret h hr dX3_settleBets_163 hv.symm hM.symm
        | succ q ih =>
          intro i hi 
          have hlt : i < n := by omega
          have hf : frm2 s (pu σ (iS s) 8 (σ.1 (iS s) 8 + 1)) (setlF s m k (setlLeft σ s n k) (stk σ s n k) (pu σ (iS s) 8 (σ.1 (iS s) 8 + 1), 0) i).1 := setlF_frm (z := (pu σ (iS s) 8 (σ.1 (iS s) 8 + 1), 0)) hn6 hm8 (crd_S hcr hm8 _ _) i (by omega)
          have hcr2 := hf.crd (crd_S hcr hm8 _ _)
          have hc2 := hf.cnt (hc1 : cnt (pu σ (iS s) 8 (σ.1 (iS s) 8 + 1)) s n m)
          have hn : (setlF s m k (setlLeft σ s n k) (stk σ s n k) (pu σ (iS s) 8 (σ.1 (iS s) 8 + 1), 0) i).1.1 (iS s) 3 = nI n := hc2.1
          generalize hz : setlF s m k (setlLeft σ s n k) (stk σ s n k) (pu σ (iS s) 8 (σ.1 (iS s) 8 + 1), 0) i = z at hf hn hcr2 hc2 ⊢
          refine g_iload h dX3_settleBets_55 rfl ?_
          refine g_aload_n h dX3_settleBets_57 rfl ?_
          refine gf3_32 h (by omega) dX3_settleBets_58 ?_
          refine g_icge h 145 dX3_settleBets_61 (by decide) (fun c61 => absurd c61 (by rw [hn]; exact nI_ge hlt (by omega))) (fun c61 => ?_)
          refine g_aload_n h dX3_settleBets_64 rfl ?_
          refine gf3_11 h (by omega) dX3_settleBets_65 ?_
          refine g_iload h dX3_settleBets_68 rfl ?_
          refine g_aaldO h (by omega) rfl (by omega) dX3_settleBets_70 ?_
          refine g_astore h dX3_settleBets_71 (by rw [hL]; decide) ?_
          refine g_aload h dX3_settleBets_73 rfl ?_
          refine gf3_111 h (by omega) (by omega) dX3_settleBets_75 ?_
          refine g_iload_n h dX3_settleBets_78 rfl ?_
          refine g_icne h 124 dX3_settleBets_79 (by decide) (fun c79 => ?_) (fun c79 => ?_)
          · refine g_aload h dX3_settleBets_124 rfl ?_
            refine g_dup h dX3_settleBets_126 rfl ?_
            refine gf3_85 h (by omega) (by omega) dX3_settleBets_127 ?_
            refine g_aload h dX3_settleBets_130 rfl ?_
            refine gf3_101 h (by omega) (by omega) dX3_settleBets_132 ?_
            refine g_isub h dX3_settleBets_135 ?_
            refine gp3_85 h (by omega) (by omega) dX3_settleBets_136 ?_
            refine g_iincN h dX3_settleBets_139 rfl (by rw [hL]; decide) ?_
            refine g_goto h 55 dX3_settleBets_142 (by decide) ?_
            refine g_mem (setlF s m k (setlLeft σ s n k) (stk σ s n k) (pu σ (iS s) 8 (σ.1 (iS s) 8 + 1), 0) (i + 1)).1 (by show _ = (setlStep s m k _ _ i (setlF s m k (setlLeft σ s n k) (stk σ s n k) (pu σ (iS s) 8 (σ.1 (iS s) 8 + 1), 0) i)).1; rw [hz]; simp [setlStep, c61, c79]) ?_
            refine g_sub [(0, ra X (iS s)), (1, .int k), (2, .int (stk σ s n (1 - k))), (3, .int (stk σ s n k)), (4, .int (setlLeft σ s n k)), (5, .int (setlF s m k (setlLeft σ s n k) (stk σ s n k) (pu σ (iS s) 8 (σ.1 (iS s) 8 + 1), 0) (i + 1)).2), (6, .int (nI (i + 1)))] ⟨rfl, rfl, rfl, rfl, rfl, (congrArg (fun z => some (Value.int z)) (by show _ = (setlStep s m k _ _ i (setlF s m k (setlLeft σ s n k) (stk σ s n k) (pu σ (iS s) 8 (σ.1 (iS s) 8 + 1), 0) i)).2; rw [hz]; simp [setlStep, c61, c79])), rfl, trivial⟩ ?_
            exact ih (i + 1) (by omega)
          · refine g_iload h dX3_settleBets_82 rfl ?_
            refine g_aload h dX3_settleBets_84 rfl ?_
            refine gf3_101 h (by omega) (by omega) dX3_settleBets_86 ?_
            refine g_imul h dX3_settleBets_89 ?_
            refine g_iload_n h dX3_settleBets_90 rfl ?_
            refine g_idiv h dX3_settleBets_91 hrn ?_
            refine g_istore h dX3_settleBets_92 (by rw [hL]; decide) ?_
            refine g_aload h dX3_settleBets_94 rfl ?_
            refine g_dup h dX3_settleBets_96 rfl ?_
            refine gf3_85 h (by omega) (by omega) dX3_settleBets_97 ?_
            refine g_iload h dX3_settleBets_100 rfl ?_
            refine g_iadd h dX3_settleBets_102 ?_
            refine gp3_85 h (by omega) (by omega) dX3_settleBets_103 ?_
            refine g_iload h dX3_settleBets_106 rfl ?_
            refine g_iload h dX3_settleBets_108 rfl ?_
            refine g_iadd h dX3_settleBets_110 ?_
            refine g_istore h dX3_settleBets_111 (by rw [hL]; decide) ?_
            refine g_aload_n h dX3_settleBets_113 rfl ?_
            refine g_iload h dX3_settleBets_114 rfl ?_
            refine g_iload h dX3_settleBets_116 rfl ?_
            refine cl3_135 h (by omega) (ct_X3_payCreditors hs ((frm2.O (s := s) (i := i) (by omega) _ _).cnt hc2) (by omega) ((frm2.O (s := s) (i := i) (by omega) _ _).crd hcr2)) rfl dX3_settleBets_118 rfl (Nat.le_of_ble_eq_true rfl) (by decide) ?_
            refine g_goto h 139 dX3_settleBets_121 (by decide) ?_
            refine g_iincN h dX3_settleBets_139 rfl (by rw [hL]; decide) ?_
            refine g_goto h 55 dX3_settleBets_142 (by decide) ?_
            refine g_mem (setlF s m k (setlLeft σ s n k) (stk σ s n k) (pu σ (iS s) 8 (σ.1 (iS s) 8 + 1), 0) (i + 1)).1 (by show _ = (setlStep s m k _ _ i (setlF s m k (setlLeft σ s n k) (stk σ s n k) (pu σ (iS s) 8 (σ.1 (iS s) 8 + 1), 0) i)).1; rw [hz]; simp [setlStep, c61, c79]) ?_
            refine g_sub [(0, ra X (iS s)), (1, .int k), (2, .int (stk σ s n (1 - k))), (3, .int (stk σ s n k)), (4, .int (setlLeft σ s n k)), (5, .int (setlF s m k (setlLeft σ s n k) (stk σ s n k) (pu σ (iS s) 8 (σ.1 (iS s) 8 + 1), 0) (i + 1)).2), (6, .int (nI (i + 1)))] ⟨rfl, rfl, rfl, rfl, rfl, (congrArg (fun z => some (Value.int z)) (by show _ = (setlStep s m k _ _ i (setlF s m k (setlLeft σ s n k) (stk σ s n k) (pu σ (iS s) 8 (σ.1 (iS s) 8 + 1), 0) i)).2; rw [hz]; simp [setlStep, c61, c79])), rfl, trivial⟩ ?_
            exact ih (i + 1) (by omega)
      refine g_aload_n h dX3_settleBets_24 rfl ?_
      refine g_dup h dX3_settleBets_25 rfl ?_
      refine gf3_61 h (by omega) dX3_settleBets_26 ?_
      refine g_iconst (v := 1) h dX3_settleBets_29 (by decide) ?_
      refine g_iadd h dX3_settleBets_30 ?_
      refine gp3_61 h (by omega) dX3_settleBets_31 ?_
      refine g_iload_n h dX3_settleBets_34 rfl ?_
      refine g_iload_n h dX3_settleBets_35 rfl ?_
      refine g_aload_n h dX3_settleBets_36 rfl ?_
      refine gf3_25 h (by omega) dX3_settleBets_37 ?_
      refine g_iconst (v := 1) h dX3_settleBets_40 (by decide) ?_
      refine g_ialdSet h (by omega) (show (1 : Int32) = nI 1 by decide) (by decide) dX3_settleBets_41 ?_
      refine g_imul h dX3_settleBets_42 ?_
      refine g_bipush (v := 100) h dX3_settleBets_43 (by decide) ?_
      refine g_idiv h dX3_settleBets_45 (by decide) ?_
      refine g_isub h dX3_settleBets_46 ?_
      refine g_istore h dX3_settleBets_47 (by rw [hL]; decide) ?_
      refine g_iconst (v := 0) h dX3_settleBets_49 (by decide) ?_
      refine g_istore h dX3_settleBets_50 (by rw [hL]; decide) ?_
      refine g_iconst (v := 0) h dX3_settleBets_52 (by decide) ?_
      refine g_istore h dX3_settleBets_53 (by rw [hL]; decide) ?_
      refine g_sub [(0, ra X (iS s)), (1, .int k), (2, .int (stk σ s n (1 - k))), (3, .int (stk σ s n k)), (4, .int (setlLeft σ s n k)), (5, .int (setlF s m k (setlLeft σ s n k) (stk σ s n k) (pu σ (iS s) 8 (σ.1 (iS s) 8 + 1), 0) 0).2), (6, .int (nI 0))] ⟨rfl, rfl, rfl, rfl, (congrArg (fun z => some (Value.int z)) (by rw [pu_ne _ (iS_Set s s).symm]; rfl)), rfl, lk_0, trivial⟩ ?_
      exact LOOP n 0 (by omega)
    · refine g_iconst (v := 0) h dX3_settleBets_22 (by decide) ?_
      exact g_iret h hr dX3_settleBets_23 (by first | exact (if_pos c15).symm | exact ((if_neg c15).trans (if_neg c19)).symm) (by first | exact (if_pos c15).symm | exact ((if_neg c15).trans (if_neg c19)).symm)

theorem foR2_n (σ : fM) (s n : Nat) (a : Int32) (i j : Nat) (h9 : ¬ j = 9) (h10 : ¬ j = 10) : foR2 σ s n a i j = σ.1 (iO s i) j := by
  unfold foR2 foR1
  split
  · rw [upd_n _ _ _ _ h9, upd_n _ _ _ _ h10]
  · rw [upd_n _ _ _ _ h9, upd_n _ _ _ _ h10]
theorem fore_O {σ : fM} {s n i : Nat} (a : Int32) (hi : i < n) : (fore σ s n a).1 (iO s i) = foR2 σ s n a i := setF_at (iO_inj s) hi
theorem fore_ne {σ : fM} {s n k : Nat} (a : Int32) (h : ∀ i, i < n → iO s i ≠ k) : (fore σ s n a).1 k = σ.1 k := (setF_ne h).trans (setF_ne h)
theorem fore_2 (σ : fM) (s n : Nat) (a : Int32) : (fore σ s n a).2 = σ.2 := (setF_2 _ _ _ _).trans (setF_2 _ _ _ _)
theorem fore_cnt {σ : fM} {s n m : Nat} (a : Int32) (hc : cnt σ s n m) : cnt (fore σ s n a) s n m := by
  have hn6 := hc.2.2.1
  have e : (fore σ s n a).1 (iS s) = σ.1 (iS s) := fore_ne a (fun i hi => iO_S s i s (by omega))
  exact ⟨by rw [e]; exact hc.1, by rw [e]; exact hc.2.1, hc.2.2⟩
theorem fore_crd {σ : fM} {s n m : Nat} (a : Int32) (hn : n ≤ 6) (hm : m ≤ 8) (h : crd σ s m) : crd (fore σ s n a) s m := fun l hl => by
  rw [fore_ne a (fun i hi => (iL_O s l s i (by omega) (by omega)).symm)]
  exact h l hl
theorem oGood_cg {f f' : Nat → Int32} (h0 : f' 0 = f 0) (h1 : f' 1 = f 1) (h : oGood f) : oGood f' := by
  intro ht
  rw [h1]
  exact h (by unfold oTab at ht ⊢; rw [← h0]; exact ht)
theorem drop_O {s : Nat} (σ : fM) (s' i m : Nat) (hi : i < 6) (hm : m ≤ 8) : (dropM σ s m).1 (iO s' i) = σ.1 (iO s' i) := by
  unfold dropM
  rw [pu_ne _ (iO_S s' i s hi), dropF_ne (fun l hl => (iL_O s l s' i hl hi).symm) m hm]
theorem drop_cnt {σ : fM} {s n m : Nat} (hc : cnt σ s n m) : cnt (dropM σ s m) s n (dropF s (σ, 0) m).2 := by
  have hle := dropF_le s σ m
  have hm8 := hc.2.2.2
  refine ⟨?_, ?_, hc.2.2.1, by omega⟩
  · unfold dropM
    rw [pu_puR, puR_self, upd_n _ _ _ _ (by decide), dropF_S s hm8]
    exact hc.1
  · unfold dropM
    rw [pu_puR, puR_self, upd_s]
/-- how many loans there are behind the bets -/
def setlN (σ : fM) (s n m : Nat) (k : Int32) : Nat := if stk σ s n (1 - k) ≤ 0 then m else if 0 < stk σ s n k then
  (dropF s (pu (setlZ σ s n m k).1 (iS s) 5 ((setlZ σ s n m k).1.1 (iS s) 5 + (stk σ s n (1 - k) - (setlZ σ s n m k).2)), 0) m).2 else m
theorem setlZ_frm {σ : fM} {s n m : Nat} (k : Int32) (hc : cnt σ s n m) (hcr : crd σ s m) : frm2 s (pu σ (iS s) 8 (σ.1 (iS s) 8 + 1)) (setlZ σ s n m k).1 :=
  setlF_frm (z := (pu σ (iS s) 8 (σ.1 (iS s) 8 + 1), 0)) hc.2.2.1 hc.2.2.2 (crd_S hcr hc.2.2.2 _ _) n (Nat.le_refl n)
theorem cnt_pu {σ : fM} {s n m : Nat} (hc : cnt σ s n m) (j : Nat) (v : Int32) (h3 : ¬ 3 = j) (h4 : ¬ 4 = j) : cnt (pu σ (iS s) j v) s n m :=
  ⟨by rw [pu_puR, puR_self, upd_n _ _ _ _ h3]; exact hc.1, by rw [pu_puR, puR_self, upd_n _ _ _ _ h4]; exact hc.2.1, hc.2.2⟩
theorem setl_cnt {σ : fM} {s n m : Nat} (k : Int32) (hc : cnt σ s n m) (hcr : crd σ s m) : cnt (setlM σ s n m k) s n (setlN σ s n m k) := by
  unfold setlM setlN
  split
  · exact hc
  · split
    · exact drop_cnt (cnt_pu ((setlZ_frm k hc hcr).cnt (cnt_pu hc 8 _ (by decide) (by decide))) 5 _ (by decide) (by decide))
    · exact hc
theorem setl_O {σ : fM} {s n m : Nat} (k : Int32) (hc : cnt σ s n m) (hcr : crd σ s m) {i j : Nat} (hi : i < 6) (hj : ¬ j = 2) : (setlM σ s n m k).1 (iO s i) j = σ.1 (iO s i) j := by
  unfold setlM
  split
  · rfl
  · split
    · rw [drop_O _ _ _ _ hi hc.2.2.2, pu_ne _ (iO_S s i s hi), (setlZ_frm k hc hcr).n2 _ _ hj, pu_ne _ (iO_S s i s hi)]
    · rfl
theorem oNote_01 (f : Nat → Int32) (w : Int32) (j : Nat) (h : j < 5) : oNote f w j = f j := by
  unfold oNote
  split <;> split <;> simp only [upd] <;> repeat rw [if_neg (by omega)]
theorem kept_01 (σ : fM) (s : Nat) (k : Int32) (i j : Nat) (h : j < 5) : kept σ s k i j = σ.1 (iO s i) j := by
  unfold kept
  split
  · rfl
  · exact oNote_01 _ _ _ h
/-- the memory behind a branch, and what is answered -/
def runM (σ : fM) (s n m : Nat) (a k : Int32) : fM := learnM (setF (setlM (fore σ s n a) s n m k) (iO s) (kept (setlM (fore σ s n a) s n m k) s k) n) s n a k
def runV (σ : fM) (s n : Nat) (a k : Int32) : Int32 := setlV (fore σ s n a) s n k
theorem keep_cnt {σ : fM} {s n m : Nat} (k : Int32) (hc : cnt σ s n m) : cnt (setF σ (iO s) (kept σ s k) n) s n m := by
  have hn6 := hc.2.2.1
  have e : (setF σ (iO s) (kept σ s k) n).1 (iS s) = σ.1 (iS s) := setF_ne (fun i hi => iO_S s i s (by omega))
  exact ⟨by rw [e]; exact hc.1, by rw [e]; exact hc.2.1, hc.2.2⟩

set_option maxRecDepth 100000 in
set_option maxHeartbeats 4000000 in
theorem ct_X3_runBranch {l : Launch} {X : fX} {σ : fM} {s n m : Nat} (hs : s < 6) (hc : cnt σ s n m) (hcr : crd σ s m) (hg : ∀ i, i < n → oGood (σ.1 (iO s i))) {a k : Int32} : Ct l X yX3_runBranch cX3_runBranch 4 (some .int) 4 [ra X (iS s), .int a, .int k] σ (some (.int (runV σ s n a k))) (runM σ s n m a k) := by
  refine Ct.of RX3 rfl (by decide) (Nat.le_of_ble_eq_true rfl) ?_
  intro x hL h hr
  refine g_sub [(0, ra X (iS s)), (1, .int a), (2, .int k)] ⟨rfl, rfl, rfl, trivial⟩ ?_
  have hn6 := hc.2.2.1
  have hc2 := setl_cnt k (fore_cnt a hc) (fore_crd a hc.2.2.1 hc.2.2.2 hcr)
  have hg3 : ∀ i, i < n → oGood ((setF (setlM (fore σ s n a) s n m k) (iO s) (kept (setlM (fore σ s n a) s n m k) s k) n).1 (iO s i)) := fun i hi => by
    have e : ∀ j, j < 2 → (setF (setlM (fore σ s n a) s n m k) (iO s) (kept (setlM (fore σ s n a) s n m k) s k) n).1 (iO s i) j = σ.1 (iO s i) j := fun j hj => by
      rw [setF_at (iO_inj s) hi, kept_01 _ _ _ _ _ (by omega), setl_O k (fore_cnt a hc) (fore_crd a hc.2.2.1 hc.2.2.2 hcr) (by omega) (by omega), fore_O a hi, foR2_n _ _ _ _ _ _ (by omega) (by omega)]
    exact oGood_cg (e 0 (by decide)) (e 1 (by decide)) (hg i hi)
  refine g_aload_n h dX3_runBranch_0 rfl ?_
  refine g_iload_n h dX3_runBranch_1 rfl ?_
  refine cl3_117 h (by omega) (ct_X3_foretell hs hc hg) rfl dX3_runBranch_2 rfl (Nat.le_of_ble_eq_true rfl) (by decide) ?_
  refine g_aload_n h dX3_runBranch_5 rfl ?_
  refine g_iload_n h dX3_runBranch_6 rfl ?_
  refine cl3_121 h (by omega) (ct_X3_settleBets hs (fore_cnt a hc) (fore_crd a hc.2.2.1 hc.2.2.2 hcr)) rfl dX3_runBranch_7 rfl (Nat.le_of_ble_eq_true rfl) (by decide) ?_
  refine g_istore_n h dX3_runBranch_10 (by rw [hL]; decide) ?_
  refine g_aload_n h dX3_runBranch_11 rfl ?_
  refine g_iload_n h dX3_runBranch_12 rfl ?_
  refine cl3_125 h (by omega) (ct_X3_keepRecords hs hc2) rfl dX3_runBranch_13 rfl (Nat.le_of_ble_eq_true rfl) (by decide) ?_
  refine g_aload_n h dX3_runBranch_16 rfl ?_
  refine g_iload_n h dX3_runBranch_17 rfl ?_
  refine g_iload_n h dX3_runBranch_18 rfl ?_
  refine cl3_128 h (by omega) (ct_X3_learnFrom hs (keep_cnt k hc2) hg3) rfl dX3_runBranch_19 rfl (Nat.le_of_ble_eq_true rfl) (by decide) ?_
  refine g_iload_n h dX3_runBranch_22 rfl ?_
  exact g_iret h hr dX3_runBranch_23 rfl rfl

def addM (σ : fM) (s c e m : Nat) (v : Int32) : fM :=
  let τ1 := pu σ (iO s c) 2 (σ.1 (iO s c) 2 - v)
  let τ2 := pu τ1 (iO s e) 2 (τ1.1 (iO s e) 2 + v)
  pu (pu (pu (pu τ2 (iL s m) 0 (nI c)) (iL s m) 1 (nI e)) (iL s m) 2 v) (iS s) 4 (nI (m + 1))

set_option maxRecDepth 100000 in
set_option maxHeartbeats 4000000 in
theorem ct_X3_addLoan {l : Launch} {X : fX} {σ : fM} {s n m : Nat} (hs : s < 6) (hc : cnt σ s n m) {c e : Nat} (hc6 : c < 6) (he6 : e < 6) (hm7 : m < 8) {v : Int32} : Ct l X yX3_addLoan cX3_addLoan 5 (some .int) 0 [ra X (iS s), .int (nI c), .int (nI e), .int v] σ (some (.int (nI m))) (addM σ s c e m v) := by
  refine Ct.of RX3 rfl (by decide) (Nat.le_of_ble_eq_true rfl) ?_
  intro x hL h hr
  refine g_sub [(0, ra X (iS s)), (1, .int (nI c)), (2, .int (nI e)), (3, .int v)] ⟨rfl, rfl, rfl, rfl, trivial⟩ ?_
  obtain ⟨hn, hm, hn6, hm8⟩ := id hc
  refine g_aload_n h dX3_addLoan_0 rfl ?_
  refine gf3_11 h (by omega) dX3_addLoan_1 ?_
  refine g_iload_n h dX3_addLoan_4 rfl ?_
  refine g_aaldO h (by omega) rfl hc6 dX3_addLoan_5 ?_
  refine g_dup h dX3_addLoan_6 rfl ?_
  refine gf3_85 h (by omega) (by omega) dX3_addLoan_7 ?_
  refine g_iload_n h dX3_addLoan_10 rfl ?_
  refine g_isub h dX3_addLoan_11 ?_
  refine gp3_85 h (by omega) (by omega) dX3_addLoan_12 ?_
  refine g_aload_n h dX3_addLoan_15 rfl ?_
  refine gf3_11 h (by omega) dX3_addLoan_16 ?_
  refine g_iload_n h dX3_addLoan_19 rfl ?_
  refine g_aaldO h (by omega) rfl he6 dX3_addLoan_20 ?_
  refine g_dup h dX3_addLoan_21 rfl ?_
  refine gf3_85 h (by omega) (by omega) dX3_addLoan_22 ?_
  refine g_iload_n h dX3_addLoan_25 rfl ?_
  refine g_iadd h dX3_addLoan_26 ?_
  refine gp3_85 h (by omega) (by omega) dX3_addLoan_27 ?_
  refine g_aload_n h dX3_addLoan_30 rfl ?_
  refine gf3_40 h (by omega) dX3_addLoan_31 ?_
  refine g_istore h dX3_addLoan_34 (by rw [hL]; decide) ?_
  refine g_aload_n h dX3_addLoan_36 rfl ?_
  refine gf3_20 h (by omega) dX3_addLoan_37 ?_
  refine g_iload h dX3_addLoan_40 rfl ?_
  refine g_aaldL h (by omega) (by simp only [pu_ne _ (iO_S s c s hc6).symm, pu_ne _ (iO_S s e s he6).symm, pu_ne _ (iL_S s m s hm7).symm]; exact hm) hm7 dX3_addLoan_42 ?_
  refine g_iload_n h dX3_addLoan_43 rfl ?_
  refine gp3_88 h (by omega) (by omega) dX3_addLoan_44 ?_
  refine g_aload_n h dX3_addLoan_47 rfl ?_
  refine gf3_20 h (by omega) dX3_addLoan_48 ?_
  refine g_iload h dX3_addLoan_51 rfl ?_
  refine g_aaldL h (by omega) (by simp only [pu_ne _ (iO_S s c s hc6).symm, pu_ne _ (iO_S s e s he6).symm, pu_ne _ (iL_S s m s hm7).symm]; exact hm) hm7 dX3_addLoan_53 ?_
  refine g_iload_n h dX3_addLoan_54 rfl ?_
  refine gp3_91 h (by omega) (by omega) dX3_addLoan_55 ?_
  refine g_aload_n h dX3_addLoan_58 rfl ?_
  refine gf3_20 h (by omega) dX3_addLoan_59 ?_
  refine g_iload h dX3_addLoan_62 rfl ?_
  refine g_aaldL h (by omega) (by simp only [pu_ne _ (iO_S s c s hc6).symm, pu_ne _ (iO_S s e s he6).symm, pu_ne _ (iL_S s m s hm7).symm]; exact hm) hm7 dX3_addLoan_64 ?_
  refine g_iload_n h dX3_addLoan_65 rfl ?_
  refine gp3_94 h (by omega) (by omega) dX3_addLoan_66 ?_
  refine g_aload_n h dX3_addLoan_69 rfl ?_
  refine g_iload h dX3_addLoan_70 rfl ?_
  refine g_iconst (v := 1) h dX3_addLoan_72 (by decide) ?_
  refine g_iadd h dX3_addLoan_73 ?_
  refine gp3_40 h (by omega) dX3_addLoan_74 ?_
  refine g_iload h dX3_addLoan_77 rfl ?_
  exact g_iret h hr dX3_addLoan_79 (by simp only [pu_ne _ (iO_S s c s hc6).symm, pu_ne _ (iO_S s e s he6).symm, pu_ne _ (iL_S s m s hm7).symm]; exact hm) (by unfold addM; dsimp only; simp only [pu_ne _ (iO_S s c s hc6).symm, pu_ne _ (iO_S s e s he6).symm, pu_ne _ (iL_S s m s hm7).symm, hm, nI_succ])