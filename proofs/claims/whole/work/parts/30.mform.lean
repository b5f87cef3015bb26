/-! the model: orders -/
def mf1 (g : Nat → Int32) (p : Nat) : Int32 := if pW g p = -1 then 0 else if pO1 g p = true then pV1 g p else -1
def mf2 (g : Nat → Int32) (p : Nat) : Int32 := if pW g p = -1 then 0 else if pO1 g p = false then 0 else if pW g p = 4 then 0 else if pO2 g p = true then pV2 g p else -1
/-- the model's ints behind the form of an order -/
def mfR (f g : Nat → Int32) (p : Nat) : Nat → Int32 := upd (upd (upd (upd f 11 (pW g p)) 14 (nI (pE g p))) 12 (mf1 g p)) 13 (mf2 g p)
theorem num_m1 {g : Nat → Int32} {e : Nat} : (if rnOk g e = true then rnV g e else (-1 : Int32)) = -1 ↔ rnOk g e = false := by
  by_cases h : rnOk g e = true
  · rw [if_pos h]
    obtain ⟨v, hv, ev⟩ := rnV_v h
    constructor
    · intro q
      rw [ev] at q
      exact absurd ((by decide : (-1 : Int32) < 0)) (q ▸ nI_pos (by omega))
    · intro q; rw [h] at q; cases q
  · rw [if_neg h]
    exact ⟨fun _ => by simpa using h, fun _ => rfl⟩
theorem pW_m1 {g : Nat → Int32} {p : Nat} (h : pW g p = -1) : pF g p = false ∧ pE g p = p := by
  have f : pF g p = false := by unfold pF; rw [if_pos h]
  exact ⟨f, by unfold pE pB; rw [f, if_neg (by decide), if_pos h]⟩
theorem pO_1 {g : Nat → Int32} {p : Nat} (h : ¬ pW g p = -1) (h1 : pO1 g p = false) : pF g p = false ∧ pE g p = pE1 g p := by
  have f : pF g p = false := by unfold pF; rw [if_neg h, h1]; simp
  exact ⟨f, by unfold pE pB; rw [f, if_neg (by decide), if_neg h, if_pos (Or.inr h1)]⟩
theorem pO_2 {g : Nat → Int32} {p : Nat} (h : ¬ pW g p = -1) (h4 : ¬ pW g p = 4) (h1 : pO1 g p = true) (h2 : pO2 g p = false) : pF g p = false ∧ pE g p = pE2 g p := by
  have f : pF g p = false := by unfold pF; rw [if_neg h, if_neg h4, h1, h2]; simp
  exact ⟨f, by unfold pE pB; rw [f, if_neg (by decide), if_neg h, if_neg (fun q => q.elim h4 (fun z => by rw [h1] at z; cases z))]⟩
/-- where the ";" is wanted -/
def pS (g : Nat → Int32) (p : Nat) : Nat := if pW g p = 4 then pE1 g p else pE2 g p
theorem pS_B {g : Nat → Int32} {p : Nat} (h : ¬ pW g p = -1) (h1 : pO1 g p = true) : pB g p = pS g p := by
  unfold pB pS
  rw [if_neg h]
  by_cases h4 : pW g p = 4
  · rw [if_pos (Or.inl h4), if_pos h4]
  · rw [if_neg (fun q => q.elim h4 (fun z => by rw [h1] at z; cases z)), if_neg h4]
theorem pS_F {g : Nat → Int32} {p : Nat} (h : ¬ pW g p = -1) (h1 : pO1 g p = true) (h2 : pW g p = 4 ∨ pO2 g p = true) : pF g p = decide (g (pS g p) = 59) := by
  unfold pF pS
  rw [if_neg h]
  by_cases h4 : pW g p = 4
  · rw [if_pos h4, if_pos h4, h1]; rfl
  · rw [if_neg h4, if_neg h4, h1, h2.resolve_left h4]; rfl
theorem pF_ok {g : Nat → Int32} {p : Nat} (h : pF g p = true) : ¬ pW g p = -1 ∧ pO1 g p = true ∧ (pW g p = 4 ∨ pO2 g p = true) := by
  unfold pF at h
  by_cases hw : pW g p = -1
  · rw [if_pos hw] at h; cases h
  · rw [if_neg hw] at h
    by_cases h4 : pW g p = 4
    · rw [if_pos h4] at h
      simp at h
      exact ⟨hw, h.1, Or.inl h4⟩
    · rw [if_neg h4] at h
      simp at h
      exact ⟨hw, h.1.1, Or.inr h.1.2⟩
theorem row_5 {j : Nat} : j = 11 ∨ j = 12 ∨ j = 13 ∨ j = 14 ∨ (¬ j = 11 ∧ ¬ j = 12 ∧ ¬ j = 13 ∧ ¬ j = 14) := by omega

set_option maxRecDepth 100000 in
set_option maxHeartbeats 4000000 in
theorem ct_X6_isOfForm {l : Launch} {X : fX} {σ : fM} {t : Nat} (ht : mtx σ t) {p : Nat} (hp : p < 2 ^ 16) (hb : σ.1 150 10 = nI p) : Ct l X yX6_isOfForm cX6_isOfForm 2 (some .boolean) 3 [ra X 150] σ (some (.int (bi (pF (chm σ t) p)))) (puR σ 150 (mfR (σ.1 150) (chm σ t) p)) := by
  refine Ct.of RX6 rfl (by decide) (Nat.le_of_ble_eq_true rfl) ?_
  intro x hL h hr
  refine g_sub [(0, ra X 150)] ⟨rfl, trivial⟩ ?_
  have h80 := ht.2
  have l0 : pN (chm σ t) p ≤ 80 := lrn0_le _ _
  have l1 : pE1 (chm σ t) p ≤ p + pN (chm σ t) p + 3 := rnE_le _ _
  have l2 : pE2 (chm σ t) p ≤ pE1 (chm σ t) p + 3 := rnE_le _ _
  have FIN : ∀ (τ : fM) (e : Nat), mtx τ t → chm τ t = (chm σ t) → τ.1 150 14 = nI e → e < 2 ^ 20 → ((chm σ t) e = 59 → pF (chm σ t) p = true ∧ pu τ 150 14 (nI (e + 1)) = (puR σ 150 (mfR (σ.1 150) (chm σ t) p))) → (¬ (chm σ t) e = 59 → pF (chm σ t) p = false ∧ τ = (puR σ 150 (mfR (σ.1 150) (chm σ t) p))) → G x X τ [(0, ra X 150)] [] 112 := by
    intro τ e hx hc he he2 h1 h2
    refine g_aload_n h dX6_isOfForm_112 rfl ?_
    refine g_aload_n h dX6_isOfForm_113 rfl ?_
    refine gf6_153 h  dX6_isOfForm_114 ?_
    refine g_top (nI e) he ?_
    refine cl6_143 h  (ct_X6_character (p := e) hx (by omega)) rfl dX6_isOfForm_117 rfl (Nat.le_of_ble_eq_true rfl) (by decide) ?_
    refine g_bipush (v := 59) h dX6_isOfForm_120 (by decide) ?_
    refine g_iceq h 127 dX6_isOfForm_122 (by decide) (fun c122 => ?_) (fun c122 => ?_)
    · rw [chx_59, hc] at c122
      refine g_aload_n h dX6_isOfForm_127 rfl ?_
      refine g_dup h dX6_isOfForm_128 rfl ?_
      refine gf6_153 h  dX6_isOfForm_129 ?_
      refine g_iconst (v := 1) h dX6_isOfForm_132 (by decide) ?_
      refine g_iadd h dX6_isOfForm_133 ?_
      refine g_top (nI (e + 1)) (by rw [he]; exact nI_1 e) ?_
      refine gp6_153 h  dX6_isOfForm_134 ?_
      refine g_iconst (v := 1) h dX6_isOfForm_137 (by decide) ?_
      exact g_zret h hr (by first | rfl | exact bi_n _) dX6_isOfForm_138 (by rw [(h1 c122).1]; rfl) (h1 c122).2
    · rw [chx_59, hc] at c122
      refine g_iconst (v := 0) h dX6_isOfForm_125 (by decide) ?_
      exact g_zret h hr (by first | rfl | exact bi_n _) dX6_isOfForm_126 (by rw [(h2 c122).1]; rfl) (h2 c122).2
  have TAIL : G x X σ [(0, ra X 150), (1, .int (nI (pN (chm σ t) p)))] [] 21 := by
    refine g_aload_n h dX6_isOfForm_21 rfl ?_
    refine g_aload_n h dX6_isOfForm_22 rfl ?_
    refine g_iload_n h dX6_isOfForm_23 rfl ?_
    refine cl6_159 h  (ct_X6_orderOf (p := p) (n := (pN (chm σ t) p)) ht (by omega) hb (by omega)) rfl dX6_isOfForm_24 rfl (Nat.le_of_ble_eq_true rfl) (by decide) ?_
    refine g_top (pW (chm σ t) p) rfl ?_
    refine gp6_162 h  dX6_isOfForm_27 ?_
    refine g_aload_n h dX6_isOfForm_30 rfl ?_
    refine g_aload_n h dX6_isOfForm_31 rfl ?_
    refine gf6_146 h  dX6_isOfForm_32 ?_
    refine g_top (nI p) (by rw [m150_n (by decide)]; exact hb) ?_
    refine g_iload_n h dX6_isOfForm_35 rfl ?_
    refine g_iadd h dX6_isOfForm_36 ?_
    refine g_top (nI (p + (pN (chm σ t) p))) (nI_add _ _) ?_
    refine gp6_153 h  dX6_isOfForm_37 ?_
    refine g_aload_n h dX6_isOfForm_40 rfl ?_
    refine g_iconst (v := 0) h dX6_isOfForm_41 (by decide) ?_
    refine gp6_165 h  dX6_isOfForm_42 ?_
    refine g_aload_n h dX6_isOfForm_45 rfl ?_
    refine g_iconst (v := 0) h dX6_isOfForm_46 (by decide) ?_
    refine gp6_168 h  dX6_isOfForm_47 ?_
    refine g_aload_n h dX6_isOfForm_50 rfl ?_
    refine gf6_162 h  dX6_isOfForm_51 ?_
    refine g_top (pW (chm σ t) p) (by rw [m150_n (by decide), m150_n (by decide), m150_n (by decide), m150_s]) ?_
    refine g_iconst (v := (-1)) h dX6_isOfForm_54 (by decide) ?_
    refine g_icne h 68 dX6_isOfForm_55 (by decide) (fun c55 => ?_) (fun c55 => ?_)
    · refine g_aload_n h dX6_isOfForm_68 rfl ?_
      refine g_aload_n h dX6_isOfForm_69 rfl ?_
      have hm1 : mtx (pu (pu (pu (pu σ 150 11 (pW (chm σ t) p)) 150 14 (nI (p + (pN (chm σ t) p)))) 150 12 0) 150 13 0) t := (mtx_pu (mtx_pu (mtx_pu (mtx_pu (ht) (by decide)) (by decide)) (by decide)) (by decide))
      have hg1 : chm (pu (pu (pu (pu σ 150 11 (pW (chm σ t) p)) 150 14 (nI (p + (pN (chm σ t) p)))) 150 12 0) 150 13 0) t = (chm σ t) := (by rw [chm_pu, chm_pu, chm_pu, chm_pu])
      refine cl6_171 h  (ct_X6_number (e := p + (pN (chm σ t) p)) hm1 (by omega) (by rw [m150_n (by decide), m150_n (by decide), m150_s])) rfl dX6_isOfForm_70 rfl (Nat.le_of_ble_eq_true rfl) (by decide) ?_
      refine g_top (if rnOk (chm σ t) (p + (pN (chm σ t) p)) = true then rnV (chm σ t) (p + (pN (chm σ t) p)) else -1) (by rw [hg1]) ?_
      refine g_mem (pu (pu (pu (pu (pu σ 150 11 (pW (chm σ t) p)) 150 14 (nI (p + (pN (chm σ t) p)))) 150 12 0) 150 13 0) 150 14 (nI (pE1 (chm σ t) p))) (by rw [hg1]; rfl) ?_
      refine gp6_165 h  dX6_isOfForm_73 ?_
      refine g_aload_n h dX6_isOfForm_76 rfl ?_
      refine gf6_165 h  dX6_isOfForm_77 ?_
      refine g_top (if rnOk (chm σ t) (p + (pN (chm σ t) p)) = true then rnV (chm σ t) (p + (pN (chm σ t) p)) else -1) m150_s ?_
      refine g_iconst (v := (-1)) h dX6_isOfForm_80 (by decide) ?_
      refine g_icne h 86 dX6_isOfForm_81 (by decide) (fun c81 => ?_) (fun c81 => ?_)
      · have o1 : pO1 (chm σ t) p = true := by
          cases hb2 : pO1 (chm σ t) p with
          | true => rfl
          | false => exact absurd (num_m1.mpr hb2) c81
        refine g_aload_n h dX6_isOfForm_86 rfl ?_
        refine gf6_162 h  dX6_isOfForm_87 ?_
        refine g_top (pW (chm σ t) p) (by rw [m150_n (by decide), m150_n (by decide), m150_n (by decide), m150_n (by decide), m150_n (by decide), m150_s]) ?_
        refine g_iconst (v := 4) h dX6_isOfForm_90 (by decide) ?_
        refine g_iceq h 112 dX6_isOfForm_91 (by decide) (fun c91 => ?_) (fun c91 => ?_)
        · have v1 : (if rnOk (chm σ t) (p + (pN (chm σ t) p)) = true then rnV (chm σ t) (p + (pN (chm σ t) p)) else -1) = pV1 (chm σ t) p := if_pos o1
          have eS : pS (chm σ t) p = pE1 (chm σ t) p := if_pos c91
          have eF := pS_F c55 o1 (Or.inl c91)
          have eB := pS_B c55 o1
          refine g_sub [(0, ra X 150)] ⟨rfl, trivial⟩ ?_
          refine FIN (pu (pu (pu (pu (pu (pu σ 150 11 (pW (chm σ t) p)) 150 14 (nI (p + (pN (chm σ t) p)))) 150 12 0) 150 13 0) 150 14 (nI (pE1 (chm σ t) p))) 150 12 (if rnOk (chm σ t) (p + (pN (chm σ t) p)) = true then rnV (chm σ t) (p + (pN (chm σ t) p)) else -1)) (pE1 (chm σ t) p) (mtx_pu (mtx_pu (mtx_pu (mtx_pu (mtx_pu (mtx_pu (ht) (by decide)) (by decide)) (by decide)) (by decide)) (by decide)) (by decide)) (by rw [chm_pu, chm_pu, chm_pu, chm_pu, chm_pu, chm_pu]) (by rw [m150_n (by decide), m150_s]) (by omega) (fun h59 => ?_) (fun h59 => ?_)
          · have eFt : pF (chm σ t) p = true := by rw [eF, eS]; exact decide_eq_true h59
            have eE : pE (chm σ t) p = pE1 (chm σ t) p + 1 := by unfold pE; rw [if_pos eFt, eB, eS]
            refine ⟨eFt, ?_⟩
            rw [v1]
            simp only [pu_puR, puR_puR, puR_self]
            refine congrArg (puR σ 150) ?_
            funext j
            rcases (row_5 (j := j)) with rfl | rfl | rfl | rfl | ⟨h1, h2, h3, h4⟩ <;> simp_all [upd, mfR, mf1, mf2]
          · have eFt : pF (chm σ t) p = false := by rw [eF, eS]; exact decide_eq_false h59
            have eE : pE (chm σ t) p = pE1 (chm σ t) p := by unfold pE; rw [eFt, if_neg (by decide), eB, eS]
            refine ⟨eFt, ?_⟩
            rw [v1]
            simp only [pu_puR, puR_puR, puR_self]
            refine congrArg (puR σ 150) ?_
            funext j
            rcases (row_5 (j := j)) with rfl | rfl | rfl | rfl | ⟨h1, h2, h3, h4⟩ <;> simp_all [upd, mfR, mf1, mf2]
        · refine g_aload_n h dX6_isOfForm_94 rfl ?_
          refine g_aload_n h dX6_isOfForm_95 rfl ?_
          have hm2 : mtx (pu (pu (pu (pu (pu (pu σ 150 11 (pW (chm σ t) p)) 150 14 (nI (p + (pN (chm σ t) p)))) 150 12 0) 150 13 0) 150 14 (nI (pE1 (chm σ t) p))) 150 12 (if rnOk (chm σ t) (p + (pN (chm σ t) p)) = true then rnV (chm σ t) (p + (pN (chm σ t) p)) else -1)) t := (mtx_pu (mtx_pu (mtx_pu (mtx_pu (mtx_pu (mtx_pu (ht) (by decide)) (by decide)) (by decide)) (by decide)) (by decide)) (by decide))
          have hg2 : chm (pu (pu (pu (pu (pu (pu σ 150 11 (pW (chm σ t) p)) 150 14 (nI (p + (pN (chm σ t) p)))) 150 12 0) 150 13 0) 150 14 (nI (pE1 (chm σ t) p))) 150 12 (if rnOk (chm σ t) (p + (pN (chm σ t) p)) = true then rnV (chm σ t) (p + (pN (chm σ t) p)) else -1)) t = (chm σ t) := (by rw [chm_pu, chm_pu, chm_pu, chm_pu, chm_pu, chm_pu])
          refine cl6_171 h  (ct_X6_number (e := pE1 (chm σ t) p) hm2 (by omega) (by rw [m150_n (by decide), m150_s])) rfl dX6_isOfForm_96 rfl (Nat.le_of_ble_eq_true rfl) (by decide) ?_
          refine g_top (if rnOk (chm σ t) (pE1 (chm σ t) p) = true then rnV (chm σ t) (pE1 (chm σ t) p) else -1) (by rw [hg2]) ?_
          refine g_mem (pu (pu (pu (pu (pu (pu (pu σ 150 11 (pW (chm σ t) p)) 150 14 (nI (p + (pN (chm σ t) p)))) 150 12 0) 150 13 0) 150 14 (nI (pE1 (chm σ t) p))) 150 12 (if rnOk (chm σ t) (p + (pN (chm σ t) p)) = true then rnV (chm σ t) (p + (pN (chm σ t) p)) else -1)) 150 14 (nI (pE2 (chm σ t) p))) (by rw [hg2]; rfl) ?_
          refine gp6_168 h  dX6_isOfForm_99 ?_
          refine g_aload_n h dX6_isOfForm_102 rfl ?_
          refine gf6_168 h  dX6_isOfForm_103 ?_
          refine g_top (if rnOk (chm σ t) (pE1 (chm σ t) p) = true then rnV (chm σ t) (pE1 (chm σ t) p) else -1) m150_s ?_
          refine g_iconst (v := (-1)) h dX6_isOfForm_106 (by decide) ?_
          refine g_icne h 112 dX6_isOfForm_107 (by decide) (fun c107 => ?_) (fun c107 => ?_)
          · have o2 : pO2 (chm σ t) p = true := by
              cases hb2 : pO2 (chm σ t) p with
              | true => rfl
              | false => exact absurd (num_m1.mpr hb2) c107
            have v1 : (if rnOk (chm σ t) (p + (pN (chm σ t) p)) = true then rnV (chm σ t) (p + (pN (chm σ t) p)) else -1) = pV1 (chm σ t) p := if_pos o1
            have v2 : (if rnOk (chm σ t) (pE1 (chm σ t) p) = true then rnV (chm σ t) (pE1 (chm σ t) p) else -1) = pV2 (chm σ t) p := if_pos o2
            have eS : pS (chm σ t) p = pE2 (chm σ t) p := if_neg c91
            have eF := pS_F c55 o1 (Or.inr o2)
            have eB := pS_B c55 o1
            refine g_sub [(0, ra X 150)] ⟨rfl, trivial⟩ ?_
            refine FIN (pu (pu (pu (pu (pu (pu (pu (pu σ 150 11 (pW (chm σ t) p)) 150 14 (nI (p + (pN (chm σ t) p)))) 150 12 0) 150 13 0) 150 14 (nI (pE1 (chm σ t) p))) 150 12 (if rnOk (chm σ t) (p + (pN (chm σ t) p)) = true then rnV (chm σ t) (p + (pN (chm σ t) p)) else -1)) 150 14 (nI (pE2 (chm σ t) p))) 150 13 (if rnOk (chm σ t) (pE1 (chm σ t) p) = true then rnV (chm σ t) (pE1 (chm σ t) p) else -1)) (pE2 (chm σ t) p) (mtx_pu (mtx_pu (mtx_pu (mtx_pu (mtx_pu (mtx_pu (mtx_pu (mtx_pu (ht) (by decide)) (by decide)) (by decide)) (by decide)) (by decide)) (by decide)) (by decide)) (by decide)) (by rw [chm_pu, chm_pu, chm_pu, chm_pu, chm_pu, chm_pu, chm_pu, chm_pu]) (by rw [m150_n (by decide), m150_s]) (by omega) (fun h59 => ?_) (fun h59 => ?_)
            · have eFt : pF (chm σ t) p = true := by rw [eF, eS]; exact decide_eq_true h59
              have eE : pE (chm σ t) p = pE2 (chm σ t) p + 1 := by unfold pE; rw [if_pos eFt, eB, eS]
              refine ⟨eFt, ?_⟩
              rw [v1, v2]
              simp only [pu_puR, puR_puR, puR_self]
              refine congrArg (puR σ 150) ?_
              funext j
              rcases (row_5 (j := j)) with rfl | rfl | rfl | rfl | ⟨h1, h2, h3, h4⟩ <;> simp_all [upd, mfR, mf1, mf2]
            · have eFt : pF (chm σ t) p = false := by rw [eF, eS]; exact decide_eq_false h59
              have eE : pE (chm σ t) p = pE2 (chm σ t) p := by unfold pE; rw [eFt, if_neg (by decide), eB, eS]
              refine ⟨eFt, ?_⟩
              rw [v1, v2]
              simp only [pu_puR, puR_puR, puR_self]
              refine congrArg (puR σ 150) ?_
              funext j
              rcases (row_5 (j := j)) with rfl | rfl | rfl | rfl | ⟨h1, h2, h3, h4⟩ <;> simp_all [upd, mfR, mf1, mf2]
          · have o2 : pO2 (chm σ t) p = false := num_m1.mp c107
            have v1 : (if rnOk (chm σ t) (p + (pN (chm σ t) p)) = true then rnV (chm σ t) (p + (pN (chm σ t) p)) else -1) = pV1 (chm σ t) p := if_pos o1
            obtain ⟨eF, eE⟩ := pO_2 c55 c91 o1 o2
            refine g_iconst (v := 0) h dX6_isOfForm_110 (by decide) ?_
            exact g_zret h hr (by first | rfl | exact bi_n _) dX6_isOfForm_111 (by rw [eF]; rfl) (by rw [show (if rnOk (chm σ t) (pE1 (chm σ t) p) = true then rnV (chm σ t) (pE1 (chm σ t) p) else -1) = -1 from c107, v1]; simp only [pu_puR, puR_puR, puR_self]; refine congrArg (puR σ 150) ?_; funext j; rcases (row_5 (j := j)) with rfl | rfl | rfl | rfl | ⟨h1, h2, h3, h4⟩ <;> simp_all [upd, mfR, mf1, mf2])
      · have o1 : pO1 (chm σ t) p = false := num_m1.mp c81
        obtain ⟨eF, eE⟩ := pO_1 c55 o1
        refine g_iconst (v := 0) h dX6_isOfForm_84 (by decide) ?_
        exact g_zret h hr (by first | rfl | exact bi_n _) dX6_isOfForm_85 (by rw [eF]; rfl) (by rw [show (if rnOk (chm σ t) (p + (pN (chm σ t) p)) = true then rnV (chm σ t) (p + (pN (chm σ t) p)) else -1) = -1 from c81]; simp only [pu_puR, puR_puR, puR_self]; refine congrArg (puR σ 150) ?_; funext j; rcases (row_5 (j := j)) with rfl | rfl | rfl | rfl | ⟨h1, h2, h3, h4⟩ <;> simp_all [upd, mfR, mf1, mf2])
    · obtain ⟨eF, eE⟩ := pW_m1 c55
      refine g_aload_n h dX6_isOfForm_58 rfl ?_
      refine g_aload_n h dX6_isOfForm_59 rfl ?_
      refine gf6_146 h  dX6_isOfForm_60 ?_
      refine g_top (nI p) (by rw [m150_n (by decide), m150_n (by decide), m150_n (by decide), m150_n (by decide)]; exact hb) ?_
      refine gp6_153 h  dX6_isOfForm_63 ?_
      refine g_iconst (v := 0) h dX6_isOfForm_66 (by decide) ?_
      exact g_zret h hr (by first | rfl | exact bi_n _) dX6_isOfForm_67 (by rw [eF]; rfl) (by simp only [pu_puR, puR_puR, puR_self]; refine congrArg (puR σ 150) ?_; funext j; rcases (row_5 (j := j)) with rfl | rfl | rfl | rfl | ⟨h1, h2, h3, h4⟩ <;> simp_all [upd, mfR, mf1, mf2])
  have LOOP : ∀ (q i : Nat), i + q = 80 → fstF (fun i => !ltr ((chm σ t) (p + i))) i = i → G x X σ [(0, ra X 150), (1, .int (nI i))] [] 2 := by
    intro q
    induction q with
    | zero =>
      intro i hi hfi
      have hie : i = 80 := by omega
      rw [hie] at hfi ⊢
      refine g_aload_n h dX6_isOfForm_2 rfl ?_
      refine g_aload_n h dX6_isOfForm_3 rfl ?_
      refine gf6_146 h  dX6_isOfForm_4 ?_
      refine g_iload_n h dX6_isOfForm_7 rfl ?_
      refine g_iadd h dX6_isOfForm_8 ?_
      refine g_top (nI (p + 80)) (by rw [hb]; exact nI_add p 80) ?_
      refine cl6_156 h  (ct_X6_isLetter (p := p + 80) ht (by omega)) rfl dX6_isOfForm_9 rfl (Nat.le_of_ble_eq_true rfl) (by decide) ?_
      refine g_ifeqB h 21 dX6_isOfForm_12 (by decide) (fun c12 => ?_) (fun c12 => absurd c12 (by unfold chm; rw [if_neg (by omega)]; decide))
      have eN : pN (chm σ t) p = 80 := hfi
      rw [← eN]
      exact TAIL
    | succ q ih =>
      intro i hi hfi
      have hlt : i < 80 := by omega
      refine g_aload_n h dX6_isOfForm_2 rfl ?_
      refine g_aload_n h dX6_isOfForm_3 rfl ?_
      refine gf6_146 h  dX6_isOfForm_4 ?_
      refine g_iload_n h dX6_isOfForm_7 rfl ?_
      refine g_iadd h dX6_isOfForm_8 ?_
      refine g_top (nI (p + i)) (by rw [hb]; exact nI_add p i) ?_
      refine cl6_156 h  (ct_X6_isLetter (p := p + i) ht (by omega)) rfl dX6_isOfForm_9 rfl (Nat.le_of_ble_eq_true rfl) (by decide) ?_
      refine g_ifeqB h 21 dX6_isOfForm_12 (by decide) (fun c12 => ?_) (fun c12 => ?_)
      · have eN : pN (chm σ t) p = i := by unfold pN lrn0; exact fstF_at (p := (fun i => !ltr ((chm σ t) (p + i)))) hfi (by rw [c12]; rfl) hlt
        rw [← eN]
        exact TAIL
      · refine g_iincN h dX6_isOfForm_15 rfl (by rw [hL]; decide) ?_
        refine g_goto h 2 dX6_isOfForm_18 (by decide) ?_
        refine g_sub [(0, ra X 150), (1, .int (nI (i + 1)))] ⟨rfl, rfl, trivial⟩ ?_
        exact ih (i + 1) (by omega) (fstF_no hfi (by rw [c12]; decide))
  refine g_iconst (v := 0) h dX6_isOfForm_0 (by decide) ?_
  refine g_istore_n h dX6_isOfForm_1 (by rw [hL]; decide) ?_
  refine g_sub [(0, ra X 150), (1, .int (nI 0))] ⟨rfl, lk_0, trivial⟩ ?_
  exact LOOP 80 0 (by omega) rfl