/-! the model: orders are read, done -/
/-- the model's ints behind an order that is read -/
def mroR (f g : Nat → Int32) (p : Nat) : Nat → Int32 := if pF g p = false then upd (upd (mfR (upd f 15 0) g p) 15 1) 16 (nI (pE g p) - nI p) else if crR (pW g p) (pV1 g p) (pV2 g p) = 0 then mfR (upd f 15 0) g p else upd (upd (mfR (upd f 15 0) g p) 15 2) 16 (crC (pW g p) (pV1 g p) (pV2 g p))
theorem mfR_n {f g : Nat → Int32} {p j : Nat} (h : ¬ (11 ≤ j ∧ j ≤ 14)) : mfR f g p j = f j := by
  unfold mfR
  rw [upd_n _ _ _ _ (by omega), upd_n _ _ _ _ (by omega), upd_n _ _ _ _ (by omega), upd_n _ _ _ _ (by omega)]
theorem mfR_v (f g : Nat → Int32) (p : Nat) : mfR f g p 11 = pW g p ∧ mfR f g p 12 = mf1 g p ∧ mfR f g p 13 = mf2 g p ∧ mfR f g p 14 = nI (pE g p) := by
  unfold mfR
  refine ⟨?_, ?_, ?_, ?_⟩
  · rw [upd_n _ _ _ _ (by decide), upd_n _ _ _ _ (by decide), upd_n _ _ _ _ (by decide), upd_s]
  · rw [upd_n _ _ _ _ (by decide), upd_s]
  · rw [upd_s]
  · rw [upd_n _ _ _ _ (by decide), upd_n _ _ _ _ (by decide), upd_s]
theorem mroR_n {f g : Nat → Int32} {p j : Nat} (h : j < 11 ∨ 16 < j) : mroR f g p j = f j := by
  unfold mroR
  split
  · rw [upd_n _ _ _ _ (by omega), upd_n _ _ _ _ (by omega), mfR_n (by omega), upd_n _ _ _ _ (by omega)]
  · split
    · rw [mfR_n (by omega), upd_n _ _ _ _ (by omega)]
    · rw [upd_n _ _ _ _ (by omega), upd_n _ _ _ _ (by omega), mfR_n (by omega), upd_n _ _ _ _ (by omega)]
theorem mroR_v (f g : Nat → Int32) (p : Nat) : mroR f g p 11 = pW g p ∧ mroR f g p 12 = mf1 g p ∧ mroR f g p 13 = mf2 g p ∧ mroR f g p 14 = nI (pE g p) ∧ mroR f g p 15 = pR g p ∧ (¬ pR g p = 0 → pW g p = -1 ∨ True → mroR f g p 16 = if pF g p = false then nI (pE g p) - nI p else crC (pW g p) (pV1 g p) (pV2 g p)) := by
  obtain ⟨a1, a2, a3, a4⟩ := mfR_v (upd f 15 0) g p
  unfold mroR
  cases hF : pF g p with
  | false =>
    rw [if_pos rfl]
    have eR : pR g p = 1 := by unfold pR; rw [hF]; rfl
    rw [eR]
    refine ⟨?_, ?_, ?_, ?_, ?_, fun _ _ => ?_⟩
    · rw [upd_n _ _ _ _ (by decide), upd_n _ _ _ _ (by decide)]; exact a1
    · rw [upd_n _ _ _ _ (by decide), upd_n _ _ _ _ (by decide)]; exact a2
    · rw [upd_n _ _ _ _ (by decide), upd_n _ _ _ _ (by decide)]; exact a3
    · rw [upd_n _ _ _ _ (by decide), upd_n _ _ _ _ (by decide)]; exact a4
    · rw [upd_n _ _ _ _ (by decide), upd_s]
    · rw [upd_s, if_pos rfl]
  | true =>
    rw [if_neg (by decide)]
    have eR : pR g p = crR (pW g p) (pV1 g p) (pV2 g p) := by unfold pR; rw [hF, if_pos rfl]
    have h02 : crR (pW g p) (pV1 g p) (pV2 g p) = 0 ∨ crR (pW g p) (pV1 g p) (pV2 g p) = 2 := by
      unfold crR
      split
      · split <;> simp
      · split
        · simp
        · split <;> simp
    rw [eR]
    by_cases h0 : crR (pW g p) (pV1 g p) (pV2 g p) = 0
    · rw [if_pos h0, h0]
      exact ⟨a1, a2, a3, a4, by rw [mfR_n (by decide), upd_s], fun q => absurd rfl q⟩
    · rw [if_neg h0, h02.resolve_left h0]
      refine ⟨?_, ?_, ?_, ?_, ?_, fun _ _ => ?_⟩
      · rw [upd_n _ _ _ _ (by decide), upd_n _ _ _ _ (by decide)]; exact a1
      · rw [upd_n _ _ _ _ (by decide), upd_n _ _ _ _ (by decide)]; exact a2
      · rw [upd_n _ _ _ _ (by decide), upd_n _ _ _ _ (by decide)]; exact a3
      · rw [upd_n _ _ _ _ (by decide), upd_n _ _ _ _ (by decide)]; exact a4
      · rw [upd_n _ _ _ _ (by decide), upd_s]
      · rw [upd_s, if_neg (by decide)]
theorem isA_ge {v : Nat} (hv : v < 2 ^ 31) (h : (64 : Int32) ≤ nI v) : isA (nI v) = false := by
  have h2 : 64 ≤ v := (nI_leI (a := 64) (by decide) hv).mp h
  unfold isA wi
  rw [decide_eq_true (show (63 : Int32) < nI v from nI_lt (a := 63) (by omega) hv)]
  simp
theorem isA_lt {v : Nat} (hv : v < 2 ^ 31) (h : ¬ (64 : Int32) ≤ nI v) : isA (nI v) = true := by
  have h2 : v < 64 := Nat.not_le.mp (fun q => h (nI_le (a := 64) q hv))
  exact wi_of.mpr ⟨nI_pos hv, (nI_nlt (a := 63) (b := v) (by omega) (by decide) : ¬ (63 : Int32) < nI v)⟩
theorem wi50_ge {v : Nat} (h : (50 : Int32) < nI v) : wi (nI v) 0 50 = false := by
  unfold wi
  rw [decide_eq_true h]
  simp

set_option maxRecDepth 100000 in
set_option maxHeartbeats 4000000 in
theorem ct_X6_readsOrder {l : Launch} {X : fX} {σ : fM} {t : Nat} (ht : mtx σ t) {p : Nat} (hp : p < 2 ^ 16) (hb : σ.1 150 10 = nI p) : Ct l X yX6_readsOrder cX6_readsOrder 3 (some .boolean) 4 [ra X 150] σ (some (.int (bi (decide (pR (chm σ t) p = 0))))) (puR σ 150 (mroR (σ.1 150) (chm σ t) p)) := by
  refine Ct.of RX6 rfl (by decide) (Nat.le_of_ble_eq_true rfl) ?_
  intro x hL h hr
  refine g_sub [(0, ra X 150)] ⟨rfl, trivial⟩ ?_
  refine g_aload_n h dX6_readsOrder_0 rfl ?_
  refine g_iconst (v := 0) h dX6_readsOrder_1 (by decide) ?_
  refine gp6_175 h  dX6_readsOrder_2 ?_
  refine g_aload_n h dX6_readsOrder_5 rfl ?_
  refine g_mem (puR σ 150 (upd (σ.1 150) 15 0)) (pu_puR _ _ _ _) ?_
  refine cl6_178 h  (ct_X6_isOfForm (p := p) (t := t) ⟨by rw [puR_self, upd_n _ _ _ _ (by decide)]; exact ht.1, ht.2⟩ hp (by rw [puR_self, upd_n _ _ _ _ (by decide)]; exact hb)) rfl dX6_readsOrder_6 rfl (Nat.le_of_ble_eq_true rfl) (by decide) ?_
  have hgc : chm (puR σ 150 (upd (σ.1 150) 15 0)) t = (chm σ t) := by funext q; unfold chm; rw [puR_ne _ (by decide)]
  refine g_top (bi (pF (chm σ t) p)) (by rw [hgc]) ?_
  refine g_mem (puR σ 150 (mfR (upd (σ.1 150) 15 0) (chm σ t) p)) (by rw [hgc, puR_puR, puR_self]) ?_
  refine g_ifneB h 32 dX6_readsOrder_9 (by decide) (fun c9 => ?_) (fun c9 => ?_)
  · have hF : pF (chm σ t) p = true := c9
    obtain ⟨hw, o1, o2⟩ := pF_ok hF
    have e1 : mf1 (chm σ t) p = pV1 (chm σ t) p := by unfold mf1; rw [if_neg hw, if_pos o1]
    obtain ⟨v, hv, ev⟩ := rnV_v (show rnOk (chm σ t) (p + pN (chm σ t) p) = true from o1)
    have ev : pV1 (chm σ t) p = nI v := ev
    refine g_aload_n h dX6_readsOrder_32 rfl ?_
    refine gf6_162 h  dX6_readsOrder_33 ?_
    refine g_top (pW (chm σ t) p) (by rw [puR_self]; exact (mfR_v _ _ _).1) ?_
    refine g_iconst (v := 4) h dX6_readsOrder_36 (by decide) ?_
    refine g_icne h 57 dX6_readsOrder_37 (by decide) (fun c37 => ?_) (fun c37 => ?_)
    · refine g_aload_n h dX6_readsOrder_57 rfl ?_
      refine gf6_165 h  dX6_readsOrder_58 ?_
      refine g_top (nI v) (by rw [puR_self]; exact ((mfR_v _ _ _).2.1.trans e1).trans ev) ?_
      refine g_bipush (v := 64) h dX6_readsOrder_61 (by decide) ?_
      refine g_icge h 70 dX6_readsOrder_63 (by decide) (fun c63 => ?_) (fun c63 => ?_)
      · have e63 : isA (pV1 (chm σ t) p) = false := by rw [ev]; exact isA_ge (by omega) c63
        refine g_iconst (v := 0) h dX6_readsOrder_70 (by decide) ?_
        refine g_istore_n h dX6_readsOrder_71 (by rw [hL]; decide) ?_
        refine g_aload_n h dX6_readsOrder_72 rfl ?_
        refine gf6_162 h  dX6_readsOrder_73 ?_
        refine g_top (pW (chm σ t) p) (by rw [puR_self]; exact (mfR_v _ _ _).1) ?_
        refine g_iconst (v := 4) h dX6_readsOrder_76 (by decide) ?_
        refine g_iceq h 93 dX6_readsOrder_77 (by decide) (fun c77 => absurd c77 c37) (fun c77 => ?_)
        refine g_aload_n h dX6_readsOrder_80 rfl ?_
        refine gf6_168 h  dX6_readsOrder_81 ?_
        have o2t := o2.resolve_left c37
        refine g_top (pV2 (chm σ t) p) (by rw [puR_self]; exact (mfR_v _ _ _).2.2.1.trans (by unfold mf2; rw [if_neg hw, if_neg (by rw [o1]; decide), if_neg c37, if_pos o2t])) ?_
        refine g_iconst (v := 1) h dX6_readsOrder_84 (by decide) ?_
        refine g_bipush (v := 40) h dX6_readsOrder_85 (by decide) ?_
        refine cl6_42 h ct_X6_within rfl dX6_readsOrder_87 rfl (Nat.le_of_ble_eq_true rfl) (by decide) ?_
        refine g_ifeqB h 97 dX6_readsOrder_90 (by decide) (fun c90 => ?_) (fun c90 => ?_)
        · refine g_iconst (v := 0) h dX6_readsOrder_97 (by decide) ?_
          refine g_istore_n h dX6_readsOrder_98 (by rw [hL]; decide) ?_
          refine g_iload_n h dX6_readsOrder_99 rfl ?_
          refine g_ifeq h 107 dX6_readsOrder_100 (by decide) (fun c100 => ?_) (fun c100 => absurd rfl c100)
          refine g_aload_n h dX6_readsOrder_107 rfl ?_
          refine g_iconst (v := 2) h dX6_readsOrder_108 (by decide) ?_
          refine gp6_175 h  dX6_readsOrder_109 ?_
          refine g_aload_n h dX6_readsOrder_112 rfl ?_
          refine g_iload_n h dX6_readsOrder_113 rfl ?_
          refine g_ifeq h 121 dX6_readsOrder_114 (by decide) (fun c114 => ?_) (fun c114 => absurd rfl c114)
          refine g_iconst (v := 0) h dX6_readsOrder_121 (by decide) ?_
          refine gp6_182 h  dX6_readsOrder_122 ?_
          refine g_iconst (v := 0) h dX6_readsOrder_125 (by decide) ?_
          have hcr : crR (pW (chm σ t) p) (pV1 (chm σ t) p) (pV2 (chm σ t) p) = 2 := by
            unfold crR; rw [if_neg c37, e63, if_pos rfl]
          have hR : pR (chm σ t) p = 2 := by unfold pR; rw [if_pos hF, hcr]
          have hcc : crC (pW (chm σ t) p) (pV1 (chm σ t) p) (pV2 (chm σ t) p) = 0 := by
            unfold crC; rw [if_neg c37, e63, if_pos rfl]
          exact g_zret h hr (by first | rfl | exact bi_n _) dX6_readsOrder_126 (by rw [hR]; rfl) (by unfold mroR; rw [if_neg (by rw [hF]; decide), if_neg (by rw [hcr]; decide), hcc]; simp only [pu_puR, puR_puR, puR_self])
        · refine g_iconst (v := 1) h dX6_readsOrder_93 (by decide) ?_
          refine g_goto h 98 dX6_readsOrder_94 (by decide) ?_
          refine g_istore_n h dX6_readsOrder_98 (by rw [hL]; decide) ?_
          refine g_iload_n h dX6_readsOrder_99 rfl ?_
          refine g_ifeq h 107 dX6_readsOrder_100 (by decide) (fun c100 => ?_) (fun c100 => absurd rfl c100)
          refine g_aload_n h dX6_readsOrder_107 rfl ?_
          refine g_iconst (v := 2) h dX6_readsOrder_108 (by decide) ?_
          refine gp6_175 h  dX6_readsOrder_109 ?_
          refine g_aload_n h dX6_readsOrder_112 rfl ?_
          refine g_iload_n h dX6_readsOrder_113 rfl ?_
          refine g_ifeq h 121 dX6_readsOrder_114 (by decide) (fun c114 => ?_) (fun c114 => absurd rfl c114)
          refine g_iconst (v := 0) h dX6_readsOrder_121 (by decide) ?_
          refine gp6_182 h  dX6_readsOrder_122 ?_
          refine g_iconst (v := 0) h dX6_readsOrder_125 (by decide) ?_
          have hcr : crR (pW (chm σ t) p) (pV1 (chm σ t) p) (pV2 (chm σ t) p) = 2 := by
            unfold crR; rw [if_neg c37, e63, if_pos rfl]
          have hR : pR (chm σ t) p = 2 := by unfold pR; rw [if_pos hF, hcr]
          have hcc : crC (pW (chm σ t) p) (pV1 (chm σ t) p) (pV2 (chm σ t) p) = 0 := by
            unfold crC; rw [if_neg c37, e63, if_pos rfl]
          exact g_zret h hr (by first | rfl | exact bi_n _) dX6_readsOrder_126 (by rw [hR]; rfl) (by unfold mroR; rw [if_neg (by rw [hF]; decide), if_neg (by rw [hcr]; decide), hcc]; simp only [pu_puR, puR_puR, puR_self])
      · have e63 : isA (pV1 (chm σ t) p) = true := by rw [ev]; exact isA_lt (by omega) c63
        refine g_iconst (v := 1) h dX6_readsOrder_66 (by decide) ?_
        refine g_goto h 71 dX6_readsOrder_67 (by decide) ?_
        refine g_istore_n h dX6_readsOrder_71 (by rw [hL]; decide) ?_
        refine g_aload_n h dX6_readsOrder_72 rfl ?_
        refine gf6_162 h  dX6_readsOrder_73 ?_
        refine g_top (pW (chm σ t) p) (by rw [puR_self]; exact (mfR_v _ _ _).1) ?_
        refine g_iconst (v := 4) h dX6_readsOrder_76 (by decide) ?_
        refine g_iceq h 93 dX6_readsOrder_77 (by decide) (fun c77 => absurd c77 c37) (fun c77 => ?_)
        refine g_aload_n h dX6_readsOrder_80 rfl ?_
        refine gf6_168 h  dX6_readsOrder_81 ?_
        have o2t := o2.resolve_left c37
        refine g_top (pV2 (chm σ t) p) (by rw [puR_self]; exact (mfR_v _ _ _).2.2.1.trans (by unfold mf2; rw [if_neg hw, if_neg (by rw [o1]; decide), if_neg c37, if_pos o2t])) ?_
        refine g_iconst (v := 1) h dX6_readsOrder_84 (by decide) ?_
        refine g_bipush (v := 40) h dX6_readsOrder_85 (by decide) ?_
        refine cl6_42 h ct_X6_within rfl dX6_readsOrder_87 rfl (Nat.le_of_ble_eq_true rfl) (by decide) ?_
        refine g_ifeqB h 97 dX6_readsOrder_90 (by decide) (fun c90 => ?_) (fun c90 => ?_)
        · refine g_iconst (v := 0) h dX6_readsOrder_97 (by decide) ?_
          refine g_istore_n h dX6_readsOrder_98 (by rw [hL]; decide) ?_
          refine g_iload_n h dX6_readsOrder_99 rfl ?_
          refine g_ifeq h 107 dX6_readsOrder_100 (by decide) (fun c100 => absurd c100 (by decide)) (fun c100 => ?_)
          refine g_iload_n h dX6_readsOrder_103 rfl ?_
          refine g_ifne h 127 dX6_readsOrder_104 (by decide) (fun c104 => absurd rfl c104) (fun c104 => ?_)
          refine g_aload_n h dX6_readsOrder_107 rfl ?_
          refine g_iconst (v := 2) h dX6_readsOrder_108 (by decide) ?_
          refine gp6_175 h  dX6_readsOrder_109 ?_
          refine g_aload_n h dX6_readsOrder_112 rfl ?_
          refine g_iload_n h dX6_readsOrder_113 rfl ?_
          refine g_ifeq h 121 dX6_readsOrder_114 (by decide) (fun c114 => absurd c114 (by decide)) (fun c114 => ?_)
          refine g_iconst (v := 1) h dX6_readsOrder_117 (by decide) ?_
          refine g_goto h 122 dX6_readsOrder_118 (by decide) ?_
          refine gp6_182 h  dX6_readsOrder_122 ?_
          refine g_iconst (v := 0) h dX6_readsOrder_125 (by decide) ?_
          have hcr : crR (pW (chm σ t) p) (pV1 (chm σ t) p) (pV2 (chm σ t) p) = 2 := by
            unfold crR; rw [if_neg c37, e63, if_neg (by decide), c90]; rfl
          have hR : pR (chm σ t) p = 2 := by unfold pR; rw [if_pos hF, hcr]
          have hcc : crC (pW (chm σ t) p) (pV1 (chm σ t) p) (pV2 (chm σ t) p) = 1 := by
            unfold crC; rw [if_neg c37, e63, if_neg (by decide), c90]; rfl
          exact g_zret h hr (by first | rfl | exact bi_n _) dX6_readsOrder_126 (by rw [hR]; rfl) (by unfold mroR; rw [if_neg (by rw [hF]; decide), if_neg (by rw [hcr]; decide), hcc]; simp only [pu_puR, puR_puR, puR_self])
        · refine g_iconst (v := 1) h dX6_readsOrder_93 (by decide) ?_
          refine g_goto h 98 dX6_readsOrder_94 (by decide) ?_
          refine g_istore_n h dX6_readsOrder_98 (by rw [hL]; decide) ?_
          refine g_iload_n h dX6_readsOrder_99 rfl ?_
          refine g_ifeq h 107 dX6_readsOrder_100 (by decide) (fun c100 => absurd c100 (by decide)) (fun c100 => ?_)
          refine g_iload_n h dX6_readsOrder_103 rfl ?_
          refine g_ifne h 127 dX6_readsOrder_104 (by decide) (fun c104 => ?_) (fun c104 => absurd c104 (by decide))
          refine g_iconst (v := 1) h dX6_readsOrder_127 (by decide) ?_
          have hcr : crR (pW (chm σ t) p) (pV1 (chm σ t) p) (pV2 (chm σ t) p) = 0 := by
            unfold crR; rw [if_neg c37, e63, if_neg (by decide), c90]; rfl
          have hR : pR (chm σ t) p = 0 := by unfold pR; rw [if_pos hF, hcr]
          exact g_zret h hr (by first | rfl | exact bi_n _) dX6_readsOrder_128 (by rw [hR]; rfl) (by unfold mroR; rw [if_neg (by rw [hF]; decide), if_pos hcr])
    · refine g_aload_n h dX6_readsOrder_40 rfl ?_
      refine gf6_165 h  dX6_readsOrder_41 ?_
      refine g_top (nI v) (by rw [puR_self]; exact ((mfR_v _ _ _).2.1.trans e1).trans ev) ?_
      refine g_bipush (v := 50) h dX6_readsOrder_44 (by decide) ?_
      refine g_icgt h 53 dX6_readsOrder_46 (by decide) (fun c46 => ?_) (fun c46 => ?_)
      · have e46 : wi (pV1 (chm σ t) p) 0 50 = false := by rw [ev]; exact wi50_ge c46
        refine g_iconst (v := 0) h dX6_readsOrder_53 (by decide) ?_
        refine g_goto h 71 dX6_readsOrder_54 (by decide) ?_
        refine g_istore_n h dX6_readsOrder_71 (by rw [hL]; decide) ?_
        refine g_aload_n h dX6_readsOrder_72 rfl ?_
        refine gf6_162 h  dX6_readsOrder_73 ?_
        refine g_top (pW (chm σ t) p) (by rw [puR_self]; exact (mfR_v _ _ _).1) ?_
        refine g_iconst (v := 4) h dX6_readsOrder_76 (by decide) ?_
        refine g_iceq h 93 dX6_readsOrder_77 (by decide) (fun c77 => ?_) (fun c77 => absurd c37 c77)
        refine g_iconst (v := 1) h dX6_readsOrder_93 (by decide) ?_
        refine g_goto h 98 dX6_readsOrder_94 (by decide) ?_
        refine g_istore_n h dX6_readsOrder_98 (by rw [hL]; decide) ?_
        refine g_iload_n h dX6_readsOrder_99 rfl ?_
        refine g_ifeq h 107 dX6_readsOrder_100 (by decide) (fun c100 => ?_) (fun c100 => absurd rfl c100)
        refine g_aload_n h dX6_readsOrder_107 rfl ?_
        refine g_iconst (v := 2) h dX6_readsOrder_108 (by decide) ?_
        refine gp6_175 h  dX6_readsOrder_109 ?_
        refine g_aload_n h dX6_readsOrder_112 rfl ?_
        refine g_iload_n h dX6_readsOrder_113 rfl ?_
        refine g_ifeq h 121 dX6_readsOrder_114 (by decide) (fun c114 => ?_) (fun c114 => absurd rfl c114)
        refine g_iconst (v := 0) h dX6_readsOrder_121 (by decide) ?_
        refine gp6_182 h  dX6_readsOrder_122 ?_
        refine g_iconst (v := 0) h dX6_readsOrder_125 (by decide) ?_
        have hcr : crR (pW (chm σ t) p) (pV1 (chm σ t) p) (pV2 (chm σ t) p) = 2 := by
          unfold crR; rw [if_pos c37, e46]; rfl
        have hR : pR (chm σ t) p = 2 := by unfold pR; rw [if_pos hF, hcr]
        have hcc : crC (pW (chm σ t) p) (pV1 (chm σ t) p) (pV2 (chm σ t) p) = 0 := by
          unfold crC; rw [if_pos c37]
        exact g_zret h hr (by first | rfl | exact bi_n _) dX6_readsOrder_126 (by rw [hR]; rfl) (by unfold mroR; rw [if_neg (by rw [hF]; decide), if_neg (by rw [hcr]; decide), hcc]; simp only [pu_puR, puR_puR, puR_self])
      · have e46 : wi (pV1 (chm σ t) p) 0 50 = true := by rw [ev]; exact wi_of.mpr ⟨nI_pos (by omega), c46⟩
        refine g_iconst (v := 1) h dX6_readsOrder_49 (by decide) ?_
        refine g_goto h 71 dX6_readsOrder_50 (by decide) ?_
        refine g_istore_n h dX6_readsOrder_71 (by rw [hL]; decide) ?_
        refine g_aload_n h dX6_readsOrder_72 rfl ?_
        refine gf6_162 h  dX6_readsOrder_73 ?_
        refine g_top (pW (chm σ t) p) (by rw [puR_self]; exact (mfR_v _ _ _).1) ?_
        refine g_iconst (v := 4) h dX6_readsOrder_76 (by decide) ?_
        refine g_iceq h 93 dX6_readsOrder_77 (by decide) (fun c77 => ?_) (fun c77 => absurd c37 c77)
        refine g_iconst (v := 1) h dX6_readsOrder_93 (by decide) ?_
        refine g_goto h 98 dX6_readsOrder_94 (by decide) ?_
        refine g_istore_n h dX6_readsOrder_98 (by rw [hL]; decide) ?_
        refine g_iload_n h dX6_readsOrder_99 rfl ?_
        refine g_ifeq h 107 dX6_readsOrder_100 (by decide) (fun c100 => absurd c100 (by decide)) (fun c100 => ?_)
        refine g_iload_n h dX6_readsOrder_103 rfl ?_
        refine g_ifne h 127 dX6_readsOrder_104 (by decide) (fun c104 => ?_) (fun c104 => absurd c104 (by decide))
        refine g_iconst (v := 1) h dX6_readsOrder_127 (by decide) ?_
        have hcr : crR (pW (chm σ t) p) (pV1 (chm σ t) p) (pV2 (chm σ t) p) = 0 := by
          unfold crR; rw [if_pos c37, e46]; rfl
        have hR : pR (chm σ t) p = 0 := by unfold pR; rw [if_pos hF, hcr]
        exact g_zret h hr (by first | rfl | exact bi_n _) dX6_readsOrder_128 (by rw [hR]; rfl) (by unfold mroR; rw [if_neg (by rw [hF]; decide), if_pos hcr])
  · have hF : pF (chm σ t) p = false := c9
    refine g_aload_n h dX6_readsOrder_12 rfl ?_
    refine g_iconst (v := 1) h dX6_readsOrder_13 (by decide) ?_
    refine gp6_175 h  dX6_readsOrder_14 ?_
    refine g_aload_n h dX6_readsOrder_17 rfl ?_
    refine g_aload_n h dX6_readsOrder_18 rfl ?_
    refine gf6_153 h  dX6_readsOrder_19 ?_
    refine g_top (nI (pE (chm σ t) p)) (by rw [pu_puR, puR_self, puR_self, upd_n _ _ _ _ (by decide)]; exact (mfR_v _ _ _).2.2.2) ?_
    refine g_aload_n h dX6_readsOrder_22 rfl ?_
    refine gf6_146 h  dX6_readsOrder_23 ?_
    refine g_top (nI p) (by rw [pu_puR, puR_self, puR_self, upd_n _ _ _ _ (by decide), mfR_n (by decide), upd_n _ _ _ _ (by decide)]; exact hb) ?_
    refine g_isub h dX6_readsOrder_26 ?_
    refine gp6_182 h  dX6_readsOrder_27 ?_
    refine g_iconst (v := 0) h dX6_readsOrder_30 (by decide) ?_
    exact g_zret h hr (by first | rfl | exact bi_n _) dX6_readsOrder_31 (by unfold pR; rw [hF]; rfl) (by unfold mroR; rw [if_pos hF]; simp only [pu_puR, puR_puR, puR_self])


/-- the model's ints behind i orders -/
def mhR (f g : Nat → Int32) : Nat → Nat → Int32
  | 0 => upd f 10 0
  | i + 1 => upd (mroR (mhR f g i) g (ps g i)) 10 (nI (ps g (i + 1)))
theorem mhR_10 (f g : Nat → Int32) : ∀ i, mhR f g i 10 = nI (ps g i)
  | 0 => upd_s _ _ _
  | i + 1 => upd_s _ _ _
theorem mhR_n {f g : Nat → Int32} {j : Nat} (h : j < 10 ∨ 16 < j) : ∀ i, mhR f g i j = f j
  | 0 => upd_n _ _ _ _ (by omega)
  | i + 1 => by
    show upd _ 10 _ j = _
    rw [upd_n _ _ _ _ (by omega), mroR_n (by omega)]
    exact mhR_n h i
def mhfR (f g : Nat → Int32) (t : Nat) : Nat → Int32 := if hasF g t = true then mroR (mhR f g (fti g t)) g (ps g (fti g t)) else mhR f g (fti g t)
theorem mhfR_n {f g : Nat → Int32} {t j : Nat} (h : j < 10 ∨ 16 < j) : mhfR f g t j = f j := by
  unfold mhfR
  split
  · rw [mroR_n (by omega)]; exact mhR_n h _
  · exact mhR_n h _
theorem upd_id (f : Nat → Int32) (j : Nat) : upd f j (f j) = f := by
  funext q
  unfold upd
  split
  · rename_i h; rw [h]
  · rfl
theorem mhfR_10 {f g : Nat → Int32} {t : Nat} : mhfR f g t 10 = nI (ps g (fti g t)) := by
  unfold mhfR
  split
  · rw [mroR_n (by decide)]; exact mhR_10 f g _
  · exact mhR_10 f g _

set_option maxRecDepth 100000 in
set_option maxHeartbeats 4000000 in
theorem ct_X6_hasFault {l : Launch} {X : fX} {σ : fM} {t : Nat} (ht : mtx σ t)  : Ct l X yX6_hasFault cX6_hasFault 2 (some .boolean) 5 [ra X 150] σ (some (.int (bi (hasF (chm σ t) t)))) (puR σ 150 (mhfR (σ.1 150) (chm σ t) t)) := by
  refine Ct.of RX6 rfl (by decide) (Nat.le_of_ble_eq_true rfl) ?_
  intro x hL h hr
  refine g_sub [(0, ra X 150)] ⟨rfl, trivial⟩ ?_
  have h80 := ht.2
  have OUT : ∀ (τ : fM) (z : Int32), z = bi (hasF (chm σ t) t) → τ = puR σ 150 (mhfR (σ.1 150) (chm σ t) t) → ¬ z = 0 → G x X τ [(0, ra X 150), (1, .int z)] [] 7 := by
    intro τ z hv hm hz1
    refine g_iload_n h dX6_hasFault_7 rfl ?_
    refine g_ifne h 57 dX6_hasFault_8 (by decide) (fun c8 => ?_) (fun c8 => absurd c8 hz1)
    refine g_iload_n h dX6_hasFault_57 rfl ?_
    exact g_zret h hr (by rw [hv]; exact bi_n _) dX6_hasFault_58 hv hm
  have LOOP : ∀ (q i : Nat), i + q = 80 → fstF (psQ (chm σ t) t) i = i → G x X (puR σ 150 (mhR (σ.1 150) (chm σ t) i)) [(0, ra X 150), (1, .int 0)] [] 7 := by
    intro q
    induction q with
    | zero =>
      intro i hi hfi
      have hie : i = 80 := by omega
      rw [hie] at hfi ⊢
      have hpl := ps_le (chm σ t) 80
      have h80 := ps_ge hfi
      have hpt80 : t ≤ ps (chm σ t) 80 := by omega
      have e80 : fti (chm σ t) t = 80 := fstF_at (p := psQ (chm σ t) t) hfi (by unfold psQ; rw [decide_eq_true hpt80]; rfl) (by decide)
      refine g_iload_n h dX6_hasFault_7 rfl ?_
      refine g_ifne h 57 dX6_hasFault_8 (by decide) (fun c8 => absurd rfl c8) (fun c8 => ?_)
      refine g_aload_n h dX6_hasFault_11 rfl ?_
      refine gf6_146 h  dX6_hasFault_12 ?_
      refine g_top (nI (ps (chm σ t) 80)) (by rw [puR_self]; exact mhR_10 _ _ _) ?_
      refine g_aload_n h dX6_hasFault_15 rfl ?_
      refine gf6_140 h  dX6_hasFault_16 ?_
      refine g_top (nI t) (by rw [puR_self, mhR_n (by decide)]; exact ht.1) ?_
      refine g_icge h 57 dX6_hasFault_19 (by decide) (fun c19 => ?_) (fun c19 => absurd (nI_le hpt80 (by omega)) c19)
      refine g_iload_n h dX6_hasFault_57 rfl ?_
      exact g_zret h hr (by first | rfl | exact bi_n _) dX6_hasFault_58 (by unfold hasF; rw [e80, decide_eq_false (Nat.not_lt.mpr hpt80)]; rfl) (by unfold mhfR hasF; rw [e80, decide_eq_false (Nat.not_lt.mpr hpt80), if_neg (by decide)])
    | succ q ih =>
      intro i hi hfi
      have hlt : i < 80 := by omega
      have hx : mtx (puR σ 150 (mhR (σ.1 150) (chm σ t) i)) t := ⟨by rw [puR_self, mhR_n (by decide)]; exact ht.1, ht.2⟩
      have hgc : chm (puR σ 150 (mhR (σ.1 150) (chm σ t) i)) t = (chm σ t) := by funext q; unfold chm; rw [puR_ne _ (by decide)]
      have hpl := ps_le (chm σ t) i
      refine g_iload_n h dX6_hasFault_7 rfl ?_
      refine g_ifne h 57 dX6_hasFault_8 (by decide) (fun c8 => absurd rfl c8) (fun c8 => ?_)
      refine g_aload_n h dX6_hasFault_11 rfl ?_
      refine gf6_146 h  dX6_hasFault_12 ?_
      refine g_top (nI (ps (chm σ t) i)) (by rw [puR_self]; exact mhR_10 _ _ _) ?_
      refine g_aload_n h dX6_hasFault_15 rfl ?_
      refine gf6_140 h  dX6_hasFault_16 ?_
      refine g_top (nI t) (by rw [puR_self, mhR_n (by decide)]; exact ht.1) ?_
      refine g_icge h 57 dX6_hasFault_19 (by decide) (fun c19 => ?_) (fun c19 => ?_)
      · have hpt : t ≤ ps (chm σ t) i := (nI_leI (by omega) (by omega)).mp c19
        have eN : fti (chm σ t) t = i := fstF_at (p := psQ (chm σ t) t) hfi (by unfold psQ; rw [decide_eq_true hpt]; rfl) (by omega)
        refine g_iload_n h dX6_hasFault_57 rfl ?_
        exact g_zret h hr (by first | rfl | exact bi_n _) dX6_hasFault_58 (by unfold hasF; rw [eN, decide_eq_false (Nat.not_lt.mpr hpt)]; rfl) (by unfold mhfR hasF; rw [eN, decide_eq_false (Nat.not_lt.mpr hpt), if_neg (by decide)])
      · have hpt : ps (chm σ t) i < t := Nat.not_le.mp (fun q => c19 (nI_le q (by omega)))
        refine g_aload_n h dX6_hasFault_22 rfl ?_
        refine cl6_185 h  (ct_X6_readsOrder (p := ps (chm σ t) i) hx (by omega) (by rw [puR_self]; exact mhR_10 _ _ _)) rfl dX6_hasFault_23 rfl (Nat.le_of_ble_eq_true rfl) (by decide) ?_
        refine g_top (bi (decide (pR (chm σ t) (ps (chm σ t) i) = 0))) (by rw [hgc]) ?_
        refine g_mem (puR σ 150 (mroR (mhR (σ.1 150) (chm σ t) i) (chm σ t) (ps (chm σ t) i))) (by rw [hgc, puR_puR, puR_self]) ?_
        refine g_ifneB h 33 dX6_hasFault_26 (by decide) (fun c26 => ?_) (fun c26 => ?_)
        · have cR : decide (pR (chm σ t) (ps (chm σ t) i) = 0) = true := c26
          refine g_iconst (v := 0) h dX6_hasFault_33 (by decide) ?_
          refine g_istore_n h dX6_hasFault_34 (by rw [hL]; decide) ?_
          refine g_aload_n h dX6_hasFault_35 rfl ?_
          refine g_iload_n h dX6_hasFault_36 rfl ?_
          refine g_ifeq h 47 dX6_hasFault_37 (by decide) (fun c37 => ?_) (fun c37 => absurd rfl c37)
          refine g_aload_n h dX6_hasFault_47 rfl ?_
          refine gf6_153 h  dX6_hasFault_48 ?_
          refine g_top (nI (ps (chm σ t) (i + 1))) (by rw [puR_self]; exact (mroR_v _ _ _).2.2.2.1) ?_
          refine gp6_146 h  dX6_hasFault_51 ?_
          refine g_goto h 7 dX6_hasFault_54 (by decide) ?_
          refine g_mem (puR σ 150 (mhR (σ.1 150) (chm σ t) (i + 1))) (by rw [pu_puR, puR_puR, puR_self]; rfl) ?_
          refine g_sub [(0, ra X 150), (1, .int 0)] ⟨rfl, rfl, trivial⟩ ?_
          exact ih (i + 1) (by omega) (fstF_no hfi (by unfold psQ; rw [decide_eq_false (Nat.not_le.mpr hpt), cR]; decide))
        · have cR : decide (pR (chm σ t) (ps (chm σ t) i) = 0) = false := c26
          have eN : fti (chm σ t) t = i := fstF_at (p := psQ (chm σ t) t) hfi (by unfold psQ; rw [cR]; simp) (by omega)
          refine g_iconst (v := 1) h dX6_hasFault_29 (by decide) ?_
          refine g_goto h 34 dX6_hasFault_30 (by decide) ?_
          refine g_istore_n h dX6_hasFault_34 (by rw [hL]; decide) ?_
          refine g_aload_n h dX6_hasFault_35 rfl ?_
          refine g_iload_n h dX6_hasFault_36 rfl ?_
          refine g_ifeq h 47 dX6_hasFault_37 (by decide) (fun c37 => absurd c37 (by decide)) (fun c37 => ?_)
          refine g_aload_n h dX6_hasFault_40 rfl ?_
          refine gf6_146 h  dX6_hasFault_41 ?_
          refine g_goto h 51 dX6_hasFault_44 (by decide) ?_
          refine g_top (nI (ps (chm σ t) i)) (by rw [puR_self, mroR_n (by decide)]; exact mhR_10 _ _ _) ?_
          refine gp6_146 h  dX6_hasFault_51 ?_
          refine g_goto h 7 dX6_hasFault_54 (by decide) ?_
          refine g_mem (puR σ 150 (mroR (mhR (σ.1 150) (chm σ t) i) (chm σ t) (ps (chm σ t) i))) (by rw [pu_puR, puR_puR, puR_self, ← mhR_10 (σ.1 150) (chm σ t) i, ← mroR_n (f := (mhR (σ.1 150) (chm σ t) i)) (g := (chm σ t)) (p := ps (chm σ t) i) (j := 10) (by decide), upd_id]) ?_
          refine g_sub [(0, ra X 150), (1, .int 1)] ⟨rfl, rfl, trivial⟩ ?_
          exact OUT _ 1 (by unfold hasF; rw [eN, decide_eq_true hpt]; rfl) (by unfold mhfR hasF; rw [eN, decide_eq_true hpt, if_pos rfl]) (by decide)
  refine g_aload_n h dX6_hasFault_0 rfl ?_
  refine g_iconst (v := 0) h dX6_hasFault_1 (by decide) ?_
  refine gp6_146 h  dX6_hasFault_2 ?_
  refine g_iconst (v := 0) h dX6_hasFault_5 (by decide) ?_
  refine g_istore_n h dX6_hasFault_6 (by rw [hL]; decide) ?_
  refine g_mem (puR σ 150 (mhR (σ.1 150) (chm σ t) 0)) (pu_puR _ _ _ _) ?_
  refine g_sub [(0, ra X 150), (1, .int 0)] ⟨rfl, rfl, trivial⟩ ?_
  exact LOOP 80 0 (by omega) rfl

def mFault (σ : fM) (t : Nat) (w : Int32) : Int32 × fM := if wi w 0 2 = false then (kBad, σ) else if hasF (chm σ t) t = false then (kNone, puR σ 150 (mhfR (σ.1 150) (chm σ t) t))
  else (mhfR (σ.1 150) (chm σ t) t (if w = 0 then 10 else if w = 1 then 15 else 16), puR σ 150 (mhfR (σ.1 150) (chm σ t) t))

set_option maxRecDepth 100000 in
set_option maxHeartbeats 4000000 in
theorem ct_X6_fault {l : Launch} {X : fX} {σ : fM} {t : Nat} (ht : mtx σ t) {w : Int32} : Ct l X yX6_fault cX6_fault 2 (some .int) 6 [ra X 150, .int w] σ (some (.int (mFault σ t w).1)) (mFault σ t w).2 := by
  refine Ct.of RX6 rfl (by decide) (Nat.le_of_ble_eq_true rfl) ?_
  intro x hL h hr
  refine g_sub [(0, ra X 150), (1, .int w)] ⟨rfl, rfl, trivial⟩ ?_
  refine g_iload_n h dX6_fault_0 rfl ?_
  refine g_iconst (v := 0) h dX6_fault_1 (by decide) ?_
  refine g_iconst (v := 2) h dX6_fault_2 (by decide) ?_
  refine cl6_42 h (ct_X6_within) rfl dX6_fault_3 rfl (Nat.le_of_ble_eq_true rfl) (by decide) ?_
  refine g_ifneB h 12 dX6_fault_6 (by decide) (fun c6 => ?_) (fun c6 => ?_)
  · refine g_aload_n h dX6_fault_12 rfl ?_
    refine cl6_188 h  (ct_X6_hasFault ht) rfl dX6_fault_13 rfl (Nat.le_of_ble_eq_true rfl) (by decide) ?_
    refine g_ifneB h 22 dX6_fault_16 (by decide) (fun c16 => ?_) (fun c16 => ?_)
    · refine g_iload_n h dX6_fault_22 rfl ?_
      refine g_ifne h 33 dX6_fault_23 (by decide) (fun c23 => ?_) (fun c23 => ?_)
      · refine g_iload_n h dX6_fault_33 rfl ?_
        refine g_iconst (v := 1) h dX6_fault_34 (by decide) ?_
        refine g_icne h 45 dX6_fault_35 (by decide) (fun c35 => ?_) (fun c35 => ?_)
        · refine g_aload_n h dX6_fault_45 rfl ?_
          refine gf6_182 h  dX6_fault_46 ?_
          exact g_iret h hr dX6_fault_49 (by first | (simp [mFault, kBad, kNone, puR_self, c6, c16, c23, c35]; done) | (subst c23; simp [mFault, puR_self, c6, c16]; done) | (simp_all [mFault, kBad, kNone, puR_self]; done)) (by first | (simp [mFault, c6, c16, c23, c35]; done) | (simp_all [mFault]; done))
        · refine g_aload_n h dX6_fault_38 rfl ?_
          refine gf6_175 h  dX6_fault_39 ?_
          refine g_goto h 49 dX6_fault_42 (by decide) ?_
          exact g_iret h hr dX6_fault_49 (by first | (simp [mFault, kBad, kNone, puR_self, c6, c16, c23, c35]; done) | (subst c23; simp [mFault, puR_self, c6, c16]; done) | (simp_all [mFault, kBad, kNone, puR_self]; done)) (by first | (simp [mFault, c6, c16, c23, c35]; done) | (simp_all [mFault]; done))
      · refine g_aload_n h dX6_fault_26 rfl ?_
        refine gf6_146 h  dX6_fault_27 ?_
        refine g_goto h 49 dX6_fault_30 (by decide) ?_
        exact g_iret h hr dX6_fault_49 (by first | (simp [mFault, kBad, kNone, puR_self, c6, c16, c23]; done) | (subst c23; simp [mFault, puR_self, c6, c16]; done) | (simp_all [mFault, kBad, kNone, puR_self]; done)) (by first | (simp [mFault, c6, c16, c23]; done) | (simp_all [mFault]; done))
    · refine g_ldc h (-1000004) (lw_in 822 (by decide +kernel) rfl) dX6_fault_19 ?_
      exact g_iret h hr dX6_fault_21 (by first | (simp [mFault, kBad, kNone, puR_self, c6, c16]; done) | (subst c23; simp [mFault, puR_self, c6, c16]; done) | (simp_all [mFault, kBad, kNone, puR_self]; done)) (by first | (simp [mFault, c6, c16]; done) | (simp_all [mFault]; done))
  · refine g_ldc h (-1000001) (lw_in 696 (by decide +kernel) rfl) dX6_fault_9 ?_
    exact g_iret h hr dX6_fault_11 (by first | (simp [mFault, kBad, kNone, puR_self, c6]; done) | (subst c23; simp [mFault, puR_self, c6, c16]; done) | (simp_all [mFault, kBad, kNone, puR_self]; done)) (by first | (simp [mFault, c6]; done) | (simp_all [mFault]; done))
