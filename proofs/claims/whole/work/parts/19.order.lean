/-! orders: read one, read all, do them -/
def bad (τ : fM) (e p : Nat) : fM := pu (pu τ 3 6 1) 3 7 (nI e - nI p)
def fin (g : Nat → Int32) (τ : fM) (ok : Bool) (e p : Nat) : fM := if ok = false then bad τ e p else if ¬ g e = 59 then bad τ e p else crM (pu τ 3 4 (nI (e + 1)))
def roA (σ : fM) (p n : Nat) (w : Int32) : fM := pu (pu (pu (pu (pu σ 3 3 (nI p)) 3 6 0) 3 7 0) 3 4 (nI (p + n))) 3 5 w
def roB (σ1 : fM) (g : Nat → Int32) (p n : Nat) (w : Int32) : fM :=
  if w = -1 then pu (pu σ1 3 4 (nI p)) 3 6 1 else
  if w = 4 then fin g (rnM σ1 g (p + n) 0) (rnOk g (p + n)) (rnE g (p + n)) p else
  if rnOk g (p + n) = false then bad (rnM σ1 g (p + n) 0) (rnE g (p + n)) p else
  fin g (rnM (rnM σ1 g (p + n) 0) g (rnE g (p + n)) 1) (rnOk g (rnE g (p + n))) (rnE g (rnE g (p + n))) p
def roM (σ : fM) (t p : Nat) : fM := roB (roA σ p (lrn0 (chr σ t) p) (wrd (chr σ t) p (lrn0 (chr σ t) p))) (chr σ t) p (lrn0 (chr σ t) p) (wrd (chr σ t) p (lrn0 (chr σ t) p))
theorem rnM_tx {σ : fM} {t : Nat} (g : Nat → Int32) (e i : Nat) (h : tx σ t) : tx (rnM σ g e i) t := by
  unfold rnM
  split
  · exact tx_pu h (by decide)
  · exact tx_pu5 (tx_pu h (by decide))
theorem rnM_chr {σ : fM} {t : Nat} (g : Nat → Int32) (e i : Nat) : chr (rnM σ g e i) t = chr σ t := by
  unfold rnM
  split
  · exact chr_pu
  · exact chr_pu5.trans chr_pu
theorem rnM_e {σ : fM} (g : Nat → Int32) (e i : Nat) : (rnM σ g e i).1 3 4 = nI (rnE g e) := by
  unfold rnM
  split
  · exact rn_lk (e := e) _
  · rw [pu_ne _ (by decide)]; exact rn_lk (e := e) _
theorem rnM_j {σ : fM} (g : Nat → Int32) (e i : Nat) {j : Nat} (hj : ¬ j = 4) : (rnM σ g e i).1 3 j = σ.1 3 j := by
  unfold rnM
  split
  · rw [pu_puR, puR_self, upd_n _ _ _ _ hj]
  · rw [pu_ne _ (by decide), pu_puR, puR_self, upd_n _ _ _ _ hj]
theorem lrn0_le (g : Nat → Int32) (p : Nat) : lrn0 g p ≤ 80 := fstF_le _ _
theorem roA_tx {σ : fM} {t p n : Nat} {w : Int32} (h : tx σ t) : tx (roA σ p n w) t := tx_pu (tx_pu (tx_pu (tx_pu (tx_pu h (by decide)) (by decide)) (by decide)) (by decide)) (by decide)
theorem roA_chr {σ : fM} {t p n : Nat} {w : Int32} : chr (roA σ p n w) t = chr σ t := chr_pu.trans (chr_pu.trans (chr_pu.trans (chr_pu.trans chr_pu)))
theorem roA_3 {σ : fM} {p n : Nat} {w : Int32} : (roA σ p n w).1 3 3 = nI p ∧ (roA σ p n w).1 3 4 = nI (p + n) ∧ (roA σ p n w).1 3 5 = w ∧ (roA σ p n w).1 3 6 = 0 ∧ (roA σ p n w).1 3 7 = 0 := by
  unfold roA
  simp +decide only [pu_puR, puR_puR, puR_self, upd_s, upd_n, and_self]

set_option maxRecDepth 100000 in
set_option maxHeartbeats 4000000 in
theorem ct_X4_readOrder {l : Launch} {X : fX} {σ : fM} {t : Nat} (ht : tx σ t) {p : Nat} (hp : p < 2 ^ 16) : Ct l X yX4_readOrder cX4_readOrder 5 none 6 [ra X 3, .int (nI p)] σ none (roM σ t p) := by
  refine Ct.of RX4 rfl (by decide) (Nat.le_of_ble_eq_true rfl) ?_
  intro x hL h hr
  refine g_sub [(0, ra X 3), (1, .int (nI p))] ⟨rfl, rfl, trivial⟩ ?_
  have hA := roA_tx (p := p) (n := (lrn0 (chr σ t) p)) (w := (wrd (chr σ t) p (lrn0 (chr σ t) p))) ht
  have hAc : chr (roA σ p (lrn0 (chr σ t) p) (wrd (chr σ t) p (lrn0 (chr σ t) p))) t = chr σ t := roA_chr
  obtain ⟨a3, a4, a5, a6, a7⟩ := roA_3 (σ := σ) (p := p) (n := (lrn0 (chr σ t) p)) (w := (wrd (chr σ t) p (lrn0 (chr σ t) p)))
  have m1t := rnM_tx (chr σ t) (p + (lrn0 (chr σ t) p)) 0 hA
  have m1c : chr (rnM (roA σ p (lrn0 (chr σ t) p) (wrd (chr σ t) p (lrn0 (chr σ t) p))) (chr σ t) (p + (lrn0 (chr σ t) p)) 0) t = chr σ t := (rnM_chr _ _ _).trans hAc
  have m1e : (rnM (roA σ p (lrn0 (chr σ t) p) (wrd (chr σ t) p (lrn0 (chr σ t) p))) (chr σ t) (p + (lrn0 (chr σ t) p)) 0).1 3 4 = nI (rnE (chr σ t) (p + (lrn0 (chr σ t) p))) := rnM_e _ _ _
  have m1s : (rnM (roA σ p (lrn0 (chr σ t) p) (wrd (chr σ t) p (lrn0 (chr σ t) p))) (chr σ t) (p + (lrn0 (chr σ t) p)) 0).1 3 3 = nI p := (rnM_j _ _ _ (by decide)).trans a3
  have m2t := rnM_tx (chr σ t) (rnE (chr σ t) (p + (lrn0 (chr σ t) p))) 1 m1t
  have m2c : chr (rnM (rnM (roA σ p (lrn0 (chr σ t) p) (wrd (chr σ t) p (lrn0 (chr σ t) p))) (chr σ t) (p + (lrn0 (chr σ t) p)) 0) (chr σ t) (rnE (chr σ t) (p + (lrn0 (chr σ t) p))) 1) t = chr σ t := (rnM_chr _ _ _).trans m1c
  have m2e : (rnM (rnM (roA σ p (lrn0 (chr σ t) p) (wrd (chr σ t) p (lrn0 (chr σ t) p))) (chr σ t) (p + (lrn0 (chr σ t) p)) 0) (chr σ t) (rnE (chr σ t) (p + (lrn0 (chr σ t) p))) 1).1 3 4 = nI (rnE (chr σ t) (rnE (chr σ t) (p + (lrn0 (chr σ t) p)))) := rnM_e _ _ _
  have m2s : (rnM (rnM (roA σ p (lrn0 (chr σ t) p) (wrd (chr σ t) p (lrn0 (chr σ t) p))) (chr σ t) (p + (lrn0 (chr σ t) p)) 0) (chr σ t) (rnE (chr σ t) (p + (lrn0 (chr σ t) p))) 1).1 3 3 = nI p := (rnM_j _ _ _ (by decide)).trans m1s
  have l0 := lrn0_le (chr σ t) p
  have l1 := rnE_le (chr σ t) (p + (lrn0 (chr σ t) p))
  have l2 := rnE_le (chr σ t) (rnE (chr σ t) (p + (lrn0 (chr σ t) p)))
  have TAIL : ∀ (τ : fM) (ok : Bool) (e : Nat), tx τ t → chr τ t = chr σ t → τ.1 3 4 = nI e → τ.1 3 3 = nI p → e < 2 ^ 20 → fin (chr σ t) τ ok e p = roM σ t p → G x X τ [(0, ra X 3), (3, .int (bi ok))] [] 97 := by
    intro τ ok e htx hch he hsp he2 hF
    refine g_iload_n h dX4_readOrder_97 rfl ?_
    refine g_ifeqB h 114 dX4_readOrder_98 (by decide) (fun c98 => ?_) (fun c98 => ?_)
    · refine g_aload_n h dX4_readOrder_114 rfl ?_
      refine g_iconst (v := 1) h dX4_readOrder_115 (by decide) ?_
      refine gp4_27 h  dX4_readOrder_116 ?_
      refine g_aload_n h dX4_readOrder_119 rfl ?_
      refine g_aload_n h dX4_readOrder_120 rfl ?_
      refine gf4_30 h  dX4_readOrder_121 ?_
      refine g_top (nI e) (by simp +decide only [pu_puR, puR_puR, puR_self, upd_s, upd_n]; exact he) ?_
      refine g_aload_n h dX4_readOrder_124 rfl ?_
      refine gf4_33 h  dX4_readOrder_125 ?_
      refine g_top (nI p) (by simp +decide only [pu_puR, puR_puR, puR_self, upd_s, upd_n]; exact hsp) ?_
      refine g_isub h dX4_readOrder_128 ?_
      refine gp4_36 h  dX4_readOrder_129 ?_
      exact g_vret h hr dX4_readOrder_132 (by rw [← hF]; simp [fin, bad, c98])
    · refine g_aload_n h dX4_readOrder_101 rfl ?_
      refine g_aload_n h dX4_readOrder_102 rfl ?_
      refine gf4_30 h  dX4_readOrder_103 ?_
      refine g_top (nI e) he ?_
      refine cl4_53 h  (ct_X4_characterAt htx (by omega)) rfl dX4_readOrder_106 rfl (Nat.le_of_ble_eq_true rfl) (by decide) ?_
      refine g_top (chr σ t e) (by rw [hch]) ?_
      refine g_bipush (v := 59) h dX4_readOrder_109 (by decide) ?_
      refine g_iceq h 133 dX4_readOrder_111 (by decide) (fun c111 => ?_) (fun c111 => ?_)
      · refine g_aload_n h dX4_readOrder_133 rfl ?_
        refine g_dup h dX4_readOrder_134 rfl ?_
        refine gf4_30 h  dX4_readOrder_135 ?_
        refine g_iconst (v := 1) h dX4_readOrder_138 (by decide) ?_
        refine g_st [.int 1, .int (nI e), ra X 3] (by rw [he]) ?_
        refine g_iadd h dX4_readOrder_139 ?_
        refine g_top (nI (e + 1)) (nI_1 e) ?_
        refine gp4_30 h  dX4_readOrder_140 ?_
        refine g_aload_n h dX4_readOrder_143 rfl ?_
        refine cl4_57 h  (ct_X4_checkRanges ) rfl dX4_readOrder_144 rfl (Nat.le_of_ble_eq_true rfl) (by decide) ?_
        exact g_vret h hr dX4_readOrder_147 (by rw [← hF]; simp [fin, bad, c98, c111])
      · refine g_aload_n h dX4_readOrder_114 rfl ?_
        refine g_iconst (v := 1) h dX4_readOrder_115 (by decide) ?_
        refine gp4_27 h  dX4_readOrder_116 ?_
        refine g_aload_n h dX4_readOrder_119 rfl ?_
        refine g_aload_n h dX4_readOrder_120 rfl ?_
        refine gf4_30 h  dX4_readOrder_121 ?_
        refine g_top (nI e) (by simp +decide only [pu_puR, puR_puR, puR_self, upd_s, upd_n]; exact he) ?_
        refine g_aload_n h dX4_readOrder_124 rfl ?_
        refine gf4_33 h  dX4_readOrder_125 ?_
        refine g_top (nI p) (by simp +decide only [pu_puR, puR_puR, puR_self, upd_s, upd_n]; exact hsp) ?_
        refine g_isub h dX4_readOrder_128 ?_
        refine gp4_36 h  dX4_readOrder_129 ?_
        exact g_vret h hr dX4_readOrder_132 (by rw [← hF]; simp [fin, bad, c98, c111])
  refine g_aload_n h dX4_readOrder_0 rfl ?_
  refine g_iload_n h dX4_readOrder_1 rfl ?_
  refine gp4_33 h  dX4_readOrder_2 ?_
  refine g_aload_n h dX4_readOrder_5 rfl ?_
  refine g_iconst (v := 0) h dX4_readOrder_6 (by decide) ?_
  refine gp4_27 h  dX4_readOrder_7 ?_
  refine g_aload_n h dX4_readOrder_10 rfl ?_
  refine g_iconst (v := 0) h dX4_readOrder_11 (by decide) ?_
  refine gp4_36 h  dX4_readOrder_12 ?_
  refine g_aload_n h dX4_readOrder_15 rfl ?_
  refine g_aload_n h dX4_readOrder_16 rfl ?_
  refine g_iload_n h dX4_readOrder_17 rfl ?_
  refine cl4_39 h  (ct_X4_endOfLetters (tx_pu (tx_pu (tx_pu ht (by decide)) (by decide)) (by decide)) (by omega)) rfl dX4_readOrder_18 rfl (Nat.le_of_ble_eq_true rfl) (by decide) ?_
  refine g_top (nI (p + (lrn0 (chr σ t) p))) (by rw [show chr (pu (pu (pu σ 3 3 (nI p)) 3 6 0) 3 7 0) t = chr σ t from chr_pu.trans (chr_pu.trans chr_pu)]) ?_
  refine gp4_30 h  dX4_readOrder_21 ?_
  refine g_aload_n h dX4_readOrder_24 rfl ?_
  refine g_aload_n h dX4_readOrder_25 rfl ?_
  refine g_aload_n h dX4_readOrder_26 rfl ?_
  refine gf4_30 h  dX4_readOrder_27 ?_
  refine g_top (nI (p + (lrn0 (chr σ t) p))) (rn_lk (e := p) _) ?_
  refine cl4_43 h  (ct_X4_wordUpTo (tx_pu (tx_pu (tx_pu (tx_pu ht (by decide)) (by decide)) (by decide)) (by decide)) (by omega) (by omega) (by simp +decide only [pu_puR, puR_puR, puR_self, upd_s, upd_n])) rfl dX4_readOrder_30 rfl (Nat.le_of_ble_eq_true rfl) (by decide) ?_
  refine g_top (wrd (chr σ t) p (lrn0 (chr σ t) p)) (by rw [show chr (pu (pu (pu (pu σ 3 3 (nI p)) 3 6 0) 3 7 0) 3 4 (nI (p + (lrn0 (chr σ t) p)))) t = chr σ t from chr_pu.trans (chr_pu.trans (chr_pu.trans chr_pu))]) ?_
  refine gp4_46 h  dX4_readOrder_33 ?_
  refine g_mem (roA σ p (lrn0 (chr σ t) p) (wrd (chr σ t) p (lrn0 (chr σ t) p))) rfl ?_
  refine g_aload_n h dX4_readOrder_36 rfl ?_
  refine gf4_46 h  dX4_readOrder_37 ?_
  refine g_top (wrd (chr σ t) p (lrn0 (chr σ t) p)) a5 ?_
  refine g_iconst (v := (-1)) h dX4_readOrder_40 (by decide) ?_
  refine g_icne h 55 dX4_readOrder_41 (by decide) (fun c41 => ?_) (fun c41 => ?_)
  · refine g_aload_n h dX4_readOrder_55 rfl ?_
    refine gf4_46 h  dX4_readOrder_56 ?_
    refine g_top (wrd (chr σ t) p (lrn0 (chr σ t) p)) a5 ?_
    refine g_iconst (v := 4) h dX4_readOrder_59 (by decide) ?_
    refine g_icne h 67 dX4_readOrder_60 (by decide) (fun c60 => ?_) (fun c60 => ?_)
    refine g_iconst (v := 2) h dX4_readOrder_67 (by decide) ?_
    refine g_istore_n h dX4_readOrder_68 (by rw [hL]; decide) ?_
    refine g_iconst (v := 1) h dX4_readOrder_69 (by decide) ?_
    refine g_istore_n h dX4_readOrder_70 (by rw [hL]; decide) ?_
    refine g_iconst (v := 0) h dX4_readOrder_71 (by decide) ?_
    refine g_istore h dX4_readOrder_72 (by rw [hL]; decide) ?_
    refine g_sub [(0, ra X 3), (2, .int 2), (3, .int 1), (4, .int 0)] ⟨rfl, rfl, rfl, rfl, trivial⟩ ?_
    refine g_iload h dX4_readOrder_74 rfl ?_
    refine g_iload_n h dX4_readOrder_76 rfl ?_
    refine g_icge h 97 dX4_readOrder_77 (by decide) (fun c77 => absurd c77 (by decide)) (fun c77 => ?_)
    refine g_iload_n h dX4_readOrder_80 rfl ?_
    refine g_ifeq h 97 dX4_readOrder_81 (by decide) (fun c81 => absurd c81 (by decide)) (fun c81 => ?_)
    refine g_aload_n h dX4_readOrder_84 rfl ?_
    refine g_iload h dX4_readOrder_85 rfl ?_
    refine g_top (nI 0) nI_0.symm ?_
    refine cl4_49 h  (ct_X4_readNumber hA (by omega) a4 (by decide)) rfl dX4_readOrder_87 rfl (Nat.le_of_ble_eq_true rfl) (by decide) ?_
    refine g_mem (rnM (roA σ p (lrn0 (chr σ t) p) (wrd (chr σ t) p (lrn0 (chr σ t) p))) (chr σ t) (p + (lrn0 (chr σ t) p)) 0) (by rw [hAc]) ?_
    refine g_istore_n h dX4_readOrder_90 (by rw [hL]; decide) ?_
    refine g_iinc1 h dX4_readOrder_91 rfl (by rw [hL]; decide) ?_
    refine g_goto h 74 dX4_readOrder_94 (by decide) ?_
    refine g_sub [(0, ra X 3), (2, .int 2), (3, .int (bi (rnOk (chr σ t) (p + (lrn0 (chr σ t) p))))), (4, .int (0 + 1))] ⟨rfl, rfl, (congrArg (fun z => some (Value.int (bi (rnOk z (p + (lrn0 (chr σ t) p)))))) hAc), rfl, trivial⟩ ?_
    refine g_iload h dX4_readOrder_74 rfl ?_
    refine g_iload_n h dX4_readOrder_76 rfl ?_
    refine g_icge h 97 dX4_readOrder_77 (by decide) (fun c77 => absurd c77 (by decide)) (fun c77 => ?_)
    refine g_iload_n h dX4_readOrder_80 rfl ?_
    refine g_ifeqB h 97 dX4_readOrder_81 (by decide) (fun c81 => ?_) (fun c81 => ?_)
    · refine g_sub [(0, ra X 3), (3, .int (bi false))] ⟨rfl, (congrArg (fun z => some (Value.int (bi z))) c81), trivial⟩ ?_
      exact TAIL _ false (rnE (chr σ t) (p + (lrn0 (chr σ t) p))) m1t m1c m1e m1s (by omega) (by unfold roM roB; rw [if_neg c41, if_neg c60, if_pos c81]; rfl)
    · refine g_aload_n h dX4_readOrder_84 rfl ?_
      refine g_iload h dX4_readOrder_85 rfl ?_
      refine g_top (nI 1) (by decide) ?_
      refine cl4_49 h  (ct_X4_readNumber m1t (by omega) m1e (by decide)) rfl dX4_readOrder_87 rfl (Nat.le_of_ble_eq_true rfl) (by decide) ?_
      refine g_mem (rnM (rnM (roA σ p (lrn0 (chr σ t) p) (wrd (chr σ t) p (lrn0 (chr σ t) p))) (chr σ t) (p + (lrn0 (chr σ t) p)) 0) (chr σ t) (rnE (chr σ t) (p + (lrn0 (chr σ t) p))) 1) (by rw [m1c]) ?_
      refine g_istore_n h dX4_readOrder_90 (by rw [hL]; decide) ?_
      refine g_iinc1 h dX4_readOrder_91 rfl (by rw [hL]; decide) ?_
      refine g_goto h 74 dX4_readOrder_94 (by decide) ?_
      refine g_sub [(0, ra X 3), (2, .int 2), (3, .int (bi (rnOk (chr σ t) (rnE (chr σ t) (p + (lrn0 (chr σ t) p)))))), (4, .int (1 + 1))] ⟨rfl, rfl, (congrArg (fun z => some (Value.int (bi (rnOk z (rnE (chr σ t) (p + (lrn0 (chr σ t) p))))))) m1c), rfl, trivial⟩ ?_
      refine g_iload h dX4_readOrder_74 rfl ?_
      refine g_iload_n h dX4_readOrder_76 rfl ?_
      refine g_icge h 97 dX4_readOrder_77 (by decide) (fun c77 => ?_) (fun c77 => absurd (by decide) c77)
      refine g_sub [(0, ra X 3), (3, .int (bi (rnOk (chr σ t) (rnE (chr σ t) (p + (lrn0 (chr σ t) p))))))] ⟨rfl, rfl, trivial⟩ ?_
      exact TAIL _ _ (rnE (chr σ t) (rnE (chr σ t) (p + (lrn0 (chr σ t) p)))) m2t m2c m2e m2s (by omega) (by unfold roM roB; rw [if_neg c41, if_neg c60, if_neg (by rw [c81]; decide)])
    refine g_iconst (v := 1) h dX4_readOrder_63 (by decide) ?_
    refine g_goto h 68 dX4_readOrder_64 (by decide) ?_
    refine g_istore_n h dX4_readOrder_68 (by rw [hL]; decide) ?_
    refine g_iconst (v := 1) h dX4_readOrder_69 (by decide) ?_
    refine g_istore_n h dX4_readOrder_70 (by rw [hL]; decide) ?_
    refine g_iconst (v := 0) h dX4_readOrder_71 (by decide) ?_
    refine g_istore h dX4_readOrder_72 (by rw [hL]; decide) ?_
    refine g_iload h dX4_readOrder_74 rfl ?_
    refine g_iload_n h dX4_readOrder_76 rfl ?_
    refine g_icge h 97 dX4_readOrder_77 (by decide) (fun c77 => absurd c77 (by decide)) (fun c77 => ?_)
    refine g_iload_n h dX4_readOrder_80 rfl ?_
    refine g_ifeq h 97 dX4_readOrder_81 (by decide) (fun c81 => absurd c81 (by decide)) (fun c81 => ?_)
    refine g_aload_n h dX4_readOrder_84 rfl ?_
    refine g_iload h dX4_readOrder_85 rfl ?_
    refine g_top (nI 0) nI_0.symm ?_
    refine cl4_49 h  (ct_X4_readNumber hA (by omega) a4 (by decide)) rfl dX4_readOrder_87 rfl (Nat.le_of_ble_eq_true rfl) (by decide) ?_
    refine g_mem (rnM (roA σ p (lrn0 (chr σ t) p) (wrd (chr σ t) p (lrn0 (chr σ t) p))) (chr σ t) (p + (lrn0 (chr σ t) p)) 0) (by rw [hAc]) ?_
    refine g_istore_n h dX4_readOrder_90 (by rw [hL]; decide) ?_
    refine g_iinc1 h dX4_readOrder_91 rfl (by rw [hL]; decide) ?_
    refine g_goto h 74 dX4_readOrder_94 (by decide) ?_
    refine g_iload h dX4_readOrder_74 rfl ?_
    refine g_iload_n h dX4_readOrder_76 rfl ?_
    refine g_icge h 97 dX4_readOrder_77 (by decide) (fun c77 => ?_) (fun c77 => absurd (by decide) c77)
    refine g_sub [(0, ra X 3), (3, .int (bi (rnOk (chr σ t) (p + (lrn0 (chr σ t) p)))))] ⟨rfl, (congrArg (fun z => some (Value.int (bi (rnOk z (p + (lrn0 (chr σ t) p)))))) hAc), trivial⟩ ?_
    exact TAIL _ _ (rnE (chr σ t) (p + (lrn0 (chr σ t) p))) m1t m1c m1e m1s (by omega) (by unfold roM roB; rw [if_neg c41, if_pos c60])
  · refine g_aload_n h dX4_readOrder_44 rfl ?_
    refine g_iload_n h dX4_readOrder_45 rfl ?_
    refine gp4_30 h  dX4_readOrder_46 ?_
    refine g_aload_n h dX4_readOrder_49 rfl ?_
    refine g_iconst (v := 1) h dX4_readOrder_50 (by decide) ?_
    refine gp4_27 h  dX4_readOrder_51 ?_
    exact g_vret h hr dX4_readOrder_54 (by unfold roM roB; rw [if_pos c41])

/-! what an order is, by the characters g from the place p on -/
def pN (g : Nat → Int32) (p : Nat) : Nat := lrn0 g p
def pW (g : Nat → Int32) (p : Nat) : Int32 := wrd g p (pN g p)
def pE1 (g : Nat → Int32) (p : Nat) : Nat := rnE g (p + pN g p)
def pO1 (g : Nat → Int32) (p : Nat) : Bool := rnOk g (p + pN g p)
def pE2 (g : Nat → Int32) (p : Nat) : Nat := rnE g (pE1 g p)
def pO2 (g : Nat → Int32) (p : Nat) : Bool := rnOk g (pE1 g p)
def pV1 (g : Nat → Int32) (p : Nat) : Int32 := rnV g (p + pN g p)
def pV2 (g : Nat → Int32) (p : Nat) : Int32 := rnV g (pE1 g p)
/-- where the form breaks off, or ends with its ";" -/
def pB (g : Nat → Int32) (p : Nat) : Nat := if pW g p = -1 then p else if pW g p = 4 ∨ pO1 g p = false then pE1 g p else pE2 g p
def pF (g : Nat → Int32) (p : Nat) : Bool := if pW g p = -1 then false else if pW g p = 4 then pO1 g p && decide (g (pE1 g p) = 59) else pO1 g p && pO2 g p && decide (g (pE2 g p) = 59)
def pE (g : Nat → Int32) (p : Nat) : Nat := if pF g p = true then pB g p + 1 else pB g p
def crR (w v1 v2 : Int32) : Int32 := if w = 4 then (if wi v1 0 50 = true then 0 else 2) else if isA v1 = false then 2 else if wi v2 1 40 = true then 0 else 2
def crC (w v1 v2 : Int32) : Int32 := if w = 4 then 0 else if isA v1 = false then 0 else if wi v2 1 40 = true then 0 else 1
def pR (g : Nat → Int32) (p : Nat) : Int32 := if pF g p = true then crR (pW g p) (pV1 g p) (pV2 g p) else 1
def pC (g : Nat → Int32) (p : Nat) : Int32 := if pF g p = true then crC (pW g p) (pV1 g p) (pV2 g p) else if pW g p = -1 then 0 else nI (pB g p) - nI p
theorem wrd_v (g : Nat → Int32) (p n : Nat) : wrd g p n = -1 ∨ ∃ w : Nat, w ≤ 4 ∧ wrd g p n = nI w := by
  unfold wrd
  split
  · exact Or.inr ⟨0, by decide, by decide⟩
  · split
    · exact Or.inr ⟨1, by decide, by decide⟩
    · split
      · exact Or.inr ⟨2, by decide, by decide⟩
      · split
        · exact Or.inr ⟨3, by decide, by decide⟩
        · split
          · exact Or.inr ⟨4, by decide, by decide⟩
          · exact Or.inl rfl
theorem crM_w {τ : fM} {w v1 : Int32} (v2 : Int32) (h5 : τ.1 3 5 = w) (h1 : τ.1 5 0 = v1) (h2 : w = 4 ∨ τ.1 5 1 = v2) (h6 : τ.1 3 6 = 0) (h7 : τ.1 3 7 = 0) :
    (crM τ).1 3 6 = crR w v1 v2 ∧ (crM τ).1 3 7 = crC w v1 v2 := by
  unfold crM crR crC
  rw [h5, h1]
  by_cases hw : w = 4
  · rw [if_pos hw, if_pos hw, if_pos hw]
    split
    · exact ⟨h6, h7⟩
    · exact ⟨by rw [pu_puR, puR_self, upd_s], by rw [pu_puR, puR_self, upd_n _ _ _ _ (by decide)]; exact h7⟩
  · rw [if_neg hw, if_neg hw, if_neg hw]
    rcases h2 with h2 | h2
    · exact absurd h2 hw
    · rw [h2]
      split
      · exact ⟨by rw [pu_puR, puR_self, upd_s], by rw [pu_puR, puR_self, upd_n _ _ _ _ (by decide)]; exact h7⟩
      · split
        · exact ⟨h6, h7⟩
        · exact ⟨by simp +decide only [pu_puR, puR_puR, puR_self, upd_s, upd_n], by simp +decide only [pu_puR, puR_puR, puR_self, upd_s, upd_n]⟩
theorem crM_o {τ : fM} : (crM τ).2 = τ.2 ∧ (∀ k, k ≠ 3 → (crM τ).1 k = τ.1 k) ∧ ∀ j, j < 6 → (crM τ).1 3 j = τ.1 3 j := by
  unfold crM
  refine ⟨?_, fun k hk => ?_, fun j hj => ?_⟩
  · split <;> (try split) <;> (try split) <;> rfl
  · split <;> (try split) <;> (try split) <;> simp only [pu_ne _ hk]
  · split <;> (try split) <;> (try split) <;> simp only [pu_puR, puR_puR, puR_self, upd] <;> repeat (first | rfl | rw [if_neg (by omega)])
