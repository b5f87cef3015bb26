/-! State: what changes it -/
/-- rows put one behind another -/
def setF (σ : fM) (ix : Nat → Nat) (r : Nat → Nat → Int32) : Nat → fM
  | 0 => σ
  | n + 1 => puR (setF σ ix r n) (ix n) (r n)
theorem setF_ne {σ : fM} {ix : Nat → Nat} {r : Nat → Nat → Int32} {k : Nat} : ∀ {n : Nat}, (∀ i, i < n → ix i ≠ k) → (setF σ ix r n).1 k = σ.1 k
  | 0, _ => rfl
  | n + 1, h => by
    show (puR (setF σ ix r n) (ix n) (r n)).1 k = _
    rw [puR_ne _ (h n (Nat.lt_succ_self n)).symm]
    exact setF_ne (fun i hi => h i (Nat.lt_succ_of_lt hi))
theorem setF_at {σ : fM} {ix : Nat → Nat} {r : Nat → Nat → Int32} (hx : ∀ a b, ix a = ix b → a = b) {i : Nat} : ∀ {n : Nat}, i < n → (setF σ ix r n).1 (ix i) = r i
  | 0, h => absurd h (Nat.not_lt_zero _)
  | n + 1, h => by
    show (puR (setF σ ix r n) (ix n) (r n)).1 (ix i) = _
    by_cases hi : i = n
    · subst hi; rw [puR_self]
    · rw [puR_ne _ (fun e => hi (hx _ _ e)), setF_at hx (by omega)]
theorem setF_2 (σ : fM) (ix : Nat → Nat) (r : Nat → Nat → Int32) : ∀ (n : Nat), (setF σ ix r n).2 = σ.2
  | 0 => rfl
  | n + 1 => setF_2 σ ix r n
theorem setF_off {σ : fM} {ix : Nat → Nat} {r : Nat → Nat → Int32} (hx : ∀ a b, ix a = ix b → a = b) {i n : Nat} (h : n ≤ i) : (setF σ ix r n).1 (ix i) = σ.1 (ix i) := setF_ne (fun j hj e => by have := hx _ _ e; omega)
theorem iO_inj (s : Nat) : ∀ a b, iO s a = iO s b → a = b := by unfold iO; intros; omega
theorem iT_inj (s : Nat) : ∀ a b, iT s a = iT s b → a = b := by unfold iT; intros; omega
theorem iL_inj (s : Nat) : ∀ a b, iL s a = iL s b → a = b := by unfold iL; intros; omega
theorem iO_S (s i s' : Nat) (hi : i < 6) : iO s i ≠ iS s' := by unfold iO iS; omega
theorem iO_Set (s i s' : Nat) (hi : i < 6) : iO s i ≠ iSet s' := by unfold iO iSet; omega
theorem iT_S (s i s' : Nat) (hi : i < 6) : iT s i ≠ iS s' := by unfold iT iS; omega
theorem iT_Set (s i s' : Nat) (hi : i < 6) : iT s i ≠ iSet s' := by unfold iT iSet; omega
theorem iL_S (s l s' : Nat) (hl : l < 8) : iL s l ≠ iS s' := by unfold iL iS; omega
theorem iL_Set (s l s' : Nat) (hl : l < 8) : iL s l ≠ iSet s' := by unfold iL iSet; omega
theorem iL_O (s l s' i : Nat) (hl : l < 8) (hi : i < 6) : iL s l ≠ iO s' i := by unfold iL iO; omega
theorem iL_T (s l s' i : Nat) (hl : l < 8) (hi : i < 6) : iL s l ≠ iT s' i := by unfold iL iT; omega
theorem iS_Set (s s' : Nat) : iS s ≠ iSet s' := by unfold iS iSet; omega
/-- the ints of an oracle that are changed by what is foretold don't count for what it says -/
theorem oWord_cg {f f' t : Nat → Int32} {a hi : Int32} (h0 : f' 0 = f 0) (h1 : f' 1 = f 1) : oWord f' t a hi = oWord f t a hi := by unfold oWord oTab oSlot oMask; rw [h0, h1]
theorem oIn_cg {f f' : Nat → Int32} (h0 : f' 2 = f 2) (h1 : f' 3 = f 3) : oIn f' = oIn f := by unfold oIn oSeat oRuin; rw [h0, h1]
theorem oWord_u10 (f t : Nat → Int32) (v a hi : Int32) : oWord (upd f 10 v) t a hi = oWord f t a hi := oWord_cg (upd_n _ _ _ _ (by decide)) (upd_n _ _ _ _ (by decide))
theorem oIn_u10 (f : Nat → Int32) (v w : Int32) : oIn (upd (upd f 10 v) 9 w) = oIn f := oIn_cg (by rw [upd_n _ _ _ _ (by decide), upd_n _ _ _ _ (by decide)]) (by rw [upd_n _ _ _ _ (by decide), upd_n _ _ _ _ (by decide)])
theorem oGood_u10 {f : Nat → Int32} (v : Int32) (h : oGood f) : oGood (upd f 10 v) := by
  intro ht
  have e : (upd f 10 v) 1 = f 1 := upd_n _ _ _ _ (by decide)
  rw [e]
  exact h (by simpa [oTab, upd_n] using ht)
/-- what is foretold of the branch a: first round -/
def foW (σ : fM) (s : Nat) (a : Int32) (i : Nat) : Int32 := oWord (σ.1 (iO s i)) (σ.1 (iT s i)) a (σ.1 (iS s) 6)
def foSt (σ : fM) (s : Nat) (a : Int32) (i : Nat) : Int32 := oStake (σ.1 (iO s i)) (σ.1 (iT s i)) (σ.1 (iSet s) 0) a (σ.1 (iS s) 6)
def foR1 (σ : fM) (s : Nat) (a : Int32) (i : Nat) : Nat → Int32 := if σ.1 (iO s i) 0 = 4 then upd (σ.1 (iO s i)) 10 (foSt σ s a i) else upd (upd (σ.1 (iO s i)) 10 (foSt σ s a i)) 9 (foW σ s a i)
def foC1 (σ : fM) (s : Nat) (a : Int32) : Nat → Int32 := sumF 0 (fun i => if ¬ σ.1 (iO s i) 0 = 4 ∧ oIn (σ.1 (iO s i)) = true ∧ foW σ s a i = 1 then σ.1 (iO s i) 2 else 0)
def foC0 (σ : fM) (s : Nat) (a : Int32) : Nat → Int32 := sumF 0 (fun i => if ¬ σ.1 (iO s i) 0 = 4 ∧ oIn (σ.1 (iO s i)) = true ∧ ¬ foW σ s a i = 1 then σ.1 (iO s i) 2 else 0)
def foR2 (σ : fM) (s n : Nat) (a : Int32) (i : Nat) : Nat → Int32 := if σ.1 (iO s i) 0 = 4 then upd (foR1 σ s a i) 9 (if foC0 σ s a n ≤ foC1 σ s a n then 0 else 1) else foR1 σ s a i
/-- the memory behind what is foretold -/
def fore (σ : fM) (s n : Nat) (a : Int32) : fM := setF (setF σ (iO s) (foR1 σ s a) n) (iO s) (foR2 σ s n a) n

set_option maxRecDepth 100000 in
set_option maxHeartbeats 4000000 in
theorem ct_X3_foretell {l : Launch} {X : fX} {σ : fM} {s n m : Nat} (hs : s < 6) (hc : cnt σ s n m) {a : Int32} (hg : ∀ i, i < n → oGood (σ.1 (iO s i))) : Ct l X yX3_foretell cX3_foretell 6 none 3 [ra X (iS s), .int a] σ none (fore σ s n a) := by
  refine Ct.of RX3 rfl (by decide) (Nat.le_of_ble_eq_true rfl) ?_
  intro x hL h hr
  refine g_sub [(0, ra X (iS s)), (1, .int a)] ⟨rfl, rfl, trivial⟩ ?_
  obtain ⟨hn, hm, hn6, hm8⟩ := id hc
  have LOOP2 : ∀ (q i : Nat), i + q = n → G x X (setF (setF σ (iO s) (foR1 σ s a) n) (iO s) (foR2 σ s n a) i) [(0, ra X (iS s)), (2, .int (foC1 σ s a n)), (3, .int (foC0 σ s a n)), (4, .int (nI i))] [] 126 := by
    intro q
    induction q with
    | zero =>
      intro i hi 
      have hie : i = n := by omega
      rw [hie]
      have hn : (setF (setF σ (iO s) (foR1 σ s a) n) (iO s) (foR2 σ s n a) n).1 (iS s) 3 = nI n := by rw [show (setF (setF σ (iO s) (foR1 σ s a) n) (iO s) (foR2 σ s n a) n).1 (iS s) = σ.1 (iS s) from (setF_ne (fun j hj => iO_S s j s (by omega))).trans (setF_ne (fun j hj => iO_S s j s (by omega)))]; exact hn
      refine g_iload h dX3_foretell_126 rfl ?_
      refine g_aload_n h dX3_foretell_128 rfl ?_
      refine gf3_32 h (by omega) dX3_foretell_129 ?_
      refine g_icge h 175 dX3_foretell_132 (by decide) (fun c132 => ?_) (fun c132 => absurd (by rw [hn]; exact Int32.le_refl _) c132)
      exact g_vret h hr dX3_foretell_175 rfl
    | succ q ih =>
      intro i hi 
      have hlt : i < n := by omega
      have eO : (setF (setF σ (iO s) (foR1 σ s a) n) (iO s) (foR2 σ s n a) i).1 (iO s i) = foR1 σ s a i := (setF_off (iO_inj s) (Nat.le_refl i)).trans (setF_at (iO_inj s) (by omega))
      have eS : (setF (setF σ (iO s) (foR1 σ s a) n) (iO s) (foR2 σ s n a) i).1 (iS s) = σ.1 (iS s) := (setF_ne (fun j hj => iO_S s j s (by omega))).trans (setF_ne (fun j hj => iO_S s j s (by omega)))
      have hn : (setF (setF σ (iO s) (foR1 σ s a) n) (iO s) (foR2 σ s n a) i).1 (iS s) 3 = nI n := by rw [eS]; exact hn
      have e0 : foR1 σ s a i 0 = σ.1 (iO s i) 0 := by unfold foR1; split <;> simp [upd_n]
      generalize hτ : (setF (setF σ (iO s) (foR1 σ s a) n) (iO s) (foR2 σ s n a) i) = τ at eO eS hn ⊢
      refine g_iload h dX3_foretell_126 rfl ?_
      refine g_aload_n h dX3_foretell_128 rfl ?_
      refine gf3_32 h (by omega) dX3_foretell_129 ?_
      refine g_icge h 175 dX3_foretell_132 (by decide) (fun c132 => absurd c132 (by rw [hn]; exact nI_ge hlt (by omega))) (fun c132 => ?_)
      refine g_aload_n h dX3_foretell_135 rfl ?_
      refine gf3_11 h (by omega) dX3_foretell_136 ?_
      refine g_iload h dX3_foretell_139 rfl ?_
      refine g_aaldO h (by omega) rfl (by omega) dX3_foretell_141 ?_
      refine gf3_104 h (by omega) (by omega) dX3_foretell_142 ?_
      refine g_iconst (v := 4) h dX3_foretell_145 (by decide) ?_
      refine g_icne h 169 dX3_foretell_146 (by decide) (fun c146 => ?_) (fun c146 => ?_)
      · refine g_iincN h dX3_foretell_169 rfl (by rw [hL]; decide) ?_
        refine g_goto h 126 dX3_foretell_172 (by decide) ?_
        refine g_mem (setF (setF σ (iO s) (foR1 σ s a) n) (iO s) (foR2 σ s n a) (i + 1)) (by show _ = puR (setF (setF σ (iO s) (foR1 σ s a) n) (iO s) (foR2 σ s n a) i) (iO s i) (foR2 σ s n a i); rw [hτ]; have e1 : σ.1 (iO s i) 0 = τ.1 (iO s i) 0 := (by rw [eO, e0]); simp only [foR2, ← eO, e1]; simp [pu_puR, puR_puR, puR_self, puR_id, upd_n, c132, c146]) ?_
        refine g_sub [(0, ra X (iS s)), (2, .int (foC1 σ s a n)), (3, .int (foC0 σ s a n)), (4, .int (nI (i + 1)))] ⟨rfl, rfl, rfl, rfl, trivial⟩ ?_
        exact ih (i + 1) (by omega)
      · refine g_aload_n h dX3_foretell_149 rfl ?_
        refine gf3_11 h (by omega) dX3_foretell_150 ?_
        refine g_iload h dX3_foretell_153 rfl ?_
        refine g_aaldO h (by omega) rfl (by omega) dX3_foretell_155 ?_
        refine g_iload_n h dX3_foretell_156 rfl ?_
        refine g_iload_n h dX3_foretell_157 rfl ?_
        refine g_icle h 165 dX3_foretell_158 (by decide) (fun c158 => ?_) (fun c158 => ?_)
        · refine g_iconst (v := 0) h dX3_foretell_165 (by decide) ?_
          refine gp3_111 h (by omega) (by omega) dX3_foretell_166 ?_
          refine g_iincN h dX3_foretell_169 rfl (by rw [hL]; decide) ?_
          refine g_goto h 126 dX3_foretell_172 (by decide) ?_
          refine g_mem (setF (setF σ (iO s) (foR1 σ s a) n) (iO s) (foR2 σ s n a) (i + 1)) (by show _ = puR (setF (setF σ (iO s) (foR1 σ s a) n) (iO s) (foR2 σ s n a) i) (iO s i) (foR2 σ s n a i); rw [hτ]; have e1 : σ.1 (iO s i) 0 = τ.1 (iO s i) 0 := (by rw [eO, e0]); simp only [foR2, ← eO, e1]; simp [pu_puR, puR_puR, puR_self, puR_id, upd_n, c132, c146, c158]) ?_
          refine g_sub [(0, ra X (iS s)), (2, .int (foC1 σ s a n)), (3, .int (foC0 σ s a n)), (4, .int (nI (i + 1)))] ⟨rfl, rfl, rfl, rfl, trivial⟩ ?_
          exact ih (i + 1) (by omega)
        · refine g_iconst (v := 1) h dX3_foretell_161 (by decide) ?_
          refine g_goto h 166 dX3_foretell_162 (by decide) ?_
          refine gp3_111 h (by omega) (by omega) dX3_foretell_166 ?_
          refine g_iincN h dX3_foretell_169 rfl (by rw [hL]; decide) ?_
          refine g_goto h 126 dX3_foretell_172 (by decide) ?_
          refine g_mem (setF (setF σ (iO s) (foR1 σ s a) n) (iO s) (foR2 σ s n a) (i + 1)) (by show _ = puR (setF (setF σ (iO s) (foR1 σ s a) n) (iO s) (foR2 σ s n a) i) (iO s i) (foR2 σ s n a i); rw [hτ]; have e1 : σ.1 (iO s i) 0 = τ.1 (iO s i) 0 := (by rw [eO, e0]); simp only [foR2, ← eO, e1]; simp [pu_puR, puR_puR, puR_self, puR_id, upd_n, c132, c146, c158]) ?_
          refine g_sub [(0, ra X (iS s)), (2, .int (foC1 σ s a n)), (3, .int (foC0 σ s a n)), (4, .int (nI (i + 1)))] ⟨rfl, rfl, rfl, rfl, trivial⟩ ?_
          exact ih (i + 1) (by omega)
  have LOOP1 : ∀ (q i : Nat), i + q = n → G x X (setF σ (iO s) (foR1 σ s a) i) [(0, ra X (iS s)), (1, .int a), (2, .int (foC1 σ s a i)), (3, .int (foC0 σ s a i)), (4, .int (nI i))] [] 7 := by
    intro q
    induction q with
    | zero =>
      intro i hi 
      have hie : i = n := by omega
      rw [hie]
      have hn : (setF σ (iO s) (foR1 σ s a) n).1 (iS s) 3 = nI n := by rw [show (setF σ (iO s) (foR1 σ s a) n).1 (iS s) = σ.1 (iS s) from setF_ne (fun j hj => iO_S s j s (by omega))]; exact hn
      refine g_iload h dX3_foretell_7 rfl ?_
      refine g_aload_n h dX3_foretell_9 rfl ?_
      refine gf3_32 h (by omega) dX3_foretell_10 ?_
      refine g_icge h 123 dX3_foretell_13 (by decide) (fun c13 => ?_) (fun c13 => absurd (by rw [hn]; exact Int32.le_refl _) c13)
      refine g_iconst (v := 0) h dX3_foretell_123 (by decide) ?_
      refine g_istore h dX3_foretell_124 (by rw [hL]; decide) ?_
      refine g_sub [(0, ra X (iS s)), (2, .int (foC1 σ s a n)), (3, .int (foC0 σ s a n)), (4, .int (nI 0))] ⟨rfl, rfl, rfl, lk_0, trivial⟩ ?_
      exact LOOP2 n 0 (by omega)
    | succ q ih =>
      intro i hi 
      have hlt : i < n := by omega
      have eO : (setF σ (iO s) (foR1 σ s a) i).1 (iO s i) = σ.1 (iO s i) := setF_off (iO_inj s) (Nat.le_refl i)
      have eT : (setF σ (iO s) (foR1 σ s a) i).1 (iT s i) = σ.1 (iT s i) := setF_ne (fun j hj => iO_T s j s i)
      have eS : (setF σ (iO s) (foR1 σ s a) i).1 (iS s) = σ.1 (iS s) := setF_ne (fun j hj => iO_S s j s (by omega))
      have eW : (setF σ (iO s) (foR1 σ s a) i).1 (iSet s) = σ.1 (iSet s) := setF_ne (fun j hj => iO_Set s j s (by omega))
      have hn : (setF σ (iO s) (foR1 σ s a) i).1 (iS s) 3 = nI n := by rw [eS]; exact hn
      have hgi : oGood (σ.1 (iO s i)) := hg i (by omega)
      generalize hτ : (setF σ (iO s) (foR1 σ s a) i) = τ at eO eT eS eW hn ⊢
      refine g_iload h dX3_foretell_7 rfl ?_
      refine g_aload_n h dX3_foretell_9 rfl ?_
      refine gf3_32 h (by omega) dX3_foretell_10 ?_
      refine g_icge h 123 dX3_foretell_13 (by decide) (fun c13 => absurd c13 (by rw [hn]; exact nI_ge hlt (by omega))) (fun c13 => ?_)
      refine g_aload_n h dX3_foretell_16 rfl ?_
      refine gf3_11 h (by omega) dX3_foretell_17 ?_
      refine g_iload h dX3_foretell_20 rfl ?_
      refine g_aaldO h (by omega) rfl (by omega) dX3_foretell_22 ?_
      refine g_astore h dX3_foretell_23 (by rw [hL]; decide) ?_
      refine g_aload h dX3_foretell_25 rfl ?_
      refine g_aload h dX3_foretell_27 rfl ?_
      refine g_aload_n h dX3_foretell_29 rfl ?_
      refine gf3_25 h (by omega) dX3_foretell_30 ?_
      refine g_iconst (v := 0) h dX3_foretell_33 (by decide) ?_
      refine g_ialdSet h (by omega) nI_0.symm (by decide) dX3_foretell_34 ?_
      refine g_iload_n h dX3_foretell_35 rfl ?_
      refine g_aload_n h dX3_foretell_36 rfl ?_
      refine gf3_55 h (by omega) dX3_foretell_37 ?_
      refine cl3_97 h (by omega) (by omega) (ct_X1_stakeNow hs (by omega) (by rw [eO]; exact hgi)) rfl dX3_foretell_40 rfl (Nat.le_of_ble_eq_true rfl) (by decide) ?_
      refine gp3_101 h (by omega) (by omega) dX3_foretell_43 ?_
      refine g_aload h dX3_foretell_46 rfl ?_
      refine gf3_104 h (by omega) (by omega) dX3_foretell_48 ?_
      refine g_iconst (v := 4) h dX3_foretell_51 (by decide) ?_
      refine g_icne h 58 dX3_foretell_52 (by decide) (fun c52 => ?_) (fun c52 => ?_)
      · simp +decide only [pu_puR, puR_puR, puR_self, puR_id, upd_s, upd_n, puR_ne _ (iO_S s i s (by omega)).symm, puR_ne _ (iO_T s i s i).symm, puR_ne _ (iO_Set s i s (by omega)).symm, oWord_u10, oIn_u10] at c52
        refine g_aload h dX3_foretell_58 rfl ?_
        refine g_aload h dX3_foretell_60 rfl ?_
        refine g_iload_n h dX3_foretell_62 rfl ?_
        refine g_aload_n h dX3_foretell_63 rfl ?_
        refine gf3_55 h (by omega) dX3_foretell_64 ?_
        refine cl3_107 h (by omega) (by omega) (ct_X1_wordOfItsOwn hs (by omega) (by rw [pu_puR, puR_self, eO]; exact oGood_u10 _ hgi)) rfl dX3_foretell_67 rfl (Nat.le_of_ble_eq_true rfl) (by decide) ?_
        refine gp3_111 h (by omega) (by omega) dX3_foretell_70 ?_
        refine g_aload h dX3_foretell_73 rfl ?_
        refine cl3_114 h (by omega) (by omega) (ct_X1_takesPart (by omega) (by omega)) rfl dX3_foretell_75 rfl (Nat.le_of_ble_eq_true rfl) (by decide) ?_
        refine g_ifeqB h 101 dX3_foretell_78 (by decide) (fun c78 => ?_) (fun c78 => ?_)
        · simp +decide only [pu_puR, puR_puR, puR_self, puR_id, upd_s, upd_n, puR_ne _ (iO_S s i s (by omega)).symm, puR_ne _ (iO_T s i s i).symm, puR_ne _ (iO_Set s i s (by omega)).symm, oWord_u10, oIn_u10] at c78
          refine g_aload h dX3_foretell_101 rfl ?_
          refine cl3_114 h (by omega) (by omega) (ct_X1_takesPart (by omega) (by omega)) rfl dX3_foretell_103 rfl (Nat.le_of_ble_eq_true rfl) (by decide) ?_
          refine g_ifeqB h 117 dX3_foretell_106 (by decide) (fun c106 => ?_) (fun c106 => ?_)
          · simp +decide only [pu_puR, puR_puR, puR_self, puR_id, upd_s, upd_n, puR_ne _ (iO_S s i s (by omega)).symm, puR_ne _ (iO_T s i s i).symm, puR_ne _ (iO_Set s i s (by omega)).symm, oWord_u10, oIn_u10] at c106
            refine g_iincN h dX3_foretell_117 rfl (by rw [hL]; decide) ?_
            refine g_goto h 7 dX3_foretell_120 (by decide) ?_
            refine g_mem (setF σ (iO s) (foR1 σ s a) (i + 1)) (by show _ = puR (setF σ (iO s) (foR1 σ s a) i) (iO s i) (foR1 σ s a i); rw [hτ]; simp only [foR1, foSt, foW, ← eO, ← eT, ← eS, ← eW]; first | (simp [pu_puR, puR_puR, puR_self, puR_id, upd_s, upd_n, puR_ne _ (iO_S s i s (by omega)).symm, puR_ne _ (iO_T s i s i).symm, puR_ne _ (iO_Set s i s (by omega)).symm, oWord_u10, oIn_u10, c13, c52, c78, c106]; done) | (simp_all; done)) ?_
            refine g_sub [(0, ra X (iS s)), (1, .int a), (2, .int (foC1 σ s a (i + 1))), (3, .int (foC0 σ s a (i + 1))), (4, .int (nI (i + 1)))] ⟨rfl, rfl, (congrArg (fun z => some (Value.int z)) (by show _ = foC1 σ s a i + (if _ then _ else _); simp only [foW, ← eO, ← eT, ← eS]; first | (simp [pu_puR, puR_puR, puR_self, puR_id, upd_s, upd_n, puR_ne _ (iO_S s i s (by omega)).symm, puR_ne _ (iO_T s i s i).symm, puR_ne _ (iO_Set s i s (by omega)).symm, oWord_u10, oIn_u10, c13, c52, c78, c106]; done) | (simp_all; done))), (congrArg (fun z => some (Value.int z)) (by show _ = foC0 σ s a i + (if _ then _ else _); simp only [foW, ← eO, ← eT, ← eS]; first | (simp [pu_puR, puR_puR, puR_self, puR_id, upd_s, upd_n, puR_ne _ (iO_S s i s (by omega)).symm, puR_ne _ (iO_T s i s i).symm, puR_ne _ (iO_Set s i s (by omega)).symm, oWord_u10, oIn_u10, c13, c52, c78, c106]; done) | (simp_all; done))), rfl, trivial⟩ ?_
            exact ih (i + 1) (by omega)
          · simp +decide only [pu_puR, puR_puR, puR_self, puR_id, upd_s, upd_n, puR_ne _ (iO_S s i s (by omega)).symm, puR_ne _ (iO_T s i s i).symm, puR_ne _ (iO_Set s i s (by omega)).symm, oWord_u10, oIn_u10] at c106
            refine g_iload_n h dX3_foretell_109 rfl ?_
            refine g_aload h dX3_foretell_110 rfl ?_
            refine gf3_85 h (by omega) (by omega) dX3_foretell_112 ?_
            refine g_iadd h dX3_foretell_115 ?_
            refine g_istore_n h dX3_foretell_116 (by rw [hL]; decide) ?_
            refine g_iincN h dX3_foretell_117 rfl (by rw [hL]; decide) ?_
            refine g_goto h 7 dX3_foretell_120 (by decide) ?_
            refine g_mem (setF σ (iO s) (foR1 σ s a) (i + 1)) (by show _ = puR (setF σ (iO s) (foR1 σ s a) i) (iO s i) (foR1 σ s a i); rw [hτ]; simp only [foR1, foSt, foW, ← eO, ← eT, ← eS, ← eW]; first | (simp [pu_puR, puR_puR, puR_self, puR_id, upd_s, upd_n, puR_ne _ (iO_S s i s (by omega)).symm, puR_ne _ (iO_T s i s i).symm, puR_ne _ (iO_Set s i s (by omega)).symm, oWord_u10, oIn_u10, c13, c52, c78, c106]; done) | (simp_all; done)) ?_
            refine g_sub [(0, ra X (iS s)), (1, .int a), (2, .int (foC1 σ s a (i + 1))), (3, .int (foC0 σ s a (i + 1))), (4, .int (nI (i + 1)))] ⟨rfl, rfl, (congrArg (fun z => some (Value.int z)) (by show _ = foC1 σ s a i + (if _ then _ else _); simp only [foW, ← eO, ← eT, ← eS]; first | (simp [pu_puR, puR_puR, puR_self, puR_id, upd_s, upd_n, puR_ne _ (iO_S s i s (by omega)).symm, puR_ne _ (iO_T s i s i).symm, puR_ne _ (iO_Set s i s (by omega)).symm, oWord_u10, oIn_u10, c13, c52, c78, c106]; done) | (simp_all; done))), (congrArg (fun z => some (Value.int z)) (by show _ = foC0 σ s a i + (if _ then _ else _); simp only [foW, ← eO, ← eT, ← eS]; first | (simp [pu_puR, puR_puR, puR_self, puR_id, upd_s, upd_n, puR_ne _ (iO_S s i s (by omega)).symm, puR_ne _ (iO_T s i s i).symm, puR_ne _ (iO_Set s i s (by omega)).symm, oWord_u10, oIn_u10, c13, c52, c78, c106]; done) | (simp_all; done))), rfl, trivial⟩ ?_
            exact ih (i + 1) (by omega)
        · simp +decide only [pu_puR, puR_puR, puR_self, puR_id, upd_s, upd_n, puR_ne _ (iO_S s i s (by omega)).symm, puR_ne _ (iO_T s i s i).symm, puR_ne _ (iO_Set s i s (by omega)).symm, oWord_u10, oIn_u10] at c78
          refine g_aload h dX3_foretell_81 rfl ?_
          refine gf3_111 h (by omega) (by omega) dX3_foretell_83 ?_
          refine g_iconst (v := 1) h dX3_foretell_86 (by decide) ?_
          refine g_icne h 101 dX3_foretell_87 (by decide) (fun c87 => ?_) (fun c87 => ?_)
          · simp +decide only [pu_puR, puR_puR, puR_self, puR_id, upd_s, upd_n, puR_ne _ (iO_S s i s (by omega)).symm, puR_ne _ (iO_T s i s i).symm, puR_ne _ (iO_Set s i s (by omega)).symm, oWord_u10, oIn_u10] at c87
            refine g_aload h dX3_foretell_101 rfl ?_
            refine cl3_114 h (by omega) (by omega) (ct_X1_takesPart (by omega) (by omega)) rfl dX3_foretell_103 rfl (Nat.le_of_ble_eq_true rfl) (by decide) ?_
            refine g_ifeqB h 117 dX3_foretell_106 (by decide) (fun c106 => ?_) (fun c106 => ?_)
            · simp +decide only [pu_puR, puR_puR, puR_self, puR_id, upd_s, upd_n, puR_ne _ (iO_S s i s (by omega)).symm, puR_ne _ (iO_T s i s i).symm, puR_ne _ (iO_Set s i s (by omega)).symm, oWord_u10, oIn_u10] at c106
              refine g_iincN h dX3_foretell_117 rfl (by rw [hL]; decide) ?_
              refine g_goto h 7 dX3_foretell_120 (by decide) ?_
              refine g_mem (setF σ (iO s) (foR1 σ s a) (i + 1)) (by show _ = puR (setF σ (iO s) (foR1 σ s a) i) (iO s i) (foR1 σ s a i); rw [hτ]; simp only [foR1, foSt, foW, ← eO, ← eT, ← eS, ← eW]; first | (simp [pu_puR, puR_puR, puR_self, puR_id, upd_s, upd_n, puR_ne _ (iO_S s i s (by omega)).symm, puR_ne _ (iO_T s i s i).symm, puR_ne _ (iO_Set s i s (by omega)).symm, oWord_u10, oIn_u10, c13, c52, c78, c87, c106]; done) | (simp_all; done)) ?_
              refine g_sub [(0, ra X (iS s)), (1, .int a), (2, .int (foC1 σ s a (i + 1))), (3, .int (foC0 σ s a (i + 1))), (4, .int (nI (i + 1)))] ⟨rfl, rfl, (congrArg (fun z => some (Value.int z)) (by show _ = foC1 σ s a i + (if _ then _ else _); simp only [foW, ← eO, ← eT, ← eS]; first | (simp [pu_puR, puR_puR, puR_self, puR_id, upd_s, upd_n, puR_ne _ (iO_S s i s (by omega)).symm, puR_ne _ (iO_T s i s i).symm, puR_ne _ (iO_Set s i s (by omega)).symm, oWord_u10, oIn_u10, c13, c52, c78, c87, c106]; done) | (simp_all; done))), (congrArg (fun z => some (Value.int z)) (by show _ = foC0 σ s a i + (if _ then _ else _); simp only [foW, ← eO, ← eT, ← eS]; first | (simp [pu_puR, puR_puR, puR_self, puR_id, upd_s, upd_n, puR_ne _ (iO_S s i s (by omega)).symm, puR_ne _ (iO_T s i s i).symm, puR_ne _ (iO_Set s i s (by omega)).symm, oWord_u10, oIn_u10, c13, c52, c78, c87, c106]; done) | (simp_all; done))), rfl, trivial⟩ ?_
              exact ih (i + 1) (by omega)
            · simp +decide only [pu_puR, puR_puR, puR_self, puR_id, upd_s, upd_n, puR_ne _ (iO_S s i s (by omega)).symm, puR_ne _ (iO_T s i s i).symm, puR_ne _ (iO_Set s i s (by omega)).symm, oWord_u10, oIn_u10] at c106
              refine g_iload_n h dX3_foretell_109 rfl ?_
              refine g_aload h dX3_foretell_110 rfl ?_
              refine gf3_85 h (by omega) (by omega) dX3_foretell_112 ?_
              refine g_iadd h dX3_foretell_115 ?_
              refine g_istore_n h dX3_foretell_116 (by rw [hL]; decide) ?_
              refine g_iincN h dX3_foretell_117 rfl (by rw [hL]; decide) ?_
              refine g_goto h 7 dX3_foretell_120 (by decide) ?_
              refine g_mem (setF σ (iO s) (foR1 σ s a) (i + 1)) (by show _ = puR (setF σ (iO s) (foR1 σ s a) i) (iO s i) (foR1 σ s a i); rw [hτ]; simp only [foR1, foSt, foW, ← eO, ← eT, ← eS, ← eW]; first | (simp [pu_puR, puR_puR, puR_self, puR_id, upd_s, upd_n, puR_ne _ (iO_S s i s (by omega)).symm, puR_ne _ (iO_T s i s i).symm, puR_ne _ (iO_Set s i s (by omega)).symm, oWord_u10, oIn_u10, c13, c52, c78, c87, c106]; done) | (simp_all; done)) ?_
              refine g_sub [(0, ra X (iS s)), (1, .int a), (2, .int (foC1 σ s a (i + 1))), (3, .int (foC0 σ s a (i + 1))), (4, .int (nI (i + 1)))] ⟨rfl, rfl, (congrArg (fun z => some (Value.int z)) (by show _ = foC1 σ s a i + (if _ then _ else _); simp only [foW, ← eO, ← eT, ← eS]; first | (simp [pu_puR, puR_puR, puR_self, puR_id, upd_s, upd_n, puR_ne _ (iO_S s i s (by omega)).symm, puR_ne _ (iO_T s i s i).symm, puR_ne _ (iO_Set s i s (by omega)).symm, oWord_u10, oIn_u10, c13, c52, c78, c87, c106]; done) | (simp_all; done))), (congrArg (fun z => some (Value.int z)) (by show _ = foC0 σ s a i + (if _ then _ else _); simp only [foW, ← eO, ← eT, ← eS]; first | (simp [pu_puR, puR_puR, puR_self, puR_id, upd_s, upd_n, puR_ne _ (iO_S s i s (by omega)).symm, puR_ne _ (iO_T s i s i).symm, puR_ne _ (iO_Set s i s (by omega)).symm, oWord_u10, oIn_u10, c13, c52, c78, c87, c106]; done) | (simp_all; done))), rfl, trivial⟩ ?_
              exact ih (i + 1) (by omega)
          · simp +decide only [pu_puR, puR_puR, puR_self, puR_id, upd_s, upd_n, puR_ne _ (iO_S s i s (by omega)).symm, puR_ne _ (iO_T s i s i).symm, puR_ne _ (iO_Set s i s (by omega)).symm, oWord_u10, oIn_u10] at c87
            refine g_iload_n h dX3_foretell_90 rfl ?_
            refine g_aload h dX3_foretell_91 rfl ?_
            refine gf3_85 h (by omega) (by omega) dX3_foretell_93 ?_
            refine g_iadd h dX3_foretell_96 ?_
            refine g_istore_n h dX3_foretell_97 (by rw [hL]; decide) ?_
            refine g_goto h 117 dX3_foretell_98 (by decide) ?_
            refine g_iincN h dX3_foretell_117 rfl (by rw [hL]; decide) ?_
            refine g_goto h 7 dX3_foretell_120 (by decide) ?_
            refine g_mem (setF σ (iO s) (foR1 σ s a) (i + 1)) (by show _ = puR (setF σ (iO s) (foR1 σ s a) i) (iO s i) (foR1 σ s a i); rw [hτ]; simp only [foR1, foSt, foW, ← eO, ← eT, ← eS, ← eW]; first | (simp [pu_puR, puR_puR, puR_self, puR_id, upd_s, upd_n, puR_ne _ (iO_S s i s (by omega)).symm, puR_ne _ (iO_T s i s i).symm, puR_ne _ (iO_Set s i s (by omega)).symm, oWord_u10, oIn_u10, c13, c52, c78, c87]; done) | (simp_all; done)) ?_
            refine g_sub [(0, ra X (iS s)), (1, .int a), (2, .int (foC1 σ s a (i + 1))), (3, .int (foC0 σ s a (i + 1))), (4, .int (nI (i + 1)))] ⟨rfl, rfl, (congrArg (fun z => some (Value.int z)) (by show _ = foC1 σ s a i + (if _ then _ else _); simp only [foW, ← eO, ← eT, ← eS]; first | (simp [pu_puR, puR_puR, puR_self, puR_id, upd_s, upd_n, puR_ne _ (iO_S s i s (by omega)).symm, puR_ne _ (iO_T s i s i).symm, puR_ne _ (iO_Set s i s (by omega)).symm, oWord_u10, oIn_u10, c13, c52, c78, c87]; done) | (simp_all; done))), (congrArg (fun z => some (Value.int z)) (by show _ = foC0 σ s a i + (if _ then _ else _); simp only [foW, ← eO, ← eT, ← eS]; first | (simp [pu_puR, puR_puR, puR_self, puR_id, upd_s, upd_n, puR_ne _ (iO_S s i s (by omega)).symm, puR_ne _ (iO_T s i s i).symm, puR_ne _ (iO_Set s i s (by omega)).symm, oWord_u10, oIn_u10, c13, c52, c78, c87]; done) | (simp_all; done))), rfl, trivial⟩ ?_
            exact ih (i + 1) (by omega)
      · simp +decide only [pu_puR, puR_puR, puR_self, puR_id, upd_s, upd_n, puR_ne _ (iO_S s i s (by omega)).symm, puR_ne _ (iO_T s i s i).symm, puR_ne _ (iO_Set s i s (by omega)).symm, oWord_u10, oIn_u10] at c52
        refine g_goto h 117 dX3_foretell_55 (by decide) ?_
        refine g_iincN h dX3_foretell_117 rfl (by rw [hL]; decide) ?_
        refine g_goto h 7 dX3_foretell_120 (by decide) ?_
        refine g_mem (setF σ (iO s) (foR1 σ s a) (i + 1)) (by show _ = puR (setF σ (iO s) (foR1 σ s a) i) (iO s i) (foR1 σ s a i); rw [hτ]; simp only [foR1, foSt, foW, ← eO, ← eT, ← eS, ← eW]; first | (simp [pu_puR, puR_puR, puR_self, puR_id, upd_s, upd_n, puR_ne _ (iO_S s i s (by omega)).symm, puR_ne _ (iO_T s i s i).symm, puR_ne _ (iO_Set s i s (by omega)).symm, oWord_u10, oIn_u10, c13, c52]; done) | (simp_all; done)) ?_
        refine g_sub [(0, ra X (iS s)), (1, .int a), (2, .int (foC1 σ s a (i + 1))), (3, .int (foC0 σ s a (i + 1))), (4, .int (nI (i + 1)))] ⟨rfl, rfl, (congrArg (fun z => some (Value.int z)) (by show _ = foC1 σ s a i + (if _ then _ else _); simp only [foW, ← eO, ← eT, ← eS]; first | (simp [pu_puR, puR_puR, puR_self, puR_id, upd_s, upd_n, puR_ne _ (iO_S s i s (by omega)).symm, puR_ne _ (iO_T s i s i).symm, puR_ne _ (iO_Set s i s (by omega)).symm, oWord_u10, oIn_u10, c13, c52]; done) | (simp_all; done))), (congrArg (fun z => some (Value.int z)) (by show _ = foC0 σ s a i + (if _ then _ else _); simp only [foW, ← eO, ← eT, ← eS]; first | (simp [pu_puR, puR_puR, puR_self, puR_id, upd_s, upd_n, puR_ne _ (iO_S s i s (by omega)).symm, puR_ne _ (iO_T s i s i).symm, puR_ne _ (iO_Set s i s (by omega)).symm, oWord_u10, oIn_u10, c13, c52]; done) | (simp_all; done))), rfl, trivial⟩ ?_
        exact ih (i + 1) (by omega)
  refine g_iconst (v := 0) h dX3_foretell_0 (by decide) ?_
  refine g_istore_n h dX3_foretell_1 (by rw [hL]; decide) ?_
  refine g_iconst (v := 0) h dX3_foretell_2 (by decide) ?_
  refine g_istore_n h dX3_foretell_3 (by rw [hL]; decide) ?_
  refine g_iconst (v := 0) h dX3_foretell_4 (by decide) ?_
  refine g_istore h dX3_foretell_5 (by rw [hL]; decide) ?_
  refine g_sub [(0, ra X (iS s)), (1, .int a), (2, .int (foC1 σ s a 0)), (3, .int (foC0 σ s a 0)), (4, .int (nI 0))] ⟨rfl, rfl, rfl, rfl, lk_0, trivial⟩ ?_
  exact LOOP1 n 0 (by omega)

def kept (σ : fM) (s : Nat) (k : Int32) (i : Nat) : Nat → Int32 := if σ.1 (iO s i) 10 ≤ 0 then σ.1 (iO s i) else oNote (σ.1 (iO s i)) (if σ.1 (iO s i) 9 = k then 1 else 0)

set_option maxRecDepth 100000 in
set_option maxHeartbeats 4000000 in
theorem ct_X3_keepRecords {l : Launch} {X : fX} {σ : fM} {s n m : Nat} (hs : s < 6) (hc : cnt σ s n m) {k : Int32} : Ct l X yX3_keepRecords cX3_keepRecords 3 none 2 [ra X (iS s), .int k] σ none (setF σ (iO s) (kept σ s k) n) := by
  refine Ct.of RX3 rfl (by decide) (Nat.le_of_ble_eq_true rfl) ?_
  intro x hL h hr
  refine g_sub [(0, ra X (iS s)), (1, .int k)] ⟨rfl, rfl, trivial⟩ ?_
  obtain ⟨hn, hm, hn6, hm8⟩ := id hc
  have LOOP : ∀ (q i : Nat), i + q = n → G x X (setF σ (iO s) (kept σ s k) i) [(0, ra X (iS s)), (1, .int k), (2, .int (nI i))] [] 2 := by
    intro q
    induction q with
    | zero =>
      intro i hi 
      have hie : i = n := by omega
      rw [hie]
      have hn : (setF σ (iO s) (kept σ s k) n).1 (iS s) 3 = nI n := by rw [show (setF σ (iO s) (kept σ s k) n).1 (iS s) = σ.1 (iS s) from setF_ne (fun j hj => iO_S s j s (by omega))]; exact hn
      refine g_iload_n h dX3_keepRecords_2 rfl ?_
      refine g_aload_n h dX3_keepRecords_3 rfl ?_
      refine gf3_32 h (by omega) dX3_keepRecords_4 ?_
      refine g_icge h 55 dX3_keepRecords_7 (by decide) (fun c7 => ?_) (fun c7 => absurd (by rw [hn]; exact Int32.le_refl _) c7)
      exact g_vret h hr dX3_keepRecords_55 rfl
    | succ q ih =>
      intro i hi 
      have hlt : i < n := by omega
      have eO : (setF σ (iO s) (kept σ s k) i).1 (iO s i) = σ.1 (iO s i) := setF_off (iO_inj s) (Nat.le_refl i)
      have hn : (setF σ (iO s) (kept σ s k) i).1 (iS s) 3 = nI n := by rw [show (setF σ (iO s) (kept σ s k) i).1 (iS s) = σ.1 (iS s) from setF_ne (fun j hj => iO_S s j s (by omega))]; exact hn
      generalize hτ : (setF σ (iO s) (kept σ s k) i) = τ at eO hn ⊢
      refine g_iload_n h dX3_keepRecords_2 rfl ?_
      refine g_aload_n h dX3_keepRecords_3 rfl ?_
      refine gf3_32 h (by omega) dX3_keepRecords_4 ?_
      refine g_icge h 55 dX3_keepRecords_7 (by decide) (fun c7 => absurd c7 (by rw [hn]; exact nI_ge hlt (by omega))) (fun c7 => ?_)
      refine g_aload_n h dX3_keepRecords_10 rfl ?_
      refine gf3_11 h (by omega) dX3_keepRecords_11 ?_
      refine g_iload_n h dX3_keepRecords_14 rfl ?_
      refine g_aaldO h (by omega) rfl (by omega) dX3_keepRecords_15 ?_
      refine gf3_101 h (by omega) (by omega) dX3_keepRecords_16 ?_
      refine g_ifle h 49 dX3_keepRecords_19 (by decide) (fun c19 => ?_) (fun c19 => ?_)
      · refine g_iincN h dX3_keepRecords_49 rfl (by rw [hL]; decide) ?_
        refine g_goto h 2 dX3_keepRecords_52 (by decide) ?_
        refine g_mem (setF σ (iO s) (kept σ s k) (i + 1)) (by show _ = puR (setF σ (iO s) (kept σ s k) i) (iO s i) (kept σ s k i); rw [hτ]; simp only [kept, ← eO]; simp [pu_puR, puR_puR, puR_self, puR_id, c7, c19]) ?_
        refine g_sub [(0, ra X (iS s)), (1, .int k), (2, .int (nI (i + 1)))] ⟨rfl, rfl, rfl, trivial⟩ ?_
        exact ih (i + 1) (by omega)
      · refine g_aload_n h dX3_keepRecords_22 rfl ?_
        refine gf3_11 h (by omega) dX3_keepRecords_23 ?_
        refine g_iload_n h dX3_keepRecords_26 rfl ?_
        refine g_aaldO h (by omega) rfl (by omega) dX3_keepRecords_27 ?_
        refine g_aload_n h dX3_keepRecords_28 rfl ?_
        refine gf3_11 h (by omega) dX3_keepRecords_29 ?_
        refine g_iload_n h dX3_keepRecords_32 rfl ?_
        refine g_aaldO h (by omega) rfl (by omega) dX3_keepRecords_33 ?_
        refine gf3_111 h (by omega) (by omega) dX3_keepRecords_34 ?_
        refine g_iload_n h dX3_keepRecords_37 rfl ?_
        refine g_icne h 45 dX3_keepRecords_38 (by decide) (fun c38 => ?_) (fun c38 => ?_)
        · refine g_iconst (v := 0) h dX3_keepRecords_45 (by decide) ?_
          refine cl3_146 h (by omega) (by omega) (ct_X1_note (by omega) (by omega)) rfl dX3_keepRecords_46 rfl (Nat.le_of_ble_eq_true rfl) (by decide) ?_
          refine g_iincN h dX3_keepRecords_49 rfl (by rw [hL]; decide) ?_
          refine g_goto h 2 dX3_keepRecords_52 (by decide) ?_
          refine g_mem (setF σ (iO s) (kept σ s k) (i + 1)) (by show _ = puR (setF σ (iO s) (kept σ s k) i) (iO s i) (kept σ s k i); rw [hτ]; simp only [kept, ← eO]; simp [pu_puR, puR_puR, puR_self, puR_id, c7, c19, c38]) ?_
          refine g_sub [(0, ra X (iS s)), (1, .int k), (2, .int (nI (i + 1)))] ⟨rfl, rfl, rfl, trivial⟩ ?_
          exact ih (i + 1) (by omega)
        · refine g_iconst (v := 1) h dX3_keepRecords_41 (by decide) ?_
          refine g_goto h 46 dX3_keepRecords_42 (by decide) ?_
          refine cl3_146 h (by omega) (by omega) (ct_X1_note (by omega) (by omega)) rfl dX3_keepRecords_46 rfl (Nat.le_of_ble_eq_true rfl) (by decide) ?_
          refine g_iincN h dX3_keepRecords_49 rfl (by rw [hL]; decide) ?_
          refine g_goto h 2 dX3_keepRecords_52 (by decide) ?_
          refine g_mem (setF σ (iO s) (kept σ s k) (i + 1)) (by show _ = puR (setF σ (iO s) (kept σ s k) i) (iO s i) (kept σ s k i); rw [hτ]; simp only [kept, ← eO]; simp [pu_puR, puR_puR, puR_self, puR_id, c7, c19, c38]) ?_
          refine g_sub [(0, ra X (iS s)), (1, .int k), (2, .int (nI (i + 1)))] ⟨rfl, rfl, rfl, trivial⟩ ?_
          exact ih (i + 1) (by omega)
  refine g_iconst (v := 0) h dX3_keepRecords_0 (by decide) ?_
  refine g_istore_n h dX3_keepRecords_1 (by rw [hL]; decide) ?_
  refine g_sub [(0, ra X (iS s)), (1, .int k), (2, .int (nI 0))] ⟨rfl, rfl, lk_0, trivial⟩ ?_
  exact LOOP n 0 (by omega)

def lrn (σ : fM) (s : Nat) (a k : Int32) (i : Nat) : Nat → Int32 := if oTab (σ.1 (iO s i)) = true then upd (σ.1 (iT s i)) (oSlot (σ.1 (iO s i)) a (σ.1 (iS s) 6)).toNatClampNeg (oLrn (σ.1 (iT s i) (oSlot (σ.1 (iO s i)) a (σ.1 (iS s) 6)).toNatClampNeg) k) else σ.1 (iT s i)
def lrnS (f : Nat → Int32) (k : Int32) : Nat → Int32 := upd (upd f 6 ((2 * f 6 + k) &&& 255)) 7 (f 7 + 1)
def learnM (σ : fM) (s n : Nat) (a k : Int32) : fM := puL (puR (setF σ (iT s) (lrn σ s a k) n) (iS s) (lrnS (σ.1 (iS s)) k)) (iS s) (σ.2 (iS s) ||| ((1 : Int64) <<< (a.toInt64 &&& 63)))

set_option maxRecDepth 100000 in
set_option maxHeartbeats 4000000 in
theorem ct_X3_learnFrom {l : Launch} {X : fX} {σ : fM} {s n m : Nat} (hs : s < 6) (hc : cnt σ s n m) {a k : Int32} (hg : ∀ i, i < n → oGood (σ.1 (iO s i))) : Ct l X yX3_learnFrom cX3_learnFrom 4 none 3 [ra X (iS s), .int a, .int k] σ none (learnM σ s n a k) := by
  refine Ct.of RX3 rfl (by decide) (Nat.le_of_ble_eq_true rfl) ?_
  intro x hL h hr
  refine g_sub [(0, ra X (iS s)), (1, .int a), (2, .int k)] ⟨rfl, rfl, rfl, trivial⟩ ?_
  obtain ⟨hn, hm, hn6, hm8⟩ := id hc
  have LOOP : ∀ (q i : Nat), i + q = n → G x X (setF σ (iT s) (lrn σ s a k) i) [(0, ra X (iS s)), (1, .int a), (2, .int k), (3, .int (nI i))] [] 2 := by
    intro q
    induction q with
    | zero =>
      intro i hi 
      have hie : i = n := by omega
      rw [hie]
      have eS : (setF σ (iT s) (lrn σ s a k) n).1 (iS s) = σ.1 (iS s) := setF_ne (fun j hj => iT_S s j s (by omega))
      have hn : (setF σ (iT s) (lrn σ s a k) n).1 (iS s) 3 = nI n := by rw [eS]; exact hn
      refine g_iload_n h dX3_learnFrom_2 rfl ?_
      refine g_aload_n h dX3_learnFrom_3 rfl ?_
      refine gf3_32 h (by omega) dX3_learnFrom_4 ?_
      refine g_icge h 43 dX3_learnFrom_7 (by decide) (fun c7 => ?_) (fun c7 => absurd (by rw [hn]; exact Int32.le_refl _) c7)
      refine g_aload_n h dX3_learnFrom_43 rfl ?_
      refine g_iconst (v := 2) h dX3_learnFrom_44 (by decide) ?_
      refine g_aload_n h dX3_learnFrom_45 rfl ?_
      refine gf3_55 h (by omega) dX3_learnFrom_46 ?_
      refine g_imul h dX3_learnFrom_49 ?_
      refine g_iload_n h dX3_learnFrom_50 rfl ?_
      refine g_iadd h dX3_learnFrom_51 ?_
      refine g_sipush (v := 255) h dX3_learnFrom_52 (by decide) ?_
      refine g_iand h dX3_learnFrom_55 ?_
      refine gp3_55 h (by omega) dX3_learnFrom_56 ?_
      refine g_aload_n h dX3_learnFrom_59 rfl ?_
      refine g_dup h dX3_learnFrom_60 rfl ?_
      refine gf3_58 h (by omega) dX3_learnFrom_61 ?_
      refine g_iconst (v := 1) h dX3_learnFrom_64 (by decide) ?_
      refine g_iadd h dX3_learnFrom_65 ?_
      refine gp3_58 h (by omega) dX3_learnFrom_66 ?_
      refine g_aload_n h dX3_learnFrom_69 rfl ?_
      refine g_dup h dX3_learnFrom_70 rfl ?_
      refine gf3_64 h (by omega) dX3_learnFrom_71 ?_
      refine g_lconst (v := 1) h dX3_learnFrom_74 (by decide) ?_
      refine g_iload_n h dX3_learnFrom_75 rfl ?_
      refine g_lshl h dX3_learnFrom_76 ?_
      refine g_lor h dX3_learnFrom_77 ?_
      refine gp3_64 h (by omega) dX3_learnFrom_78 ?_
      exact g_vret h hr dX3_learnFrom_81 (by unfold learnM lrnS; rw [show σ.2 = ((setF σ (iT s) (lrn σ s a k) n)).2 from (setF_2 _ _ _ _).symm, ← eS]; simp only [pu_puR, puR_puR, puR_self, upd_n _ _ _ _ (show ¬ (7 : Nat) = 6 by decide)]; rfl)
    | succ q ih =>
      intro i hi 
      have hlt : i < n := by omega
      have eO : (setF σ (iT s) (lrn σ s a k) i).1 (iO s i) = σ.1 (iO s i) := setF_ne (fun j hj => (iO_T s i s j).symm)
      have eT : (setF σ (iT s) (lrn σ s a k) i).1 (iT s i) = σ.1 (iT s i) := setF_off (iT_inj s) (Nat.le_refl i)
      have eS : (setF σ (iT s) (lrn σ s a k) i).1 (iS s) = σ.1 (iS s) := setF_ne (fun j hj => iT_S s j s (by omega))
      have hn : (setF σ (iT s) (lrn σ s a k) i).1 (iS s) 3 = nI n := by rw [eS]; exact hn
      have hgi : oGood (σ.1 (iO s i)) := hg i (by omega)
      generalize hτ : (setF σ (iT s) (lrn σ s a k) i) = τ at eO eT eS hn ⊢
      refine g_iload_n h dX3_learnFrom_2 rfl ?_
      refine g_aload_n h dX3_learnFrom_3 rfl ?_
      refine gf3_32 h (by omega) dX3_learnFrom_4 ?_
      refine g_icge h 43 dX3_learnFrom_7 (by decide) (fun c7 => absurd c7 (by rw [hn]; exact nI_ge hlt (by omega))) (fun c7 => ?_)
      refine g_aload_n h dX3_learnFrom_10 rfl ?_
      refine gf3_11 h (by omega) dX3_learnFrom_11 ?_
      refine g_iload_n h dX3_learnFrom_14 rfl ?_
      refine g_aaldO h (by omega) rfl (by omega) dX3_learnFrom_15 ?_
      refine cl3_150 h (by omega) (by omega) (ct_X1_hasTable (by omega) (by omega)) rfl dX3_learnFrom_16 rfl (Nat.le_of_ble_eq_true rfl) (by decide) ?_
      refine g_ifeqB h 37 dX3_learnFrom_19 (by decide) (fun c19 => ?_) (fun c19 => ?_)
      · refine g_iincN h dX3_learnFrom_37 rfl (by rw [hL]; decide) ?_
        refine g_goto h 2 dX3_learnFrom_40 (by decide) ?_
        refine g_mem (setF σ (iT s) (lrn σ s a k) (i + 1)) (by show _ = puR (setF σ (iT s) (lrn σ s a k) i) (iT s i) (lrn σ s a k i); rw [hτ]; simp only [lrn, ← eO, ← eT, ← eS]; simp [pu_puR, puR_puR, puR_self, puR_id, c7, c19]) ?_
        refine g_sub [(0, ra X (iS s)), (1, .int a), (2, .int k), (3, .int (nI (i + 1)))] ⟨rfl, rfl, rfl, rfl, trivial⟩ ?_
        exact ih (i + 1) (by omega)
      · refine g_aload_n h dX3_learnFrom_22 rfl ?_
        refine gf3_11 h (by omega) dX3_learnFrom_23 ?_
        refine g_iload_n h dX3_learnFrom_26 rfl ?_
        refine g_aaldO h (by omega) rfl (by omega) dX3_learnFrom_27 ?_
        refine g_iload_n h dX3_learnFrom_28 rfl ?_
        refine g_iload_n h dX3_learnFrom_29 rfl ?_
        refine g_aload_n h dX3_learnFrom_30 rfl ?_
        refine gf3_55 h (by omega) dX3_learnFrom_31 ?_
        refine cl3_153 h (by omega) (by omega) (ct_X1_learn hs (by omega) (by rw [eO]; exact hgi) c19) rfl dX3_learnFrom_34 rfl (Nat.le_of_ble_eq_true rfl) (by decide) ?_
        refine g_iincN h dX3_learnFrom_37 rfl (by rw [hL]; decide) ?_
        refine g_goto h 2 dX3_learnFrom_40 (by decide) ?_
        refine g_mem (setF σ (iT s) (lrn σ s a k) (i + 1)) (by show _ = puR (setF σ (iT s) (lrn σ s a k) i) (iT s i) (lrn σ s a k i); rw [hτ]; simp only [lrn, ← eO, ← eT, ← eS]; simp [pu_puR, puR_puR, puR_self, puR_id, c7, c19]) ?_
        refine g_sub [(0, ra X (iS s)), (1, .int a), (2, .int k), (3, .int (nI (i + 1)))] ⟨rfl, rfl, rfl, rfl, trivial⟩ ?_
        exact ih (i + 1) (by omega)
  refine g_iconst (v := 0) h dX3_learnFrom_0 (by decide) ?_
  refine g_istore_n h dX3_learnFrom_1 (by rw [hL]; decide) ?_
  refine g_sub [(0, ra X (iS s)), (1, .int a), (2, .int k), (3, .int (nI 0))] ⟨rfl, rfl, rfl, lk_0, trivial⟩ ?_
  exact LOOP n 0 (by omega)