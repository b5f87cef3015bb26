/-! the model: what is recorded, what changes -/
def mcp (f g : Nat → Int32) (a b n : Nat) : Nat → Int32 := fun j => if b ≤ j ∧ j < b + n then f (a + (j - b)) else g j
theorem mcp_0 (f g : Nat → Int32) (a b : Nat) : mcp f g a b 0 = g := by funext j; exact if_neg (by omega)
theorem mcp_s (f g : Nat → Int32) (a b i : Nat) : upd (mcp f g a b i) (b + i) (f (a + i)) = mcp f g a b (i + 1) := by
  funext q
  unfold upd mcp
  by_cases h : q = b + i
  · rw [if_pos h, if_pos (by omega), h, Nat.add_sub_cancel_left]
  · rw [if_neg h]
    by_cases h2 : b ≤ q ∧ q < b + i
    · rw [if_pos h2, if_pos (by omega)]
    · rw [if_neg h2, if_neg (by omega)]
def shf (g : Nat → Int32) (i : Nat) : Nat → Int32 := fun j => if j < i then g (j + 349) else g j
theorem shf_0 (g : Nat → Int32) : shf g 0 = g := by funext j; exact if_neg (by omega)
theorem shf_s (g : Nat → Int32) (i : Nat) : upd (shf g i) i (g (i + 349)) = shf g (i + 1) := by
  funext q
  unfold upd shf
  by_cases h : q = i
  · rw [if_pos h, if_pos (by omega), h]
  · rw [if_neg h]
    by_cases h2 : q < i
    · rw [if_pos h2, if_pos (by omega)]
    · rw [if_neg h2, if_neg (by omega)]
theorem shf_ge (g : Nat → Int32) {i j : Nat} (h : i ≤ j) : shf g i j = g j := if_neg (by omega)
/-- z states are recorded -/
def mrc (σ : fM) (z : Nat) : Prop := σ.1 150 3 = nI z ∧ z ≤ 4
def mrec (σ : fM) (z : Nat) : fM := if z = 4 then pu (puR σ 153 (mcp (σ.1 151) (shf (σ.1 153) 1047) 0 (3 * 349) 349)) 150 3 (nI 4) else pu (puR σ 153 (mcp (σ.1 151) (σ.1 153) 0 (z * 349) 349)) 150 3 (nI (z + 1))
theorem mrec_ne {σ : fM} {z k : Nat} (h : k ≠ 153) (h2 : k ≠ 150) : (mrec σ z).1 k = σ.1 k := by
  unfold mrec
  split
  · rw [pu_ne _ h2, puR_ne _ h]
  · rw [pu_ne _ h2, puR_ne _ h]
theorem mrec_151 (σ : fM) (z : Nat) : (mrec σ z).1 151 = σ.1 151 := mrec_ne (by decide) (by decide)
theorem puR_pu (σ : fM) {k j : Nat} {v : Int32} {row : Nat → Int32} (k' : Nat) (h : k' ≠ k) : puR (pu σ k j v) k' row = pu (puR σ k' row) k j v := by
  rw [pu_puR, pu_puR, puR_comm _ (fun e => h e.symm), puR_ne _ (fun e => h e.symm)]
theorem m349 (z : Nat) : nI z * 349 = nI (z * 349) := by rw [show (349 : Int32) = nI 349 by decide, pk_mul]
theorem a349 (z : Nat) : nI z + 349 = nI (z + 349) := by rw [show (349 : Int32) = nI 349 by decide, nI_add]
theorem isS_def : True := trivial
theorem pu_pu2 (σ : fM) (k j : Nat) (v v' : Int32) : pu (pu σ k j v) k j v' = pu σ k j v' := pu_pu σ k j v v'

set_option maxRecDepth 100000 in
set_option maxHeartbeats 4000000 in
theorem ct_X6_copy {l : Launch} {X : fX} {σ : fM} {k0 k1 n0 n1 f t : Nat} (hk0 : k0 < 159) (hk1 : k1 < 159) (he0 : ∀ row e, enc X k0 row e = .inl (X.2.2.1 0, n0, .inl row)) (he1 : ∀ row e, enc X k1 row e = .inl (X.2.2.1 0, n1, .inl row)) (hne : k0 ≠ k1) (hf : f + 349 ≤ n0) (ht : t + 349 ≤ n1) (hn0 : n0 < 2 ^ 31) (hn1 : n1 < 2 ^ 31) : Ct l X yX6_copy cX6_copy 5 none 0 [ra X k0, .int (nI f), ra X k1, .int (nI t)] σ none (puR σ k1 (mcp (σ.1 k0) (σ.1 k1) f t 349)) := by
  refine Ct.of RX6 rfl (by decide) (Nat.le_of_ble_eq_true rfl) ?_
  intro x hL h hr
  refine g_sub [(0, ra X k0), (1, .int (nI f)), (2, ra X k1), (3, .int (nI t))] ⟨rfl, rfl, rfl, rfl, trivial⟩ ?_
  have LOOP : ∀ (q i : Nat), i + q = 349 → G x X (puR σ k1 (mcp (σ.1 k0) (σ.1 k1) f t i)) [(0, ra X k0), (1, .int (nI f)), (2, ra X k1), (3, .int (nI t)), (4, .int (nI i))] [] 3 := by
    intro q
    induction q with
    | zero =>
      intro i hi 
      have hie : i = 349 := by omega
      rw [hie]
      refine g_iload h dX6_copy_3 rfl ?_
      refine g_sipush (v := 349) h dX6_copy_5 (by decide) ?_
      refine g_icge h 29 dX6_copy_8 (by decide) (fun c8 => ?_) (fun c8 => absurd (Int32.le_refl _) c8)
      exact g_vret h hr dX6_copy_29 rfl
    | succ q ih =>
      intro i hi 
      have hlt : i < 349 := by omega
      refine g_iload h dX6_copy_3 rfl ?_
      refine g_sipush (v := 349) h dX6_copy_5 (by decide) ?_
      refine g_icge h 29 dX6_copy_8 (by decide) (fun c8 => absurd c8 (nI_ge (b := 349) hlt (by decide))) (fun c8 => ?_)
      refine g_aload_n h dX6_copy_11 rfl ?_
      refine g_iload_n h dX6_copy_12 rfl ?_
      refine g_iload h dX6_copy_13 rfl ?_
      refine g_iadd h dX6_copy_15 ?_
      refine g_aload_n h dX6_copy_16 rfl ?_
      refine g_iload_n h dX6_copy_17 rfl ?_
      refine g_iload h dX6_copy_18 rfl ?_
      refine g_iadd h dX6_copy_20 ?_
      refine g_ialdN h hk0 he0 (nI_add f i) (by omega) hn0 dX6_copy_21 ?_
      refine g_top (σ.1 k0 (f + i)) (by rw [puR_ne _ hne]) ?_
      refine g_iastN h hk1 he1 (nI_add t i) (by omega) hn1 dX6_copy_22 ?_
      refine g_iincN h dX6_copy_23 rfl (by rw [hL]; decide) ?_
      refine g_goto h 3 dX6_copy_26 (by decide) ?_
      refine g_mem (puR σ k1 (mcp (σ.1 k0) (σ.1 k1) f t (i + 1))) (by rw [pu_puR, puR_puR, puR_self, mcp_s]) ?_
      refine g_sub [(0, ra X k0), (1, .int (nI f)), (2, ra X k1), (3, .int (nI t)), (4, .int (nI (i + 1)))] ⟨rfl, rfl, rfl, rfl, rfl, trivial⟩ ?_
      exact ih (i + 1) (by omega)
  refine g_iconst (v := 0) h dX6_copy_0 (by decide) ?_
  refine g_istore h dX6_copy_1 (by rw [hL]; decide) ?_
  refine g_mem (puR σ k1 (mcp (σ.1 k0) (σ.1 k1) f t 0)) (by rw [mcp_0, puR_id]) ?_
  refine g_sub [(0, ra X k0), (1, .int (nI f)), (2, ra X k1), (3, .int (nI t)), (4, .int (nI 0))] ⟨rfl, rfl, rfl, rfl, lk_0, trivial⟩ ?_
  exact LOOP 349 0 (by omega)
set_option maxRecDepth 100000 in
set_option maxHeartbeats 4000000 in
theorem ct_X6_record {l : Launch} {X : fX} {σ : fM} {z : Nat} (hz : mrc σ z) : Ct l X yX6_record cX6_record 2 none 1 [ra X 150] σ none (mrec σ z) := by
  refine Ct.of RX6 rfl (by decide) (Nat.le_of_ble_eq_true rfl) ?_
  intro x hL h hr
  refine g_sub [(0, ra X 150)] ⟨rfl, trivial⟩ ?_
  obtain ⟨h3, hz5⟩ := hz
  refine g_aload_n h dX6_record_0 rfl ?_
  refine gf6_34 h  dX6_record_1 ?_
  refine g_top (nI z) h3 ?_
  refine g_iconst (v := 4) h dX6_record_4 (by decide) ?_
  refine g_icne h 49 dX6_record_5 (by decide) (fun c5 => ?_) (fun c5 => ?_)
  · have hz4 : ¬ z = 4 := fun e => c5 (by rw [e]; decide)
    refine g_aload_n h dX6_record_49 rfl ?_
    refine gf6_7 h  dX6_record_50 ?_
    refine g_iconst (v := 0) h dX6_record_53 (by decide) ?_
    refine g_aload_n h dX6_record_54 rfl ?_
    refine gf6_16 h  dX6_record_55 ?_
    refine g_aload_n h dX6_record_58 rfl ?_
    refine gf6_34 h  dX6_record_59 ?_
    refine g_top (nI z) h3 ?_
    refine g_sipush (v := 349) h dX6_record_62 (by decide) ?_
    refine g_imul h dX6_record_65 ?_
    refine g_top (nI (z * 349)) (m349 z) ?_
    refine cl6_38 h (ct_X6_copy (k0 := 151) (k1 := 153) (f := 0) (t := (z * 349)) (by decide) (by decide) (enc_151 X) (enc_153 X) (by decide) (by omega) (by omega) (by decide) (by decide)) rfl dX6_record_66 rfl (Nat.le_of_ble_eq_true rfl) (by decide) ?_
    refine g_aload_n h dX6_record_69 rfl ?_
    refine g_dup h dX6_record_70 rfl ?_
    refine gf6_34 h  dX6_record_71 ?_
    refine g_top (nI z) (by rw [puR_ne _ (by decide)]; exact h3) ?_
    refine g_iconst (v := 1) h dX6_record_74 (by decide) ?_
    refine g_iadd h dX6_record_75 ?_
    refine g_top (nI (z + 1)) (nI_1 z) ?_
    refine gp6_34 h  dX6_record_76 ?_
    exact g_vret h hr dX6_record_79 (by unfold mrec; rw [if_neg hz4])
  · have hz4 : z = 4 := (nI_eq (b := 4) (by omega) (by decide)).mp c5
    have LOOP : ∀ (q i : Nat), i + q = 1047 → G x X (puR σ 153 (shf (σ.1 153) i)) [(0, ra X 150), (1, .int (nI i))] [] 10 := by
      intro q
      induction q with
      | zero =>
        intro i hi 
        have hie : i = 1047 := by omega
        rw [hie]
        refine g_iload_n h dX6_record_10 rfl ?_
        refine g_sipush (v := 1047) h dX6_record_11 (by decide) ?_
        refine g_icge h 39 dX6_record_14 (by decide) (fun c14 => ?_) (fun c14 => absurd (Int32.le_refl _) c14)
        refine g_aload_n h dX6_record_39 rfl ?_
        refine g_dup h dX6_record_40 rfl ?_
        refine gf6_34 h  dX6_record_41 ?_
        refine g_iconst (v := 1) h dX6_record_44 (by decide) ?_
        refine g_isub h dX6_record_45 ?_
        refine g_top (nI 3) (by rw [puR_ne _ (by decide), h3, hz4]; decide) ?_
        refine gp6_34 h  dX6_record_46 ?_
        refine g_aload_n h dX6_record_49 rfl ?_
        refine gf6_7 h  dX6_record_50 ?_
        refine g_iconst (v := 0) h dX6_record_53 (by decide) ?_
        refine g_aload_n h dX6_record_54 rfl ?_
        refine gf6_16 h  dX6_record_55 ?_
        refine g_aload_n h dX6_record_58 rfl ?_
        refine gf6_34 h  dX6_record_59 ?_
        refine g_top (nI 3) (by rw [pu_puR, puR_self, upd_s]) ?_
        refine g_sipush (v := 349) h dX6_record_62 (by decide) ?_
        refine g_imul h dX6_record_65 ?_
        refine g_top (nI (3 * 349)) (m349 3) ?_
        refine cl6_38 h (ct_X6_copy (k0 := 151) (k1 := 153) (f := 0) (t := (3 * 349)) (by decide) (by decide) (enc_151 X) (enc_153 X) (by decide) (by omega) (by omega) (by decide) (by decide)) rfl dX6_record_66 rfl (Nat.le_of_ble_eq_true rfl) (by decide) ?_
        refine g_aload_n h dX6_record_69 rfl ?_
        refine g_dup h dX6_record_70 rfl ?_
        refine gf6_34 h  dX6_record_71 ?_
        refine g_top (nI 3) (by rw [puR_ne _ (by decide), pu_puR, puR_self, upd_s]) ?_
        refine g_iconst (v := 1) h dX6_record_74 (by decide) ?_
        refine g_iadd h dX6_record_75 ?_
        refine g_top (nI 4) (nI_1 3) ?_
        refine gp6_34 h  dX6_record_76 ?_
        exact g_vret h hr dX6_record_79 (by unfold mrec; rw [if_pos hz4, puR_pu _ _ (by decide), pu_pu, pu_ne _ (by decide), pu_ne _ (by decide), puR_puR, puR_ne _ (by decide), puR_self])
      | succ q ih =>
        intro i hi 
        have hlt : i < 1047 := by omega
        refine g_iload_n h dX6_record_10 rfl ?_
        refine g_sipush (v := 1047) h dX6_record_11 (by decide) ?_
        refine g_icge h 39 dX6_record_14 (by decide) (fun c14 => absurd c14 (nI_ge (b := 1047) hlt (by decide))) (fun c14 => ?_)
        refine g_aload_n h dX6_record_17 rfl ?_
        refine gf6_16 h  dX6_record_18 ?_
        refine g_iload_n h dX6_record_21 rfl ?_
        refine g_aload_n h dX6_record_22 rfl ?_
        refine gf6_16 h  dX6_record_23 ?_
        refine g_iload_n h dX6_record_26 rfl ?_
        refine g_sipush (v := 349) h dX6_record_27 (by decide) ?_
        refine g_iadd h dX6_record_30 ?_
        refine g_ialdN h (k := 153) (by decide) (enc_153 X) (a349 i) (by omega) (by decide) dX6_record_31 ?_
        refine g_top (σ.1 153 (i + 349)) (by rw [puR_self, shf_ge _ (by omega)]) ?_
        refine g_iastN h (k := 153) (by decide) (enc_153 X) rfl (by omega) (by decide) dX6_record_32 ?_
        refine g_iincN h dX6_record_33 rfl (by rw [hL]; decide) ?_
        refine g_goto h 10 dX6_record_36 (by decide) ?_
        refine g_mem (puR σ 153 (shf (σ.1 153) (i + 1))) (by rw [pu_puR, puR_puR, puR_self, shf_s]) ?_
        refine g_sub [(0, ra X 150), (1, .int (nI (i + 1)))] ⟨rfl, rfl, trivial⟩ ?_
        exact ih (i + 1) (by omega)
    refine g_iconst (v := 0) h dX6_record_8 (by decide) ?_
    refine g_istore_n h dX6_record_9 (by rw [hL]; decide) ?_
    refine g_mem (puR σ 153 (shf (σ.1 153) 0)) (by rw [shf_0, puR_id]) ?_
    refine g_sub [(0, ra X 150), (1, .int (nI 0))] ⟨rfl, lk_0, trivial⟩ ?_
    exact LOOP 1047 0 (by omega)

def mUndo (σ : fM) (z : Nat) : Int32 × fM := if z = 0 then (kNot, σ) else (nI (z - 1), puR (pu σ 150 3 (nI (z - 1))) 151 (mcp (σ.1 153) (σ.1 151) ((z - 1) * 349) 0 349))

set_option maxRecDepth 100000 in
set_option maxHeartbeats 4000000 in
theorem ct_X6_undo {l : Launch} {X : fX} {σ : fM} {z : Nat} (hz : mrc σ z) : Ct l X yX6_undo cX6_undo 1 (some .int) 1 [ra X 150] σ (some (.int (mUndo σ z).1)) (mUndo σ z).2 := by
  refine Ct.of RX6 rfl (by decide) (Nat.le_of_ble_eq_true rfl) ?_
  intro x hL h hr
  refine g_sub [(0, ra X 150)] ⟨rfl, trivial⟩ ?_
  obtain ⟨h3, hz5⟩ := hz
  refine g_aload_n h dX6_undo_0 rfl ?_
  refine gf6_34 h  dX6_undo_1 ?_
  refine g_top (nI z) h3 ?_
  refine g_ifne h 10 dX6_undo_4 (by decide) (fun c4 => ?_) (fun c4 => ?_)
  · have hz0 : ¬ z = 0 := fun e => c4 (by rw [e]; decide)
    refine g_aload_n h dX6_undo_10 rfl ?_
    refine g_dup h dX6_undo_11 rfl ?_
    refine gf6_34 h  dX6_undo_12 ?_
    refine g_iconst (v := 1) h dX6_undo_15 (by decide) ?_
    refine g_isub h dX6_undo_16 ?_
    refine g_top (nI (z - 1)) (by rw [h3, show z = (z - 1) + 1 by omega]; exact nI_pred _) ?_
    refine gp6_34 h  dX6_undo_17 ?_
    refine g_aload_n h dX6_undo_20 rfl ?_
    refine gf6_16 h  dX6_undo_21 ?_
    refine g_aload_n h dX6_undo_24 rfl ?_
    refine gf6_34 h  dX6_undo_25 ?_
    refine g_top (nI (z - 1)) (by rw [pu_puR, puR_self, upd_s]) ?_
    refine g_sipush (v := 349) h dX6_undo_28 (by decide) ?_
    refine g_imul h dX6_undo_31 ?_
    refine g_top (nI ((z - 1) * 349)) (m349 (z - 1)) ?_
    refine g_aload_n h dX6_undo_32 rfl ?_
    refine gf6_7 h  dX6_undo_33 ?_
    refine g_iconst (v := 0) h dX6_undo_36 (by decide) ?_
    refine cl6_38 h (ct_X6_copy (k0 := 153) (k1 := 151) (f := ((z - 1) * 349)) (t := 0) (by decide) (by decide) (enc_153 X) (enc_151 X) (by decide) (by omega) (by omega) (by decide) (by decide)) rfl dX6_undo_37 rfl (Nat.le_of_ble_eq_true rfl) (by decide) ?_
    refine g_aload_n h dX6_undo_40 rfl ?_
    refine gf6_34 h  dX6_undo_41 ?_
    refine g_top (nI (z - 1)) (by rw [puR_ne _ (by decide), pu_puR, puR_self, upd_s]) ?_
    exact g_iret h hr dX6_undo_44 (by unfold mUndo; first | (rw [if_pos hz0]; rfl) | (rw [if_neg hz0])) (by unfold mUndo; first | (rw [if_pos hz0]) | (rw [if_neg hz0, pu_ne _ (by decide), pu_ne _ (by decide)]))
  · have hz0 : z = 0 := (nI_eq (b := 0) (by omega) (by decide)).mp c4
    refine g_ldc h (-1000002) (lw_in 733 (by decide +kernel) rfl) dX6_undo_7 ?_
    exact g_iret h hr dX6_undo_9 (by unfold mUndo; first | (rw [if_pos hz0]; rfl) | (rw [if_neg hz0])) (by unfold mUndo; first | (rw [if_pos hz0]) | (rw [if_neg hz0, pu_ne _ (by decide), pu_ne _ (by decide)]))

theorem isS_w {w v : Int32} (h : isS w v = true) : ∃ j : Nat, j < 3 ∧ w = nI j := by
  unfold isS at h
  by_cases h0 : w = 0
  · exact ⟨0, by decide, h0⟩
  · rw [if_neg h0] at h
    by_cases h1 : w = 1
    · exact ⟨1, by decide, h1⟩
    · rw [if_neg h1] at h
      by_cases h2 : w = 2
      · exact ⟨2, by decide, h2⟩
      · rw [decide_eq_false h2] at h; simp at h
theorem zero_add' (x : Int32) : (0 : Int32) + x = x := by rw [Int32.zero_add]
def mSet (σ : fM) (z : Nat) (w v : Int32) : Int32 × fM := if isS w v = false then (kBad, σ) else (σ.1 151 (ix w), pu (mrec σ z) 151 (ix w) v)
def mob (r : Nat → Int32) (n i : Nat) : Nat → Int32 := fun q => if 73 + 42 * n ≤ q ∧ q < 73 + 42 * n + i then (if q - (73 + 42 * n) < 10 then 0 else 1) else r q
theorem mob_0 (r : Nat → Int32) (n : Nat) : mob r n 0 = r := by funext q; exact if_neg (by omega)
theorem mob_s (r : Nat → Int32) (n i : Nat) : upd (mob r n i) (73 + 42 * n + i) (if i < 10 then 0 else 1) = mob r n (i + 1) := by
  funext q
  unfold upd mob
  by_cases h : q = 73 + 42 * n + i
  · rw [if_pos h, if_pos (show 73 + 42 * n ≤ q ∧ q < 73 + 42 * n + (i + 1) by omega), h, Nat.add_sub_cancel_left]
  · rw [if_neg h]
    by_cases h2 : 73 + 42 * n ≤ q ∧ q < 73 + 42 * n + i
    · rw [if_pos h2, if_pos (show 73 + 42 * n ≤ q ∧ q < 73 + 42 * n + (i + 1) by omega)]
    · rw [if_neg h2, if_neg (show ¬ (73 + 42 * n ≤ q ∧ q < 73 + 42 * n + (i + 1)) by omega)]
def mOrc (r : Nat → Int32) (n : Nat) (k u p : Int32) : Nat → Int32 := upd (upd (upd (upd (upd (mob r n 42) (73 + 42 * n + 0) k) (73 + 42 * n + 1) u) (73 + 42 * n + 2) p) (73 + 42 * n + 3) (-1)) 7 (nI (n + 1))
def mOracle (σ : fM) (z n : Nat) (k u p : Int32) : Int32 × fM := if wi k 0 4 = false then (kBad, σ) else if wi u 0 (mostN k) = false then (kBad, σ) else if wi p 0 9999 = false then (kBad, σ) else if n = 6 then (kLim, σ)
  else (nI n, puR (mrec σ z) 151 (mOrc (σ.1 151) n k u p))
def mtk (b : Int32) (f : Nat → Int32) : Bool := if b = 2 then true else if b = 0 then decide (f 0 = 0) else oTab f
def lowF (r : Nat → Int32) (b : Int32) : Nat → Int32
  | 0 => 0
  | i + 1 => if mo r i 3 = b then (if mo r i 4 = 0 then 1 else lowF r b i) else lowF r b i
def mSitR (r : Nat → Int32) (j n : Nat) (b : Int32) : Nat → Int32 := upd (upd r (73 + 42 * j + 3) b) (73 + 42 * j + 4) (lowF r b n)
def sitF (r : Nat → Int32) (b : Int32) : Nat → Int32 := sumF 0 (fun i => if mo r i 3 = b then 1 else 0)
def mSeat (σ : fM) (z n : Nat) (v b : Int32) : Int32 × fM := if wi v 0 (σ.1 151 7 - 1) = false then (kBad, σ) else if wi b 0 2 = false then (kBad, σ)
  else if oSeat (mo (σ.1 151) (ix v)) = true then (kNot, σ) else if mtk b (mo (σ.1 151) (ix v)) = false then (kNot, σ) else if sitF (σ.1 151) b n = 2 then (kLim, σ)
  else (sitF (mSitR (σ.1 151) (ix v) n b) b n, puR (mrec σ z) 151 (mSitR (σ.1 151) (ix v) n b))
def mStand (σ : fM) (z : Nat) (v : Int32) : Int32 × fM := if wi v 0 (σ.1 151 7 - 1) = false then (kBad, σ) else if oSeat (mo (σ.1 151) (ix v)) = false then (kNot, σ)
  else (mo (σ.1 151) (ix v) 3, puR (mrec σ z) 151 (upd (σ.1 151) (73 + 42 * ix v + 3) (-1)))
def mGive (σ : fM) (z : Nat) (v c : Int32) : Int32 × fM := if wi v 0 (σ.1 151 7 - 1) = false then (kBad, σ) else if wi c 1 9999 = false then (kBad, σ)
  else if ¬ mo (σ.1 151) (ix v) 2 + c ≤ 100000 then (kLim, σ) else (mo (σ.1 151) (ix v) 2 + c, puR (mrec σ z) 151 (addR (σ.1 151) (ix v) 2 c))
def mLendR (r : Nat → Int32) (c e m : Nat) (v : Int32) : Nat → Int32 := addR (addR (upd (put3 r m (nI c) (nI e) v) 8 (nI (m + 1))) c 2 (- v)) e 2 v
def mLend (σ : fM) (z m : Nat) (c e v : Int32) : Int32 × fM := if wi c 0 (σ.1 151 7 - 1) = false then (kBad, σ) else if wi e 0 (σ.1 151 7 - 1) = false then (kBad, σ)
  else if c = e then (kBad, σ) else if wi v 1 9999 = false then (kBad, σ) else if ¬ v ≤ mo (σ.1 151) (ix c) 2 then (kNot, σ) else if m = 8 then (kLim, σ)
  else (nI m, puR (mrec σ z) 151 (mLendR (σ.1 151) (ix c) (ix e) m v))
def mBranch (σ : fM) (z n m : Nat) (a k : Int32) : Int32 × fM := if isA a = false then (kBad, σ) else if wi k 0 1 = false then (kBad, σ)
  else (mcV (mrec σ z) n (ix a) k, mcM (mrec σ z) n m (ix a) k)

set_option maxRecDepth 100000 in
set_option maxHeartbeats 4000000 in
theorem ct_X6_set {l : Launch} {X : fX} {σ : fM} {z : Nat} (hz : mrc σ z) {w v : Int32} : Ct l X yX6_set cX6_set 4 (some .int) 2 [ra X 150, .int w, .int v] σ (some (.int (mSet σ z w v).1)) (mSet σ z w v).2 := by
  refine Ct.of RX6 rfl (by decide) (Nat.le_of_ble_eq_true rfl) ?_
  intro x hL h hr
  refine g_sub [(0, ra X 150), (1, .int w), (2, .int v)] ⟨rfl, rfl, rfl, trivial⟩ ?_
  refine g_iload_n h dX6_set_0 rfl ?_
  refine g_iload_n h dX6_set_1 rfl ?_
  refine cl6_73 h (ct_X6_isSetting) rfl dX6_set_2 rfl (Nat.le_of_ble_eq_true rfl) (by decide) ?_
  refine g_ifneB h 11 dX6_set_5 (by decide) (fun c5 => ?_) (fun c5 => ?_)
  · obtain ⟨j, hj, rfl⟩ := isS_w c5
    have hij : (nI j).toNatClampNeg = j := nI_clamp (by omega)
    refine g_aload_n h dX6_set_11 rfl ?_
    refine cl6_78 h  (ct_X6_record hz) rfl dX6_set_12 rfl (Nat.le_of_ble_eq_true rfl) (by decide) ?_
    refine g_aload_n h dX6_set_15 rfl ?_
    refine gf6_7 h  dX6_set_16 ?_
    refine g_iconst (v := 0) h dX6_set_19 (by decide) ?_
    refine g_iload_n h dX6_set_20 rfl ?_
    refine g_iadd h dX6_set_21 ?_
    refine g_ialdN h (k := 151) (by decide) (enc_151 X) (zero_add' _) (by omega) (by decide) dX6_set_22 ?_
    refine g_top ((σ.1 151) j) (by rw [mrec_151]) ?_
    refine g_istore_n h dX6_set_23 (by rw [hL]; decide) ?_
    refine g_aload_n h dX6_set_24 rfl ?_
    refine gf6_7 h  dX6_set_25 ?_
    refine g_iconst (v := 0) h dX6_set_28 (by decide) ?_
    refine g_iload_n h dX6_set_29 rfl ?_
    refine g_iadd h dX6_set_30 ?_
    refine g_iload_n h dX6_set_31 rfl ?_
    refine g_iastN h (k := 151) (by decide) (enc_151 X) (zero_add' _) (by omega) (by decide) dX6_set_32 ?_
    refine g_iload_n h dX6_set_33 rfl ?_
    exact g_iret h hr dX6_set_34 (by first | (simp [mSet, kBad, kNot, kLim, kNone, ix, hij, c5]; done) | (simp [mSet, kBad, kNot, kLim, kNone, ix, c5]; done) | (simp_all [mSet, kBad, kNot, kLim, kNone, ix]; done)) (by first | (simp [mSet, kBad, kNot, kLim, kNone, ix, hij, c5]; done) | (simp [mSet, kBad, kNot, kLim, kNone, ix, c5]; done) | (simp_all [mSet, kBad, kNot, kLim, kNone, ix]; done))
  · refine g_ldc h (-1000001) (lw_in 696 (by decide +kernel) rfl) dX6_set_8 ?_
    exact g_iret h hr dX6_set_10 (by first | (simp [mSet, kBad, kNot, kLim, kNone, ix, hij, c5]; done) | (simp [mSet, kBad, kNot, kLim, kNone, ix, c5]; done) | (simp_all [mSet, kBad, kNot, kLim, kNone, ix]; done)) (by first | (simp [mSet, kBad, kNot, kLim, kNone, ix, hij, c5]; done) | (simp [mSet, kBad, kNot, kLim, kNone, ix, c5]; done) | (simp_all [mSet, kBad, kNot, kLim, kNone, ix]; done))
set_option maxRecDepth 100000 in
set_option maxHeartbeats 4000000 in
theorem ct_X6_oracle {l : Launch} {X : fX} {σ : fM} {z n m : Nat} (hz : mrc σ z) (hc : mcn (σ.1 151) n m) {k u p : Int32} : Ct l X yX6_oracle cX6_oracle 7 (some .int) 2 [ra X 150, .int k, .int u, .int p] σ (some (.int (mOracle σ z n k u p).1)) (mOracle σ z n k u p).2 := by
  refine Ct.of RX6 rfl (by decide) (Nat.le_of_ble_eq_true rfl) ?_
  intro x hL h hr
  refine g_sub [(0, ra X 150), (1, .int k), (2, .int u), (3, .int p)] ⟨rfl, rfl, rfl, rfl, trivial⟩ ?_
  obtain ⟨hn, hn6, hm, hm8⟩ := id hc
  refine g_iload_n h dX6_oracle_0 rfl ?_
  refine g_ifne h 8 dX6_oracle_1 (by decide) (fun c1 => ?_) (fun c1 => ?_)
  · refine g_iload_n h dX6_oracle_8 rfl ?_
    refine g_iconst (v := 4) h dX6_oracle_9 (by decide) ?_
    refine g_icne h 17 dX6_oracle_10 (by decide) (fun c10 => ?_) (fun c10 => ?_)
    · refine g_iconst (v := 5) h dX6_oracle_17 (by decide) ?_
      refine g_top (mostN k) (by simp [mostN, c1, c10]) ?_
      refine g_istore h dX6_oracle_18 (by rw [hL]; decide) ?_
      refine g_iload_n h dX6_oracle_20 rfl ?_
      refine g_iconst (v := 0) h dX6_oracle_21 (by decide) ?_
      refine g_iconst (v := 4) h dX6_oracle_22 (by decide) ?_
      refine cl6_42 h (ct_X6_within) rfl dX6_oracle_23 rfl (Nat.le_of_ble_eq_true rfl) (by decide) ?_
      refine g_ifeqB h 50 dX6_oracle_26 (by decide) (fun c26 => ?_) (fun c26 => ?_)
      · refine g_ldc h (-1000001) (lw_in 696 (by decide +kernel) rfl) dX6_oracle_50 ?_
        exact g_iret h hr dX6_oracle_52 (by unfold mOracle; first | (rw [if_pos c26]; rfl; done) | (rw [if_neg (by rw [c26]; decide), if_pos (show wi u 0 (mostN k) = false from c36)]; rfl; done) | (rw [if_neg (by rw [c26]; decide), if_neg (by rw [show wi u 0 (mostN k) = true from c36]; decide), if_pos c47]; rfl; done)) (by unfold mOracle; first | (rw [if_pos c26]; done) | (rw [if_neg (by rw [c26]; decide), if_pos (show wi u 0 (mostN k) = false from c36)]; done) | (rw [if_neg (by rw [c26]; decide), if_neg (by rw [show wi u 0 (mostN k) = true from c36]; decide), if_pos c47]; done))
      · refine g_iload_n h dX6_oracle_29 rfl ?_
        refine g_iconst (v := 0) h dX6_oracle_30 (by decide) ?_
        refine g_iload h dX6_oracle_31 rfl ?_
        refine cl6_42 h (ct_X6_within) rfl dX6_oracle_33 rfl (Nat.le_of_ble_eq_true rfl) (by decide) ?_
        refine g_ifeqB h 50 dX6_oracle_36 (by decide) (fun c36 => ?_) (fun c36 => ?_)
        · refine g_ldc h (-1000001) (lw_in 696 (by decide +kernel) rfl) dX6_oracle_50 ?_
          exact g_iret h hr dX6_oracle_52 (by unfold mOracle; first | (rw [if_pos c26]; rfl; done) | (rw [if_neg (by rw [c26]; decide), if_pos (show wi u 0 (mostN k) = false from c36)]; rfl; done) | (rw [if_neg (by rw [c26]; decide), if_neg (by rw [show wi u 0 (mostN k) = true from c36]; decide), if_pos c47]; rfl; done)) (by unfold mOracle; first | (rw [if_pos c26]; done) | (rw [if_neg (by rw [c26]; decide), if_pos (show wi u 0 (mostN k) = false from c36)]; done) | (rw [if_neg (by rw [c26]; decide), if_neg (by rw [show wi u 0 (mostN k) = true from c36]; decide), if_pos c47]; done))
        · refine g_iload_n h dX6_oracle_39 rfl ?_
          refine g_iconst (v := 0) h dX6_oracle_40 (by decide) ?_
          refine g_sipush (v := 9999) h dX6_oracle_41 (by decide) ?_
          refine cl6_42 h (ct_X6_within) rfl dX6_oracle_44 rfl (Nat.le_of_ble_eq_true rfl) (by decide) ?_
          refine g_ifneB h 53 dX6_oracle_47 (by decide) (fun c47 => ?_) (fun c47 => ?_)
          · refine g_aload_n h dX6_oracle_53 rfl ?_
            refine gf6_7 h  dX6_oracle_54 ?_
            refine g_bipush (v := 7) h dX6_oracle_57 (by decide) ?_
            refine g_ialdN h (k := 151) (by decide) (enc_151 X) (show (7 : Int32) = nI 7 by decide) (by decide) (by decide) dX6_oracle_59 ?_
            refine g_bipush (v := 6) h dX6_oracle_60 (by decide) ?_
            refine g_top 6 rfl ?_
            refine g_icne h 68 dX6_oracle_62 (by decide) (fun c62 => ?_) (fun c62 => ?_)
            · have hn5 : n < 6 := by
                have : ¬ n = 6 := fun e => c62 (by rw [hn, e]; decide)
                omega
              have LOOP : ∀ (q i : Nat), i + q = 42 → G x X (puR (mrec σ z) 151 (mob (σ.1 151) n i)) [(0, ra X 150), (1, .int k), (2, .int u), (3, .int p), (5, .int (nI n)), (6, .int (nI i))] [] 84 := by
                intro q
                induction q with
                | zero =>
                  intro i hi 
                  have hie : i = 42 := by omega
                  rw [hie]
                  refine g_iload h dX6_oracle_84 rfl ?_
                  refine g_bipush (v := 42) h dX6_oracle_86 (by decide) ?_
                  refine g_icge h 117 dX6_oracle_88 (by decide) (fun c88 => ?_) (fun c88 => absurd (Int32.le_refl _) c88)
                  refine g_aload_n h dX6_oracle_117 rfl ?_
                  refine g_iload h dX6_oracle_118 rfl ?_
                  refine g_iconst (v := 0) h dX6_oracle_120 (by decide) ?_
                  refine g_iload_n h dX6_oracle_121 rfl ?_
                  refine cl6_82 h  (ct_X6_setPart (i := n) (p := 0) (by omega) (by decide)) rfl dX6_oracle_122 rfl (Nat.le_of_ble_eq_true rfl) (by decide) ?_
                  refine g_aload_n h dX6_oracle_125 rfl ?_
                  refine g_iload h dX6_oracle_126 rfl ?_
                  refine g_iconst (v := 1) h dX6_oracle_128 (by decide) ?_
                  refine g_iload_n h dX6_oracle_129 rfl ?_
                  refine cl6_82 h  (ct_X6_setPart (i := n) (p := 1) (by omega) (by decide)) rfl dX6_oracle_130 rfl (Nat.le_of_ble_eq_true rfl) (by decide) ?_
                  refine g_aload_n h dX6_oracle_133 rfl ?_
                  refine g_iload h dX6_oracle_134 rfl ?_
                  refine g_iconst (v := 2) h dX6_oracle_136 (by decide) ?_
                  refine g_iload_n h dX6_oracle_137 rfl ?_
                  refine cl6_82 h  (ct_X6_setPart (i := n) (p := 2) (by omega) (by decide)) rfl dX6_oracle_138 rfl (Nat.le_of_ble_eq_true rfl) (by decide) ?_
                  refine g_aload_n h dX6_oracle_141 rfl ?_
                  refine g_iload h dX6_oracle_142 rfl ?_
                  refine g_iconst (v := 3) h dX6_oracle_144 (by decide) ?_
                  refine g_iconst (v := (-1)) h dX6_oracle_145 (by decide) ?_
                  refine cl6_82 h  (ct_X6_setPart (i := n) (p := 3) (by omega) (by decide)) rfl dX6_oracle_146 rfl (Nat.le_of_ble_eq_true rfl) (by decide) ?_
                  refine g_aload_n h dX6_oracle_149 rfl ?_
                  refine gf6_7 h  dX6_oracle_150 ?_
                  refine g_bipush (v := 7) h dX6_oracle_153 (by decide) ?_
                  refine g_dup2 h dX6_oracle_155 rfl rfl ?_
                  refine g_ialdN h (k := 151) (by decide) (enc_151 X) (show (7 : Int32) = nI 7 by decide) (by decide) (by decide) dX6_oracle_156 ?_
                  refine g_iconst (v := 1) h dX6_oracle_157 (by decide) ?_
                  refine g_iadd h dX6_oracle_158 ?_
                  refine g_iastN h (k := 151) (by decide) (enc_151 X) (show (7 : Int32) = nI 7 by decide) (by decide) (by decide) dX6_oracle_159 ?_
                  refine g_iload h dX6_oracle_160 rfl ?_
                  exact g_iret h hr dX6_oracle_162 (by unfold mOracle; rw [if_neg (by rw [c26]; decide), if_neg (by rw [show wi u 0 (mostN k) = true from c36]; decide), if_neg (by rw [c47]; decide), if_neg (by omega)]) (by unfold mOracle; rw [if_neg (by rw [c26]; decide), if_neg (by rw [show wi u 0 (mostN k) = true from c36]; decide), if_neg (by rw [c47]; decide), if_neg (by omega)]; unfold mOrc; simp only [pu_puR, puR_puR, puR_self]; refine congrArg (fun y => puR _ 151 (upd _ 7 y)) ?_; rw [nI_succ]; refine congrArg (· + 1) ?_; rw [upd_n _ _ _ _ (by omega), upd_n _ _ _ _ (by omega), upd_n _ _ _ _ (by omega), upd_n _ _ _ _ (by omega)]; exact (if_neg (by omega)).trans hn)
                | succ q ih =>
                  intro i hi 
                  have hlt : i < 42 := by omega
                  refine g_iload h dX6_oracle_84 rfl ?_
                  refine g_bipush (v := 42) h dX6_oracle_86 (by decide) ?_
                  refine g_icge h 117 dX6_oracle_88 (by decide) (fun c88 => absurd c88 (nI_ge (b := 42) hlt (by decide))) (fun c88 => ?_)
                  refine g_aload_n h dX6_oracle_91 rfl ?_
                  refine g_iload h dX6_oracle_92 rfl ?_
                  refine g_iload h dX6_oracle_94 rfl ?_
                  refine g_iload h dX6_oracle_96 rfl ?_
                  refine g_bipush (v := 10) h dX6_oracle_98 (by decide) ?_
                  refine g_iclt h 107 dX6_oracle_100 (by decide) (fun c100 => ?_) (fun c100 => ?_)
                  · have hlt10 : i < 10 := Nat.not_le.mp (fun q => nI_nlt (b := 10) q (by omega) c100)
                    refine g_iconst (v := 0) h dX6_oracle_107 (by decide) ?_
                    refine cl6_82 h  (ct_X6_setPart (i := n) (p := i) (by omega) hlt) rfl dX6_oracle_108 rfl (Nat.le_of_ble_eq_true rfl) (by decide) ?_
                    refine g_iincN h dX6_oracle_111 rfl (by rw [hL]; decide) ?_
                    refine g_goto h 84 dX6_oracle_114 (by decide) ?_
                    refine g_mem (puR (mrec σ z) 151 (mob (σ.1 151) n (i + 1))) (by rw [pu_puR, puR_puR, puR_self, ← mob_s]; first | rw [if_pos hlt10] | rw [if_neg hge10]) ?_
                    refine g_sub [(0, ra X 150), (1, .int k), (2, .int u), (3, .int p), (5, .int (nI n)), (6, .int (nI (i + 1)))] ⟨rfl, rfl, rfl, rfl, rfl, rfl, trivial⟩ ?_
                    exact ih (i + 1) (by omega)
                  · have hge10 : ¬ i < 10 := fun q => c100 (nI_lt (b := 10) q (by decide))
                    refine g_iconst (v := 1) h dX6_oracle_103 (by decide) ?_
                    refine g_goto h 108 dX6_oracle_104 (by decide) ?_
                    refine cl6_82 h  (ct_X6_setPart (i := n) (p := i) (by omega) hlt) rfl dX6_oracle_108 rfl (Nat.le_of_ble_eq_true rfl) (by decide) ?_
                    refine g_iincN h dX6_oracle_111 rfl (by rw [hL]; decide) ?_
                    refine g_goto h 84 dX6_oracle_114 (by decide) ?_
                    refine g_mem (puR (mrec σ z) 151 (mob (σ.1 151) n (i + 1))) (by rw [pu_puR, puR_puR, puR_self, ← mob_s]; first | rw [if_pos hlt10] | rw [if_neg hge10]) ?_
                    refine g_sub [(0, ra X 150), (1, .int k), (2, .int u), (3, .int p), (5, .int (nI n)), (6, .int (nI (i + 1)))] ⟨rfl, rfl, rfl, rfl, rfl, rfl, trivial⟩ ?_
                    exact ih (i + 1) (by omega)
              refine g_aload_n h dX6_oracle_68 rfl ?_
              refine cl6_78 h  (ct_X6_record hz) rfl dX6_oracle_69 rfl (Nat.le_of_ble_eq_true rfl) (by decide) ?_
              refine g_aload_n h dX6_oracle_72 rfl ?_
              refine gf6_7 h  dX6_oracle_73 ?_
              refine g_bipush (v := 7) h dX6_oracle_76 (by decide) ?_
              refine g_ialdN h (k := 151) (by decide) (enc_151 X) (show (7 : Int32) = nI 7 by decide) (by decide) (by decide) dX6_oracle_78 ?_
              refine g_top (nI n) (by rw [mrec_151]; exact hn) ?_
              refine g_istore h dX6_oracle_79 (by rw [hL]; decide) ?_
              refine g_iconst (v := 0) h dX6_oracle_81 (by decide) ?_
              refine g_istore h dX6_oracle_82 (by rw [hL]; decide) ?_
              refine g_mem (puR (mrec σ z) 151 (mob (σ.1 151) n 0)) (by rw [mob_0, ← mrec_151 σ z, puR_id]) ?_
              refine g_sub [(0, ra X 150), (1, .int k), (2, .int u), (3, .int p), (5, .int (nI n)), (6, .int (nI 0))] ⟨rfl, rfl, rfl, rfl, rfl, lk_0, trivial⟩ ?_
              exact LOOP 42 0 (by omega)
            · have hn6e : n = 6 := (nI_eq (b := 6) (by omega) (by decide)).mp (hn.symm.trans c62)
              refine g_ldc h (-1000003) (lw_in 708 (by decide +kernel) rfl) dX6_oracle_65 ?_
              exact g_iret h hr dX6_oracle_67 (by unfold mOracle; rw [if_neg (by rw [c26]; decide), if_neg (by rw [show wi u 0 (mostN k) = true from c36]; decide), if_neg (by rw [c47]; decide), if_pos hn6e]; rfl) (by unfold mOracle; rw [if_neg (by rw [c26]; decide), if_neg (by rw [show wi u 0 (mostN k) = true from c36]; decide), if_neg (by rw [c47]; decide), if_pos hn6e])
          · refine g_ldc h (-1000001) (lw_in 696 (by decide +kernel) rfl) dX6_oracle_50 ?_
            exact g_iret h hr dX6_oracle_52 (by unfold mOracle; first | (rw [if_pos c26]; rfl; done) | (rw [if_neg (by rw [c26]; decide), if_pos (show wi u 0 (mostN k) = false from c36)]; rfl; done) | (rw [if_neg (by rw [c26]; decide), if_neg (by rw [show wi u 0 (mostN k) = true from c36]; decide), if_pos c47]; rfl; done)) (by unfold mOracle; first | (rw [if_pos c26]; done) | (rw [if_neg (by rw [c26]; decide), if_pos (show wi u 0 (mostN k) = false from c36)]; done) | (rw [if_neg (by rw [c26]; decide), if_neg (by rw [show wi u 0 (mostN k) = true from c36]; decide), if_pos c47]; done))
    · refine g_iconst (v := 0) h dX6_oracle_13 (by decide) ?_
      refine g_goto h 18 dX6_oracle_14 (by decide) ?_
      refine g_top (mostN k) (by simp [mostN, c1, c10]) ?_
      refine g_istore h dX6_oracle_18 (by rw [hL]; decide) ?_
      refine g_iload_n h dX6_oracle_20 rfl ?_
      refine g_iconst (v := 0) h dX6_oracle_21 (by decide) ?_
      refine g_iconst (v := 4) h dX6_oracle_22 (by decide) ?_
      refine cl6_42 h (ct_X6_within) rfl dX6_oracle_23 rfl (Nat.le_of_ble_eq_true rfl) (by decide) ?_
      refine g_ifeqB h 50 dX6_oracle_26 (by decide) (fun c26 => ?_) (fun c26 => ?_)
      · refine g_ldc h (-1000001) (lw_in 696 (by decide +kernel) rfl) dX6_oracle_50 ?_
        exact g_iret h hr dX6_oracle_52 (by unfold mOracle; first | (rw [if_pos c26]; rfl; done) | (rw [if_neg (by rw [c26]; decide), if_pos (show wi u 0 (mostN k) = false from c36)]; rfl; done) | (rw [if_neg (by rw [c26]; decide), if_neg (by rw [show wi u 0 (mostN k) = true from c36]; decide), if_pos c47]; rfl; done)) (by unfold mOracle; first | (rw [if_pos c26]; done) | (rw [if_neg (by rw [c26]; decide), if_pos (show wi u 0 (mostN k) = false from c36)]; done) | (rw [if_neg (by rw [c26]; decide), if_neg (by rw [show wi u 0 (mostN k) = true from c36]; decide), if_pos c47]; done))
      · refine g_iload_n h dX6_oracle_29 rfl ?_
        refine g_iconst (v := 0) h dX6_oracle_30 (by decide) ?_
        refine g_iload h dX6_oracle_31 rfl ?_
        refine cl6_42 h (ct_X6_within) rfl dX6_oracle_33 rfl (Nat.le_of_ble_eq_true rfl) (by decide) ?_
        refine g_ifeqB h 50 dX6_oracle_36 (by decide) (fun c36 => ?_) (fun c36 => ?_)
        · refine g_ldc h (-1000001) (lw_in 696 (by decide +kernel) rfl) dX6_oracle_50 ?_
          exact g_iret h hr dX6_oracle_52 (by unfold mOracle; first | (rw [if_pos c26]; rfl; done) | (rw [if_neg (by rw [c26]; decide), if_pos (show wi u 0 (mostN k) = false from c36)]; rfl; done) | (rw [if_neg (by rw [c26]; decide), if_neg (by rw [show wi u 0 (mostN k) = true from c36]; decide), if_pos c47]; rfl; done)) (by unfold mOracle; first | (rw [if_pos c26]; done) | (rw [if_neg (by rw [c26]; decide), if_pos (show wi u 0 (mostN k) = false from c36)]; done) | (rw [if_neg (by rw [c26]; decide), if_neg (by rw [show wi u 0 (mostN k) = true from c36]; decide), if_pos c47]; done))
        · refine g_iload_n h dX6_oracle_39 rfl ?_
          refine g_iconst (v := 0) h dX6_oracle_40 (by decide) ?_
          refine g_sipush (v := 9999) h dX6_oracle_41 (by decide) ?_
          refine cl6_42 h (ct_X6_within) rfl dX6_oracle_44 rfl (Nat.le_of_ble_eq_true rfl) (by decide) ?_
          refine g_ifneB h 53 dX6_oracle_47 (by decide) (fun c47 => ?_) (fun c47 => ?_)
          · refine g_aload_n h dX6_oracle_53 rfl ?_
            refine gf6_7 h  dX6_oracle_54 ?_
            refine g_bipush (v := 7) h dX6_oracle_57 (by decide) ?_
            refine g_ialdN h (k := 151) (by decide) (enc_151 X) (show (7 : Int32) = nI 7 by decide) (by decide) (by decide) dX6_oracle_59 ?_
            refine g_bipush (v := 6) h dX6_oracle_60 (by decide) ?_
            refine g_top 6 rfl ?_
            refine g_icne h 68 dX6_oracle_62 (by decide) (fun c62 => ?_) (fun c62 => ?_)
            · have hn5 : n < 6 := by
                have : ¬ n = 6 := fun e => c62 (by rw [hn, e]; decide)
                omega
              have LOOP : ∀ (q i : Nat), i + q = 42 → G x X (puR (mrec σ z) 151 (mob (σ.1 151) n i)) [(0, ra X 150), (1, .int k), (2, .int u), (3, .int p), (5, .int (nI n)), (6, .int (nI i))] [] 84 := by
                intro q
                induction q with
                | zero =>
                  intro i hi 
                  have hie : i = 42 := by omega
                  rw [hie]
                  refine g_iload h dX6_oracle_84 rfl ?_
                  refine g_bipush (v := 42) h dX6_oracle_86 (by decide) ?_
                  refine g_icge h 117 dX6_oracle_88 (by decide) (fun c88 => ?_) (fun c88 => absurd (Int32.le_refl _) c88)
                  refine g_aload_n h dX6_oracle_117 rfl ?_
                  refine g_iload h dX6_oracle_118 rfl ?_
                  refine g_iconst (v := 0) h dX6_oracle_120 (by decide) ?_
                  refine g_iload_n h dX6_oracle_121 rfl ?_
                  refine cl6_82 h  (ct_X6_setPart (i := n) (p := 0) (by omega) (by decide)) rfl dX6_oracle_122 rfl (Nat.le_of_ble_eq_true rfl) (by decide) ?_
                  refine g_aload_n h dX6_oracle_125 rfl ?_
                  refine g_iload h dX6_oracle_126 rfl ?_
                  refine g_iconst (v := 1) h dX6_oracle_128 (by decide) ?_
                  refine g_iload_n h dX6_oracle_129 rfl ?_
                  refine cl6_82 h  (ct_X6_setPart (i := n) (p := 1) (by omega) (by decide)) rfl dX6_oracle_130 rfl (Nat.le_of_ble_eq_true rfl) (by decide) ?_
                  refine g_aload_n h dX6_oracle_133 rfl ?_
                  refine g_iload h dX6_oracle_134 rfl ?_
                  refine g_iconst (v := 2) h dX6_oracle_136 (by decide) ?_
                  refine g_iload_n h dX6_oracle_137 rfl ?_
                  refine cl6_82 h  (ct_X6_setPart (i := n) (p := 2) (by omega) (by decide)) rfl dX6_oracle_138 rfl (Nat.le_of_ble_eq_true rfl) (by decide) ?_
                  refine g_aload_n h dX6_oracle_141 rfl ?_
                  refine g_iload h dX6_oracle_142 rfl ?_
                  refine g_iconst (v := 3) h dX6_oracle_144 (by decide) ?_
                  refine g_iconst (v := (-1)) h dX6_oracle_145 (by decide) ?_
                  refine cl6_82 h  (ct_X6_setPart (i := n) (p := 3) (by omega) (by decide)) rfl dX6_oracle_146 rfl (Nat.le_of_ble_eq_true rfl) (by decide) ?_
                  refine g_aload_n h dX6_oracle_149 rfl ?_
                  refine gf6_7 h  dX6_oracle_150 ?_
                  refine g_bipush (v := 7) h dX6_oracle_153 (by decide) ?_
                  refine g_dup2 h dX6_oracle_155 rfl rfl ?_
                  refine g_ialdN h (k := 151) (by decide) (enc_151 X) (show (7 : Int32) = nI 7 by decide) (by decide) (by decide) dX6_oracle_156 ?_
                  refine g_iconst (v := 1) h dX6_oracle_157 (by decide) ?_
                  refine g_iadd h dX6_oracle_158 ?_
                  refine g_iastN h (k := 151) (by decide) (enc_151 X) (show (7 : Int32) = nI 7 by decide) (by decide) (by decide) dX6_oracle_159 ?_
                  refine g_iload h dX6_oracle_160 rfl ?_
                  exact g_iret h hr dX6_oracle_162 (by unfold mOracle; rw [if_neg (by rw [c26]; decide), if_neg (by rw [show wi u 0 (mostN k) = true from c36]; decide), if_neg (by rw [c47]; decide), if_neg (by omega)]) (by unfold mOracle; rw [if_neg (by rw [c26]; decide), if_neg (by rw [show wi u 0 (mostN k) = true from c36]; decide), if_neg (by rw [c47]; decide), if_neg (by omega)]; unfold mOrc; simp only [pu_puR, puR_puR, puR_self]; refine congrArg (fun y => puR _ 151 (upd _ 7 y)) ?_; rw [nI_succ]; refine congrArg (· + 1) ?_; rw [upd_n _ _ _ _ (by omega), upd_n _ _ _ _ (by omega), upd_n _ _ _ _ (by omega), upd_n _ _ _ _ (by omega)]; exact (if_neg (by omega)).trans hn)
                | succ q ih =>
                  intro i hi 
                  have hlt : i < 42 := by omega
                  refine g_iload h dX6_oracle_84 rfl ?_
                  refine g_bipush (v := 42) h dX6_oracle_86 (by decide) ?_
                  refine g_icge h 117 dX6_oracle_88 (by decide) (fun c88 => absurd c88 (nI_ge (b := 42) hlt (by decide))) (fun c88 => ?_)
                  refine g_aload_n h dX6_oracle_91 rfl ?_
                  refine g_iload h dX6_oracle_92 rfl ?_
                  refine g_iload h dX6_oracle_94 rfl ?_
                  refine g_iload h dX6_oracle_96 rfl ?_
                  refine g_bipush (v := 10) h dX6_oracle_98 (by decide) ?_
                  refine g_iclt h 107 dX6_oracle_100 (by decide) (fun c100 => ?_) (fun c100 => ?_)
                  · have hlt10 : i < 10 := Nat.not_le.mp (fun q => nI_nlt (b := 10) q (by omega) c100)
                    refine g_iconst (v := 0) h dX6_oracle_107 (by decide) ?_
                    refine cl6_82 h  (ct_X6_setPart (i := n) (p := i) (by omega) hlt) rfl dX6_oracle_108 rfl (Nat.le_of_ble_eq_true rfl) (by decide) ?_
                    refine g_iincN h dX6_oracle_111 rfl (by rw [hL]; decide) ?_
                    refine g_goto h 84 dX6_oracle_114 (by decide) ?_
                    refine g_mem (puR (mrec σ z) 151 (mob (σ.1 151) n (i + 1))) (by rw [pu_puR, puR_puR, puR_self, ← mob_s]; first | rw [if_pos hlt10] | rw [if_neg hge10]) ?_
                    refine g_sub [(0, ra X 150), (1, .int k), (2, .int u), (3, .int p), (5, .int (nI n)), (6, .int (nI (i + 1)))] ⟨rfl, rfl, rfl, rfl, rfl, rfl, trivial⟩ ?_
                    exact ih (i + 1) (by omega)
                  · have hge10 : ¬ i < 10 := fun q => c100 (nI_lt (b := 10) q (by decide))
                    refine g_iconst (v := 1) h dX6_oracle_103 (by decide) ?_
                    refine g_goto h 108 dX6_oracle_104 (by decide) ?_
                    refine cl6_82 h  (ct_X6_setPart (i := n) (p := i) (by omega) hlt) rfl dX6_oracle_108 rfl (Nat.le_of_ble_eq_true rfl) (by decide) ?_
                    refine g_iincN h dX6_oracle_111 rfl (by rw [hL]; decide) ?_
                    refine g_goto h 84 dX6_oracle_114 (by decide) ?_
                    refine g_mem (puR (mrec σ z) 151 (mob (σ.1 151) n (i + 1))) (by rw [pu_puR, puR_puR, puR_self, ← mob_s]; first | rw [if_pos hlt10] | rw [if_neg hge10]) ?_
                    refine g_sub [(0, ra X 150), (1, .int k), (2, .int u), (3, .int p), (5, .int (nI n)), (6, .int (nI (i + 1)))] ⟨rfl, rfl, rfl, rfl, rfl, rfl, trivial⟩ ?_
                    exact ih (i + 1) (by omega)
              refine g_aload_n h dX6_oracle_68 rfl ?_
              refine cl6_78 h  (ct_X6_record hz) rfl dX6_oracle_69 rfl (Nat.le_of_ble_eq_true rfl) (by decide) ?_
              refine g_aload_n h dX6_oracle_72 rfl ?_
              refine gf6_7 h  dX6_oracle_73 ?_
              refine g_bipush (v := 7) h dX6_oracle_76 (by decide) ?_
              refine g_ialdN h (k := 151) (by decide) (enc_151 X) (show (7 : Int32) = nI 7 by decide) (by decide) (by decide) dX6_oracle_78 ?_
              refine g_top (nI n) (by rw [mrec_151]; exact hn) ?_
              refine g_istore h dX6_oracle_79 (by rw [hL]; decide) ?_
              refine g_iconst (v := 0) h dX6_oracle_81 (by decide) ?_
              refine g_istore h dX6_oracle_82 (by rw [hL]; decide) ?_
              refine g_mem (puR (mrec σ z) 151 (mob (σ.1 151) n 0)) (by rw [mob_0, ← mrec_151 σ z, puR_id]) ?_
              refine g_sub [(0, ra X 150), (1, .int k), (2, .int u), (3, .int p), (5, .int (nI n)), (6, .int (nI 0))] ⟨rfl, rfl, rfl, rfl, rfl, lk_0, trivial⟩ ?_
              exact LOOP 42 0 (by omega)
            · have hn6e : n = 6 := (nI_eq (b := 6) (by omega) (by decide)).mp (hn.symm.trans c62)
              refine g_ldc h (-1000003) (lw_in 708 (by decide +kernel) rfl) dX6_oracle_65 ?_
              exact g_iret h hr dX6_oracle_67 (by unfold mOracle; rw [if_neg (by rw [c26]; decide), if_neg (by rw [show wi u 0 (mostN k) = true from c36]; decide), if_neg (by rw [c47]; decide), if_pos hn6e]; rfl) (by unfold mOracle; rw [if_neg (by rw [c26]; decide), if_neg (by rw [show wi u 0 (mostN k) = true from c36]; decide), if_neg (by rw [c47]; decide), if_pos hn6e])
          · refine g_ldc h (-1000001) (lw_in 696 (by decide +kernel) rfl) dX6_oracle_50 ?_
            exact g_iret h hr dX6_oracle_52 (by unfold mOracle; first | (rw [if_pos c26]; rfl; done) | (rw [if_neg (by rw [c26]; decide), if_pos (show wi u 0 (mostN k) = false from c36)]; rfl; done) | (rw [if_neg (by rw [c26]; decide), if_neg (by rw [show wi u 0 (mostN k) = true from c36]; decide), if_pos c47]; rfl; done)) (by unfold mOracle; first | (rw [if_pos c26]; done) | (rw [if_neg (by rw [c26]; decide), if_pos (show wi u 0 (mostN k) = false from c36)]; done) | (rw [if_neg (by rw [c26]; decide), if_neg (by rw [show wi u 0 (mostN k) = true from c36]; decide), if_pos c47]; done))
  · refine g_iconst (v := 1) h dX6_oracle_4 (by decide) ?_
    refine g_goto h 18 dX6_oracle_5 (by decide) ?_
    refine g_top (mostN k) (by simp [mostN, c1]) ?_
    refine g_istore h dX6_oracle_18 (by rw [hL]; decide) ?_
    refine g_iload_n h dX6_oracle_20 rfl ?_
    refine g_iconst (v := 0) h dX6_oracle_21 (by decide) ?_
    refine g_iconst (v := 4) h dX6_oracle_22 (by decide) ?_
    refine cl6_42 h (ct_X6_within) rfl dX6_oracle_23 rfl (Nat.le_of_ble_eq_true rfl) (by decide) ?_
    refine g_ifeqB h 50 dX6_oracle_26 (by decide) (fun c26 => ?_) (fun c26 => ?_)
    · refine g_ldc h (-1000001) (lw_in 696 (by decide +kernel) rfl) dX6_oracle_50 ?_
      exact g_iret h hr dX6_oracle_52 (by unfold mOracle; first | (rw [if_pos c26]; rfl; done) | (rw [if_neg (by rw [c26]; decide), if_pos (show wi u 0 (mostN k) = false from c36)]; rfl; done) | (rw [if_neg (by rw [c26]; decide), if_neg (by rw [show wi u 0 (mostN k) = true from c36]; decide), if_pos c47]; rfl; done)) (by unfold mOracle; first | (rw [if_pos c26]; done) | (rw [if_neg (by rw [c26]; decide), if_pos (show wi u 0 (mostN k) = false from c36)]; done) | (rw [if_neg (by rw [c26]; decide), if_neg (by rw [show wi u 0 (mostN k) = true from c36]; decide), if_pos c47]; done))
    · refine g_iload_n h dX6_oracle_29 rfl ?_
      refine g_iconst (v := 0) h dX6_oracle_30 (by decide) ?_
      refine g_iload h dX6_oracle_31 rfl ?_
      refine cl6_42 h (ct_X6_within) rfl dX6_oracle_33 rfl (Nat.le_of_ble_eq_true rfl) (by decide) ?_
      refine g_ifeqB h 50 dX6_oracle_36 (by decide) (fun c36 => ?_) (fun c36 => ?_)
      · refine g_ldc h (-1000001) (lw_in 696 (by decide +kernel) rfl) dX6_oracle_50 ?_
        exact g_iret h hr dX6_oracle_52 (by unfold mOracle; first | (rw [if_pos c26]; rfl; done) | (rw [if_neg (by rw [c26]; decide), if_pos (show wi u 0 (mostN k) = false from c36)]; rfl; done) | (rw [if_neg (by rw [c26]; decide), if_neg (by rw [show wi u 0 (mostN k) = true from c36]; decide), if_pos c47]; rfl; done)) (by unfold mOracle; first | (rw [if_pos c26]; done) | (rw [if_neg (by rw [c26]; decide), if_pos (show wi u 0 (mostN k) = false from c36)]; done) | (rw [if_neg (by rw [c26]; decide), if_neg (by rw [show wi u 0 (mostN k) = true from c36]; decide), if_pos c47]; done))
      · refine g_iload_n h dX6_oracle_39 rfl ?_
        refine g_iconst (v := 0) h dX6_oracle_40 (by decide) ?_
        refine g_sipush (v := 9999) h dX6_oracle_41 (by decide) ?_
        refine cl6_42 h (ct_X6_within) rfl dX6_oracle_44 rfl (Nat.le_of_ble_eq_true rfl) (by decide) ?_
        refine g_ifneB h 53 dX6_oracle_47 (by decide) (fun c47 => ?_) (fun c47 => ?_)
        · refine g_aload_n h dX6_oracle_53 rfl ?_
          refine gf6_7 h  dX6_oracle_54 ?_
          refine g_bipush (v := 7) h dX6_oracle_57 (by decide) ?_
          refine g_ialdN h (k := 151) (by decide) (enc_151 X) (show (7 : Int32) = nI 7 by decide) (by decide) (by decide) dX6_oracle_59 ?_
          refine g_bipush (v := 6) h dX6_oracle_60 (by decide) ?_
          refine g_top 6 rfl ?_
          refine g_icne h 68 dX6_oracle_62 (by decide) (fun c62 => ?_) (fun c62 => ?_)
          · have hn5 : n < 6 := by
              have : ¬ n = 6 := fun e => c62 (by rw [hn, e]; decide)
              omega
            have LOOP : ∀ (q i : Nat), i + q = 42 → G x X (puR (mrec σ z) 151 (mob (σ.1 151) n i)) [(0, ra X 150), (1, .int k), (2, .int u), (3, .int p), (5, .int (nI n)), (6, .int (nI i))] [] 84 := by
              intro q
              induction q with
              | zero =>
                intro i hi 
                have hie : i = 42 := by omega
                rw [hie]
                refine g_iload h dX6_oracle_84 rfl ?_
                refine g_bipush (v := 42) h dX6_oracle_86 (by decide) ?_
                refine g_icge h 117 dX6_oracle_88 (by decide) (fun c88 => ?_) (fun c88 => absurd (Int32.le_refl _) c88)
                refine g_aload_n h dX6_oracle_117 rfl ?_
                refine g_iload h dX6_oracle_118 rfl ?_
                refine g_iconst (v := 0) h dX6_oracle_120 (by decide) ?_
                refine g_iload_n h dX6_oracle_121 rfl ?_
                refine cl6_82 h  (ct_X6_setPart (i := n) (p := 0) (by omega) (by decide)) rfl dX6_oracle_122 rfl (Nat.le_of_ble_eq_true rfl) (by decide) ?_
                refine g_aload_n h dX6_oracle_125 rfl ?_
                refine g_iload h dX6_oracle_126 rfl ?_
                refine g_iconst (v := 1) h dX6_oracle_128 (by decide) ?_
                refine g_iload_n h dX6_oracle_129 rfl ?_
                refine cl6_82 h  (ct_X6_setPart (i := n) (p := 1) (by omega) (by decide)) rfl dX6_oracle_130 rfl (Nat.le_of_ble_eq_true rfl) (by decide) ?_
                refine g_aload_n h dX6_oracle_133 rfl ?_
                refine g_iload h dX6_oracle_134 rfl ?_
                refine g_iconst (v := 2) h dX6_oracle_136 (by decide) ?_
                refine g_iload_n h dX6_oracle_137 rfl ?_
                refine cl6_82 h  (ct_X6_setPart (i := n) (p := 2) (by omega) (by decide)) rfl dX6_oracle_138 rfl (Nat.le_of_ble_eq_true rfl) (by decide) ?_
                refine g_aload_n h dX6_oracle_141 rfl ?_
                refine g_iload h dX6_oracle_142 rfl ?_
                refine g_iconst (v := 3) h dX6_oracle_144 (by decide) ?_
                refine g_iconst (v := (-1)) h dX6_oracle_145 (by decide) ?_
                refine cl6_82 h  (ct_X6_setPart (i := n) (p := 3) (by omega) (by decide)) rfl dX6_oracle_146 rfl (Nat.le_of_ble_eq_true rfl) (by decide) ?_
                refine g_aload_n h dX6_oracle_149 rfl ?_
                refine gf6_7 h  dX6_oracle_150 ?_
                refine g_bipush (v := 7) h dX6_oracle_153 (by decide) ?_
                refine g_dup2 h dX6_oracle_155 rfl rfl ?_
                refine g_ialdN h (k := 151) (by decide) (enc_151 X) (show (7 : Int32) = nI 7 by decide) (by decide) (by decide) dX6_oracle_156 ?_
                refine g_iconst (v := 1) h dX6_oracle_157 (by decide) ?_
                refine g_iadd h dX6_oracle_158 ?_
                refine g_iastN h (k := 151) (by decide) (enc_151 X) (show (7 : Int32) = nI 7 by decide) (by decide) (by decide) dX6_oracle_159 ?_
                refine g_iload h dX6_oracle_160 rfl ?_
                exact g_iret h hr dX6_oracle_162 (by unfold mOracle; rw [if_neg (by rw [c26]; decide), if_neg (by rw [show wi u 0 (mostN k) = true from c36]; decide), if_neg (by rw [c47]; decide), if_neg (by omega)]) (by unfold mOracle; rw [if_neg (by rw [c26]; decide), if_neg (by rw [show wi u 0 (mostN k) = true from c36]; decide), if_neg (by rw [c47]; decide), if_neg (by omega)]; unfold mOrc; simp only [pu_puR, puR_puR, puR_self]; refine congrArg (fun y => puR _ 151 (upd _ 7 y)) ?_; rw [nI_succ]; refine congrArg (· + 1) ?_; rw [upd_n _ _ _ _ (by omega), upd_n _ _ _ _ (by omega), upd_n _ _ _ _ (by omega), upd_n _ _ _ _ (by omega)]; exact (if_neg (by omega)).trans hn)
              | succ q ih =>
                intro i hi 
                have hlt : i < 42 := by omega
                refine g_iload h dX6_oracle_84 rfl ?_
                refine g_bipush (v := 42) h dX6_oracle_86 (by decide) ?_
                refine g_icge h 117 dX6_oracle_88 (by decide) (fun c88 => absurd c88 (nI_ge (b := 42) hlt (by decide))) (fun c88 => ?_)
                refine g_aload_n h dX6_oracle_91 rfl ?_
                refine g_iload h dX6_oracle_92 rfl ?_
                refine g_iload h dX6_oracle_94 rfl ?_
                refine g_iload h dX6_oracle_96 rfl ?_
                refine g_bipush (v := 10) h dX6_oracle_98 (by decide) ?_
                refine g_iclt h 107 dX6_oracle_100 (by decide) (fun c100 => ?_) (fun c100 => ?_)
                · have hlt10 : i < 10 := Nat.not_le.mp (fun q => nI_nlt (b := 10) q (by omega) c100)
                  refine g_iconst (v := 0) h dX6_oracle_107 (by decide) ?_
                  refine cl6_82 h  (ct_X6_setPart (i := n) (p := i) (by omega) hlt) rfl dX6_oracle_108 rfl (Nat.le_of_ble_eq_true rfl) (by decide) ?_
                  refine g_iincN h dX6_oracle_111 rfl (by rw [hL]; decide) ?_
                  refine g_goto h 84 dX6_oracle_114 (by decide) ?_
                  refine g_mem (puR (mrec σ z) 151 (mob (σ.1 151) n (i + 1))) (by rw [pu_puR, puR_puR, puR_self, ← mob_s]; first | rw [if_pos hlt10] | rw [if_neg hge10]) ?_
                  refine g_sub [(0, ra X 150), (1, .int k), (2, .int u), (3, .int p), (5, .int (nI n)), (6, .int (nI (i + 1)))] ⟨rfl, rfl, rfl, rfl, rfl, rfl, trivial⟩ ?_
                  exact ih (i + 1) (by omega)
                · have hge10 : ¬ i < 10 := fun q => c100 (nI_lt (b := 10) q (by decide))
                  refine g_iconst (v := 1) h dX6_oracle_103 (by decide) ?_
                  refine g_goto h 108 dX6_oracle_104 (by decide) ?_
                  refine cl6_82 h  (ct_X6_setPart (i := n) (p := i) (by omega) hlt) rfl dX6_oracle_108 rfl (Nat.le_of_ble_eq_true rfl) (by decide) ?_
                  refine g_iincN h dX6_oracle_111 rfl (by rw [hL]; decide) ?_
                  refine g_goto h 84 dX6_oracle_114 (by decide) ?_
                  refine g_mem (puR (mrec σ z) 151 (mob (σ.1 151) n (i + 1))) (by rw [pu_puR, puR_puR, puR_self, ← mob_s]; first | rw [if_pos hlt10] | rw [if_neg hge10]) ?_
                  refine g_sub [(0, ra X 150), (1, .int k), (2, .int u), (3, .int p), (5, .int (nI n)), (6, .int (nI (i + 1)))] ⟨rfl, rfl, rfl, rfl, rfl, rfl, trivial⟩ ?_
                  exact ih (i + 1) (by omega)
            refine g_aload_n h dX6_oracle_68 rfl ?_
            refine cl6_78 h  (ct_X6_record hz) rfl dX6_oracle_69 rfl (Nat.le_of_ble_eq_true rfl) (by decide) ?_
            refine g_aload_n h dX6_oracle_72 rfl ?_
            refine gf6_7 h  dX6_oracle_73 ?_
            refine g_bipush (v := 7) h dX6_oracle_76 (by decide) ?_
            refine g_ialdN h (k := 151) (by decide) (enc_151 X) (show (7 : Int32) = nI 7 by decide) (by decide) (by decide) dX6_oracle_78 ?_
            refine g_top (nI n) (by rw [mrec_151]; exact hn) ?_
            refine g_istore h dX6_oracle_79 (by rw [hL]; decide) ?_
            refine g_iconst (v := 0) h dX6_oracle_81 (by decide) ?_
            refine g_istore h dX6_oracle_82 (by rw [hL]; decide) ?_
            refine g_mem (puR (mrec σ z) 151 (mob (σ.1 151) n 0)) (by rw [mob_0, ← mrec_151 σ z, puR_id]) ?_
            refine g_sub [(0, ra X 150), (1, .int k), (2, .int u), (3, .int p), (5, .int (nI n)), (6, .int (nI 0))] ⟨rfl, rfl, rfl, rfl, rfl, lk_0, trivial⟩ ?_
            exact LOOP 42 0 (by omega)
          · have hn6e : n = 6 := (nI_eq (b := 6) (by omega) (by decide)).mp (hn.symm.trans c62)
            refine g_ldc h (-1000003) (lw_in 708 (by decide +kernel) rfl) dX6_oracle_65 ?_
            exact g_iret h hr dX6_oracle_67 (by unfold mOracle; rw [if_neg (by rw [c26]; decide), if_neg (by rw [show wi u 0 (mostN k) = true from c36]; decide), if_neg (by rw [c47]; decide), if_pos hn6e]; rfl) (by unfold mOracle; rw [if_neg (by rw [c26]; decide), if_neg (by rw [show wi u 0 (mostN k) = true from c36]; decide), if_neg (by rw [c47]; decide), if_pos hn6e])
        · refine g_ldc h (-1000001) (lw_in 696 (by decide +kernel) rfl) dX6_oracle_50 ?_
          exact g_iret h hr dX6_oracle_52 (by unfold mOracle; first | (rw [if_pos c26]; rfl; done) | (rw [if_neg (by rw [c26]; decide), if_pos (show wi u 0 (mostN k) = false from c36)]; rfl; done) | (rw [if_neg (by rw [c26]; decide), if_neg (by rw [show wi u 0 (mostN k) = true from c36]; decide), if_pos c47]; rfl; done)) (by unfold mOracle; first | (rw [if_pos c26]; done) | (rw [if_neg (by rw [c26]; decide), if_pos (show wi u 0 (mostN k) = false from c36)]; done) | (rw [if_neg (by rw [c26]; decide), if_neg (by rw [show wi u 0 (mostN k) = true from c36]; decide), if_pos c47]; done))
set_option maxRecDepth 100000 in
set_option maxHeartbeats 4000000 in
theorem ct_X6_stand {l : Launch} {X : fX} {σ : fM} {z n m : Nat} (hz : mrc σ z) (hc : mcn (σ.1 151) n m) {v : Int32} : Ct l X yX6_stand cX6_stand 3 (some .int) 2 [ra X 150, .int v] σ (some (.int (mStand σ z v).1)) (mStand σ z v).2 := by
  refine Ct.of RX6 rfl (by decide) (Nat.le_of_ble_eq_true rfl) ?_
  intro x hL h hr
  refine g_sub [(0, ra X 150), (1, .int v)] ⟨rfl, rfl, trivial⟩ ?_
  obtain ⟨hn, hn6, hm, hm8⟩ := id hc
  refine g_aload_n h dX6_stand_0 rfl ?_
  refine g_iload_n h dX6_stand_1 rfl ?_
  refine cl6_86 h  (ct_X6_isOracle ) rfl dX6_stand_2 rfl (Nat.le_of_ble_eq_true rfl) (by decide) ?_
  refine g_ifneB h 11 dX6_stand_5 (by decide) (fun c5 => ?_) (fun c5 => ?_)
  · obtain ⟨j, hj, rfl⟩ := wi_or (by omega) hn c5
    have hij : (nI j).toNatClampNeg = j := nI_clamp (by omega)
    refine g_aload_n h dX6_stand_11 rfl ?_
    refine g_iload_n h dX6_stand_12 rfl ?_
    refine cl6_61 h  (ct_X6_hasSeat (i := j) (by omega)) rfl dX6_stand_13 rfl (Nat.le_of_ble_eq_true rfl) (by decide) ?_
    refine g_ifneB h 22 dX6_stand_16 (by decide) (fun c16 => ?_) (fun c16 => ?_)
    · refine g_aload_n h dX6_stand_22 rfl ?_
      refine cl6_78 h  (ct_X6_record hz) rfl dX6_stand_23 rfl (Nat.le_of_ble_eq_true rfl) (by decide) ?_
      refine g_aload_n h dX6_stand_26 rfl ?_
      refine g_iload_n h dX6_stand_27 rfl ?_
      refine g_iconst (v := 3) h dX6_stand_28 (by decide) ?_
      refine cl6_46 h  (ct_X6_part (i := j) (p := 3) (by omega) (by decide)) rfl dX6_stand_29 rfl (Nat.le_of_ble_eq_true rfl) (by decide) ?_
      refine g_top (mo (σ.1 151) j 3) (by rw [mrec_151]) ?_
      refine g_istore_n h dX6_stand_32 (by rw [hL]; decide) ?_
      refine g_aload_n h dX6_stand_33 rfl ?_
      refine g_iload_n h dX6_stand_34 rfl ?_
      refine g_iconst (v := 3) h dX6_stand_35 (by decide) ?_
      refine g_iconst (v := (-1)) h dX6_stand_36 (by decide) ?_
      refine cl6_82 h  (ct_X6_setPart (i := j) (p := 3) (by omega) (by decide)) rfl dX6_stand_37 rfl (Nat.le_of_ble_eq_true rfl) (by decide) ?_
      refine g_iload_n h dX6_stand_40 rfl ?_
      exact g_iret h hr dX6_stand_41 (by first | (simp [mStand, kBad, kNot, kLim, kNone, ix, hij, c5, c16, pu_puR, mrec_151]; done) | (simp [mStand, kBad, kNot, kLim, kNone, ix, c5, c16, pu_puR, mrec_151]; done) | (simp_all [mStand, kBad, kNot, kLim, kNone, ix, pu_puR, mrec_151]; done)) (by first | (simp [mStand, kBad, kNot, kLim, kNone, ix, hij, c5, c16, pu_puR, mrec_151]; done) | (simp [mStand, kBad, kNot, kLim, kNone, ix, c5, c16, pu_puR, mrec_151]; done) | (simp_all [mStand, kBad, kNot, kLim, kNone, ix, pu_puR, mrec_151]; done))
    · refine g_ldc h (-1000002) (lw_in 733 (by decide +kernel) rfl) dX6_stand_19 ?_
      exact g_iret h hr dX6_stand_21 (by first | (simp [mStand, kBad, kNot, kLim, kNone, ix, hij, c5, c16, pu_puR, mrec_151]; done) | (simp [mStand, kBad, kNot, kLim, kNone, ix, c5, c16, pu_puR, mrec_151]; done) | (simp_all [mStand, kBad, kNot, kLim, kNone, ix, pu_puR, mrec_151]; done)) (by first | (simp [mStand, kBad, kNot, kLim, kNone, ix, hij, c5, c16, pu_puR, mrec_151]; done) | (simp [mStand, kBad, kNot, kLim, kNone, ix, c5, c16, pu_puR, mrec_151]; done) | (simp_all [mStand, kBad, kNot, kLim, kNone, ix, pu_puR, mrec_151]; done))
  · refine g_ldc h (-1000001) (lw_in 696 (by decide +kernel) rfl) dX6_stand_8 ?_
    exact g_iret h hr dX6_stand_10 (by first | (simp [mStand, kBad, kNot, kLim, kNone, ix, hij, c5, pu_puR, mrec_151]; done) | (simp [mStand, kBad, kNot, kLim, kNone, ix, c5, pu_puR, mrec_151]; done) | (simp_all [mStand, kBad, kNot, kLim, kNone, ix, pu_puR, mrec_151]; done)) (by first | (simp [mStand, kBad, kNot, kLim, kNone, ix, hij, c5, pu_puR, mrec_151]; done) | (simp [mStand, kBad, kNot, kLim, kNone, ix, c5, pu_puR, mrec_151]; done) | (simp_all [mStand, kBad, kNot, kLim, kNone, ix, pu_puR, mrec_151]; done))
set_option maxRecDepth 100000 in
set_option maxHeartbeats 4000000 in
theorem ct_X6_give {l : Launch} {X : fX} {σ : fM} {z n m : Nat} (hz : mrc σ z) (hc : mcn (σ.1 151) n m) {v c : Int32} : Ct l X yX6_give cX6_give 3 (some .int) 2 [ra X 150, .int v, .int c] σ (some (.int (mGive σ z v c).1)) (mGive σ z v c).2 := by
  refine Ct.of RX6 rfl (by decide) (Nat.le_of_ble_eq_true rfl) ?_
  intro x hL h hr
  refine g_sub [(0, ra X 150), (1, .int v), (2, .int c)] ⟨rfl, rfl, rfl, trivial⟩ ?_
  obtain ⟨hn, hn6, hm, hm8⟩ := id hc
  refine g_aload_n h dX6_give_0 rfl ?_
  refine g_iload_n h dX6_give_1 rfl ?_
  refine cl6_86 h  (ct_X6_isOracle ) rfl dX6_give_2 rfl (Nat.le_of_ble_eq_true rfl) (by decide) ?_
  refine g_ifeqB h 19 dX6_give_5 (by decide) (fun c5 => ?_) (fun c5 => ?_)
  · refine g_ldc h (-1000001) (lw_in 696 (by decide +kernel) rfl) dX6_give_19 ?_
    exact g_iret h hr dX6_give_21 (by first | (simp [mGive, kBad, kNot, kLim, kNone, ix, hij, c5, pu_puR, mrec_151, addR]; done) | (simp [mGive, kBad, kNot, kLim, kNone, ix, c5, pu_puR, mrec_151, addR]; done) | (simp_all [mGive, kBad, kNot, kLim, kNone, ix, pu_puR, mrec_151, addR]; done)) (by first | (simp [mGive, kBad, kNot, kLim, kNone, ix, hij, c5, pu_puR, mrec_151, addR]; done) | (simp [mGive, kBad, kNot, kLim, kNone, ix, c5, pu_puR, mrec_151, addR]; done) | (simp_all [mGive, kBad, kNot, kLim, kNone, ix, pu_puR, mrec_151, addR]; done))
  · obtain ⟨j, hj, rfl⟩ := wi_or (by omega) hn c5
    have hij : (nI j).toNatClampNeg = j := nI_clamp (by omega)
    refine g_iload_n h dX6_give_8 rfl ?_
    refine g_iconst (v := 1) h dX6_give_9 (by decide) ?_
    refine g_sipush (v := 9999) h dX6_give_10 (by decide) ?_
    refine cl6_42 h (ct_X6_within) rfl dX6_give_13 rfl (Nat.le_of_ble_eq_true rfl) (by decide) ?_
    refine g_ifneB h 22 dX6_give_16 (by decide) (fun c16 => ?_) (fun c16 => ?_)
    · refine g_aload_n h dX6_give_22 rfl ?_
      refine g_iload_n h dX6_give_23 rfl ?_
      refine g_iconst (v := 2) h dX6_give_24 (by decide) ?_
      refine cl6_46 h  (ct_X6_part (i := j) (p := 2) (by omega) (by decide)) rfl dX6_give_25 rfl (Nat.le_of_ble_eq_true rfl) (by decide) ?_
      refine g_iload_n h dX6_give_28 rfl ?_
      refine g_iadd h dX6_give_29 ?_
      refine g_ldc h (100000) (lw_in 746 (by decide +kernel) rfl) dX6_give_30 ?_
      refine g_icle h 38 dX6_give_32 (by decide) (fun c32 => ?_) (fun c32 => ?_)
      · refine g_aload_n h dX6_give_38 rfl ?_
        refine cl6_78 h  (ct_X6_record hz) rfl dX6_give_39 rfl (Nat.le_of_ble_eq_true rfl) (by decide) ?_
        refine g_aload_n h dX6_give_42 rfl ?_
        refine g_iload_n h dX6_give_43 rfl ?_
        refine g_iconst (v := 2) h dX6_give_44 (by decide) ?_
        refine g_iload_n h dX6_give_45 rfl ?_
        refine cl6_94 h  (ct_X6_addPart (i := j) (p := 2) (by omega) (by decide)) rfl dX6_give_46 rfl (Nat.le_of_ble_eq_true rfl) (by decide) ?_
        refine g_aload_n h dX6_give_49 rfl ?_
        refine g_iload_n h dX6_give_50 rfl ?_
        refine g_iconst (v := 2) h dX6_give_51 (by decide) ?_
        refine cl6_46 h  (ct_X6_part (i := j) (p := 2) (by omega) (by decide)) rfl dX6_give_52 rfl (Nat.le_of_ble_eq_true rfl) (by decide) ?_
        refine g_top (mo (σ.1 151) j 2 + c) (by rw [pu_puR, puR_self, mrec_151]; exact upd_s _ _ _) ?_
        exact g_iret h hr dX6_give_55 (by first | (simp [mGive, kBad, kNot, kLim, kNone, ix, hij, c5, c16, c32, pu_puR, mrec_151, addR]; done) | (simp [mGive, kBad, kNot, kLim, kNone, ix, c5, c16, c32, pu_puR, mrec_151, addR]; done) | (simp_all [mGive, kBad, kNot, kLim, kNone, ix, pu_puR, mrec_151, addR]; done)) (by first | (simp [mGive, kBad, kNot, kLim, kNone, ix, hij, c5, c16, c32, pu_puR, mrec_151, addR]; done) | (simp [mGive, kBad, kNot, kLim, kNone, ix, c5, c16, c32, pu_puR, mrec_151, addR]; done) | (simp_all [mGive, kBad, kNot, kLim, kNone, ix, pu_puR, mrec_151, addR]; done))
      · refine g_ldc h (-1000003) (lw_in 708 (by decide +kernel) rfl) dX6_give_35 ?_
        exact g_iret h hr dX6_give_37 (by first | (simp [mGive, kBad, kNot, kLim, kNone, ix, hij, c5, c16, c32, pu_puR, mrec_151, addR]; done) | (simp [mGive, kBad, kNot, kLim, kNone, ix, c5, c16, c32, pu_puR, mrec_151, addR]; done) | (simp_all [mGive, kBad, kNot, kLim, kNone, ix, pu_puR, mrec_151, addR]; done)) (by first | (simp [mGive, kBad, kNot, kLim, kNone, ix, hij, c5, c16, c32, pu_puR, mrec_151, addR]; done) | (simp [mGive, kBad, kNot, kLim, kNone, ix, c5, c16, c32, pu_puR, mrec_151, addR]; done) | (simp_all [mGive, kBad, kNot, kLim, kNone, ix, pu_puR, mrec_151, addR]; done))
    · refine g_ldc h (-1000001) (lw_in 696 (by decide +kernel) rfl) dX6_give_19 ?_
      exact g_iret h hr dX6_give_21 (by first | (simp [mGive, kBad, kNot, kLim, kNone, ix, hij, c5, c16, pu_puR, mrec_151, addR]; done) | (simp [mGive, kBad, kNot, kLim, kNone, ix, c5, c16, pu_puR, mrec_151, addR]; done) | (simp_all [mGive, kBad, kNot, kLim, kNone, ix, pu_puR, mrec_151, addR]; done)) (by first | (simp [mGive, kBad, kNot, kLim, kNone, ix, hij, c5, c16, pu_puR, mrec_151, addR]; done) | (simp [mGive, kBad, kNot, kLim, kNone, ix, c5, c16, pu_puR, mrec_151, addR]; done) | (simp_all [mGive, kBad, kNot, kLim, kNone, ix, pu_puR, mrec_151, addR]; done))
set_option maxRecDepth 100000 in
set_option maxHeartbeats 4000000 in
theorem ct_X6_lend {l : Launch} {X : fX} {σ : fM} {z n m : Nat} (hz : mrc σ z) (hc : mcn (σ.1 151) n m) {c e v : Int32} : Ct l X yX6_lend cX6_lend 5 (some .int) 2 [ra X 150, .int c, .int e, .int v] σ (some (.int (mLend σ z m c e v).1)) (mLend σ z m c e v).2 := by
  refine Ct.of RX6 rfl (by decide) (Nat.le_of_ble_eq_true rfl) ?_
  intro x hL h hr
  refine g_sub [(0, ra X 150), (1, .int c), (2, .int e), (3, .int v)] ⟨rfl, rfl, rfl, rfl, trivial⟩ ?_
  obtain ⟨hn, hn6, hm, hm8⟩ := id hc
  refine g_aload_n h dX6_lend_0 rfl ?_
  refine g_iload_n h dX6_lend_1 rfl ?_
  refine cl6_86 h  (ct_X6_isOracle ) rfl dX6_lend_2 rfl (Nat.le_of_ble_eq_true rfl) (by decide) ?_
  refine g_ifeqB h 32 dX6_lend_5 (by decide) (fun c5 => ?_) (fun c5 => ?_)
  · refine g_ldc h (-1000001) (lw_in 696 (by decide +kernel) rfl) dX6_lend_32 ?_
    exact g_iret h hr dX6_lend_34 (by first | (simp [mLend, kBad, kNot, kLim, ix, hij, hij2, hm8n, c5]; done) | (simp [mLend, kBad, kNot, kLim, ix, hij, hij2, hm8e, c5]; done) | (simp [mLend, kBad, kNot, kLim, ix, hij, hij2, c5]; done) | (simp [mLend, kBad, kNot, kLim, ix, hij, c5]; done) | (simp [mLend, kBad, kNot, kLim, ix, c5]; done) | (simp_all [mLend, kBad, kNot, kLim, ix]; done)) (by first | (simp [mLend, ix, hij, hij2, hm8n, c5, pu_puR, puR_puR, puR_self, mrec_151, mLendR, addR, put3]; done) | (simp [mLend, ix, hij, hij2, hm8e, c5]; done) | (simp [mLend, ix, hij, hij2, c5]; done) | (simp [mLend, ix, hij, c5]; done) | (simp [mLend, ix, c5]; done) | (simp_all [mLend, ix]; done))
  · obtain ⟨j, hj, rfl⟩ := wi_or (by omega) hn c5
    have hij : (nI j).toNatClampNeg = j := nI_clamp (by omega)
    refine g_aload_n h dX6_lend_8 rfl ?_
    refine g_iload_n h dX6_lend_9 rfl ?_
    refine cl6_86 h  (ct_X6_isOracle ) rfl dX6_lend_10 rfl (Nat.le_of_ble_eq_true rfl) (by decide) ?_
    refine g_ifeqB h 32 dX6_lend_13 (by decide) (fun c13 => ?_) (fun c13 => ?_)
    · refine g_ldc h (-1000001) (lw_in 696 (by decide +kernel) rfl) dX6_lend_32 ?_
      exact g_iret h hr dX6_lend_34 (by first | (simp [mLend, kBad, kNot, kLim, ix, hij, hij2, hm8n, c5, c13]; done) | (simp [mLend, kBad, kNot, kLim, ix, hij, hij2, hm8e, c5, c13]; done) | (simp [mLend, kBad, kNot, kLim, ix, hij, hij2, c5, c13]; done) | (simp [mLend, kBad, kNot, kLim, ix, hij, c5, c13]; done) | (simp [mLend, kBad, kNot, kLim, ix, c5, c13]; done) | (simp_all [mLend, kBad, kNot, kLim, ix]; done)) (by first | (simp [mLend, ix, hij, hij2, hm8n, c5, c13, pu_puR, puR_puR, puR_self, mrec_151, mLendR, addR, put3]; done) | (simp [mLend, ix, hij, hij2, hm8e, c5, c13]; done) | (simp [mLend, ix, hij, hij2, c5, c13]; done) | (simp [mLend, ix, hij, c5, c13]; done) | (simp [mLend, ix, c5, c13]; done) | (simp_all [mLend, ix]; done))
    · obtain ⟨j2, hj2, rfl⟩ := wi_or (by omega) hn c13
      have hij2 : (nI j2).toNatClampNeg = j2 := nI_clamp (by omega)
      refine g_iload_n h dX6_lend_16 rfl ?_
      refine g_iload_n h dX6_lend_17 rfl ?_
      refine g_iceq h 32 dX6_lend_18 (by decide) (fun c18 => ?_) (fun c18 => ?_)
      · refine g_ldc h (-1000001) (lw_in 696 (by decide +kernel) rfl) dX6_lend_32 ?_
        exact g_iret h hr dX6_lend_34 (by first | (simp [mLend, kBad, kNot, kLim, ix, hij, hij2, hm8n, c5, c13, c18]; done) | (simp [mLend, kBad, kNot, kLim, ix, hij, hij2, hm8e, c5, c13, c18]; done) | (simp [mLend, kBad, kNot, kLim, ix, hij, hij2, c5, c13, c18]; done) | (simp [mLend, kBad, kNot, kLim, ix, hij, c5, c13, c18]; done) | (simp [mLend, kBad, kNot, kLim, ix, c5, c13, c18]; done) | (simp_all [mLend, kBad, kNot, kLim, ix]; done)) (by first | (simp [mLend, ix, hij, hij2, hm8n, c5, c13, c18, pu_puR, puR_puR, puR_self, mrec_151, mLendR, addR, put3]; done) | (simp [mLend, ix, hij, hij2, hm8e, c5, c13, c18]; done) | (simp [mLend, ix, hij, hij2, c5, c13, c18]; done) | (simp [mLend, ix, hij, c5, c13, c18]; done) | (simp [mLend, ix, c5, c13, c18]; done) | (simp_all [mLend, ix]; done))
      · refine g_iload_n h dX6_lend_21 rfl ?_
        refine g_iconst (v := 1) h dX6_lend_22 (by decide) ?_
        refine g_sipush (v := 9999) h dX6_lend_23 (by decide) ?_
        refine cl6_42 h (ct_X6_within) rfl dX6_lend_26 rfl (Nat.le_of_ble_eq_true rfl) (by decide) ?_
        refine g_ifneB h 35 dX6_lend_29 (by decide) (fun c29 => ?_) (fun c29 => ?_)
        · refine g_aload_n h dX6_lend_35 rfl ?_
          refine g_iload_n h dX6_lend_36 rfl ?_
          refine g_iconst (v := 2) h dX6_lend_37 (by decide) ?_
          refine cl6_46 h  (ct_X6_part (i := j) (p := 2) (by omega) (by decide)) rfl dX6_lend_38 rfl (Nat.le_of_ble_eq_true rfl) (by decide) ?_
          refine g_iload_n h dX6_lend_41 rfl ?_
          refine g_icge h 48 dX6_lend_42 (by decide) (fun c42 => ?_) (fun c42 => ?_)
          · refine g_aload_n h dX6_lend_48 rfl ?_
            refine gf6_7 h  dX6_lend_49 ?_
            refine g_bipush (v := 8) h dX6_lend_52 (by decide) ?_
            refine g_ialdN h (k := 151) (by decide) (enc_151 X) (show (8 : Int32) = nI 8 by decide) (by decide) (by decide) dX6_lend_54 ?_
            refine g_bipush (v := 8) h dX6_lend_55 (by decide) ?_
            refine g_icne h 63 dX6_lend_57 (by decide) (fun c57 => ?_) (fun c57 => ?_)
            · have hm7 : m < 8 := by
                have : ¬ m = 8 := fun e => c57 (by rw [hm, e]; decide)
                omega
              have hm8n : ¬ m = 8 := by omega
              refine g_aload_n h dX6_lend_63 rfl ?_
              refine cl6_78 h  (ct_X6_record hz) rfl dX6_lend_64 rfl (Nat.le_of_ble_eq_true rfl) (by decide) ?_
              refine g_aload_n h dX6_lend_67 rfl ?_
              refine gf6_7 h  dX6_lend_68 ?_
              refine g_bipush (v := 8) h dX6_lend_71 (by decide) ?_
              refine g_ialdN h (k := 151) (by decide) (enc_151 X) (show (8 : Int32) = nI 8 by decide) (by decide) (by decide) dX6_lend_73 ?_
              refine g_top (nI m) (by rw [mrec_151]; exact hm) ?_
              refine g_istore h dX6_lend_74 (by rw [hL]; decide) ?_
              refine g_aload_n h dX6_lend_76 rfl ?_
              refine gf6_7 h  dX6_lend_77 ?_
              refine g_sipush (v := 325) h dX6_lend_80 (by decide) ?_
              refine g_iconst (v := 3) h dX6_lend_83 (by decide) ?_
              refine g_iload h dX6_lend_84 rfl ?_
              refine g_imul h dX6_lend_86 ?_
              refine g_iadd h dX6_lend_87 ?_
              refine g_iconst (v := 0) h dX6_lend_88 (by decide) ?_
              refine g_iadd h dX6_lend_89 ?_
              refine g_iload_n h dX6_lend_90 rfl ?_
              refine g_iastN h (k := 151) (by decide) (enc_151 X) (m_il m 0) (by omega) (by decide) dX6_lend_91 ?_
              refine g_aload_n h dX6_lend_92 rfl ?_
              refine gf6_7 h  dX6_lend_93 ?_
              refine g_sipush (v := 325) h dX6_lend_96 (by decide) ?_
              refine g_iconst (v := 3) h dX6_lend_99 (by decide) ?_
              refine g_iload h dX6_lend_100 rfl ?_
              refine g_imul h dX6_lend_102 ?_
              refine g_iadd h dX6_lend_103 ?_
              refine g_iconst (v := 1) h dX6_lend_104 (by decide) ?_
              refine g_iadd h dX6_lend_105 ?_
              refine g_iload_n h dX6_lend_106 rfl ?_
              refine g_iastN h (k := 151) (by decide) (enc_151 X) (m_il m 1) (by omega) (by decide) dX6_lend_107 ?_
              refine g_aload_n h dX6_lend_108 rfl ?_
              refine gf6_7 h  dX6_lend_109 ?_
              refine g_sipush (v := 325) h dX6_lend_112 (by decide) ?_
              refine g_iconst (v := 3) h dX6_lend_115 (by decide) ?_
              refine g_iload h dX6_lend_116 rfl ?_
              refine g_imul h dX6_lend_118 ?_
              refine g_iadd h dX6_lend_119 ?_
              refine g_iconst (v := 2) h dX6_lend_120 (by decide) ?_
              refine g_iadd h dX6_lend_121 ?_
              refine g_iload_n h dX6_lend_122 rfl ?_
              refine g_iastN h (k := 151) (by decide) (enc_151 X) (m_il m 2) (by omega) (by decide) dX6_lend_123 ?_
              refine g_aload_n h dX6_lend_124 rfl ?_
              refine gf6_7 h  dX6_lend_125 ?_
              refine g_bipush (v := 8) h dX6_lend_128 (by decide) ?_
              refine g_dup2 h dX6_lend_130 rfl rfl ?_
              refine g_ialdN h (k := 151) (by decide) (enc_151 X) (show (8 : Int32) = nI 8 by decide) (by decide) (by decide) dX6_lend_131 ?_
              refine g_iconst (v := 1) h dX6_lend_132 (by decide) ?_
              refine g_iadd h dX6_lend_133 ?_
              refine g_top (nI (m + 1)) (by simp only [pu_puR, puR_self, mrec_151]; rw [upd_n _ _ _ _ (by omega), upd_n _ _ _ _ (by omega), upd_n _ _ _ _ (by omega), hm]; exact nI_1 m) ?_
              refine g_iastN h (k := 151) (by decide) (enc_151 X) (show (8 : Int32) = nI 8 by decide) (by decide) (by decide) dX6_lend_134 ?_
              refine g_aload_n h dX6_lend_135 rfl ?_
              refine g_iload_n h dX6_lend_136 rfl ?_
              refine g_iconst (v := 2) h dX6_lend_137 (by decide) ?_
              refine g_iload_n h dX6_lend_138 rfl ?_
              refine g_ineg h dX6_lend_139 ?_
              refine cl6_94 h  (ct_X6_addPart (i := j) (p := 2) (by omega) (by decide)) rfl dX6_lend_140 rfl (Nat.le_of_ble_eq_true rfl) (by decide) ?_
              refine g_aload_n h dX6_lend_143 rfl ?_
              refine g_iload_n h dX6_lend_144 rfl ?_
              refine g_iconst (v := 2) h dX6_lend_145 (by decide) ?_
              refine g_iload_n h dX6_lend_146 rfl ?_
              refine cl6_94 h  (ct_X6_addPart (i := j2) (p := 2) (by omega) (by decide)) rfl dX6_lend_147 rfl (Nat.le_of_ble_eq_true rfl) (by decide) ?_
              refine g_iload h dX6_lend_150 rfl ?_
              exact g_iret h hr dX6_lend_152 (by first | (simp [mLend, kBad, kNot, kLim, ix, hij, hij2, hm8n, c5, c13, c18, c29, c42, c57]; done) | (simp [mLend, kBad, kNot, kLim, ix, hij, hij2, hm8e, c5, c13, c18, c29, c42, c57]; done) | (simp [mLend, kBad, kNot, kLim, ix, hij, hij2, c5, c13, c18, c29, c42, c57]; done) | (simp [mLend, kBad, kNot, kLim, ix, hij, c5, c13, c18, c29, c42, c57]; done) | (simp [mLend, kBad, kNot, kLim, ix, c5, c13, c18, c29, c42, c57]; done) | (simp_all [mLend, kBad, kNot, kLim, ix]; done)) (by first | (simp [mLend, ix, hij, hij2, hm8n, c5, c13, c18, c29, c42, c57, pu_puR, puR_puR, puR_self, mrec_151, mLendR, addR, put3]; done) | (simp [mLend, ix, hij, hij2, hm8e, c5, c13, c18, c29, c42, c57]; done) | (simp [mLend, ix, hij, hij2, c5, c13, c18, c29, c42, c57]; done) | (simp [mLend, ix, hij, c5, c13, c18, c29, c42, c57]; done) | (simp [mLend, ix, c5, c13, c18, c29, c42, c57]; done) | (simp_all [mLend, ix]; done))
            · have hm8e : m = 8 := (nI_eq (b := 8) (by omega) (by decide)).mp (hm.symm.trans c57)
              refine g_ldc h (-1000003) (lw_in 708 (by decide +kernel) rfl) dX6_lend_60 ?_
              exact g_iret h hr dX6_lend_62 (by first | (simp [mLend, kBad, kNot, kLim, ix, hij, hij2, hm8n, c5, c13, c18, c29, c42, c57]; done) | (simp [mLend, kBad, kNot, kLim, ix, hij, hij2, hm8e, c5, c13, c18, c29, c42, c57]; done) | (simp [mLend, kBad, kNot, kLim, ix, hij, hij2, c5, c13, c18, c29, c42, c57]; done) | (simp [mLend, kBad, kNot, kLim, ix, hij, c5, c13, c18, c29, c42, c57]; done) | (simp [mLend, kBad, kNot, kLim, ix, c5, c13, c18, c29, c42, c57]; done) | (simp_all [mLend, kBad, kNot, kLim, ix]; done)) (by first | (simp [mLend, ix, hij, hij2, hm8n, c5, c13, c18, c29, c42, c57, pu_puR, puR_puR, puR_self, mrec_151, mLendR, addR, put3]; done) | (simp [mLend, ix, hij, hij2, hm8e, c5, c13, c18, c29, c42, c57]; done) | (simp [mLend, ix, hij, hij2, c5, c13, c18, c29, c42, c57]; done) | (simp [mLend, ix, hij, c5, c13, c18, c29, c42, c57]; done) | (simp [mLend, ix, c5, c13, c18, c29, c42, c57]; done) | (simp_all [mLend, ix]; done))
          · refine g_ldc h (-1000002) (lw_in 733 (by decide +kernel) rfl) dX6_lend_45 ?_
            exact g_iret h hr dX6_lend_47 (by first | (simp [mLend, kBad, kNot, kLim, ix, hij, hij2, hm8n, c5, c13, c18, c29, c42]; done) | (simp [mLend, kBad, kNot, kLim, ix, hij, hij2, hm8e, c5, c13, c18, c29, c42]; done) | (simp [mLend, kBad, kNot, kLim, ix, hij, hij2, c5, c13, c18, c29, c42]; done) | (simp [mLend, kBad, kNot, kLim, ix, hij, c5, c13, c18, c29, c42]; done) | (simp [mLend, kBad, kNot, kLim, ix, c5, c13, c18, c29, c42]; done) | (simp_all [mLend, kBad, kNot, kLim, ix]; done)) (by first | (simp [mLend, ix, hij, hij2, hm8n, c5, c13, c18, c29, c42, pu_puR, puR_puR, puR_self, mrec_151, mLendR, addR, put3]; done) | (simp [mLend, ix, hij, hij2, hm8e, c5, c13, c18, c29, c42]; done) | (simp [mLend, ix, hij, hij2, c5, c13, c18, c29, c42]; done) | (simp [mLend, ix, hij, c5, c13, c18, c29, c42]; done) | (simp [mLend, ix, c5, c13, c18, c29, c42]; done) | (simp_all [mLend, ix]; done))
        · refine g_ldc h (-1000001) (lw_in 696 (by decide +kernel) rfl) dX6_lend_32 ?_
          exact g_iret h hr dX6_lend_34 (by first | (simp [mLend, kBad, kNot, kLim, ix, hij, hij2, hm8n, c5, c13, c18, c29]; done) | (simp [mLend, kBad, kNot, kLim, ix, hij, hij2, hm8e, c5, c13, c18, c29]; done) | (simp [mLend, kBad, kNot, kLim, ix, hij, hij2, c5, c13, c18, c29]; done) | (simp [mLend, kBad, kNot, kLim, ix, hij, c5, c13, c18, c29]; done) | (simp [mLend, kBad, kNot, kLim, ix, c5, c13, c18, c29]; done) | (simp_all [mLend, kBad, kNot, kLim, ix]; done)) (by first | (simp [mLend, ix, hij, hij2, hm8n, c5, c13, c18, c29, pu_puR, puR_puR, puR_self, mrec_151, mLendR, addR, put3]; done) | (simp [mLend, ix, hij, hij2, hm8e, c5, c13, c18, c29]; done) | (simp [mLend, ix, hij, hij2, c5, c13, c18, c29]; done) | (simp [mLend, ix, hij, c5, c13, c18, c29]; done) | (simp [mLend, ix, c5, c13, c18, c29]; done) | (simp_all [mLend, ix]; done))
set_option maxRecDepth 100000 in
set_option maxHeartbeats 4000000 in
theorem ct_X6_seat {l : Launch} {X : fX} {σ : fM} {z n m : Nat} (hz : mrc σ z) (hc : mcn (σ.1 151) n m) {v b : Int32} : Ct l X yX6_seat cX6_seat 6 (some .int) 2 [ra X 150, .int v, .int b] σ (some (.int (mSeat σ z n v b).1)) (mSeat σ z n v b).2 := by
  refine Ct.of RX6 rfl (by decide) (Nat.le_of_ble_eq_true rfl) ?_
  intro x hL h hr
  refine g_sub [(0, ra X 150), (1, .int v), (2, .int b)] ⟨rfl, rfl, rfl, trivial⟩ ?_
  obtain ⟨hn, hn6, hm, hm8⟩ := id hc
  refine g_aload_n h dX6_seat_0 rfl ?_
  refine g_iload_n h dX6_seat_1 rfl ?_
  refine cl6_86 h  (ct_X6_isOracle ) rfl dX6_seat_2 rfl (Nat.le_of_ble_eq_true rfl) (by decide) ?_
  refine g_ifeqB h 17 dX6_seat_5 (by decide) (fun c5 => ?_) (fun c5 => ?_)
  · refine g_ldc h (-1000001) (lw_in 696 (by decide +kernel) rfl) dX6_seat_17 ?_
    exact g_iret h hr dX6_seat_19 (by first | (simp [mSeat, kBad, kNot, kLim, ix, hij, mtk, c5]; done) | (simp [mSeat, kBad, ix, c5]; done) | (simp_all [mSeat, kBad, kNot, kLim, ix, mtk]; done)) (by first | (simp [mSeat, ix, hij, mtk, c5]; done) | (simp [mSeat, ix, c5]; done) | (simp_all [mSeat, ix, mtk]; done))
  · obtain ⟨j, hj, rfl⟩ := wi_or (by omega) hn c5
    have hij : (nI j).toNatClampNeg = j := nI_clamp (by omega)
    refine g_iload_n h dX6_seat_8 rfl ?_
    refine g_iconst (v := 0) h dX6_seat_9 (by decide) ?_
    refine g_iconst (v := 2) h dX6_seat_10 (by decide) ?_
    refine cl6_42 h (ct_X6_within) rfl dX6_seat_11 rfl (Nat.le_of_ble_eq_true rfl) (by decide) ?_
    refine g_ifneB h 20 dX6_seat_14 (by decide) (fun c14 => ?_) (fun c14 => ?_)
    · refine g_iload_n h dX6_seat_20 rfl ?_
      refine g_iconst (v := 2) h dX6_seat_21 (by decide) ?_
      refine g_iceq h 49 dX6_seat_22 (by decide) (fun c22 => ?_) (fun c22 => ?_)
      · refine g_iconst (v := 1) h dX6_seat_49 (by decide) ?_
        refine g_goto h 54 dX6_seat_50 (by decide) ?_
        refine g_istore_n h dX6_seat_54 (by rw [hL]; decide) ?_
        refine g_aload_n h dX6_seat_55 rfl ?_
        refine g_iload_n h dX6_seat_56 rfl ?_
        refine cl6_61 h  (ct_X6_hasSeat (i := j) (by omega)) rfl dX6_seat_57 rfl (Nat.le_of_ble_eq_true rfl) (by decide) ?_
        refine g_ifneB h 67 dX6_seat_60 (by decide) (fun c60 => ?_) (fun c60 => ?_)
        · refine g_ldc h (-1000002) (lw_in 733 (by decide +kernel) rfl) dX6_seat_67 ?_
          exact g_iret h hr dX6_seat_69 (by first | (simp [mSeat, kBad, kNot, kLim, ix, hij, mtk, c5, c14, c22, c60]; done) | (simp [mSeat, kBad, ix, c5, c14, c22, c60]; done) | (simp_all [mSeat, kBad, kNot, kLim, ix, mtk]; done)) (by first | (simp [mSeat, ix, hij, mtk, c5, c14, c22, c60]; done) | (simp [mSeat, ix, c5, c14, c22, c60]; done) | (simp_all [mSeat, ix, mtk]; done))
        · refine g_iload_n h dX6_seat_63 rfl ?_
          refine g_ifne h 70 dX6_seat_64 (by decide) (fun c64 => ?_) (fun c64 => absurd c64 (by decide))
          refine g_aload_n h dX6_seat_70 rfl ?_
          refine g_iload_n h dX6_seat_71 rfl ?_
          refine cl6_90 h  (ct_X6_sitting (n := n) (m := m) hc) rfl dX6_seat_72 rfl (Nat.le_of_ble_eq_true rfl) (by decide) ?_
          refine g_top (sitF (σ.1 151) b n) rfl ?_
          refine g_iconst (v := 2) h dX6_seat_75 (by decide) ?_
          refine g_icne h 82 dX6_seat_76 (by decide) (fun c76 => ?_) (fun c76 => ?_)
          · have hfv : sitF (mSitR (σ.1 151) j n b) b n = (mSeat σ z n (nI j) b).1 := (by unfold mSeat; rw [show ix (nI j) = j from hij, if_neg (by rw [c5]; decide), if_neg (by rw [c14]; decide), if_neg (by rw [c60]; decide), if_neg (by simp [mtk, c5, c14, c22, c60, c64]), if_neg c76])
            have hfm : (puR (mrec σ z) 151 (mSitR (σ.1 151) j n b)) = (mSeat σ z n (nI j) b).2 := (by unfold mSeat; rw [show ix (nI j) = j from hij, if_neg (by rw [c5]; decide), if_neg (by rw [c14]; decide), if_neg (by rw [c60]; decide), if_neg (by simp [mtk, c5, c14, c22, c60, c64]), if_neg c76])
            have hcS : mcn (mSitR (σ.1 151) j n b) n m := ⟨by unfold mSitR; rw [upd_n _ _ _ _ (by omega), upd_n _ _ _ _ (by omega)]; exact hn, hn6, by unfold mSitR; rw [upd_n _ _ _ _ (by omega), upd_n _ _ _ _ (by omega)]; exact hm, hm8⟩
            have LOOP : ∀ (q i : Nat), i + q = n → G x X (mrec σ z) [(0, ra X 150), (1, .int (nI j)), (2, .int b), (4, .int (lowF (σ.1 151) b i)), (5, .int (nI i))] [] 92 := by
              intro q
              induction q with
              | zero =>
                intro i hi 
                have hie : i = n := by omega
                rw [hie]
                refine g_iload h dX6_seat_92 rfl ?_
                refine g_aload_n h dX6_seat_94 rfl ?_
                refine gf6_7 h  dX6_seat_95 ?_
                refine g_bipush (v := 7) h dX6_seat_98 (by decide) ?_
                refine g_ialdN h (k := 151) (by decide) (enc_151 X) (show (7 : Int32) = nI 7 by decide) (by decide) (by decide) dX6_seat_100 ?_
                refine g_top (nI n) (by rw [mrec_151]; exact hn) ?_
                refine g_icge h 139 dX6_seat_101 (by decide) (fun c101 => ?_) (fun c101 => absurd (Int32.le_refl _) c101)
                refine g_aload_n h dX6_seat_139 rfl ?_
                refine g_iload_n h dX6_seat_140 rfl ?_
                refine g_iconst (v := 3) h dX6_seat_141 (by decide) ?_
                refine g_iload_n h dX6_seat_142 rfl ?_
                refine cl6_82 h  (ct_X6_setPart (i := j) (p := 3) (by omega) (by decide)) rfl dX6_seat_143 rfl (Nat.le_of_ble_eq_true rfl) (by decide) ?_
                refine g_aload_n h dX6_seat_146 rfl ?_
                refine g_iload_n h dX6_seat_147 rfl ?_
                refine g_iconst (v := 4) h dX6_seat_148 (by decide) ?_
                refine g_iload h dX6_seat_149 rfl ?_
                refine cl6_82 h  (ct_X6_setPart (i := j) (p := 4) (by omega) (by decide)) rfl dX6_seat_151 rfl (Nat.le_of_ble_eq_true rfl) (by decide) ?_
                refine g_mem (puR (mrec σ z) 151 (mSitR (σ.1 151) j n b)) (by simp only [pu_puR, puR_puR, puR_self, mrec_151]; rfl) ?_
                refine g_aload_n h dX6_seat_154 rfl ?_
                refine g_iload_n h dX6_seat_155 rfl ?_
                refine cl6_90 h  (ct_X6_sitting (n := n) (m := m) (by rw [puR_self]; exact hcS)) rfl dX6_seat_156 rfl (Nat.le_of_ble_eq_true rfl) (by decide) ?_
                refine g_top (sitF (mSitR (σ.1 151) j n b) b n) (by rw [puR_self]; rfl) ?_
                exact g_iret h hr dX6_seat_159 hfv hfm
              | succ q ih =>
                intro i hi 
                have hlt : i < n := by omega
                refine g_iload h dX6_seat_92 rfl ?_
                refine g_aload_n h dX6_seat_94 rfl ?_
                refine gf6_7 h  dX6_seat_95 ?_
                refine g_bipush (v := 7) h dX6_seat_98 (by decide) ?_
                refine g_ialdN h (k := 151) (by decide) (enc_151 X) (show (7 : Int32) = nI 7 by decide) (by decide) (by decide) dX6_seat_100 ?_
                refine g_top (nI n) (by rw [mrec_151]; exact hn) ?_
                refine g_icge h 139 dX6_seat_101 (by decide) (fun c101 => absurd c101 (nI_ge hlt (by omega))) (fun c101 => ?_)
                refine g_aload_n h dX6_seat_104 rfl ?_
                refine g_iload h dX6_seat_105 rfl ?_
                refine g_iconst (v := 3) h dX6_seat_107 (by decide) ?_
                refine cl6_46 h  (ct_X6_part (i := i) (p := 3) (by omega) (by decide)) rfl dX6_seat_108 rfl (Nat.le_of_ble_eq_true rfl) (by decide) ?_
                refine g_top (mo (σ.1 151) i 3) (by rw [mrec_151]) ?_
                refine g_iload_n h dX6_seat_111 rfl ?_
                refine g_icne h 129 dX6_seat_112 (by decide) (fun c112 => ?_) (fun c112 => ?_)
                · refine g_iload h dX6_seat_129 rfl ?_
                  refine g_istore h dX6_seat_131 (by rw [hL]; decide) ?_
                  refine g_iincN h dX6_seat_133 rfl (by rw [hL]; decide) ?_
                  refine g_goto h 92 dX6_seat_136 (by decide) ?_
                  refine g_sub [(0, ra X 150), (1, .int (nI j)), (2, .int b), (4, .int (lowF (σ.1 151) b (i + 1))), (5, .int (nI (i + 1)))] ⟨rfl, rfl, rfl, (congrArg (fun z => some (Value.int z)) (by show _ = (if _ then _ else _); simp [c101, c112])), rfl, trivial⟩ ?_
                  exact ih (i + 1) (by omega)
                · refine g_aload_n h dX6_seat_115 rfl ?_
                  refine g_iload h dX6_seat_116 rfl ?_
                  refine g_iconst (v := 4) h dX6_seat_118 (by decide) ?_
                  refine cl6_46 h  (ct_X6_part (i := i) (p := 4) (by omega) (by decide)) rfl dX6_seat_119 rfl (Nat.le_of_ble_eq_true rfl) (by decide) ?_
                  refine g_top (mo (σ.1 151) i 4) (by rw [mrec_151]) ?_
                  refine g_ifne h 129 dX6_seat_122 (by decide) (fun c122 => ?_) (fun c122 => ?_)
                  · refine g_iload h dX6_seat_129 rfl ?_
                    refine g_istore h dX6_seat_131 (by rw [hL]; decide) ?_
                    refine g_iincN h dX6_seat_133 rfl (by rw [hL]; decide) ?_
                    refine g_goto h 92 dX6_seat_136 (by decide) ?_
                    refine g_sub [(0, ra X 150), (1, .int (nI j)), (2, .int b), (4, .int (lowF (σ.1 151) b (i + 1))), (5, .int (nI (i + 1)))] ⟨rfl, rfl, rfl, (congrArg (fun z => some (Value.int z)) (by show _ = (if _ then _ else _); simp [c101, c112, c122])), rfl, trivial⟩ ?_
                    exact ih (i + 1) (by omega)
                  · refine g_iconst (v := 1) h dX6_seat_125 (by decide) ?_
                    refine g_goto h 131 dX6_seat_126 (by decide) ?_
                    refine g_istore h dX6_seat_131 (by rw [hL]; decide) ?_
                    refine g_iincN h dX6_seat_133 rfl (by rw [hL]; decide) ?_
                    refine g_goto h 92 dX6_seat_136 (by decide) ?_
                    refine g_sub [(0, ra X 150), (1, .int (nI j)), (2, .int b), (4, .int (lowF (σ.1 151) b (i + 1))), (5, .int (nI (i + 1)))] ⟨rfl, rfl, rfl, (congrArg (fun z => some (Value.int z)) (by show _ = (if _ then _ else _); simp [c101, c112, c122])), rfl, trivial⟩ ?_
                    exact ih (i + 1) (by omega)
            refine g_aload_n h dX6_seat_82 rfl ?_
            refine cl6_78 h  (ct_X6_record hz) rfl dX6_seat_83 rfl (Nat.le_of_ble_eq_true rfl) (by decide) ?_
            refine g_iconst (v := 0) h dX6_seat_86 (by decide) ?_
            refine g_istore h dX6_seat_87 (by rw [hL]; decide) ?_
            refine g_iconst (v := 0) h dX6_seat_89 (by decide) ?_
            refine g_istore h dX6_seat_90 (by rw [hL]; decide) ?_
            refine g_sub [(0, ra X 150), (1, .int (nI j)), (2, .int b), (4, .int (lowF (σ.1 151) b 0)), (5, .int (nI 0))] ⟨rfl, rfl, rfl, rfl, lk_0, trivial⟩ ?_
            exact LOOP n 0 (by omega)
          · refine g_ldc h (-1000003) (lw_in 708 (by decide +kernel) rfl) dX6_seat_79 ?_
            exact g_iret h hr dX6_seat_81 (by first | (simp [mSeat, kBad, kNot, kLim, ix, hij, mtk, c5, c14, c22, c60, c64, c76]; done) | (simp [mSeat, kBad, ix, c5, c14, c22, c60, c64, c76]; done) | (simp_all [mSeat, kBad, kNot, kLim, ix, mtk]; done)) (by first | (simp [mSeat, ix, hij, mtk, c5, c14, c22, c60, c64, c76]; done) | (simp [mSeat, ix, c5, c14, c22, c60, c64, c76]; done) | (simp_all [mSeat, ix, mtk]; done))
      · refine g_iload_n h dX6_seat_25 rfl ?_
        refine g_ifne h 41 dX6_seat_26 (by decide) (fun c26 => ?_) (fun c26 => ?_)
        · refine g_aload_n h dX6_seat_41 rfl ?_
          refine g_iload_n h dX6_seat_42 rfl ?_
          refine cl6_50 h  (ct_X6_hasTable (i := j) (by omega)) rfl dX6_seat_43 rfl (Nat.le_of_ble_eq_true rfl) (by decide) ?_
          refine g_ifeqB h 53 dX6_seat_46 (by decide) (fun c46 => ?_) (fun c46 => ?_)
          · refine g_iconst (v := 0) h dX6_seat_53 (by decide) ?_
            refine g_istore_n h dX6_seat_54 (by rw [hL]; decide) ?_
            refine g_aload_n h dX6_seat_55 rfl ?_
            refine g_iload_n h dX6_seat_56 rfl ?_
            refine cl6_61 h  (ct_X6_hasSeat (i := j) (by omega)) rfl dX6_seat_57 rfl (Nat.le_of_ble_eq_true rfl) (by decide) ?_
            refine g_ifneB h 67 dX6_seat_60 (by decide) (fun c60 => ?_) (fun c60 => ?_)
            · refine g_ldc h (-1000002) (lw_in 733 (by decide +kernel) rfl) dX6_seat_67 ?_
              exact g_iret h hr dX6_seat_69 (by first | (simp [mSeat, kBad, kNot, kLim, ix, hij, mtk, c5, c14, c22, c26, c46, c60]; done) | (simp [mSeat, kBad, ix, c5, c14, c22, c26, c46, c60]; done) | (simp_all [mSeat, kBad, kNot, kLim, ix, mtk]; done)) (by first | (simp [mSeat, ix, hij, mtk, c5, c14, c22, c26, c46, c60]; done) | (simp [mSeat, ix, c5, c14, c22, c26, c46, c60]; done) | (simp_all [mSeat, ix, mtk]; done))
            · refine g_iload_n h dX6_seat_63 rfl ?_
              refine g_ifne h 70 dX6_seat_64 (by decide) (fun c64 => absurd rfl c64) (fun c64 => ?_)
              refine g_ldc h (-1000002) (lw_in 733 (by decide +kernel) rfl) dX6_seat_67 ?_
              exact g_iret h hr dX6_seat_69 (by first | (simp [mSeat, kBad, kNot, kLim, ix, hij, mtk, c5, c14, c22, c26, c46, c60, c64]; done) | (simp [mSeat, kBad, ix, c5, c14, c22, c26, c46, c60, c64]; done) | (simp_all [mSeat, kBad, kNot, kLim, ix, mtk]; done)) (by first | (simp [mSeat, ix, hij, mtk, c5, c14, c22, c26, c46, c60, c64]; done) | (simp [mSeat, ix, c5, c14, c22, c26, c46, c60, c64]; done) | (simp_all [mSeat, ix, mtk]; done))
          · refine g_iconst (v := 1) h dX6_seat_49 (by decide) ?_
            refine g_goto h 54 dX6_seat_50 (by decide) ?_
            refine g_istore_n h dX6_seat_54 (by rw [hL]; decide) ?_
            refine g_aload_n h dX6_seat_55 rfl ?_
            refine g_iload_n h dX6_seat_56 rfl ?_
            refine cl6_61 h  (ct_X6_hasSeat (i := j) (by omega)) rfl dX6_seat_57 rfl (Nat.le_of_ble_eq_true rfl) (by decide) ?_
            refine g_ifneB h 67 dX6_seat_60 (by decide) (fun c60 => ?_) (fun c60 => ?_)
            · refine g_ldc h (-1000002) (lw_in 733 (by decide +kernel) rfl) dX6_seat_67 ?_
              exact g_iret h hr dX6_seat_69 (by first | (simp [mSeat, kBad, kNot, kLim, ix, hij, mtk, c5, c14, c22, c26, c46, c60]; done) | (simp [mSeat, kBad, ix, c5, c14, c22, c26, c46, c60]; done) | (simp_all [mSeat, kBad, kNot, kLim, ix, mtk]; done)) (by first | (simp [mSeat, ix, hij, mtk, c5, c14, c22, c26, c46, c60]; done) | (simp [mSeat, ix, c5, c14, c22, c26, c46, c60]; done) | (simp_all [mSeat, ix, mtk]; done))
            · refine g_iload_n h dX6_seat_63 rfl ?_
              refine g_ifne h 70 dX6_seat_64 (by decide) (fun c64 => ?_) (fun c64 => absurd c64 (by decide))
              refine g_aload_n h dX6_seat_70 rfl ?_
              refine g_iload_n h dX6_seat_71 rfl ?_
              refine cl6_90 h  (ct_X6_sitting (n := n) (m := m) hc) rfl dX6_seat_72 rfl (Nat.le_of_ble_eq_true rfl) (by decide) ?_
              refine g_top (sitF (σ.1 151) b n) rfl ?_
              refine g_iconst (v := 2) h dX6_seat_75 (by decide) ?_
              refine g_icne h 82 dX6_seat_76 (by decide) (fun c76 => ?_) (fun c76 => ?_)
              · have hfv : sitF (mSitR (σ.1 151) j n b) b n = (mSeat σ z n (nI j) b).1 := (by unfold mSeat; rw [show ix (nI j) = j from hij, if_neg (by rw [c5]; decide), if_neg (by rw [c14]; decide), if_neg (by rw [c60]; decide), if_neg (by simp [mtk, c5, c14, c22, c26, c46, c60, c64]), if_neg c76])
                have hfm : (puR (mrec σ z) 151 (mSitR (σ.1 151) j n b)) = (mSeat σ z n (nI j) b).2 := (by unfold mSeat; rw [show ix (nI j) = j from hij, if_neg (by rw [c5]; decide), if_neg (by rw [c14]; decide), if_neg (by rw [c60]; decide), if_neg (by simp [mtk, c5, c14, c22, c26, c46, c60, c64]), if_neg c76])
                have hcS : mcn (mSitR (σ.1 151) j n b) n m := ⟨by unfold mSitR; rw [upd_n _ _ _ _ (by omega), upd_n _ _ _ _ (by omega)]; exact hn, hn6, by unfold mSitR; rw [upd_n _ _ _ _ (by omega), upd_n _ _ _ _ (by omega)]; exact hm, hm8⟩
                have LOOP : ∀ (q i : Nat), i + q = n → G x X (mrec σ z) [(0, ra X 150), (1, .int (nI j)), (2, .int b), (4, .int (lowF (σ.1 151) b i)), (5, .int (nI i))] [] 92 := by
                  intro q
                  induction q with
                  | zero =>
                    intro i hi 
                    have hie : i = n := by omega
                    rw [hie]
                    refine g_iload h dX6_seat_92 rfl ?_
                    refine g_aload_n h dX6_seat_94 rfl ?_
                    refine gf6_7 h  dX6_seat_95 ?_
                    refine g_bipush (v := 7) h dX6_seat_98 (by decide) ?_
                    refine g_ialdN h (k := 151) (by decide) (enc_151 X) (show (7 : Int32) = nI 7 by decide) (by decide) (by decide) dX6_seat_100 ?_
                    refine g_top (nI n) (by rw [mrec_151]; exact hn) ?_
                    refine g_icge h 139 dX6_seat_101 (by decide) (fun c101 => ?_) (fun c101 => absurd (Int32.le_refl _) c101)
                    refine g_aload_n h dX6_seat_139 rfl ?_
                    refine g_iload_n h dX6_seat_140 rfl ?_
                    refine g_iconst (v := 3) h dX6_seat_141 (by decide) ?_
                    refine g_iload_n h dX6_seat_142 rfl ?_
                    refine cl6_82 h  (ct_X6_setPart (i := j) (p := 3) (by omega) (by decide)) rfl dX6_seat_143 rfl (Nat.le_of_ble_eq_true rfl) (by decide) ?_
                    refine g_aload_n h dX6_seat_146 rfl ?_
                    refine g_iload_n h dX6_seat_147 rfl ?_
                    refine g_iconst (v := 4) h dX6_seat_148 (by decide) ?_
                    refine g_iload h dX6_seat_149 rfl ?_
                    refine cl6_82 h  (ct_X6_setPart (i := j) (p := 4) (by omega) (by decide)) rfl dX6_seat_151 rfl (Nat.le_of_ble_eq_true rfl) (by decide) ?_
                    refine g_mem (puR (mrec σ z) 151 (mSitR (σ.1 151) j n b)) (by simp only [pu_puR, puR_puR, puR_self, mrec_151]; rfl) ?_
                    refine g_aload_n h dX6_seat_154 rfl ?_
                    refine g_iload_n h dX6_seat_155 rfl ?_
                    refine cl6_90 h  (ct_X6_sitting (n := n) (m := m) (by rw [puR_self]; exact hcS)) rfl dX6_seat_156 rfl (Nat.le_of_ble_eq_true rfl) (by decide) ?_
                    refine g_top (sitF (mSitR (σ.1 151) j n b) b n) (by rw [puR_self]; rfl) ?_
                    exact g_iret h hr dX6_seat_159 hfv hfm
                  | succ q ih =>
                    intro i hi 
                    have hlt : i < n := by omega
                    refine g_iload h dX6_seat_92 rfl ?_
                    refine g_aload_n h dX6_seat_94 rfl ?_
                    refine gf6_7 h  dX6_seat_95 ?_
                    refine g_bipush (v := 7) h dX6_seat_98 (by decide) ?_
                    refine g_ialdN h (k := 151) (by decide) (enc_151 X) (show (7 : Int32) = nI 7 by decide) (by decide) (by decide) dX6_seat_100 ?_
                    refine g_top (nI n) (by rw [mrec_151]; exact hn) ?_
                    refine g_icge h 139 dX6_seat_101 (by decide) (fun c101 => absurd c101 (nI_ge hlt (by omega))) (fun c101 => ?_)
                    refine g_aload_n h dX6_seat_104 rfl ?_
                    refine g_iload h dX6_seat_105 rfl ?_
                    refine g_iconst (v := 3) h dX6_seat_107 (by decide) ?_
                    refine cl6_46 h  (ct_X6_part (i := i) (p := 3) (by omega) (by decide)) rfl dX6_seat_108 rfl (Nat.le_of_ble_eq_true rfl) (by decide) ?_
                    refine g_top (mo (σ.1 151) i 3) (by rw [mrec_151]) ?_
                    refine g_iload_n h dX6_seat_111 rfl ?_
                    refine g_icne h 129 dX6_seat_112 (by decide) (fun c112 => ?_) (fun c112 => ?_)
                    · refine g_iload h dX6_seat_129 rfl ?_
                      refine g_istore h dX6_seat_131 (by rw [hL]; decide) ?_
                      refine g_iincN h dX6_seat_133 rfl (by rw [hL]; decide) ?_
                      refine g_goto h 92 dX6_seat_136 (by decide) ?_
                      refine g_sub [(0, ra X 150), (1, .int (nI j)), (2, .int b), (4, .int (lowF (σ.1 151) b (i + 1))), (5, .int (nI (i + 1)))] ⟨rfl, rfl, rfl, (congrArg (fun z => some (Value.int z)) (by show _ = (if _ then _ else _); simp [c101, c112])), rfl, trivial⟩ ?_
                      exact ih (i + 1) (by omega)
                    · refine g_aload_n h dX6_seat_115 rfl ?_
                      refine g_iload h dX6_seat_116 rfl ?_
                      refine g_iconst (v := 4) h dX6_seat_118 (by decide) ?_
                      refine cl6_46 h  (ct_X6_part (i := i) (p := 4) (by omega) (by decide)) rfl dX6_seat_119 rfl (Nat.le_of_ble_eq_true rfl) (by decide) ?_
                      refine g_top (mo (σ.1 151) i 4) (by rw [mrec_151]) ?_
                      refine g_ifne h 129 dX6_seat_122 (by decide) (fun c122 => ?_) (fun c122 => ?_)
                      · refine g_iload h dX6_seat_129 rfl ?_
                        refine g_istore h dX6_seat_131 (by rw [hL]; decide) ?_
                        refine g_iincN h dX6_seat_133 rfl (by rw [hL]; decide) ?_
                        refine g_goto h 92 dX6_seat_136 (by decide) ?_
                        refine g_sub [(0, ra X 150), (1, .int (nI j)), (2, .int b), (4, .int (lowF (σ.1 151) b (i + 1))), (5, .int (nI (i + 1)))] ⟨rfl, rfl, rfl, (congrArg (fun z => some (Value.int z)) (by show _ = (if _ then _ else _); simp [c101, c112, c122])), rfl, trivial⟩ ?_
                        exact ih (i + 1) (by omega)
                      · refine g_iconst (v := 1) h dX6_seat_125 (by decide) ?_
                        refine g_goto h 131 dX6_seat_126 (by decide) ?_
                        refine g_istore h dX6_seat_131 (by rw [hL]; decide) ?_
                        refine g_iincN h dX6_seat_133 rfl (by rw [hL]; decide) ?_
                        refine g_goto h 92 dX6_seat_136 (by decide) ?_
                        refine g_sub [(0, ra X 150), (1, .int (nI j)), (2, .int b), (4, .int (lowF (σ.1 151) b (i + 1))), (5, .int (nI (i + 1)))] ⟨rfl, rfl, rfl, (congrArg (fun z => some (Value.int z)) (by show _ = (if _ then _ else _); simp [c101, c112, c122])), rfl, trivial⟩ ?_
                        exact ih (i + 1) (by omega)
                refine g_aload_n h dX6_seat_82 rfl ?_
                refine cl6_78 h  (ct_X6_record hz) rfl dX6_seat_83 rfl (Nat.le_of_ble_eq_true rfl) (by decide) ?_
                refine g_iconst (v := 0) h dX6_seat_86 (by decide) ?_
                refine g_istore h dX6_seat_87 (by rw [hL]; decide) ?_
                refine g_iconst (v := 0) h dX6_seat_89 (by decide) ?_
                refine g_istore h dX6_seat_90 (by rw [hL]; decide) ?_
                refine g_sub [(0, ra X 150), (1, .int (nI j)), (2, .int b), (4, .int (lowF (σ.1 151) b 0)), (5, .int (nI 0))] ⟨rfl, rfl, rfl, rfl, lk_0, trivial⟩ ?_
                exact LOOP n 0 (by omega)
              · refine g_ldc h (-1000003) (lw_in 708 (by decide +kernel) rfl) dX6_seat_79 ?_
                exact g_iret h hr dX6_seat_81 (by first | (simp [mSeat, kBad, kNot, kLim, ix, hij, mtk, c5, c14, c22, c26, c46, c60, c64, c76]; done) | (simp [mSeat, kBad, ix, c5, c14, c22, c26, c46, c60, c64, c76]; done) | (simp_all [mSeat, kBad, kNot, kLim, ix, mtk]; done)) (by first | (simp [mSeat, ix, hij, mtk, c5, c14, c22, c26, c46, c60, c64, c76]; done) | (simp [mSeat, ix, c5, c14, c22, c26, c46, c60, c64, c76]; done) | (simp_all [mSeat, ix, mtk]; done))
        · refine g_aload_n h dX6_seat_29 rfl ?_
          refine g_iload_n h dX6_seat_30 rfl ?_
          refine g_iconst (v := 0) h dX6_seat_31 (by decide) ?_
          refine cl6_46 h  (ct_X6_part (i := j) (p := 0) (by omega) (by decide)) rfl dX6_seat_32 rfl (Nat.le_of_ble_eq_true rfl) (by decide) ?_
          refine g_ifne h 53 dX6_seat_35 (by decide) (fun c35 => ?_) (fun c35 => ?_)
          · refine g_iconst (v := 0) h dX6_seat_53 (by decide) ?_
            refine g_istore_n h dX6_seat_54 (by rw [hL]; decide) ?_
            refine g_aload_n h dX6_seat_55 rfl ?_
            refine g_iload_n h dX6_seat_56 rfl ?_
            refine cl6_61 h  (ct_X6_hasSeat (i := j) (by omega)) rfl dX6_seat_57 rfl (Nat.le_of_ble_eq_true rfl) (by decide) ?_
            refine g_ifneB h 67 dX6_seat_60 (by decide) (fun c60 => ?_) (fun c60 => ?_)
            · refine g_ldc h (-1000002) (lw_in 733 (by decide +kernel) rfl) dX6_seat_67 ?_
              exact g_iret h hr dX6_seat_69 (by first | (simp [mSeat, kBad, kNot, kLim, ix, hij, mtk, c5, c14, c22, c26, c35, c60]; done) | (simp [mSeat, kBad, ix, c5, c14, c22, c26, c35, c60]; done) | (simp_all [mSeat, kBad, kNot, kLim, ix, mtk]; done)) (by first | (simp [mSeat, ix, hij, mtk, c5, c14, c22, c26, c35, c60]; done) | (simp [mSeat, ix, c5, c14, c22, c26, c35, c60]; done) | (simp_all [mSeat, ix, mtk]; done))
            · refine g_iload_n h dX6_seat_63 rfl ?_
              refine g_ifne h 70 dX6_seat_64 (by decide) (fun c64 => absurd rfl c64) (fun c64 => ?_)
              refine g_ldc h (-1000002) (lw_in 733 (by decide +kernel) rfl) dX6_seat_67 ?_
              exact g_iret h hr dX6_seat_69 (by first | (simp [mSeat, kBad, kNot, kLim, ix, hij, mtk, c5, c14, c22, c26, c35, c60, c64]; done) | (simp [mSeat, kBad, ix, c5, c14, c22, c26, c35, c60, c64]; done) | (simp_all [mSeat, kBad, kNot, kLim, ix, mtk]; done)) (by first | (simp [mSeat, ix, hij, mtk, c5, c14, c22, c26, c35, c60, c64]; done) | (simp [mSeat, ix, c5, c14, c22, c26, c35, c60, c64]; done) | (simp_all [mSeat, ix, mtk]; done))
          · refine g_goto h 49 dX6_seat_38 (by decide) ?_
            refine g_iconst (v := 1) h dX6_seat_49 (by decide) ?_
            refine g_goto h 54 dX6_seat_50 (by decide) ?_
            refine g_istore_n h dX6_seat_54 (by rw [hL]; decide) ?_
            refine g_aload_n h dX6_seat_55 rfl ?_
            refine g_iload_n h dX6_seat_56 rfl ?_
            refine cl6_61 h  (ct_X6_hasSeat (i := j) (by omega)) rfl dX6_seat_57 rfl (Nat.le_of_ble_eq_true rfl) (by decide) ?_
            refine g_ifneB h 67 dX6_seat_60 (by decide) (fun c60 => ?_) (fun c60 => ?_)
            · refine g_ldc h (-1000002) (lw_in 733 (by decide +kernel) rfl) dX6_seat_67 ?_
              exact g_iret h hr dX6_seat_69 (by first | (simp [mSeat, kBad, kNot, kLim, ix, hij, mtk, c5, c14, c22, c26, c35, c60]; done) | (simp [mSeat, kBad, ix, c5, c14, c22, c26, c35, c60]; done) | (simp_all [mSeat, kBad, kNot, kLim, ix, mtk]; done)) (by first | (simp [mSeat, ix, hij, mtk, c5, c14, c22, c26, c35, c60]; done) | (simp [mSeat, ix, c5, c14, c22, c26, c35, c60]; done) | (simp_all [mSeat, ix, mtk]; done))
            · refine g_iload_n h dX6_seat_63 rfl ?_
              refine g_ifne h 70 dX6_seat_64 (by decide) (fun c64 => ?_) (fun c64 => absurd c64 (by decide))
              refine g_aload_n h dX6_seat_70 rfl ?_
              refine g_iload_n h dX6_seat_71 rfl ?_
              refine cl6_90 h  (ct_X6_sitting (n := n) (m := m) hc) rfl dX6_seat_72 rfl (Nat.le_of_ble_eq_true rfl) (by decide) ?_
              refine g_top (sitF (σ.1 151) b n) rfl ?_
              refine g_iconst (v := 2) h dX6_seat_75 (by decide) ?_
              refine g_icne h 82 dX6_seat_76 (by decide) (fun c76 => ?_) (fun c76 => ?_)
              · have hfv : sitF (mSitR (σ.1 151) j n b) b n = (mSeat σ z n (nI j) b).1 := (by unfold mSeat; rw [show ix (nI j) = j from hij, if_neg (by rw [c5]; decide), if_neg (by rw [c14]; decide), if_neg (by rw [c60]; decide), if_neg (by simp [mtk, c5, c14, c22, c26, c35, c60, c64]), if_neg c76])
                have hfm : (puR (mrec σ z) 151 (mSitR (σ.1 151) j n b)) = (mSeat σ z n (nI j) b).2 := (by unfold mSeat; rw [show ix (nI j) = j from hij, if_neg (by rw [c5]; decide), if_neg (by rw [c14]; decide), if_neg (by rw [c60]; decide), if_neg (by simp [mtk, c5, c14, c22, c26, c35, c60, c64]), if_neg c76])
                have hcS : mcn (mSitR (σ.1 151) j n b) n m := ⟨by unfold mSitR; rw [upd_n _ _ _ _ (by omega), upd_n _ _ _ _ (by omega)]; exact hn, hn6, by unfold mSitR; rw [upd_n _ _ _ _ (by omega), upd_n _ _ _ _ (by omega)]; exact hm, hm8⟩
                have LOOP : ∀ (q i : Nat), i + q = n → G x X (mrec σ z) [(0, ra X 150), (1, .int (nI j)), (2, .int b), (4, .int (lowF (σ.1 151) b i)), (5, .int (nI i))] [] 92 := by
                  intro q
                  induction q with
                  | zero =>
                    intro i hi 
                    have hie : i = n := by omega
                    rw [hie]
                    refine g_iload h dX6_seat_92 rfl ?_
                    refine g_aload_n h dX6_seat_94 rfl ?_
                    refine gf6_7 h  dX6_seat_95 ?_
                    refine g_bipush (v := 7) h dX6_seat_98 (by decide) ?_
                    refine g_ialdN h (k := 151) (by decide) (enc_151 X) (show (7 : Int32) = nI 7 by decide) (by decide) (by decide) dX6_seat_100 ?_
                    refine g_top (nI n) (by rw [mrec_151]; exact hn) ?_
                    refine g_icge h 139 dX6_seat_101 (by decide) (fun c101 => ?_) (fun c101 => absurd (Int32.le_refl _) c101)
                    refine g_aload_n h dX6_seat_139 rfl ?_
                    refine g_iload_n h dX6_seat_140 rfl ?_
                    refine g_iconst (v := 3) h dX6_seat_141 (by decide) ?_
                    refine g_iload_n h dX6_seat_142 rfl ?_
                    refine cl6_82 h  (ct_X6_setPart (i := j) (p := 3) (by omega) (by decide)) rfl dX6_seat_143 rfl (Nat.le_of_ble_eq_true rfl) (by decide) ?_
                    refine g_aload_n h dX6_seat_146 rfl ?_
                    refine g_iload_n h dX6_seat_147 rfl ?_
                    refine g_iconst (v := 4) h dX6_seat_148 (by decide) ?_
                    refine g_iload h dX6_seat_149 rfl ?_
                    refine cl6_82 h  (ct_X6_setPart (i := j) (p := 4) (by omega) (by decide)) rfl dX6_seat_151 rfl (Nat.le_of_ble_eq_true rfl) (by decide) ?_
                    refine g_mem (puR (mrec σ z) 151 (mSitR (σ.1 151) j n b)) (by simp only [pu_puR, puR_puR, puR_self, mrec_151]; rfl) ?_
                    refine g_aload_n h dX6_seat_154 rfl ?_
                    refine g_iload_n h dX6_seat_155 rfl ?_
                    refine cl6_90 h  (ct_X6_sitting (n := n) (m := m) (by rw [puR_self]; exact hcS)) rfl dX6_seat_156 rfl (Nat.le_of_ble_eq_true rfl) (by decide) ?_
                    refine g_top (sitF (mSitR (σ.1 151) j n b) b n) (by rw [puR_self]; rfl) ?_
                    exact g_iret h hr dX6_seat_159 hfv hfm
                  | succ q ih =>
                    intro i hi 
                    have hlt : i < n := by omega
                    refine g_iload h dX6_seat_92 rfl ?_
                    refine g_aload_n h dX6_seat_94 rfl ?_
                    refine gf6_7 h  dX6_seat_95 ?_
                    refine g_bipush (v := 7) h dX6_seat_98 (by decide) ?_
                    refine g_ialdN h (k := 151) (by decide) (enc_151 X) (show (7 : Int32) = nI 7 by decide) (by decide) (by decide) dX6_seat_100 ?_
                    refine g_top (nI n) (by rw [mrec_151]; exact hn) ?_
                    refine g_icge h 139 dX6_seat_101 (by decide) (fun c101 => absurd c101 (nI_ge hlt (by omega))) (fun c101 => ?_)
                    refine g_aload_n h dX6_seat_104 rfl ?_
                    refine g_iload h dX6_seat_105 rfl ?_
                    refine g_iconst (v := 3) h dX6_seat_107 (by decide) ?_
                    refine cl6_46 h  (ct_X6_part (i := i) (p := 3) (by omega) (by decide)) rfl dX6_seat_108 rfl (Nat.le_of_ble_eq_true rfl) (by decide) ?_
                    refine g_top (mo (σ.1 151) i 3) (by rw [mrec_151]) ?_
                    refine g_iload_n h dX6_seat_111 rfl ?_
                    refine g_icne h 129 dX6_seat_112 (by decide) (fun c112 => ?_) (fun c112 => ?_)
                    · refine g_iload h dX6_seat_129 rfl ?_
                      refine g_istore h dX6_seat_131 (by rw [hL]; decide) ?_
                      refine g_iincN h dX6_seat_133 rfl (by rw [hL]; decide) ?_
                      refine g_goto h 92 dX6_seat_136 (by decide) ?_
                      refine g_sub [(0, ra X 150), (1, .int (nI j)), (2, .int b), (4, .int (lowF (σ.1 151) b (i + 1))), (5, .int (nI (i + 1)))] ⟨rfl, rfl, rfl, (congrArg (fun z => some (Value.int z)) (by show _ = (if _ then _ else _); simp [c101, c112])), rfl, trivial⟩ ?_
                      exact ih (i + 1) (by omega)
                    · refine g_aload_n h dX6_seat_115 rfl ?_
                      refine g_iload h dX6_seat_116 rfl ?_
                      refine g_iconst (v := 4) h dX6_seat_118 (by decide) ?_
                      refine cl6_46 h  (ct_X6_part (i := i) (p := 4) (by omega) (by decide)) rfl dX6_seat_119 rfl (Nat.le_of_ble_eq_true rfl) (by decide) ?_
                      refine g_top (mo (σ.1 151) i 4) (by rw [mrec_151]) ?_
                      refine g_ifne h 129 dX6_seat_122 (by decide) (fun c122 => ?_) (fun c122 => ?_)
                      · refine g_iload h dX6_seat_129 rfl ?_
                        refine g_istore h dX6_seat_131 (by rw [hL]; decide) ?_
                        refine g_iincN h dX6_seat_133 rfl (by rw [hL]; decide) ?_
                        refine g_goto h 92 dX6_seat_136 (by decide) ?_
                        refine g_sub [(0, ra X 150), (1, .int (nI j)), (2, .int b), (4, .int (lowF (σ.1 151) b (i + 1))), (5, .int (nI (i + 1)))] ⟨rfl, rfl, rfl, (congrArg (fun z => some (Value.int z)) (by show _ = (if _ then _ else _); simp [c101, c112, c122])), rfl, trivial⟩ ?_
                        exact ih (i + 1) (by omega)
                      · refine g_iconst (v := 1) h dX6_seat_125 (by decide) ?_
                        refine g_goto h 131 dX6_seat_126 (by decide) ?_
                        refine g_istore h dX6_seat_131 (by rw [hL]; decide) ?_
                        refine g_iincN h dX6_seat_133 rfl (by rw [hL]; decide) ?_
                        refine g_goto h 92 dX6_seat_136 (by decide) ?_
                        refine g_sub [(0, ra X 150), (1, .int (nI j)), (2, .int b), (4, .int (lowF (σ.1 151) b (i + 1))), (5, .int (nI (i + 1)))] ⟨rfl, rfl, rfl, (congrArg (fun z => some (Value.int z)) (by show _ = (if _ then _ else _); simp [c101, c112, c122])), rfl, trivial⟩ ?_
                        exact ih (i + 1) (by omega)
                refine g_aload_n h dX6_seat_82 rfl ?_
                refine cl6_78 h  (ct_X6_record hz) rfl dX6_seat_83 rfl (Nat.le_of_ble_eq_true rfl) (by decide) ?_
                refine g_iconst (v := 0) h dX6_seat_86 (by decide) ?_
                refine g_istore h dX6_seat_87 (by rw [hL]; decide) ?_
                refine g_iconst (v := 0) h dX6_seat_89 (by decide) ?_
                refine g_istore h dX6_seat_90 (by rw [hL]; decide) ?_
                refine g_sub [(0, ra X 150), (1, .int (nI j)), (2, .int b), (4, .int (lowF (σ.1 151) b 0)), (5, .int (nI 0))] ⟨rfl, rfl, rfl, rfl, lk_0, trivial⟩ ?_
                exact LOOP n 0 (by omega)
              · refine g_ldc h (-1000003) (lw_in 708 (by decide +kernel) rfl) dX6_seat_79 ?_
                exact g_iret h hr dX6_seat_81 (by first | (simp [mSeat, kBad, kNot, kLim, ix, hij, mtk, c5, c14, c22, c26, c35, c60, c64, c76]; done) | (simp [mSeat, kBad, ix, c5, c14, c22, c26, c35, c60, c64, c76]; done) | (simp_all [mSeat, kBad, kNot, kLim, ix, mtk]; done)) (by first | (simp [mSeat, ix, hij, mtk, c5, c14, c22, c26, c35, c60, c64, c76]; done) | (simp [mSeat, ix, c5, c14, c22, c26, c35, c60, c64, c76]; done) | (simp_all [mSeat, ix, mtk]; done))
    · refine g_ldc h (-1000001) (lw_in 696 (by decide +kernel) rfl) dX6_seat_17 ?_
      exact g_iret h hr dX6_seat_19 (by first | (simp [mSeat, kBad, kNot, kLim, ix, hij, mtk, c5, c14]; done) | (simp [mSeat, kBad, ix, c5, c14]; done) | (simp_all [mSeat, kBad, kNot, kLim, ix, mtk]; done)) (by first | (simp [mSeat, ix, hij, mtk, c5, c14]; done) | (simp [mSeat, ix, c5, c14]; done) | (simp_all [mSeat, ix, mtk]; done))
set_option maxRecDepth 100000 in
set_option maxHeartbeats 4000000 in
theorem ct_X6_branch {l : Launch} {X : fX} {σ : fM} {z n m : Nat} (hz : mrc σ z) (hg : mgd (σ.1 151) n m) (hcr : mcr (σ.1 151) m) {a k : Int32} : Ct l X yX6_branch cX6_branch 3 (some .int) 8 [ra X 150, .int a, .int k] σ (some (.int (mBranch σ z n m a k).1)) (mBranch σ z n m a k).2 := by
  refine Ct.of RX6 rfl (by decide) (Nat.le_of_ble_eq_true rfl) ?_
  intro x hL h hr
  refine g_sub [(0, ra X 150), (1, .int a), (2, .int k)] ⟨rfl, rfl, rfl, trivial⟩ ?_
  refine g_iload_n h dX6_branch_0 rfl ?_
  refine cl6_117 h (ct_X6_isAddress) rfl dX6_branch_1 rfl (Nat.le_of_ble_eq_true rfl) (by decide) ?_
  refine g_ifeqB h 14 dX6_branch_4 (by decide) (fun c4 => ?_) (fun c4 => ?_)
  · refine g_ldc h (-1000001) (lw_in 696 (by decide +kernel) rfl) dX6_branch_14 ?_
    exact g_iret h hr dX6_branch_16 (by first | (simp [mBranch, kBad, kNot, kLim, kNone, ix, hij, c4]; done) | (simp [mBranch, kBad, kNot, kLim, kNone, ix, c4]; done) | (simp_all [mBranch, kBad, kNot, kLim, kNone, ix]; done)) (by first | (simp [mBranch, kBad, kNot, kLim, kNone, ix, hij, c4]; done) | (simp [mBranch, kBad, kNot, kLim, kNone, ix, c4]; done) | (simp_all [mBranch, kBad, kNot, kLim, kNone, ix]; done))
  · refine g_iload_n h dX6_branch_7 rfl ?_
    refine cl6_120 h (ct_X6_isTaken) rfl dX6_branch_8 rfl (Nat.le_of_ble_eq_true rfl) (by decide) ?_
    refine g_ifneB h 17 dX6_branch_11 (by decide) (fun c11 => ?_) (fun c11 => ?_)
    · obtain ⟨j, hj, rfl⟩ : ∃ j : Nat, j ≤ 63 ∧ a = nI j := wi_ix (n := 63) (by decide) (by decide) c4
      have hij : (nI j).toNatClampNeg = j := nI_clamp (by omega)
      refine g_aload_n h dX6_branch_17 rfl ?_
      refine cl6_78 h  (ct_X6_record hz) rfl dX6_branch_18 rfl (Nat.le_of_ble_eq_true rfl) (by decide) ?_
      refine g_aload_n h dX6_branch_21 rfl ?_
      refine g_iload_n h dX6_branch_22 rfl ?_
      refine g_iload_n h dX6_branch_23 rfl ?_
      refine cl6_123 h  (ct_X6_comes (n := n) (m := m) (a := j) (by rw [mrec_151]; exact hg) (by rw [mrec_151]; exact hcr) (by omega)) rfl dX6_branch_24 rfl (Nat.le_of_ble_eq_true rfl) (by decide) ?_
      exact g_iret h hr dX6_branch_27 (by first | (simp [mBranch, kBad, kNot, kLim, kNone, ix, hij, c4, c11]; done) | (simp [mBranch, kBad, kNot, kLim, kNone, ix, c4, c11]; done) | (simp_all [mBranch, kBad, kNot, kLim, kNone, ix]; done)) (by first | (simp [mBranch, kBad, kNot, kLim, kNone, ix, hij, c4, c11]; done) | (simp [mBranch, kBad, kNot, kLim, kNone, ix, c4, c11]; done) | (simp_all [mBranch, kBad, kNot, kLim, kNone, ix]; done))
    · refine g_ldc h (-1000001) (lw_in 696 (by decide +kernel) rfl) dX6_branch_14 ?_
      exact g_iret h hr dX6_branch_16 (by first | (simp [mBranch, kBad, kNot, kLim, kNone, ix, hij, c4, c11]; done) | (simp [mBranch, kBad, kNot, kLim, kNone, ix, c4, c11]; done) | (simp_all [mBranch, kBad, kNot, kLim, kNone, ix]; done)) (by first | (simp [mBranch, kBad, kNot, kLim, kNone, ix, hij, c4, c11]; done) | (simp [mBranch, kBad, kNot, kLim, kNone, ix, c4, c11]; done) | (simp_all [mBranch, kBad, kNot, kLim, kNone, ix]; done))