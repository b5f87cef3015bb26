/-! orders done -/
def doZ (σ : fM) (n m : Nat) (a w k : Int32) : Nat → fM × Nat
  | 0 => (σ, m)
  | i + 1 => (runM (doZ σ n m a w k i).1 0 n (doZ σ n m a w k i).2 a (wayW w (nI i) k), runN (doZ σ n m a w k i).1 0 n (doZ σ n m a w k i).2 a (wayW w (nI i) k))
def doM (σ : fM) (n m w k : Nat) : Int32 × fM × Nat := if w = 4 then (0, pu σ (iSet 0) 1 (σ.1 5 0), m) else (nI k, doZ σ n m (σ.1 5 0) (nI w) (nI k) k)
theorem doZ_ok {σ : fM} {n m : Nat} (a w k : Int32) (hg : gst σ 0 n m) : ∀ i, gst (doZ σ n m a w k i).1 0 n (doZ σ n m a w k i).2 ∧ ∀ q, q < 6 → (doZ σ n m a w k i).1.1 q = σ.1 q
  | 0 => ⟨hg, fun _ _ => rfl⟩
  | i + 1 => by
    obtain ⟨h1, h2⟩ := doZ_ok a w k hg i
    refine ⟨gst_run a _ h1, fun q hq => ?_⟩
    show (runM _ 0 n _ a _).1 q = _
    rw [run_out a _ h1 (by omega), h2 q hq]
theorem gst_set {σ : fM} {n m j : Nat} {v : Int32} (hg : gst σ 0 n m) : gst (pu σ (iSet 0) j v) 0 n m := by
  obtain ⟨⟨hn, hm, hn6, hm8⟩, hr, hd⟩ := hg
  refine ⟨⟨by rw [pu_ne _ (iS_Set 0 0)]; exact hn, by rw [pu_ne _ (iS_Set 0 0)]; exact hm, hn6, hm8⟩, fun l hl => ?_, fun i hi => ?_⟩
  · rw [pu_ne _ (iL_Set 0 l 0 (by omega))]; exact hr l hl
  · rw [pu_ne _ (iO_Set 0 i 0 (by omega))]; exact hd i hi
theorem doM_ok {σ : fM} {n m : Nat} (w k : Nat) (hg : gst σ 0 n m) : gst (doM σ n m w k).2.1 0 n (doM σ n m w k).2.2 ∧ ∀ q, q < 6 → (doM σ n m w k).2.1.1 q = σ.1 q := by
  unfold doM
  split
  · exact ⟨gst_set hg, fun q hq => pu_ne _ (by unfold iSet; omega)⟩
  · exact doZ_ok _ _ _ hg _

set_option maxRecDepth 100000 in
set_option maxHeartbeats 4000000 in
theorem ct_X5_doOrderRead {l : Launch} {X : fX} {σ : fM} {n m : Nat} (hg : gst σ 0 n m) {w k : Nat} (hw : w ≤ 4) (hw5 : σ.1 3 5 = nI w) (hK : ¬ w = 4 → σ.1 5 1 = nI k ∧ k ≤ 40) : Ct l X yX5_doOrderRead cX5_doOrderRead 4 (some .int) 5 [ra X 0] σ (some (.int (doM σ n m w k).1)) (doM σ n m w k).2.1 := by
  refine Ct.of RX5 rfl (by decide) (Nat.le_of_ble_eq_true rfl) ?_
  intro x hL h hr
  refine g_sub [(0, ra X 0)] ⟨rfl, trivial⟩ ?_
  refine g_aload_n h dX5_doOrderRead_0 rfl ?_
  refine gf5_29 h  dX5_doOrderRead_1 ?_
  refine gf5_256 h  dX5_doOrderRead_4 ?_
  refine g_iconst (v := 4) h dX5_doOrderRead_7 (by decide) ?_
  refine g_icne h 31 dX5_doOrderRead_8 (by decide) (fun c8 => ?_) (fun c8 => ?_)
  · rw [hw5] at c8
    have hw4 : ¬ w = 4 := fun e => c8 (by rw [e]; decide)
    obtain ⟨hk1, hk40⟩ := hK hw4
    have LOOP : ∀ (q i : Nat), i + q = k → G x X (doZ σ n m (σ.1 5 0) (nI w) (nI k) i).1 [(0, ra X 0), (1, .int (σ.1 5 0)), (2, .int (nI k)), (3, .int (nI i))] [] 53 := by
      intro q
      induction q with
      | zero =>
        intro i hi 
        have hie : i = k := by omega
        rw [hie]
        refine g_iload_n h dX5_doOrderRead_53 rfl ?_
        refine g_iload_n h dX5_doOrderRead_54 rfl ?_
        refine g_icge h 85 dX5_doOrderRead_55 (by decide) (fun c55 => ?_) (fun c55 => absurd (Int32.le_refl _) c55)
        refine g_iload_n h dX5_doOrderRead_85 rfl ?_
        exact g_iret h hr dX5_doOrderRead_86 (by unfold doM; rw [if_neg hw4]) (by unfold doM; rw [if_neg hw4])
      | succ q ih =>
        intro i hi 
        have hlt : i < k := by omega
        have hzi := doZ_ok (σ.1 5 0) (nI w) (nI k) hg i
        refine g_iload_n h dX5_doOrderRead_53 rfl ?_
        refine g_iload_n h dX5_doOrderRead_54 rfl ?_
        refine g_icge h 85 dX5_doOrderRead_55 (by decide) (fun c55 => absurd c55 (nI_ge hlt (by omega))) (fun c55 => ?_)
        refine g_aload_n h dX5_doOrderRead_58 rfl ?_
        refine gf5_10 h  dX5_doOrderRead_59 ?_
        refine g_iload_n h dX5_doOrderRead_62 rfl ?_
        refine g_aload_n h dX5_doOrderRead_63 rfl ?_
        refine gf5_29 h  dX5_doOrderRead_64 ?_
        refine gf5_256 h  dX5_doOrderRead_67 ?_
        refine g_top (nI w) (by rw [hzi.2 3 (by decide)]; exact hw5) ?_
        refine g_iload_n h dX5_doOrderRead_70 rfl ?_
        refine g_iload_n h dX5_doOrderRead_71 rfl ?_
        refine cl5_262 h (ct_X5_wayOf (by omega)) rfl dX5_doOrderRead_72 rfl (Nat.le_of_ble_eq_true rfl) (by decide) ?_
        refine cl5_110 h (by omega) (ct_X3_runBranch (by decide) hzi.1.1 hzi.1.2.1 hzi.1.2.2) rfl dX5_doOrderRead_75 rfl (Nat.le_of_ble_eq_true rfl) (by decide) ?_
        refine g_pop h dX5_doOrderRead_78 rfl ?_
        refine g_iincN h dX5_doOrderRead_79 rfl (by rw [hL]; decide) ?_
        refine g_goto h 53 dX5_doOrderRead_82 (by decide) ?_
        refine g_mem (doZ σ n m (σ.1 5 0) (nI w) (nI k) (i + 1)).1 rfl ?_
        refine g_sub [(0, ra X 0), (1, .int (σ.1 5 0)), (2, .int (nI k)), (3, .int (nI (i + 1)))] ⟨rfl, rfl, rfl, rfl, trivial⟩ ?_
        exact ih (i + 1) (by omega)
    refine g_aload_n h dX5_doOrderRead_31 rfl ?_
    refine gf5_29 h  dX5_doOrderRead_32 ?_
    refine gf5_259 h  dX5_doOrderRead_35 ?_
    refine g_iconst (v := 0) h dX5_doOrderRead_38 (by decide) ?_
    refine g_ialdN h (k := 5) (by decide) (enc_5 X) nI_0.symm (by decide) (by decide) dX5_doOrderRead_39 ?_
    refine g_istore_n h dX5_doOrderRead_40 (by rw [hL]; decide) ?_
    refine g_aload_n h dX5_doOrderRead_41 rfl ?_
    refine gf5_29 h  dX5_doOrderRead_42 ?_
    refine gf5_259 h  dX5_doOrderRead_45 ?_
    refine g_iconst (v := 1) h dX5_doOrderRead_48 (by decide) ?_
    refine g_ialdN h (k := 5) (by decide) (enc_5 X) (show (1 : Int32) = nI 1 by decide) (by decide) (by decide) dX5_doOrderRead_49 ?_
    refine g_top (nI k) hk1 ?_
    refine g_istore_n h dX5_doOrderRead_50 (by rw [hL]; decide) ?_
    refine g_iconst (v := 0) h dX5_doOrderRead_51 (by decide) ?_
    refine g_istore_n h dX5_doOrderRead_52 (by rw [hL]; decide) ?_
    refine g_sub [(0, ra X 0), (1, .int (σ.1 5 0)), (2, .int (nI k)), (3, .int (nI 0))] ⟨rfl, rfl, rfl, lk_0, trivial⟩ ?_
    exact LOOP k 0 (by omega)
  · rw [hw5] at c8
    have hw4 : w = 4 := (nI_eq (b := 4) (by omega) (by decide)).mp c8
    refine g_aload_n h dX5_doOrderRead_11 rfl ?_
    refine gf5_10 h  dX5_doOrderRead_12 ?_
    refine gf5_49 h (by omega) dX5_doOrderRead_15 ?_
    refine g_iconst (v := 1) h dX5_doOrderRead_18 (by decide) ?_
    refine g_aload_n h dX5_doOrderRead_19 rfl ?_
    refine gf5_29 h  dX5_doOrderRead_20 ?_
    refine gf5_259 h  dX5_doOrderRead_23 ?_
    refine g_iconst (v := 0) h dX5_doOrderRead_26 (by decide) ?_
    refine g_ialdN h (k := 5) (by decide) (enc_5 X) nI_0.symm (by decide) (by decide) dX5_doOrderRead_27 ?_
    refine g_iastN h (iSet_lt (by omega)) (enc_Set X (by omega)) (show (1 : Int32) = nI 1 by decide) (by decide) (by decide) dX5_doOrderRead_28 ?_
    refine g_iconst (v := 0) h dX5_doOrderRead_29 (by decide) ?_
    exact g_iret h hr dX5_doOrderRead_30 (by unfold doM; rw [if_pos hw4]) (by unfold doM; rw [if_pos hw4])

def wOf (g : Nat → Int32) (p : Nat) : Nat := (pW g p).toNatClampNeg
def kOf (g : Nat → Int32) (p : Nat) : Nat := (pV2 g p).toNatClampNeg
def plD (g : Nat → Int32) (t n p : Nat) (z : fM × Int32 × Nat) : Int32 × fM × Nat := doM (roM z.1 t p) n z.2.2 (wOf g p) (kOf g p)
def plS (D : Int32 × fM × Nat) (v : Int32) : fM × Int32 × Nat := (D.2.1, v + D.1, D.2.2)
def plZ (σ : fM) (g : Nat → Int32) (t n m : Nat) : Nat → fM × Int32 × Nat
  | 0 => (σ, 0, m)
  | i + 1 => plS (plD g t n (ps g i) (plZ σ g t n m i)) (plZ σ g t n m i).2.1
theorem plS_1 (D : Int32 × fM × Nat) (v : Int32) : (plS D v).1 = D.2.1 := rfl
theorem plS_2 (D : Int32 × fM × Nat) (v : Int32) : (plS D v).2.1 = v + D.1 := rfl
theorem plS_3 (D : Int32 × fM × Nat) (v : Int32) : (plS D v).2.2 = D.2.2 := rfl
theorem plD_e (g : Nat → Int32) (t n p : Nat) (z : fM × Int32 × Nat) : plD g t n p z = doM (roM z.1 t p) n z.2.2 (wOf g p) (kOf g p) := by unfold plD; rfl
theorem plZ_s {σ : fM} {g : Nat → Int32} {t n m i : Nat} : plZ σ g t n m (i + 1) = plS (plD g t n (ps g i) (plZ σ g t n m i)) (plZ σ g t n m i).2.1 := by rw [plZ]
theorem gst_ord {σ τ : fM} {p e n m : Nat} {w r c : Int32} (h : ord σ τ p e w r c) (hg : gst σ 0 n m) : gst τ 0 n m := by
  obtain ⟨⟨hn, hm, hn6, hm8⟩, hr, hd⟩ := hg
  have ne : ∀ k, 6 ≤ k → τ.1 k = σ.1 k := fun k hk => h.2.1 k (by omega) (by omega)
  refine ⟨⟨by rw [ne _ (by unfold iS; omega)]; exact hn, by rw [ne _ (by unfold iS; omega)]; exact hm, hn6, hm8⟩, fun l hl => ?_, fun i hi => ?_⟩
  · rw [ne _ (by unfold iL; omega)]; exact hr l hl
  · rw [ne _ (by unfold iO; omega)]; exact hd i hi
theorem plZ_1 {σ : fM} {g : Nat → Int32} {t n m i : Nat} : (plZ σ g t n m (i + 1)).1 = (doM (roM (plZ σ g t n m i).1 t (ps g i)) n (plZ σ g t n m i).2.2 (wOf g (ps g i)) (kOf g (ps g i))).2.1 := by rw [plZ_s, plS_1, plD_e]
theorem plZ_2 {σ : fM} {g : Nat → Int32} {t n m i : Nat} : (plZ σ g t n m (i + 1)).2.1 = (plZ σ g t n m i).2.1 + (doM (roM (plZ σ g t n m i).1 t (ps g i)) n (plZ σ g t n m i).2.2 (wOf g (ps g i)) (kOf g (ps g i))).1 := by rw [plZ_s, plS_2, plD_e]
theorem plZ_3 {σ : fM} {g : Nat → Int32} {t n m i : Nat} : (plZ σ g t n m (i + 1)).2.2 = (doM (roM (plZ σ g t n m i).1 t (ps g i)) n (plZ σ g t n m i).2.2 (wOf g (ps g i)) (kOf g (ps g i))).2.2 := by rw [plZ_s, plS_3, plD_e]
theorem hfM_s {σ : fM} {t i : Nat} : hfM σ t (i + 1) = roM (hfM σ t i) t (ps (chr σ t) i) := by simp only [hfM]
theorem plZ_ok {σ : fM} {t n m : Nat} (g : Nat → Int32) (hg : gst σ 0 n m) (ht : tx σ t) (hch : chr σ t = g) : ∀ i, gst (plZ σ g t n m i).1 0 n (plZ σ g t n m i).2.2 ∧ tx (plZ σ g t n m i).1 t ∧ chr (plZ σ g t n m i).1 t = g
  | 0 => ⟨hg, ht, hch⟩
  | i + 1 => by
    obtain ⟨h1, h2, h3⟩ := plZ_ok g hg ht hch i
    have ho := (roM_o (plZ σ g t n m i).1 t (ps g i)).1
    obtain ⟨h4, h5⟩ := ord_tx ho h2
    obtain ⟨h6, h7⟩ := doM_ok (wOf g (ps g i)) (kOf g (ps g i)) (gst_ord ho h1)
    rw [plZ_1, plZ_3]
    generalize hd : doM (roM (plZ σ g t n m i).1 t (ps g i)) n (plZ σ g t n m i).2.2 (wOf g (ps g i)) (kOf g (ps g i)) = d at h6 h7 ⊢
    have h74 := h7 4 (by decide)
    have h73 := congrFun (h7 3 (by decide)) 2
    exact ⟨h6, tx_cg h74 h73 h4, (chr_cg h74 t).trans (h5.trans h3)⟩
/-- an order without a fault: what its word and numbers are -/
theorem pR_0 {g : Nat → Int32} {p : Nat} (h : pR g p = 0) : pF g p = true ∧ ∃ w : Nat, w ≤ 4 ∧ pW g p = nI w ∧ wOf g p = w ∧ (w = 4 → wi (pV1 g p) 0 50 = true) ∧ (¬ w = 4 → isA (pV1 g p) = true ∧ wi (pV2 g p) 1 40 = true ∧ kOf g p ≤ 40 ∧ pV2 g p = nI (kOf g p)) := by
  have hF : pF g p = true := by
    cases hb : pF g p with
    | true => rfl
    | false => unfold pR at h; rw [hb, if_neg (by decide)] at h; exact absurd h (by decide)
  refine ⟨hF, ?_⟩
  unfold pR at h
  rw [if_pos hF] at h
  rcases wrd_v g p (pN g p) with e | ⟨w, hw, e⟩
  · unfold pF at hF
    rw [if_pos (show pW g p = -1 from e)] at hF
    cases hF
  · have e' : pW g p = nI w := e
    refine ⟨w, hw, e', by unfold wOf; rw [e']; exact nI_clamp (by omega), fun h4 => ?_, fun h4 => ?_⟩
    · unfold crR at h
      rw [if_pos (by rw [e', h4]; decide)] at h
      cases hb : wi (pV1 g p) 0 50 with
      | true => rfl
      | false => rw [hb, if_neg (by decide)] at h; exact absurd h (by decide)
    · unfold crR at h
      rw [if_neg (show ¬ pW g p = 4 from fun q => h4 ((nI_eq (b := 4) (by omega) (by decide)).mp (e'.symm.trans q)))] at h
      cases ha : isA (pV1 g p) with
      | false => rw [ha, if_pos rfl] at h; exact absurd h (by decide)
      | true =>
        rw [ha, if_neg (by decide)] at h
        cases hb : wi (pV2 g p) 1 40 with
        | false => rw [hb, if_neg (by decide)] at h; exact absurd h (by decide)
        | true =>
          obtain ⟨j, hj, ej⟩ : ∃ j : Nat, j ≤ 40 ∧ pV2 g p = nI j := wi_ix (n := 40) (by decide) (by decide) (wi_of.mpr ⟨fun q => (wi_of.mp hb).1 (Int32.lt_of_lt_of_le q (by decide)), (wi_of.mp hb).2⟩)
          have ek : kOf g p = j := by unfold kOf; rw [ej]; exact nI_clamp (by omega)
          exact ⟨rfl, rfl, by omega, by rw [ek]; exact ej⟩
theorem hfM_o {σ : fM} {t : Nat} : ∀ i, (hfM σ t i).2 = σ.2 ∧ (∀ k, k ≠ 3 → k ≠ 5 → (hfM σ t i).1 k = σ.1 k) ∧ (hfM σ t i).1 3 2 = σ.1 3 2
  | 0 => ⟨rfl, fun _ _ _ => rfl, rfl⟩
  | i + 1 => by
    obtain ⟨h1, h2, h3⟩ := hfM_o (σ := σ) (t := t) i
    obtain ⟨g1, g2, g3, -⟩ := (roM_o (hfM σ t i) t (ps (chr σ t) i)).1
    rw [hfM_s]
    generalize roM (hfM σ t i) t (ps (chr σ t) i) = τ at g1 g2 g3 ⊢
    exact ⟨g1.trans h1, fun k a b => (g2 k a b).trans (h2 k a b), g3.trans h3⟩
theorem hfR_o (σ : fM) (t : Nat) : (hfR σ t).2 = σ.2 ∧ (∀ k, k ≠ 3 → k ≠ 5 → (hfR σ t).1 k = σ.1 k) ∧ (hfR σ t).1 3 2 = σ.1 3 2 := by
  unfold hfR
  split
  · exact hfM_o _
  · exact hfM_o _
theorem hfR_gst {σ : fM} {t n m : Nat} (hg : gst σ 0 n m) : gst (hfR σ t) 0 n m := by
  obtain ⟨⟨hn, hm, hn6, hm8⟩, hr, hd⟩ := hg
  have ne : ∀ k, 6 ≤ k → (hfR σ t).1 k = σ.1 k := fun k hk => (hfR_o σ t).2.1 k (by omega) (by omega)
  refine ⟨⟨by rw [ne _ (by unfold iS; omega)]; exact hn, by rw [ne _ (by unfold iS; omega)]; exact hm, hn6, hm8⟩, fun l hl => ?_, fun i hi => ?_⟩
  · rw [ne _ (by unfold iL; omega)]; exact hr l hl
  · rw [ne _ (by unfold iO; omega)]; exact hd i hi
theorem hfR_tx {σ : fM} {t : Nat} (ht : tx σ t) : tx (hfR σ t) t ∧ chr (hfR σ t) t = chr σ t := by
  unfold hfR
  split
  · exact hfM_tx ht _
  · exact hfM_tx ht _
theorem hfR_pst {σ : fM} {t f z : Nat} (hp : pst σ f z) : pst (hfR σ t) f z := by
  have e := (hfR_o σ t).2.1 1 (by decide) (by decide)
  exact ⟨by rw [e]; exact hp.1, by rw [e]; exact hp.2.1, hp.2.2⟩
theorem keep_tx {σ : fM} {f z n m t : Nat} (hn : n ≤ 6) (hm : m ≤ 8) (ht : tx σ t) : tx (keepM σ f z n m) t ∧ chr (keepM σ f z n m) t = chr σ t :=
  ⟨tx_cg (keepM_ne hn hm (by decide) (by decide)) (by rw [keepM_ne hn hm (by decide) (by decide)]) ht, chr_cg (keepM_ne hn hm (by decide) (by decide)) t⟩
def cPlay (σ : fM) (f z n m t : Nat) : Int32 × fM := if hasF (chr σ t) t = true then (kNot, hfR σ t)
  else ((plZ (keepM (hfR σ t) f z n m) (chr σ t) t n m (fti (chr σ t) t)).2.1, (plZ (keepM (hfR σ t) f z n m) (chr σ t) t n m (fti (chr σ t) t)).1)

set_option maxRecDepth 100000 in
set_option maxHeartbeats 4000000 in
theorem ct_X5_play {l : Launch} {X : fX} {σ : fM} {f z n m t : Nat} (hg : gst σ 0 n m) (hp : pst σ f z) (ht : tx σ t) : Ct l X yX5_play cX5_play 4 (some .int) 8 [ra X 0] σ (some (.int (cPlay σ f z n m t).1)) (cPlay σ f z n m t).2 := by
  refine Ct.of RX5 rfl (by decide) (Nat.le_of_ble_eq_true rfl) ?_
  intro x hL h hr
  refine g_sub [(0, ra X 0)] ⟨rfl, trivial⟩ ?_
  have h80t := ht.2.1
  have hg0 := hfR_gst (t := t) hg
  have ht0 := hfR_tx ht
  have hk0 := keep_tx (f := f) (z := z) hg0.1.2.2.1 hg0.1.2.2.2 ht0.1
  refine g_aload_n h dX5_play_0 rfl ?_
  refine gf5_29 h  dX5_play_1 ?_
  refine cl5_233 h  (ct_X4_hasFault ht) rfl dX5_play_4 rfl (Nat.le_of_ble_eq_true rfl) (by decide) ?_
  refine g_ifeqB h 13 dX5_play_7 (by decide) (fun c7 => ?_) (fun c7 => ?_)
  · have LOOP : ∀ (q i : Nat), i + q = 80 → fstF (psQ (chr σ t) t) i = i → G x X (plZ (keepM (hfR σ t) f z n m) (chr σ t) t n m i).1 [(0, ra X 0), (1, .int (plZ (keepM (hfR σ t) f z n m) (chr σ t) t n m i).2.1), (2, .int (nI (ps (chr σ t) i))), (3, .int (nI i))] [] 30 := by
      intro q
      induction q with
      | zero =>
        intro i hi hfi
        have hie : i = 80 := by omega
        rw [hie] at hfi ⊢
        have h80 := ps_ge hfi
        have hn80 : ¬ ps (chr σ t) 80 < t := by omega
        have e80 : fti (chr σ t) t = 80 := fstF_at (p := psQ (chr σ t) t) hfi (by unfold psQ; rw [decide_eq_true (Nat.not_lt.mp hn80)]; rfl) (by decide)
        refine g_iload_n h dX5_play_30 rfl ?_
        refine g_bipush (v := 80) h dX5_play_31 (by decide) ?_
        refine g_icge h 76 dX5_play_33 (by decide) (fun c33 => ?_) (fun c33 => absurd (Int32.le_refl _) c33)
        refine g_iload_n h dX5_play_76 rfl ?_
        exact g_iret h hr dX5_play_77 (by unfold cPlay; rw [c7, if_neg (by decide), e80]) (by unfold cPlay; rw [c7, if_neg (by decide), e80])
      | succ q ih =>
        intro i hi hfi
        have hlt : i < 80 := by omega
        have hpl := ps_le (chr σ t) i
        obtain ⟨hzg, hzt, hzc⟩ := plZ_ok (chr σ t) (gst_keep (f := f) (z := z) hg0) hk0.1 (hk0.2.trans ht0.2) i
        refine g_iload_n h dX5_play_30 rfl ?_
        refine g_bipush (v := 80) h dX5_play_31 (by decide) ?_
        refine g_icge h 76 dX5_play_33 (by decide) (fun c33 => absurd c33 (nI_ge (b := 80) hlt (by decide))) (fun c33 => ?_)
        refine g_iload_n h dX5_play_36 rfl ?_
        refine g_aload_n h dX5_play_37 rfl ?_
        refine gf5_29 h  dX5_play_38 ?_
        refine gf5_223 h  dX5_play_41 ?_
        refine g_icge h 76 dX5_play_44 (by decide) (fun c44 => ?_) (fun c44 => ?_)
        · rw [hzt.1] at c44
          have hpt : t ≤ ps (chr σ t) i := (nI_leI (by omega) (by omega)).mp c44
          have e : fti (chr σ t) t = i := fstF_at (p := psQ (chr σ t) t) hfi (by unfold psQ; rw [decide_eq_true hpt]; rfl) (by omega)
          refine g_iload_n h dX5_play_76 rfl ?_
          exact g_iret h hr dX5_play_77 (by unfold cPlay; rw [c7, if_neg (by decide), e]) (by unfold cPlay; rw [c7, if_neg (by decide), e])
        · rw [hzt.1] at c44
          have hpt : ps (chr σ t) i < t := Nat.not_le.mp (fun q => c44 ((nI_leI (by omega) (by omega)).mpr q))
          have hR : pR (chr σ t) (ps (chr σ t) i) = 0 := by
            by_cases hR : pR (chr σ t) (ps (chr σ t) i) = 0
            · exact hR
            · have e : fti (chr σ t) t = i := fstF_at (p := psQ (chr σ t) t) hfi (by unfold psQ; rw [decide_eq_false hR]; simp) (by omega)
              exact absurd c7 (by unfold hasF; rw [e, decide_eq_true hpt]; decide)
          obtain ⟨hF, w, hw, hW, hwo, -, hKo⟩ := pR_0 hR
          have hro := roM_o (plZ (keepM (hfR σ t) f z n m) (chr σ t) t n m i).1 t (ps (chr σ t) i)
          rw [hzc] at hro
          obtain ⟨hro, hrv⟩ := hro
          obtain ⟨v0, v1⟩ := hrv hF
          have hgr := gst_ord hro hzg
          have hE : (doM (roM (plZ (keepM (hfR σ t) f z n m) (chr σ t) t n m i).1 t (ps (chr σ t) i)) n (plZ (keepM (hfR σ t) f z n m) (chr σ t) t n m i).2.2 w (kOf (chr σ t) (ps (chr σ t) i))).2.1.1 3 4 = nI (ps (chr σ t) (i + 1)) := by rw [(doM_ok w (kOf (chr σ t) (ps (chr σ t) i)) hgr).2 3 (by decide)]; exact hro.2.2.2.2.1
          refine g_aload_n h dX5_play_47 rfl ?_
          refine gf5_29 h  dX5_play_48 ?_
          refine g_iload_n h dX5_play_51 rfl ?_
          refine cl5_245 h  (ct_X4_readOrder hzt (by omega)) rfl dX5_play_52 rfl (Nat.le_of_ble_eq_true rfl) (by decide) ?_
          refine g_iload_n h dX5_play_55 rfl ?_
          refine g_aload_n h dX5_play_56 rfl ?_
          refine cl5_248 h  (ct_X5_doOrderRead (k := kOf (chr σ t) (ps (chr σ t) i)) hgr hw (hro.2.2.2.2.2.1.trans hW) (fun h4 => ⟨(v1.resolve_left (fun q => h4 ((nI_eq (b := 4) (by omega) (by decide)).mp (hW.symm.trans q)))).trans (hKo h4).2.2.2, (hKo h4).2.2.1⟩)) rfl dX5_play_57 rfl (Nat.le_of_ble_eq_true rfl) (by decide) ?_
          refine g_iadd h dX5_play_60 ?_
          refine g_istore_n h dX5_play_61 (by rw [hL]; decide) ?_
          refine g_aload_n h dX5_play_62 rfl ?_
          refine gf5_29 h  dX5_play_63 ?_
          refine gf5_251 h  dX5_play_66 ?_
          refine g_istore_n h dX5_play_69 (by rw [hL]; decide) ?_
          refine g_iincN h dX5_play_70 rfl (by rw [hL]; decide) ?_
          refine g_goto h 30 dX5_play_73 (by decide) ?_
          refine g_mem (plZ (keepM (hfR σ t) f z n m) (chr σ t) t n m (i + 1)).1 (by rw [plZ_1, hwo]) ?_
          refine g_sub [(0, ra X 0), (1, .int (plZ (keepM (hfR σ t) f z n m) (chr σ t) t n m (i + 1)).2.1), (2, .int (nI (ps (chr σ t) (i + 1)))), (3, .int (nI (i + 1)))] ⟨rfl, (congrArg (fun z => some (Value.int z)) (by rw [plZ_2, hwo])), (congrArg (fun z => some (Value.int z)) hE), rfl, trivial⟩ ?_
          exact ih (i + 1) (by omega) (fstF_no hfi (by unfold psQ; rw [decide_eq_false (Nat.not_le.mpr hpt), decide_eq_true hR]; decide))
    refine g_aload_n h dX5_play_13 rfl ?_
    refine gf5_22 h  dX5_play_14 ?_
    refine g_aload_n h dX5_play_17 rfl ?_
    refine gf5_10 h  dX5_play_18 ?_
    refine cl5_45 h  (ct_X2_keep (hfR_pst hp) hg0.1) rfl dX5_play_21 rfl (Nat.le_of_ble_eq_true rfl) (by decide) ?_
    refine g_iconst (v := 0) h dX5_play_24 (by decide) ?_
    refine g_istore_n h dX5_play_25 (by rw [hL]; decide) ?_
    refine g_iconst (v := 0) h dX5_play_26 (by decide) ?_
    refine g_istore_n h dX5_play_27 (by rw [hL]; decide) ?_
    refine g_iconst (v := 0) h dX5_play_28 (by decide) ?_
    refine g_istore_n h dX5_play_29 (by rw [hL]; decide) ?_
    refine g_mem (plZ (keepM (hfR σ t) f z n m) (chr σ t) t n m 0).1 rfl ?_
    refine g_sub [(0, ra X 0), (1, .int (plZ (keepM (hfR σ t) f z n m) (chr σ t) t n m 0).2.1), (2, .int (nI (ps (chr σ t) 0))), (3, .int (nI 0))] ⟨rfl, rfl, lk_0, lk_0, trivial⟩ ?_
    exact LOOP 80 0 (by omega) rfl
  · refine g_ldc h (-1000002) (lw_in 289 (by decide +kernel) rfl) dX5_play_10 ?_
    exact g_iret h hr dX5_play_12 (by unfold cPlay; rw [if_pos c7]; rfl) (by unfold cPlay; rw [if_pos c7])