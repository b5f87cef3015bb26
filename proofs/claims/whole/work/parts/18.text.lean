/-! the class of texts -/
/-- the text: t characters -/
def tx (σ : fM) (t : Nat) : Prop := σ.1 3 2 = nI t ∧ t ≤ 80 ∧ ∀ j, j < t → ∃ q : Nat, q < 127 ∧ σ.1 4 j = nI q
def chr (σ : fM) (t p : Nat) : Int32 := if p < t then σ.1 4 p else 0
theorem chr_nar {σ : fM} {t : Nat} (h : tx σ t) (p : Nat) : narrow .char (.int (chr σ t p)) = .int (chr σ t p) := by
  have key : ∀ q, q < 127 → narrow .char (.int (nI q)) = .int (nI q) := by decide +kernel
  unfold chr
  split
  · obtain ⟨q, hq, e⟩ := h.2.2 p (by assumption)
    rw [e]; exact key q hq
  · rfl
theorem wi_t {t p : Nat} (ht : t ≤ 80) (hp : p < 2 ^ 30) : wi (nI p) 0 (nI t - 1) = decide (p < t) := by
  by_cases h : p < t
  · obtain ⟨y, rfl⟩ : ∃ y, t = y + 1 := ⟨t - 1, by omega⟩
    rw [nI_pred, decide_eq_true h]
    exact wi_of.mpr ⟨nI_pos (by omega), nI_nlt (by omega) (by omega)⟩
  · rw [decide_eq_false h]
    cases hb : wi (nI p) 0 (nI t - 1) with
    | false => rfl
    | true =>
      obtain ⟨j, hj, e⟩ := wi_or (n := t) (by omega) rfl hb
      have := (nI_eq (by omega) (by omega)).mp e
      omega
def dig (c : Int32) : Bool := !decide (c < 48) && !decide (57 < c)
def ltr (c : Int32) : Bool := !decide (c < 97) && !decide (122 < c)
/-- how many letters follow one another -/
def lrn0 (g : Nat → Int32) (p : Nat) : Nat := fstF (fun i => !ltr (g (p + i))) 80
def wEq (g : Nat → Int32) (p n i : Nat) : Bool := decide (n = sLen i) && !anyF (fun j => !decide (g (p + j) = sByt i j)) (sLen i)
def wrd (g : Nat → Int32) (p n : Nat) : Int32 := if wEq g p n 0 = true then 0 else if wEq g p n 1 = true then 1 else if wEq g p n 2 = true then 2 else if wEq g p n 3 = true then 3 else if wEq g p n 4 = true then 4 else -1
def rnOk (g : Nat → Int32) (e : Nat) : Bool := decide (g e = 32) && dig (g (e + 1))
def rnE (g : Nat → Int32) (e : Nat) : Nat := if ¬ g e = 32 then e else if dig (g (e + 1)) = false then e + 1 else if dig (g (e + 2)) = false then e + 2 else e + 3
def rnV (g : Nat → Int32) (e : Nat) : Int32 := if dig (g (e + 2)) = false then g (e + 1) - 48 else 10 * (g (e + 1) - 48) + (g (e + 2) - 48)
def rnM (σ : fM) (g : Nat → Int32) (e i : Nat) : fM := if rnOk g e = false then pu σ 3 4 (nI (rnE g e)) else pu (pu σ 3 4 (nI (rnE g e))) 5 i (rnV g e)
theorem rnE_le (g : Nat → Int32) (e : Nat) : rnE g e ≤ e + 3 := by unfold rnE; split <;> (try split) <;> (try split) <;> omega
def crM (τ : fM) : fM := if τ.1 3 5 = 4 then (if wi (τ.1 5 0) 0 50 = true then τ else pu τ 3 6 2) else if isA (τ.1 5 0) = false then pu τ 3 6 2 else if wi (τ.1 5 1) 1 40 = true then τ else pu (pu τ 3 6 2) 3 7 1
theorem pu_id (σ : fM) (k j : Nat) : pu σ k j (σ.1 k j) = σ := by
  refine Prod.ext ?_ rfl
  funext k' j'
  simp only [pu]
  split
  · rename_i h; rw [h.1, h.2]
  · rfl
theorem chr_cg {σ τ : fM} (h : τ.1 4 = σ.1 4) (t : Nat) : chr τ t = chr σ t := by funext p; unfold chr; rw [h]
theorem tx_cg {σ τ : fM} {t : Nat} (h4 : τ.1 4 = σ.1 4) (h2 : τ.1 3 2 = σ.1 3 2) (h : tx σ t) : tx τ t := ⟨by rw [h2]; exact h.1, h.2.1, by rw [h4]; exact h.2.2⟩
theorem tx_pu {σ : fM} {t j : Nat} {v : Int32} (h : tx σ t) (hj : ¬ 2 = j) : tx (pu σ 3 j v) t := tx_cg (pu_ne _ (by decide)) (by rw [pu_puR, puR_self, upd_n _ _ _ _ hj]) h
theorem tx_pu5 {σ : fM} {t j : Nat} {v : Int32} (h : tx σ t) : tx (pu σ 5 j v) t := tx_cg (pu_ne _ (by decide)) (by rw [pu_ne _ (by decide)]) h
theorem chr_pu {σ : fM} {t j : Nat} {v : Int32} : chr (pu σ 3 j v) t = chr σ t := chr_cg (pu_ne _ (by decide)) t
theorem chr_pu5 {σ : fM} {t j : Nat} {v : Int32} : chr (pu σ 5 j v) t = chr σ t := chr_cg (pu_ne _ (by decide)) t

set_option maxRecDepth 100000 in
set_option maxHeartbeats 4000000 in
theorem ct_X4_characterAt {l : Launch} {X : fX} {σ : fM} {t : Nat} (ht : tx σ t) {p : Nat} (hp : p < 2 ^ 30) : Ct l X yX4_characterAt cX4_characterAt 2 (some .char) 1 [ra X 3, .int (nI p)] σ (some (.int (chr σ t p))) σ := by
  refine Ct.of RX4 rfl (by decide) (Nat.le_of_ble_eq_true rfl) ?_
  intro x hL h hr
  refine g_sub [(0, ra X 3), (1, .int (nI p))] ⟨rfl, rfl, trivial⟩ ?_
  refine g_iload_n h dX4_characterAt_0 rfl ?_
  refine g_iconst (v := 0) h dX4_characterAt_1 (by decide) ?_
  refine g_aload_n h dX4_characterAt_2 rfl ?_
  refine gf4_19 h  dX4_characterAt_3 ?_
  refine g_iconst (v := 1) h dX4_characterAt_6 (by decide) ?_
  refine g_isub h dX4_characterAt_7 ?_
  refine cl4_70 h (ct_X5_isWithin) rfl dX4_characterAt_8 rfl (Nat.le_of_ble_eq_true rfl) (by decide) ?_
  refine g_ifeqB h 23 dX4_characterAt_11 (by decide) (fun c11 => ?_) (fun c11 => ?_)
  · rw [ht.1, wi_t ht.2.1 hp] at c11
    have hpt : ¬ p < t := of_decide_eq_false c11
    refine g_iconst (v := 0) h dX4_characterAt_23 (by decide) ?_
    exact g_zret h hr (by first | exact (show Value.int (chr σ t p) = Value.int (σ.1 4 p) from congrArg Value.int (if_pos hpt)) ▸ chr_nar ht p | rfl) dX4_characterAt_24 (by first | exact (if_pos hpt).symm | exact (if_neg hpt).symm) rfl
  · rw [ht.1, wi_t ht.2.1 hp] at c11
    have hpt : p < t := of_decide_eq_true c11
    refine g_aload_n h dX4_characterAt_14 rfl ?_
    refine gf4_9 h  dX4_characterAt_15 ?_
    refine g_iload_n h dX4_characterAt_18 rfl ?_
    refine g_caldN h (k := 4) (by decide) (enc_4 X) rfl (by have := ht.2.1; omega) (by decide) dX4_characterAt_19 ?_
    refine g_goto h 24 dX4_characterAt_20 (by decide) ?_
    exact g_zret h hr (by first | exact (show Value.int (chr σ t p) = Value.int (σ.1 4 p) from congrArg Value.int (if_pos hpt)) ▸ chr_nar ht p | rfl) dX4_characterAt_24 (by first | exact (if_pos hpt).symm | exact (if_neg hpt).symm) rfl

set_option maxRecDepth 100000 in
set_option maxHeartbeats 4000000 in
theorem ct_X4_isDigit {l : Launch} {X : fX} {σ : fM} {c : Int32} : Ct l X yX4_isDigit cX4_isDigit 1 (some .boolean) 0 [.int c] σ (some (.int (bi (dig c)))) σ := by
  refine Ct.of RX4 rfl (by decide) (Nat.le_of_ble_eq_true rfl) ?_
  intro x hL h hr
  refine g_sub [(0, .int c)] ⟨rfl, trivial⟩ ?_
  refine g_iload_n h dX4_isDigit_0 rfl ?_
  refine g_bipush (v := 48) h dX4_isDigit_1 (by decide) ?_
  refine g_iclt h 16 dX4_isDigit_3 (by decide) (fun c3 => ?_) (fun c3 => ?_)
  · refine g_iconst (v := 0) h dX4_isDigit_16 (by decide) ?_
    exact g_zret h hr (by first | rfl | exact bi_n _) dX4_isDigit_17 (by first | (simp [dig, bi, c3]; done) | (simp_all [dig, bi]; done)) rfl
  · refine g_iload_n h dX4_isDigit_6 rfl ?_
    refine g_bipush (v := 57) h dX4_isDigit_7 (by decide) ?_
    refine g_icgt h 16 dX4_isDigit_9 (by decide) (fun c9 => ?_) (fun c9 => ?_)
    · refine g_iconst (v := 0) h dX4_isDigit_16 (by decide) ?_
      exact g_zret h hr (by first | rfl | exact bi_n _) dX4_isDigit_17 (by first | (simp [dig, bi, c3, c9]; done) | (simp_all [dig, bi]; done)) rfl
    · refine g_iconst (v := 1) h dX4_isDigit_12 (by decide) ?_
      refine g_goto h 17 dX4_isDigit_13 (by decide) ?_
      exact g_zret h hr (by first | rfl | exact bi_n _) dX4_isDigit_17 (by first | (simp [dig, bi, c3, c9]; done) | (simp_all [dig, bi]; done)) rfl

set_option maxRecDepth 100000 in
set_option maxHeartbeats 4000000 in
theorem ct_X4_endOfLetters {l : Launch} {X : fX} {σ : fM} {t : Nat} (ht : tx σ t) {p : Nat} (hp : p < 2 ^ 20) : Ct l X yX4_endOfLetters cX4_endOfLetters 4 (some .int) 2 [ra X 3, .int (nI p)] σ (some (.int (nI (p + lrn0 (chr σ t) p)))) σ := by
  refine Ct.of RX4 rfl (by decide) (Nat.le_of_ble_eq_true rfl) ?_
  intro x hL h hr
  refine g_sub [(0, ra X 3), (1, .int (nI p))] ⟨rfl, rfl, trivial⟩ ?_
  have LOOP : ∀ (q i : Nat), i + q = 80 → fstF (fun i => !ltr (chr σ t (p + i))) i = i → G x X σ [(0, ra X 3), (2, .int (nI (p + i))), (3, .int (nI i))] [] 4 := by
    intro q
    induction q with
    | zero =>
      intro i hi hfi
      have hie : i = 80 := by omega
      rw [hie] at hfi ⊢
      refine g_iload_n h dX4_endOfLetters_4 rfl ?_
      refine g_bipush (v := 80) h dX4_endOfLetters_5 (by decide) ?_
      refine g_icge h 39 dX4_endOfLetters_7 (by decide) (fun c7 => ?_) (fun c7 => absurd (Int32.le_refl _) c7)
      refine g_iload_n h dX4_endOfLetters_39 rfl ?_
      exact g_iret h hr dX4_endOfLetters_40 (by unfold lrn0; rw [hfi]) rfl
    | succ q ih =>
      intro i hi hfi
      have hlt : i < 80 := by omega
      refine g_iload_n h dX4_endOfLetters_4 rfl ?_
      refine g_bipush (v := 80) h dX4_endOfLetters_5 (by decide) ?_
      refine g_icge h 39 dX4_endOfLetters_7 (by decide) (fun c7 => absurd c7 (nI_ge (b := 80) hlt (by decide))) (fun c7 => ?_)
      refine g_aload_n h dX4_endOfLetters_10 rfl ?_
      refine g_iload_n h dX4_endOfLetters_11 rfl ?_
      refine cl4_53 h  (ct_X4_characterAt ht (by omega)) rfl dX4_endOfLetters_12 rfl (Nat.le_of_ble_eq_true rfl) (by decide) ?_
      refine g_bipush (v := 97) h dX4_endOfLetters_15 (by decide) ?_
      refine g_iclt h 39 dX4_endOfLetters_17 (by decide) (fun c17 => ?_) (fun c17 => ?_)
      · refine g_iload_n h dX4_endOfLetters_39 rfl ?_
        exact g_iret h hr dX4_endOfLetters_40 (by unfold lrn0; rw [fstF_at (p := (fun i => !ltr (chr σ t (p + i)))) hfi (by simp [ltr, c7, c17]) hlt]) rfl
      · refine g_aload_n h dX4_endOfLetters_20 rfl ?_
        refine g_iload_n h dX4_endOfLetters_21 rfl ?_
        refine cl4_53 h  (ct_X4_characterAt ht (by omega)) rfl dX4_endOfLetters_22 rfl (Nat.le_of_ble_eq_true rfl) (by decide) ?_
        refine g_bipush (v := 122) h dX4_endOfLetters_25 (by decide) ?_
        refine g_icgt h 39 dX4_endOfLetters_27 (by decide) (fun c27 => ?_) (fun c27 => ?_)
        · refine g_iload_n h dX4_endOfLetters_39 rfl ?_
          exact g_iret h hr dX4_endOfLetters_40 (by unfold lrn0; rw [fstF_at (p := (fun i => !ltr (chr σ t (p + i)))) hfi (by simp [ltr, c7, c17, c27]) hlt]) rfl
        · refine g_iincN h dX4_endOfLetters_30 rfl (by rw [hL]; decide) ?_
          refine g_iincN h dX4_endOfLetters_33 rfl (by rw [hL]; decide) ?_
          refine g_goto h 4 dX4_endOfLetters_36 (by decide) ?_
          refine g_sub [(0, ra X 3), (2, .int (nI (p + (i + 1)))), (3, .int (nI (i + 1)))] ⟨rfl, rfl, rfl, trivial⟩ ?_
          exact ih (i + 1) (by omega) (fstF_no hfi (by simp [ltr, c17, c27]))
  refine g_iload_n h dX4_endOfLetters_0 rfl ?_
  refine g_istore_n h dX4_endOfLetters_1 (by rw [hL]; decide) ?_
  refine g_iconst (v := 0) h dX4_endOfLetters_2 (by decide) ?_
  refine g_istore_n h dX4_endOfLetters_3 (by rw [hL]; decide) ?_
  refine g_sub [(0, ra X 3), (2, .int (nI (p + 0))), (3, .int (nI 0))] ⟨rfl, rfl, lk_0, trivial⟩ ?_
  exact LOOP 80 0 (by omega) rfl

theorem sLen_le {i : Nat} (hi : i < 5) : sLen i ≤ 4 := by
  rcases (show i = 0 ∨ i = 1 ∨ i = 2 ∨ i = 3 ∨ i = 4 by omega) with rfl | rfl | rfl | rfl | rfl <;> decide

set_option maxRecDepth 100000 in
set_option maxHeartbeats 4000000 in
theorem ct_X4_isWord {l : Launch} {X : fX} {σ : fM} {t : Nat} (ht : tx σ t) {p n i : Nat} (hp : p < 2 ^ 20) (hn : n < 2 ^ 20) (hi : i < 5) (hst : σ.1 3 3 = nI p) : Ct l X yX4_isWord cX4_isWord 4 (some .boolean) 4 [ra X 3, rs X i, .int (nI (p + n))] σ (some (.int (bi (wEq (chr σ t) p n i)))) σ := by
  refine Ct.of RX4 rfl (by decide) (Nat.le_of_ble_eq_true rfl) ?_
  intro x hL h hr
  refine g_sub [(0, ra X 3), (1, rs X i), (2, .int (nI (p + n)))] ⟨rfl, rfl, rfl, trivial⟩ ?_
  have h4 := sLen_le hi
  refine g_iload_n h dX4_isWord_0 rfl ?_
  refine g_aload_n h dX4_isWord_1 rfl ?_
  refine gf4_33 h  dX4_isWord_2 ?_
  refine g_isub h dX4_isWord_5 ?_
  refine g_aload_n h dX4_isWord_6 rfl ?_
  refine g_slength h hi dX4_isWord_7 (Nat.le_of_ble_eq_true rfl) (by decide) ?_
  refine g_iceq h 15 dX4_isWord_10 (by decide) (fun c10 => ?_) (fun c10 => ?_)
  · rw [hst, show nI (p + n) - nI p = nI n from by rw [pk_sub (by omega)]; exact congrArg nI (by omega)] at c10
    have c10 : n = sLen i := (nI_eq (by omega) (by omega)).mp c10
    have LOOP : ∀ (q j : Nat), j + q = (sLen i) → anyF (fun j => !decide (chr σ t (p + j) = sByt i j)) j = false → G x X σ [(0, ra X 3), (1, rs X i), (3, .int (nI j))] [] 17 := by
      intro q
      induction q with
      | zero =>
        intro j hj hfi
        have hie : j = (sLen i) := by omega
        rw [hie] at hfi ⊢
        refine g_iload_n h dX4_isWord_17 rfl ?_
        refine g_aload_n h dX4_isWord_18 rfl ?_
        refine g_slength h hi dX4_isWord_19 (Nat.le_of_ble_eq_true rfl) (by decide) ?_
        refine g_icge h 51 dX4_isWord_22 (by decide) (fun c22 => ?_) (fun c22 => absurd (Int32.le_refl _) c22)
        refine g_iconst (v := 1) h dX4_isWord_51 (by decide) ?_
        exact g_zret h hr (by first | rfl | exact bi_n _) dX4_isWord_52 (by simp [wEq, c10, hfi, bi]) rfl
      | succ q ih =>
        intro j hj hfi
        have hlt : j < (sLen i) := by omega
        refine g_iload_n h dX4_isWord_17 rfl ?_
        refine g_aload_n h dX4_isWord_18 rfl ?_
        refine g_slength h hi dX4_isWord_19 (Nat.le_of_ble_eq_true rfl) (by decide) ?_
        refine g_icge h 51 dX4_isWord_22 (by decide) (fun c22 => absurd c22 (nI_ge hlt (by omega))) (fun c22 => ?_)
        refine g_aload_n h dX4_isWord_25 rfl ?_
        refine g_aload_n h dX4_isWord_26 rfl ?_
        refine gf4_33 h  dX4_isWord_27 ?_
        refine g_iload_n h dX4_isWord_30 rfl ?_
        refine g_iadd h dX4_isWord_31 ?_
        refine g_top (nI (p + j)) (by rw [hst, nI_add]) ?_
        refine cl4_53 h  (ct_X4_characterAt ht (by omega)) rfl dX4_isWord_32 rfl (Nat.le_of_ble_eq_true rfl) (by decide) ?_
        refine g_aload_n h dX4_isWord_35 rfl ?_
        refine g_iload_n h dX4_isWord_36 rfl ?_
        refine g_scharAt h hi hlt dX4_isWord_37 (Nat.le_of_ble_eq_true rfl) (by decide) ?_
        refine g_iceq h 45 dX4_isWord_40 (by decide) (fun c40 => ?_) (fun c40 => ?_)
        · refine g_iincN h dX4_isWord_45 rfl (by rw [hL]; decide) ?_
          refine g_goto h 17 dX4_isWord_48 (by decide) ?_
          refine g_sub [(0, ra X 3), (1, rs X i), (3, .int (nI (j + 1)))] ⟨rfl, rfl, rfl, trivial⟩ ?_
          exact ih (j + 1) (by omega) (by show (anyF (fun j => !decide (chr σ t (p + j) = sByt i j)) j || !decide (chr σ t (p + j) = sByt i j)) = false; rw [hfi, c40]; simp)
        · refine g_iconst (v := 0) h dX4_isWord_43 (by decide) ?_
          exact g_zret h hr (by first | rfl | exact bi_n _) dX4_isWord_44 (by simp [wEq, c10, anyF_t (f := (fun j => !decide (chr σ t (p + j) = sByt i j))) hlt (by simp [c40]), bi]) rfl
    refine g_iconst (v := 0) h dX4_isWord_15 (by decide) ?_
    refine g_istore_n h dX4_isWord_16 (by rw [hL]; decide) ?_
    refine g_sub [(0, ra X 3), (1, rs X i), (3, .int (nI 0))] ⟨rfl, rfl, lk_0, trivial⟩ ?_
    exact LOOP (sLen i) 0 (by omega) rfl
  · rw [hst, show nI (p + n) - nI p = nI n from by rw [pk_sub (by omega)]; exact congrArg nI (by omega)] at c10
    have c10 : ¬ n = sLen i := fun e => c10 (congrArg nI e)
    refine g_iconst (v := 0) h dX4_isWord_13 (by decide) ?_
    exact g_zret h hr (by first | rfl | exact bi_n _) dX4_isWord_14 (by simp [wEq, c10, bi]) rfl
set_option maxRecDepth 100000 in
set_option maxHeartbeats 4000000 in
theorem ct_X4_wordUpTo {l : Launch} {X : fX} {σ : fM} {t : Nat} (ht : tx σ t) {p n : Nat} (hp : p < 2 ^ 20) (hn : n < 2 ^ 20) (hst : σ.1 3 3 = nI p) : Ct l X yX4_wordUpTo cX4_wordUpTo 2 (some .int) 5 [ra X 3, .int (nI (p + n))] σ (some (.int (wrd (chr σ t) p n))) σ := by
  refine Ct.of RX4 rfl (by decide) (Nat.le_of_ble_eq_true rfl) ?_
  intro x hL h hr
  refine g_sub [(0, ra X 3), (1, .int (nI (p + n)))] ⟨rfl, rfl, trivial⟩ ?_
  refine g_aload_n h dX4_wordUpTo_0 rfl ?_
  refine g_ldcS h 0 h.hZ.2.2.2.1 dX4_wordUpTo_1 ?_
  refine g_iload_n h dX4_wordUpTo_3 rfl ?_
  refine cl4_79 h  (ct_X4_isWord ht hp hn (i := 0) (by decide) hst) rfl dX4_wordUpTo_4 rfl (Nat.le_of_ble_eq_true rfl) (by decide) ?_
  refine g_ifeqB h 12 dX4_wordUpTo_7 (by decide) (fun c7 => ?_) (fun c7 => ?_)
  · refine g_aload_n h dX4_wordUpTo_12 rfl ?_
    refine g_ldcS h 1 h.hZ.2.2.2.2.1 dX4_wordUpTo_13 ?_
    refine g_iload_n h dX4_wordUpTo_15 rfl ?_
    refine cl4_79 h  (ct_X4_isWord ht hp hn (i := 1) (by decide) hst) rfl dX4_wordUpTo_16 rfl (Nat.le_of_ble_eq_true rfl) (by decide) ?_
    refine g_ifeqB h 24 dX4_wordUpTo_19 (by decide) (fun c19 => ?_) (fun c19 => ?_)
    · refine g_aload_n h dX4_wordUpTo_24 rfl ?_
      refine g_ldcS h 2 h.hZ.2.2.2.2.2.1 dX4_wordUpTo_25 ?_
      refine g_iload_n h dX4_wordUpTo_27 rfl ?_
      refine cl4_79 h  (ct_X4_isWord ht hp hn (i := 2) (by decide) hst) rfl dX4_wordUpTo_28 rfl (Nat.le_of_ble_eq_true rfl) (by decide) ?_
      refine g_ifeqB h 36 dX4_wordUpTo_31 (by decide) (fun c31 => ?_) (fun c31 => ?_)
      · refine g_aload_n h dX4_wordUpTo_36 rfl ?_
        refine g_ldcS h 3 h.hZ.2.2.2.2.2.2.1 dX4_wordUpTo_37 ?_
        refine g_iload_n h dX4_wordUpTo_39 rfl ?_
        refine cl4_79 h  (ct_X4_isWord ht hp hn (i := 3) (by decide) hst) rfl dX4_wordUpTo_40 rfl (Nat.le_of_ble_eq_true rfl) (by decide) ?_
        refine g_ifeqB h 48 dX4_wordUpTo_43 (by decide) (fun c43 => ?_) (fun c43 => ?_)
        · refine g_aload_n h dX4_wordUpTo_48 rfl ?_
          refine g_ldcS h 4 h.hZ.2.2.2.2.2.2.2 dX4_wordUpTo_49 ?_
          refine g_iload_n h dX4_wordUpTo_51 rfl ?_
          refine cl4_79 h  (ct_X4_isWord ht hp hn (i := 4) (by decide) hst) rfl dX4_wordUpTo_52 rfl (Nat.le_of_ble_eq_true rfl) (by decide) ?_
          refine g_ifeqB h 62 dX4_wordUpTo_55 (by decide) (fun c55 => ?_) (fun c55 => ?_)
          · refine g_iconst (v := (-1)) h dX4_wordUpTo_62 (by decide) ?_
            exact g_iret h hr dX4_wordUpTo_63 (by simp [wrd, c7, c19, c31, c43, c55]) rfl
          · refine g_iconst (v := 4) h dX4_wordUpTo_58 (by decide) ?_
            refine g_goto h 63 dX4_wordUpTo_59 (by decide) ?_
            exact g_iret h hr dX4_wordUpTo_63 (by simp [wrd, c7, c19, c31, c43, c55]) rfl
        · refine g_iconst (v := 3) h dX4_wordUpTo_46 (by decide) ?_
          exact g_iret h hr dX4_wordUpTo_47 (by simp [wrd, c7, c19, c31, c43]) rfl
      · refine g_iconst (v := 2) h dX4_wordUpTo_34 (by decide) ?_
        exact g_iret h hr dX4_wordUpTo_35 (by simp [wrd, c7, c19, c31]) rfl
    · refine g_iconst (v := 1) h dX4_wordUpTo_22 (by decide) ?_
      exact g_iret h hr dX4_wordUpTo_23 (by simp [wrd, c7, c19]) rfl
  · refine g_iconst (v := 0) h dX4_wordUpTo_10 (by decide) ?_
    exact g_iret h hr dX4_wordUpTo_11 (by simp [wrd, c7]) rfl


theorem rn_lk {σ : fM} {e : Nat} (v : Int32) : (pu σ 3 4 v).1 3 4 = v := by rw [pu_puR, puR_self, upd_s]


theorem pu_comm (σ : fM) {k k' j j' : Nat} {v v' : Int32} (h : k ≠ k') : pu (pu σ k j v) k' j' v' = pu (pu σ k' j' v') k j v := by
  rw [pu_puR (pu σ k j v), pu_ne _ (fun e => h e.symm), pu_puR σ k, puR_comm _ h, pu_puR (pu σ k' j' v'), pu_ne _ h, pu_puR σ k']
theorem pu_pu (σ : fM) (k j : Nat) (v v' : Int32) : pu (pu σ k j v) k j v' = pu σ k j v' := by
  refine Prod.ext ?_ rfl
  funext q r
  simp only [pu]
  split <;> rfl
theorem pu_pu5 (σ : fM) (i : Nat) (a b : Int32) (u v : Int32) : pu (pu (pu (pu σ 3 4 a) 5 i u) 5 i v) 3 4 b = pu (pu σ 3 4 b) 5 i v := by
  rw [pu_pu, pu_comm _ (by decide), pu_pu]

set_option maxRecDepth 100000 in
set_option maxHeartbeats 4000000 in
theorem ct_X4_readNumber {l : Launch} {X : fX} {σ : fM} {t : Nat} (ht : tx σ t) {e i : Nat} (he2 : e < 2 ^ 20) (he : σ.1 3 4 = nI e) (hi : i < 2) : Ct l X yX4_readNumber cX4_readNumber 2 (some .boolean) 2 [ra X 3, .int (nI i)] σ (some (.int (bi (rnOk (chr σ t) e)))) (rnM σ (chr σ t) e i) := by
  refine Ct.of RX4 rfl (by decide) (Nat.le_of_ble_eq_true rfl) ?_
  intro x hL h hr
  refine g_sub [(0, ra X 3), (1, .int (nI i))] ⟨rfl, rfl, trivial⟩ ?_
  refine g_aload_n h dX4_readNumber_0 rfl ?_
  refine g_aload_n h dX4_readNumber_1 rfl ?_
  refine gf4_30 h  dX4_readNumber_2 ?_
  refine g_top (nI e) he ?_
  refine cl4_53 h  (ct_X4_characterAt ht (by omega)) rfl dX4_readNumber_5 rfl (Nat.le_of_ble_eq_true rfl) (by decide) ?_
  refine g_bipush (v := 32) h dX4_readNumber_8 (by decide) ?_
  refine g_iceq h 15 dX4_readNumber_10 (by decide) (fun c10 => ?_) (fun c10 => ?_)
  · refine g_aload_n h dX4_readNumber_15 rfl ?_
    refine g_dup h dX4_readNumber_16 rfl ?_
    refine gf4_30 h  dX4_readNumber_17 ?_
    refine g_iconst (v := 1) h dX4_readNumber_20 (by decide) ?_
    refine g_iadd h dX4_readNumber_21 ?_
    refine g_top (nI (e + 1)) (by rw [he]; exact nI_1 e) ?_
    refine gp4_30 h  dX4_readNumber_22 ?_
    have ht1 := tx_pu (j := 4) (v := nI (e + 1)) ht (by decide)
    have h1 : (pu σ 3 4 (nI (e + 1))).1 3 4 = nI (e + 1) := rn_lk (e := e) _
    have hg1 : chr (pu σ 3 4 (nI (e + 1))) t = chr σ t := chr_pu
    refine g_aload_n h dX4_readNumber_25 rfl ?_
    refine g_aload_n h dX4_readNumber_26 rfl ?_
    refine gf4_30 h  dX4_readNumber_27 ?_
    refine g_top (nI (e + 1)) h1 ?_
    refine cl4_53 h  (ct_X4_characterAt ht1 (by omega)) rfl dX4_readNumber_30 rfl (Nat.le_of_ble_eq_true rfl) (by decide) ?_
    refine g_top (chr σ t (e + 1)) (by rw [hg1]) ?_
    refine cl4_60 h (ct_X4_isDigit) rfl dX4_readNumber_33 rfl (Nat.le_of_ble_eq_true rfl) (by decide) ?_
    refine g_ifneB h 41 dX4_readNumber_36 (by decide) (fun c36 => ?_) (fun c36 => ?_)
    · refine g_aload_n h dX4_readNumber_41 rfl ?_
      refine gf4_15 h  dX4_readNumber_42 ?_
      refine g_iload_n h dX4_readNumber_45 rfl ?_
      refine g_aload_n h dX4_readNumber_46 rfl ?_
      refine g_aload_n h dX4_readNumber_47 rfl ?_
      refine gf4_30 h  dX4_readNumber_48 ?_
      refine g_top (nI (e + 1)) h1 ?_
      refine cl4_53 h  (ct_X4_characterAt ht1 (by omega)) rfl dX4_readNumber_51 rfl (Nat.le_of_ble_eq_true rfl) (by decide) ?_
      refine g_top (chr σ t (e + 1)) (by rw [hg1]) ?_
      refine g_bipush (v := 48) h dX4_readNumber_54 (by decide) ?_
      refine g_isub h dX4_readNumber_56 ?_
      refine g_iastN h (k := 5) (by decide) (enc_5 X) rfl hi (by decide) dX4_readNumber_57 ?_
      refine g_aload_n h dX4_readNumber_58 rfl ?_
      refine g_dup h dX4_readNumber_59 rfl ?_
      refine gf4_30 h  dX4_readNumber_60 ?_
      refine g_iconst (v := 1) h dX4_readNumber_63 (by decide) ?_
      refine g_iadd h dX4_readNumber_64 ?_
      refine g_top (nI (e + 2)) (by rw [pu_ne _ (by decide), h1]; exact nI_1 (e + 1)) ?_
      refine gp4_30 h  dX4_readNumber_65 ?_
      refine g_mem (pu (pu σ 3 4 (nI (e + 2))) 5 i (chr σ t (e + 1) - 48)) (by rw [pu_comm _ (by decide), pu_pu]) ?_
      have ht2 : tx (pu (pu σ 3 4 (nI (e + 2))) 5 i (chr σ t (e + 1) - 48)) t := tx_pu5 (tx_pu ht (by decide))
      have h2 : (pu (pu σ 3 4 (nI (e + 2))) 5 i (chr σ t (e + 1) - 48)).1 3 4 = nI (e + 2) := by rw [pu_ne _ (by decide)]; exact rn_lk (e := e) _
      have hg2 : chr (pu (pu σ 3 4 (nI (e + 2))) 5 i (chr σ t (e + 1) - 48)) t = chr σ t := chr_pu5.trans chr_pu
      refine g_aload_n h dX4_readNumber_68 rfl ?_
      refine g_aload_n h dX4_readNumber_69 rfl ?_
      refine gf4_30 h  dX4_readNumber_70 ?_
      refine g_top (nI (e + 2)) h2 ?_
      refine cl4_53 h  (ct_X4_characterAt ht2 (by omega)) rfl dX4_readNumber_73 rfl (Nat.le_of_ble_eq_true rfl) (by decide) ?_
      refine g_top (chr σ t (e + 2)) (by rw [hg2]) ?_
      refine cl4_60 h (ct_X4_isDigit) rfl dX4_readNumber_76 rfl (Nat.le_of_ble_eq_true rfl) (by decide) ?_
      refine g_ifeqB h 119 dX4_readNumber_79 (by decide) (fun c79 => ?_) (fun c79 => ?_)
      · refine g_iconst (v := 1) h dX4_readNumber_119 (by decide) ?_
        exact g_zret h hr (by first | rfl | exact bi_n _) dX4_readNumber_120 (by simp [rnOk, c10, c36, bi]) (by simp only [rnM, rnOk, rnE, rnV, c10, c36, c79]; simp [pu_pu5])
      · refine g_aload_n h dX4_readNumber_82 rfl ?_
        refine gf4_15 h  dX4_readNumber_83 ?_
        refine g_iload_n h dX4_readNumber_86 rfl ?_
        refine g_bipush (v := 10) h dX4_readNumber_87 (by decide) ?_
        refine g_aload_n h dX4_readNumber_89 rfl ?_
        refine gf4_15 h  dX4_readNumber_90 ?_
        refine g_iload_n h dX4_readNumber_93 rfl ?_
        refine g_ialdN h (k := 5) (by decide) (enc_5 X) rfl hi (by decide) dX4_readNumber_94 ?_
        refine g_top (chr σ t (e + 1) - 48) (by rw [pu_puR, puR_self, upd_s]) ?_
        refine g_imul h dX4_readNumber_95 ?_
        refine g_aload_n h dX4_readNumber_96 rfl ?_
        refine g_aload_n h dX4_readNumber_97 rfl ?_
        refine gf4_30 h  dX4_readNumber_98 ?_
        refine g_top (nI (e + 2)) h2 ?_
        refine cl4_53 h  (ct_X4_characterAt ht2 (by omega)) rfl dX4_readNumber_101 rfl (Nat.le_of_ble_eq_true rfl) (by decide) ?_
        refine g_top (chr σ t (e + 2)) (by rw [hg2]) ?_
        refine g_bipush (v := 48) h dX4_readNumber_104 (by decide) ?_
        refine g_isub h dX4_readNumber_106 ?_
        refine g_iadd h dX4_readNumber_107 ?_
        refine g_iastN h (k := 5) (by decide) (enc_5 X) rfl hi (by decide) dX4_readNumber_108 ?_
        refine g_aload_n h dX4_readNumber_109 rfl ?_
        refine g_dup h dX4_readNumber_110 rfl ?_
        refine gf4_30 h  dX4_readNumber_111 ?_
        refine g_iconst (v := 1) h dX4_readNumber_114 (by decide) ?_
        refine g_iadd h dX4_readNumber_115 ?_
        refine g_top (nI (e + 3)) (by rw [pu_ne _ (by decide), h2]; exact nI_1 (e + 2)) ?_
        refine gp4_30 h  dX4_readNumber_116 ?_
        refine g_iconst (v := 1) h dX4_readNumber_119 (by decide) ?_
        exact g_zret h hr (by first | rfl | exact bi_n _) dX4_readNumber_120 (by simp [rnOk, c10, c36, bi]) (by simp only [rnM, rnOk, rnE, rnV, c10, c36, c79]; simp [pu_pu5])
    · refine g_iconst (v := 0) h dX4_readNumber_39 (by decide) ?_
      exact g_zret h hr (by first | rfl | exact bi_n _) dX4_readNumber_40 (by simp [rnOk, c10, c36, bi]) (by simp [rnM, rnOk, rnE, c10, c36])
  · refine g_iconst (v := 0) h dX4_readNumber_13 (by decide) ?_
    exact g_zret h hr (by first | rfl | exact bi_n _) dX4_readNumber_14 (by simp [rnOk, c10, bi]) (by unfold rnM rnE; rw [if_pos (by simp [rnOk, c10]), if_pos c10, ← he, pu_id])

set_option maxRecDepth 100000 in
set_option maxHeartbeats 4000000 in
theorem ct_X4_checkRanges {l : Launch} {X : fX} {σ : fM}  : Ct l X yX4_checkRanges cX4_checkRanges 1 none 2 [ra X 3] σ none (crM σ) := by
  refine Ct.of RX4 rfl (by decide) (Nat.le_of_ble_eq_true rfl) ?_
  intro x hL h hr
  refine g_sub [(0, ra X 3)] ⟨rfl, trivial⟩ ?_
  refine g_aload_n h dX4_checkRanges_0 rfl ?_
  refine gf4_46 h  dX4_checkRanges_1 ?_
  refine g_iconst (v := 4) h dX4_checkRanges_4 (by decide) ?_
  refine g_icne h 38 dX4_checkRanges_5 (by decide) (fun c5 => ?_) (fun c5 => ?_)
  · refine g_aload_n h dX4_checkRanges_38 rfl ?_
    refine gf4_15 h  dX4_checkRanges_39 ?_
    refine g_iconst (v := 0) h dX4_checkRanges_42 (by decide) ?_
    refine g_ialdN h (k := 5) (by decide) (enc_5 X) nI_0.symm (by decide) (by decide) dX4_checkRanges_43 ?_
    refine cl4_74 h (ct_X5_isAddress) rfl dX4_checkRanges_44 rfl (Nat.le_of_ble_eq_true rfl) (by decide) ?_
    refine g_ifneB h 58 dX4_checkRanges_47 (by decide) (fun c47 => ?_) (fun c47 => ?_)
    · refine g_aload_n h dX4_checkRanges_58 rfl ?_
      refine gf4_15 h  dX4_checkRanges_59 ?_
      refine g_iconst (v := 1) h dX4_checkRanges_62 (by decide) ?_
      refine g_ialdN h (k := 5) (by decide) (enc_5 X) (show (1 : Int32) = nI 1 by decide) (by decide) (by decide) dX4_checkRanges_63 ?_
      refine g_iconst (v := 1) h dX4_checkRanges_64 (by decide) ?_
      refine g_bipush (v := 40) h dX4_checkRanges_65 (by decide) ?_
      refine cl4_70 h (ct_X5_isWithin) rfl dX4_checkRanges_67 rfl (Nat.le_of_ble_eq_true rfl) (by decide) ?_
      refine g_ifneB h 83 dX4_checkRanges_70 (by decide) (fun c70 => ?_) (fun c70 => ?_)
      · exact g_vret h hr dX4_checkRanges_83 (by simp [crM, c5, c47, c70])
      · refine g_aload_n h dX4_checkRanges_73 rfl ?_
        refine g_iconst (v := 2) h dX4_checkRanges_74 (by decide) ?_
        refine gp4_27 h  dX4_checkRanges_75 ?_
        refine g_aload_n h dX4_checkRanges_78 rfl ?_
        refine g_iconst (v := 1) h dX4_checkRanges_79 (by decide) ?_
        refine gp4_36 h  dX4_checkRanges_80 ?_
        exact g_vret h hr dX4_checkRanges_83 (by simp [crM, c5, c47, c70])
    · refine g_aload_n h dX4_checkRanges_50 rfl ?_
      refine g_iconst (v := 2) h dX4_checkRanges_51 (by decide) ?_
      refine gp4_27 h  dX4_checkRanges_52 ?_
      refine g_goto h 83 dX4_checkRanges_55 (by decide) ?_
      exact g_vret h hr dX4_checkRanges_83 (by simp [crM, c5, c47])
  · refine g_aload_n h dX4_checkRanges_8 rfl ?_
    refine gf4_15 h  dX4_checkRanges_9 ?_
    refine g_iconst (v := 0) h dX4_checkRanges_12 (by decide) ?_
    refine g_ialdN h (k := 5) (by decide) (enc_5 X) nI_0.symm (by decide) (by decide) dX4_checkRanges_13 ?_
    refine g_s4_64 h dX4_checkRanges_14 ?_
    refine g_iconst (v := 1) h dX4_checkRanges_17 (by decide) ?_
    refine g_tiL h (j := 1) (by decide) (by decide) dX4_checkRanges_18 ?_
    refine g_s4_67 h dX4_checkRanges_19 ?_
    refine g_iconst (v := 1) h dX4_checkRanges_22 (by decide) ?_
    refine g_tiM h (j := 1) (by decide) (by decide) dX4_checkRanges_23 ?_
    refine g_st [.int 50, .int 0, .int (σ.1 5 0)] rfl ?_
    refine cl4_70 h (ct_X5_isWithin) rfl dX4_checkRanges_24 rfl (Nat.le_of_ble_eq_true rfl) (by decide) ?_
    refine g_ifneB h 83 dX4_checkRanges_27 (by decide) (fun c27 => ?_) (fun c27 => ?_)
    · exact g_vret h hr dX4_checkRanges_83 (by simp [crM, c5, c27])
    · refine g_aload_n h dX4_checkRanges_30 rfl ?_
      refine g_iconst (v := 2) h dX4_checkRanges_31 (by decide) ?_
      refine gp4_27 h  dX4_checkRanges_32 ?_
      refine g_goto h 83 dX4_checkRanges_35 (by decide) ?_
      exact g_vret h hr dX4_checkRanges_83 (by simp [crM, c5, c27])
