/-! the model: texts. g: its characters, 0 behind the end -/
def mtx (σ : fM) (t : Nat) : Prop := σ.1 150 5 = nI t ∧ t ≤ 80
def chm (σ : fM) (t p : Nat) : Int32 := if p < t then σ.1 154 p else 0
def chx (σ : fM) (t p : Nat) : Int32 := if p < t then σ.1 154 p else -1
theorem chx_c (σ : fM) (t p : Nat) {c : Nat} (h0 : 0 < c) (hc : c < 127) : (chx σ t p = nI c) = (chm σ t p = nI c) := by
  unfold chx chm
  split
  · rfl
  · refine propext ⟨fun h => ?_, fun h => ?_⟩
    · exact absurd ((by decide : (-1 : Int32) < 0)) (h ▸ nI_pos (by omega))
    · exact absurd h.symm (nI_ne0 h0 (by omega))
theorem chx_32 (σ : fM) (t p : Nat) : (chx σ t p = 32) = (chm σ t p = 32) := chx_c σ t p (c := 32) (by decide) (by decide)
theorem chx_59 (σ : fM) (t p : Nat) : (chx σ t p = 59) = (chm σ t p = 59) := chx_c σ t p (c := 59) (by decide) (by decide)
theorem chx_l (σ : fM) (t p : Nat) : wi (chx σ t p) 97 122 = ltr (chm σ t p) := by
  unfold chx chm
  split
  · rfl
  · decide
theorem chx_d (σ : fM) (t p : Nat) : wi (chx σ t p) 48 57 = dig (chm σ t p) := by
  unfold chx chm
  split
  · rfl
  · decide
theorem chx_dig {σ : fM} {t p : Nat} (h : dig (chm σ t p) = true) : chx σ t p = chm σ t p := by
  unfold chx chm at *
  by_cases hp : p < t
  · rw [if_pos hp, if_pos hp]
  · rw [if_neg hp] at h; exact absurd h (by decide)
theorem dig_v {c : Int32} (h : dig c = true) : ∃ v : Nat, v ≤ 9 ∧ c = nI (48 + v) := by
  obtain ⟨h1, h2⟩ := wi_of.mp (show wi c 48 57 = true from h)
  obtain ⟨j, hj, e⟩ := nI_of (fun q => h1 (Int32.lt_of_lt_of_le q (by decide)))
  subst e
  have a1 : 48 ≤ j := Nat.not_lt.mp (fun q => h1 (nI_lt (b := 48) q (by decide)))
  have a2 : j ≤ 57 := Nat.not_lt.mp (fun q => h2 (nI_lt (a := 57) q hj))
  exact ⟨j - 48, by omega, by rw [show 48 + (j - 48) = j by omega]⟩
theorem rnV_v {g : Nat → Int32} {e : Nat} (h : rnOk g e = true) : ∃ v : Nat, v ≤ 99 ∧ rnV g e = nI v := by
  have hd : dig (g (e + 1)) = true := by unfold rnOk at h; simp at h; exact h.2
  obtain ⟨v, hv, ev⟩ := dig_v hd
  unfold rnV
  by_cases h2 : dig (g (e + 2)) = true
  · obtain ⟨w, hw, ew⟩ := dig_v h2
    rw [if_neg (by rw [h2]; decide), ev, ew]
    refine ⟨10 * v + w, by omega, ?_⟩
    rw [show (48 : Int32) = nI 48 by decide, pk_sub (by omega), pk_sub (by omega), show (10 : Int32) = nI 10 by decide, pk_mul, nI_add]
    exact congrArg nI (by omega)
  · rw [if_pos (by simpa using h2), ev]
    exact ⟨v, by omega, by rw [show (48 : Int32) = nI 48 by decide, pk_sub (by omega)]; exact congrArg nI (by omega)⟩
/-- a word by its letters -/
def mwd (g : Nat → Int32) (p n a b c d : Nat) : Bool := decide (g p = nI a) && (decide (g (p + 1) = nI b) && (decide (g (p + 2) = nI c) && (if d = 0 then decide (n = 3) else decide (n = 4) && decide (g (p + 3) = nI d))))
theorem mwd_0 (g : Nat → Int32) (p n : Nat) : mwd g p n 116 97 107 101 = wEq g p n 0 := by
  unfold mwd wEq
  rw [if_neg (by decide), show sLen 0 = 4 from rfl]
  simp only [anyF, Bool.false_or, Nat.add_zero, show sByt 0 0 = nI 116 from rfl, show sByt 0 1 = nI 97 from rfl, show sByt 0 2 = nI 107 from rfl, show sByt 0 3 = nI 101 from rfl]
  cases decide (g p = nI 116) <;> cases decide (g (p + 1) = nI 97) <;> cases decide (g (p + 2) = nI 107) <;> cases decide (g (p + 3) = nI 101) <;> cases decide (n = 4) <;> rfl
theorem mwd_1 (g : Nat → Int32) (p n : Nat) : mwd g p n 115 107 105 112 = wEq g p n 1 := by
  unfold mwd wEq
  rw [if_neg (by decide), show sLen 1 = 4 from rfl]
  simp only [anyF, Bool.false_or, Nat.add_zero, show sByt 1 0 = nI 115 from rfl, show sByt 1 1 = nI 107 from rfl, show sByt 1 2 = nI 105 from rfl, show sByt 1 3 = nI 112 from rfl]
  cases decide (g p = nI 115) <;> cases decide (g (p + 1) = nI 107) <;> cases decide (g (p + 2) = nI 105) <;> cases decide (g (p + 3) = nI 112) <;> cases decide (n = 4) <;> rfl
theorem mwd_2 (g : Nat → Int32) (p n : Nat) : mwd g p n 102 108 105 112 = wEq g p n 2 := by
  unfold mwd wEq
  rw [if_neg (by decide), show sLen 2 = 4 from rfl]
  simp only [anyF, Bool.false_or, Nat.add_zero, show sByt 2 0 = nI 102 from rfl, show sByt 2 1 = nI 108 from rfl, show sByt 2 2 = nI 105 from rfl, show sByt 2 3 = nI 112 from rfl]
  cases decide (g p = nI 102) <;> cases decide (g (p + 1) = nI 108) <;> cases decide (g (p + 2) = nI 105) <;> cases decide (g (p + 3) = nI 112) <;> cases decide (n = 4) <;> rfl
theorem mwd_3 (g : Nat → Int32) (p n : Nat) : mwd g p n 108 111 111 112 = wEq g p n 3 := by
  unfold mwd wEq
  rw [if_neg (by decide), show sLen 3 = 4 from rfl]
  simp only [anyF, Bool.false_or, Nat.add_zero, show sByt 3 0 = nI 108 from rfl, show sByt 3 1 = nI 111 from rfl, show sByt 3 2 = nI 111 from rfl, show sByt 3 3 = nI 112 from rfl]
  cases decide (g p = nI 108) <;> cases decide (g (p + 1) = nI 111) <;> cases decide (g (p + 2) = nI 111) <;> cases decide (g (p + 3) = nI 112) <;> cases decide (n = 4) <;> rfl
theorem mwd_4 (g : Nat → Int32) (p n : Nat) : mwd g p n 99 117 116 0 = wEq g p n 4 := by
  unfold mwd wEq
  rw [if_pos rfl, show sLen 4 = 3 from rfl]
  simp only [anyF, Bool.false_or, Nat.add_zero, show sByt 4 0 = nI 99 from rfl, show sByt 4 1 = nI 117 from rfl, show sByt 4 2 = nI 116 from rfl]
  cases decide (g p = nI 99) <;> cases decide (g (p + 1) = nI 117) <;> cases decide (g (p + 2) = nI 116) <;> cases decide (n = 3) <;> rfl

set_option maxRecDepth 100000 in
set_option maxHeartbeats 4000000 in
theorem ct_X6_character {l : Launch} {X : fX} {σ : fM} {t : Nat} (ht : mtx σ t) {p : Nat} (hp : p < 2 ^ 30) : Ct l X yX6_character cX6_character 2 (some .int) 0 [ra X 150, .int (nI p)] σ (some (.int (chx σ t p))) σ := by
  refine Ct.of RX6 rfl (by decide) (Nat.le_of_ble_eq_true rfl) ?_
  intro x hL h hr
  refine g_sub [(0, ra X 150), (1, .int (nI p))] ⟨rfl, rfl, trivial⟩ ?_
  refine g_iload_n h dX6_character_0 rfl ?_
  refine g_aload_n h dX6_character_1 rfl ?_
  refine gf6_140 h  dX6_character_2 ?_
  refine g_icge h 17 dX6_character_5 (by decide) (fun c5 => ?_) (fun c5 => ?_)
  · rw [ht.1] at c5
    have hpt : ¬ p < t := fun q => nI_ge q (by have := ht.2; omega) c5
    refine g_iconst (v := (-1)) h dX6_character_17 (by decide) ?_
    exact g_iret h hr dX6_character_18 (by unfold chx; first | exact (if_pos hpt).symm | exact (if_neg hpt).symm) rfl
  · rw [ht.1] at c5
    have hpt : p < t := Nat.not_le.mp (fun q => c5 (nI_le q (by omega)))
    refine g_aload_n h dX6_character_8 rfl ?_
    refine gf6_19 h  dX6_character_9 ?_
    refine g_iload_n h dX6_character_12 rfl ?_
    refine g_ialdN h (k := 154) (by decide) (enc_154 X) rfl (by have := ht.2; omega) (by decide) dX6_character_13 ?_
    refine g_goto h 18 dX6_character_14 (by decide) ?_
    exact g_iret h hr dX6_character_18 (by unfold chx; first | exact (if_pos hpt).symm | exact (if_neg hpt).symm) rfl

set_option maxRecDepth 100000 in
set_option maxHeartbeats 4000000 in
theorem ct_X6_isLetter {l : Launch} {X : fX} {σ : fM} {t : Nat} (ht : mtx σ t) {p : Nat} (hp : p < 2 ^ 30) : Ct l X yX6_isLetter cX6_isLetter 2 (some .boolean) 1 [ra X 150, .int (nI p)] σ (some (.int (bi (ltr (chm σ t p))))) σ := by
  refine Ct.of RX6 rfl (by decide) (Nat.le_of_ble_eq_true rfl) ?_
  intro x hL h hr
  refine g_sub [(0, ra X 150), (1, .int (nI p))] ⟨rfl, rfl, trivial⟩ ?_
  refine g_aload_n h dX6_isLetter_0 rfl ?_
  refine g_iload_n h dX6_isLetter_1 rfl ?_
  refine cl6_143 h  (ct_X6_character (p := p) ht (by omega)) rfl dX6_isLetter_2 rfl (Nat.le_of_ble_eq_true rfl) (by decide) ?_
  refine g_bipush (v := 97) h dX6_isLetter_5 (by decide) ?_
  refine g_bipush (v := 122) h dX6_isLetter_7 (by decide) ?_
  refine cl6_42 h (ct_X6_within) rfl dX6_isLetter_9 rfl (Nat.le_of_ble_eq_true rfl) (by decide) ?_
  exact g_zret h hr (by first | rfl | exact bi_n _) dX6_isLetter_12 (congrArg bi (chx_l σ t p)) rfl

set_option maxRecDepth 100000 in
set_option maxHeartbeats 4000000 in
theorem ct_X6_isWord {l : Launch} {X : fX} {σ : fM} {t : Nat} (ht : mtx σ t) {p : Nat} (hp : p < 2 ^ 20) (hb : σ.1 150 10 = nI p) {n a b c d : Nat} (hn : n < 2 ^ 20) (ha : 0 < a ∧ a < 127) (hb2 : 0 < b ∧ b < 127) (hc : 0 < c ∧ c < 127) (hd : d < 127) : Ct l X yX6_isWord cX6_isWord 7 (some .boolean) 1 [ra X 150, .int (nI n), .int (nI a), .int (nI b), .int (nI c), .int (nI d)] σ (some (.int (bi (mwd (chm σ t) p n a b c d)))) σ := by
  refine Ct.of RX6 rfl (by decide) (Nat.le_of_ble_eq_true rfl) ?_
  intro x hL h hr
  refine g_sub [(0, ra X 150), (1, .int (nI n)), (2, .int (nI a)), (3, .int (nI b)), (4, .int (nI c)), (5, .int (nI d))] ⟨rfl, rfl, rfl, rfl, rfl, rfl, trivial⟩ ?_
  refine g_aload_n h dX6_isWord_0 rfl ?_
  refine g_aload_n h dX6_isWord_1 rfl ?_
  refine gf6_146 h  dX6_isWord_2 ?_
  refine g_top (nI p) hb ?_
  refine cl6_143 h  (ct_X6_character (p := p) ht (by omega)) rfl dX6_isWord_5 rfl (Nat.le_of_ble_eq_true rfl) (by decide) ?_
  refine g_iload_n h dX6_isWord_8 rfl ?_
  refine g_icne h 45 dX6_isWord_9 (by decide) (fun c9 => ?_) (fun c9 => ?_)
  · rw [chx_c _ _ _ (by omega) (by omega)] at c9
    refine g_iconst (v := 0) h dX6_isWord_45 (by decide) ?_
    refine g_istore h dX6_isWord_46 (by rw [hL]; decide) ?_
    refine g_iload h dX6_isWord_48 rfl ?_
    refine g_ifeq h 90 dX6_isWord_50 (by decide) (fun c50 => ?_) (fun c50 => absurd rfl c50)
    refine g_iconst (v := 0) h dX6_isWord_90 (by decide) ?_
    exact g_zret h hr (by first | rfl | exact bi_n _) dX6_isWord_91 (by first | (simp [mwd, bi, c9, c50]; done) | (simp [mwd, bi, hd0, hn3, c9, c50]; done) | (simp [mwd, bi, hd0, hn4, c9, c50]; done) | (simp_all [mwd, bi]; done)) rfl
  · rw [chx_c _ _ _ (by omega) (by omega)] at c9
    refine g_aload_n h dX6_isWord_12 rfl ?_
    refine g_aload_n h dX6_isWord_13 rfl ?_
    refine gf6_146 h  dX6_isWord_14 ?_
    refine g_iconst (v := 1) h dX6_isWord_17 (by decide) ?_
    refine g_iadd h dX6_isWord_18 ?_
    refine g_top (nI (p + 1)) (by rw [hb]; exact nI_add p 1) ?_
    refine cl6_143 h  (ct_X6_character (p := (p + 1)) ht (by omega)) rfl dX6_isWord_19 rfl (Nat.le_of_ble_eq_true rfl) (by decide) ?_
    refine g_iload_n h dX6_isWord_22 rfl ?_
    refine g_icne h 45 dX6_isWord_23 (by decide) (fun c23 => ?_) (fun c23 => ?_)
    · rw [chx_c _ _ _ (by omega) (by omega)] at c23
      refine g_iconst (v := 0) h dX6_isWord_45 (by decide) ?_
      refine g_istore h dX6_isWord_46 (by rw [hL]; decide) ?_
      refine g_iload h dX6_isWord_48 rfl ?_
      refine g_ifeq h 90 dX6_isWord_50 (by decide) (fun c50 => ?_) (fun c50 => absurd rfl c50)
      refine g_iconst (v := 0) h dX6_isWord_90 (by decide) ?_
      exact g_zret h hr (by first | rfl | exact bi_n _) dX6_isWord_91 (by first | (simp [mwd, bi, c9, c23, c50]; done) | (simp [mwd, bi, hd0, hn3, c9, c23, c50]; done) | (simp [mwd, bi, hd0, hn4, c9, c23, c50]; done) | (simp_all [mwd, bi]; done)) rfl
    · rw [chx_c _ _ _ (by omega) (by omega)] at c23
      refine g_aload_n h dX6_isWord_26 rfl ?_
      refine g_aload_n h dX6_isWord_27 rfl ?_
      refine gf6_146 h  dX6_isWord_28 ?_
      refine g_iconst (v := 2) h dX6_isWord_31 (by decide) ?_
      refine g_iadd h dX6_isWord_32 ?_
      refine g_top (nI (p + 2)) (by rw [hb]; exact nI_add p 2) ?_
      refine cl6_143 h  (ct_X6_character (p := (p + 2)) ht (by omega)) rfl dX6_isWord_33 rfl (Nat.le_of_ble_eq_true rfl) (by decide) ?_
      refine g_iload h dX6_isWord_36 rfl ?_
      refine g_icne h 45 dX6_isWord_38 (by decide) (fun c38 => ?_) (fun c38 => ?_)
      · rw [chx_c _ _ _ (by omega) (by omega)] at c38
        refine g_iconst (v := 0) h dX6_isWord_45 (by decide) ?_
        refine g_istore h dX6_isWord_46 (by rw [hL]; decide) ?_
        refine g_iload h dX6_isWord_48 rfl ?_
        refine g_ifeq h 90 dX6_isWord_50 (by decide) (fun c50 => ?_) (fun c50 => absurd rfl c50)
        refine g_iconst (v := 0) h dX6_isWord_90 (by decide) ?_
        exact g_zret h hr (by first | rfl | exact bi_n _) dX6_isWord_91 (by first | (simp [mwd, bi, c9, c23, c38, c50]; done) | (simp [mwd, bi, hd0, hn3, c9, c23, c38, c50]; done) | (simp [mwd, bi, hd0, hn4, c9, c23, c38, c50]; done) | (simp_all [mwd, bi]; done)) rfl
      · rw [chx_c _ _ _ (by omega) (by omega)] at c38
        refine g_iconst (v := 1) h dX6_isWord_41 (by decide) ?_
        refine g_goto h 46 dX6_isWord_42 (by decide) ?_
        refine g_istore h dX6_isWord_46 (by rw [hL]; decide) ?_
        refine g_iload h dX6_isWord_48 rfl ?_
        refine g_ifeq h 90 dX6_isWord_50 (by decide) (fun c50 => absurd c50 (by decide)) (fun c50 => ?_)
        refine g_iload h dX6_isWord_53 rfl ?_
        refine g_ifne h 66 dX6_isWord_55 (by decide) (fun c55 => ?_) (fun c55 => ?_)
        · have hd0 : ¬ d = 0 := fun e => c55 (by rw [e]; rfl)
          refine g_iload_n h dX6_isWord_66 rfl ?_
          refine g_iconst (v := 4) h dX6_isWord_67 (by decide) ?_
          refine g_icne h 90 dX6_isWord_68 (by decide) (fun c68 => ?_) (fun c68 => ?_)
          · have hn4 : ¬ n = 4 := fun e => c68 (by rw [e]; rfl)
            refine g_iconst (v := 0) h dX6_isWord_90 (by decide) ?_
            exact g_zret h hr (by first | rfl | exact bi_n _) dX6_isWord_91 (by first | (simp [mwd, bi, c9, c23, c38, c50, c55, c68]; done) | (simp [mwd, bi, hd0, hn3, c9, c23, c38, c50, c55, c68]; done) | (simp [mwd, bi, hd0, hn4, c9, c23, c38, c50, c55, c68]; done) | (simp_all [mwd, bi]; done)) rfl
          · have hn4 : n = 4 := (nI_eq (b := 4) (by omega) (by decide)).mp c68
            refine g_aload_n h dX6_isWord_71 rfl ?_
            refine g_aload_n h dX6_isWord_72 rfl ?_
            refine gf6_146 h  dX6_isWord_73 ?_
            refine g_iconst (v := 3) h dX6_isWord_76 (by decide) ?_
            refine g_iadd h dX6_isWord_77 ?_
            refine g_top (nI (p + 3)) (by rw [hb]; exact nI_add p 3) ?_
            refine cl6_143 h  (ct_X6_character (p := (p + 3)) ht (by omega)) rfl dX6_isWord_78 rfl (Nat.le_of_ble_eq_true rfl) (by decide) ?_
            refine g_iload h dX6_isWord_81 rfl ?_
            refine g_icne h 90 dX6_isWord_83 (by decide) (fun c83 => ?_) (fun c83 => ?_)
            · rw [chx_c _ _ _ (by omega) (by omega)] at c83
              refine g_iconst (v := 0) h dX6_isWord_90 (by decide) ?_
              exact g_zret h hr (by first | rfl | exact bi_n _) dX6_isWord_91 (by first | (simp [mwd, bi, c9, c23, c38, c50, c55, c68, c83]; done) | (simp [mwd, bi, hd0, hn3, c9, c23, c38, c50, c55, c68, c83]; done) | (simp [mwd, bi, hd0, hn4, c9, c23, c38, c50, c55, c68, c83]; done) | (simp_all [mwd, bi]; done)) rfl
            · rw [chx_c _ _ _ (by omega) (by omega)] at c83
              refine g_iconst (v := 1) h dX6_isWord_86 (by decide) ?_
              refine g_goto h 91 dX6_isWord_87 (by decide) ?_
              exact g_zret h hr (by first | rfl | exact bi_n _) dX6_isWord_91 (by first | (simp [mwd, bi, c9, c23, c38, c50, c55, c68, c83]; done) | (simp [mwd, bi, hd0, hn3, c9, c23, c38, c50, c55, c68, c83]; done) | (simp [mwd, bi, hd0, hn4, c9, c23, c38, c50, c55, c68, c83]; done) | (simp_all [mwd, bi]; done)) rfl
        · have hd0 : d = 0 := (nI_eq (b := 0) (by omega) (by decide)).mp c55
          refine g_iload_n h dX6_isWord_58 rfl ?_
          refine g_iconst (v := 3) h dX6_isWord_59 (by decide) ?_
          refine g_icne h 90 dX6_isWord_60 (by decide) (fun c60 => ?_) (fun c60 => ?_)
          · have hn3 : ¬ n = 3 := fun e => c60 (by rw [e]; rfl)
            refine g_iconst (v := 0) h dX6_isWord_90 (by decide) ?_
            exact g_zret h hr (by first | rfl | exact bi_n _) dX6_isWord_91 (by first | (simp [mwd, bi, c9, c23, c38, c50, c55, c60]; done) | (simp [mwd, bi, hd0, hn3, c9, c23, c38, c50, c55, c60]; done) | (simp [mwd, bi, hd0, hn4, c9, c23, c38, c50, c55, c60]; done) | (simp_all [mwd, bi]; done)) rfl
          · have hn3 : n = 3 := (nI_eq (b := 3) (by omega) (by decide)).mp c60
            refine g_goto h 86 dX6_isWord_63 (by decide) ?_
            refine g_iconst (v := 1) h dX6_isWord_86 (by decide) ?_
            refine g_goto h 91 dX6_isWord_87 (by decide) ?_
            exact g_zret h hr (by first | rfl | exact bi_n _) dX6_isWord_91 (by first | (simp [mwd, bi, c9, c23, c38, c50, c55, c60]; done) | (simp [mwd, bi, hd0, hn3, c9, c23, c38, c50, c55, c60]; done) | (simp [mwd, bi, hd0, hn4, c9, c23, c38, c50, c55, c60]; done) | (simp_all [mwd, bi]; done)) rfl

set_option maxRecDepth 100000 in
set_option maxHeartbeats 4000000 in
theorem ct_X6_orderOf {l : Launch} {X : fX} {σ : fM} {t : Nat} (ht : mtx σ t) {p : Nat} (hp : p < 2 ^ 20) (hb : σ.1 150 10 = nI p) {n : Nat} (hn : n < 2 ^ 20) : Ct l X yX6_orderOf cX6_orderOf 2 (some .int) 2 [ra X 150, .int (nI n)] σ (some (.int (wrd (chm σ t) p n))) σ := by
  refine Ct.of RX6 rfl (by decide) (Nat.le_of_ble_eq_true rfl) ?_
  intro x hL h hr
  refine g_sub [(0, ra X 150), (1, .int (nI n))] ⟨rfl, rfl, trivial⟩ ?_
  refine g_aload_n h dX6_orderOf_0 rfl ?_
  refine g_iload_n h dX6_orderOf_1 rfl ?_
  refine g_bipush (v := 116) h dX6_orderOf_2 (by decide) ?_
  refine g_bipush (v := 97) h dX6_orderOf_4 (by decide) ?_
  refine g_bipush (v := 107) h dX6_orderOf_6 (by decide) ?_
  refine g_bipush (v := 101) h dX6_orderOf_8 (by decide) ?_
  refine cl6_149 h  (ct_X6_isWord (a := 116) (b := 97) (c := 107) (d := 101) ht hp hb hn (by decide) (by decide) (by decide) (by decide)) rfl dX6_orderOf_10 rfl (Nat.le_of_ble_eq_true rfl) (by decide) ?_
  refine g_top (bi (wEq (chm σ t) p n 0)) (by rw [mwd_0]) ?_
  refine g_ifeqB h 18 dX6_orderOf_13 (by decide) (fun c13 => ?_) (fun c13 => ?_)
  · refine g_aload_n h dX6_orderOf_18 rfl ?_
    refine g_iload_n h dX6_orderOf_19 rfl ?_
    refine g_bipush (v := 115) h dX6_orderOf_20 (by decide) ?_
    refine g_bipush (v := 107) h dX6_orderOf_22 (by decide) ?_
    refine g_bipush (v := 105) h dX6_orderOf_24 (by decide) ?_
    refine g_bipush (v := 112) h dX6_orderOf_26 (by decide) ?_
    refine cl6_149 h  (ct_X6_isWord (a := 115) (b := 107) (c := 105) (d := 112) ht hp hb hn (by decide) (by decide) (by decide) (by decide)) rfl dX6_orderOf_28 rfl (Nat.le_of_ble_eq_true rfl) (by decide) ?_
    refine g_top (bi (wEq (chm σ t) p n 1)) (by rw [mwd_1]) ?_
    refine g_ifeqB h 36 dX6_orderOf_31 (by decide) (fun c31 => ?_) (fun c31 => ?_)
    · refine g_aload_n h dX6_orderOf_36 rfl ?_
      refine g_iload_n h dX6_orderOf_37 rfl ?_
      refine g_bipush (v := 102) h dX6_orderOf_38 (by decide) ?_
      refine g_bipush (v := 108) h dX6_orderOf_40 (by decide) ?_
      refine g_bipush (v := 105) h dX6_orderOf_42 (by decide) ?_
      refine g_bipush (v := 112) h dX6_orderOf_44 (by decide) ?_
      refine cl6_149 h  (ct_X6_isWord (a := 102) (b := 108) (c := 105) (d := 112) ht hp hb hn (by decide) (by decide) (by decide) (by decide)) rfl dX6_orderOf_46 rfl (Nat.le_of_ble_eq_true rfl) (by decide) ?_
      refine g_top (bi (wEq (chm σ t) p n 2)) (by rw [mwd_2]) ?_
      refine g_ifeqB h 54 dX6_orderOf_49 (by decide) (fun c49 => ?_) (fun c49 => ?_)
      · refine g_aload_n h dX6_orderOf_54 rfl ?_
        refine g_iload_n h dX6_orderOf_55 rfl ?_
        refine g_bipush (v := 108) h dX6_orderOf_56 (by decide) ?_
        refine g_bipush (v := 111) h dX6_orderOf_58 (by decide) ?_
        refine g_bipush (v := 111) h dX6_orderOf_60 (by decide) ?_
        refine g_bipush (v := 112) h dX6_orderOf_62 (by decide) ?_
        refine cl6_149 h  (ct_X6_isWord (a := 108) (b := 111) (c := 111) (d := 112) ht hp hb hn (by decide) (by decide) (by decide) (by decide)) rfl dX6_orderOf_64 rfl (Nat.le_of_ble_eq_true rfl) (by decide) ?_
        refine g_top (bi (wEq (chm σ t) p n 3)) (by rw [mwd_3]) ?_
        refine g_ifeqB h 72 dX6_orderOf_67 (by decide) (fun c67 => ?_) (fun c67 => ?_)
        · refine g_aload_n h dX6_orderOf_72 rfl ?_
          refine g_iload_n h dX6_orderOf_73 rfl ?_
          refine g_bipush (v := 99) h dX6_orderOf_74 (by decide) ?_
          refine g_bipush (v := 117) h dX6_orderOf_76 (by decide) ?_
          refine g_bipush (v := 116) h dX6_orderOf_78 (by decide) ?_
          refine g_iconst (v := 0) h dX6_orderOf_80 (by decide) ?_
          refine cl6_149 h  (ct_X6_isWord (a := 99) (b := 117) (c := 116) (d := 0) ht hp hb hn (by decide) (by decide) (by decide) (by decide)) rfl dX6_orderOf_81 rfl (Nat.le_of_ble_eq_true rfl) (by decide) ?_
          refine g_top (bi (wEq (chm σ t) p n 4)) (by rw [mwd_4]) ?_
          refine g_ifeqB h 91 dX6_orderOf_84 (by decide) (fun c84 => ?_) (fun c84 => ?_)
          · refine g_iconst (v := (-1)) h dX6_orderOf_91 (by decide) ?_
            exact g_iret h hr dX6_orderOf_92 (by simp [wrd, c13, c31, c49, c67, c84]) rfl
          · refine g_iconst (v := 4) h dX6_orderOf_87 (by decide) ?_
            refine g_goto h 92 dX6_orderOf_88 (by decide) ?_
            exact g_iret h hr dX6_orderOf_92 (by simp [wrd, c13, c31, c49, c67, c84]) rfl
        · refine g_iconst (v := 3) h dX6_orderOf_70 (by decide) ?_
          exact g_iret h hr dX6_orderOf_71 (by simp [wrd, c13, c31, c49, c67]) rfl
      · refine g_iconst (v := 2) h dX6_orderOf_52 (by decide) ?_
        exact g_iret h hr dX6_orderOf_53 (by simp [wrd, c13, c31, c49]) rfl
    · refine g_iconst (v := 1) h dX6_orderOf_34 (by decide) ?_
      exact g_iret h hr dX6_orderOf_35 (by simp [wrd, c13, c31]) rfl
  · refine g_iconst (v := 0) h dX6_orderOf_16 (by decide) ?_
    exact g_iret h hr dX6_orderOf_17 (by simp [wrd, c13]) rfl


theorem mtx_pu {σ : fM} {t j : Nat} {v : Int32} (h : mtx σ t) (hj : ¬ 5 = j) : mtx (pu σ 150 j v) t := ⟨by rw [pu_puR, puR_self, upd_n _ _ _ _ hj]; exact h.1, h.2⟩
theorem chm_pu {σ : fM} {t j : Nat} {v : Int32} : chm (pu σ 150 j v) t = chm σ t := by funext p; unfold chm; rw [pu_ne _ (by decide)]
theorem chx_pu {σ : fM} {t j : Nat} {v : Int32} : chx (pu σ 150 j v) t = chx σ t := by funext p; unfold chx; rw [pu_ne _ (by decide)]
theorem m150_s {σ : fM} {j : Nat} {v : Int32} : (pu σ 150 j v).1 150 j = v := by rw [pu_puR, puR_self, upd_s]
theorem m150_n {σ : fM} {j i : Nat} {v : Int32} (h : ¬ i = j) : (pu σ 150 j v).1 150 i = σ.1 150 i := by rw [pu_puR, puR_self, upd_n _ _ _ _ h]
theorem z48 (c : Int32) : (0 : Int32) + c - 48 = c - 48 := by rw [Int32.zero_add]
theorem a48 (a c : Int32) : a + c - 48 = a + (c - 48) := by rw [Int32.sub_eq_add_neg, Int32.sub_eq_add_neg, Int32.add_assoc]
theorem dig_m1 {c : Int32} (h : dig c = true) : ¬ c - 48 = -1 := by
  obtain ⟨v, hv, e⟩ := dig_v h
  rw [e, show (48 : Int32) = nI 48 by decide, pk_sub (by omega), show 48 + v - 48 = v by omega]
  exact fun q => absurd ((by decide : (-1 : Int32) < 0)) (q ▸ nI_pos (by omega))

set_option maxRecDepth 100000 in
set_option maxHeartbeats 4000000 in
theorem ct_X6_number {l : Launch} {X : fX} {σ : fM} {t : Nat} (ht : mtx σ t) {e : Nat} (he2 : e < 2 ^ 20) (he : σ.1 150 14 = nI e) : Ct l X yX6_number cX6_number 3 (some .int) 2 [ra X 150] σ (some (.int (if rnOk (chm σ t) e = true then rnV (chm σ t) e else -1))) (pu σ 150 14 (nI (rnE (chm σ t) e))) := by
  refine Ct.of RX6 rfl (by decide) (Nat.le_of_ble_eq_true rfl) ?_
  intro x hL h hr
  refine g_sub [(0, ra X 150)] ⟨rfl, trivial⟩ ?_
  have ht1 : mtx (pu σ 150 14 (nI (e + 1))) t := mtx_pu ht (by decide)
  have ht2 : mtx (pu σ 150 14 (nI (e + 2))) t := mtx_pu ht (by decide)
  refine g_aload_n h dX6_number_0 rfl ?_
  refine g_aload_n h dX6_number_1 rfl ?_
  refine gf6_153 h  dX6_number_2 ?_
  refine g_top (nI e) he ?_
  refine cl6_143 h  (ct_X6_character (p := e) ht (by omega)) rfl dX6_number_5 rfl (Nat.le_of_ble_eq_true rfl) (by decide) ?_
  refine g_bipush (v := 32) h dX6_number_8 (by decide) ?_
  refine g_iceq h 15 dX6_number_10 (by decide) (fun c10 => ?_) (fun c10 => ?_)
  · rw [chx_32] at c10
    refine g_aload_n h dX6_number_15 rfl ?_
    refine g_dup h dX6_number_16 rfl ?_
    refine gf6_153 h  dX6_number_17 ?_
    refine g_iconst (v := 1) h dX6_number_20 (by decide) ?_
    refine g_iadd h dX6_number_21 ?_
    refine g_top (nI (e + 1)) (by rw [he]; exact nI_1 e) ?_
    refine gp6_153 h  dX6_number_22 ?_
    refine g_iconst (v := (-1)) h dX6_number_25 (by decide) ?_
    refine g_istore_n h dX6_number_26 (by rw [hL]; decide) ?_
    refine g_iconst (v := 0) h dX6_number_27 (by decide) ?_
    refine g_istore_n h dX6_number_28 (by rw [hL]; decide) ?_
    refine g_sub [(0, ra X 150), (1, .int (-1)), (2, .int (nI 0))] ⟨rfl, rfl, lk_0, trivial⟩ ?_
    refine g_iload_n h dX6_number_29 rfl ?_
    refine g_iconst (v := 2) h dX6_number_30 (by decide) ?_
    refine g_icge h 94 dX6_number_31 (by decide) (fun c31 => absurd c31 (by decide)) (fun c31 => ?_)
    refine g_aload_n h dX6_number_34 rfl ?_
    refine g_aload_n h dX6_number_35 rfl ?_
    refine gf6_153 h  dX6_number_36 ?_
    refine g_top (nI (e + 1)) m150_s ?_
    refine cl6_143 h  (ct_X6_character (p := (e + 1)) ht1 (by omega)) rfl dX6_number_39 rfl (Nat.le_of_ble_eq_true rfl) (by decide) ?_
    refine g_bipush (v := 48) h dX6_number_42 (by decide) ?_
    refine g_bipush (v := 57) h dX6_number_44 (by decide) ?_
    refine cl6_42 h (ct_X6_within) rfl dX6_number_46 rfl (Nat.le_of_ble_eq_true rfl) (by decide) ?_
    refine g_ifeqB h 94 dX6_number_49 (by decide) (fun c49 => ?_) (fun c49 => ?_)
    · rw [chx_d, chm_pu] at c49
      refine g_iload_n h dX6_number_94 rfl ?_
      exact g_iret h hr dX6_number_95 (by rw [if_neg (by unfold rnOk; rw [c49]; simp)]) (by unfold rnE; rw [if_neg (fun q => q c10), if_pos c49])
    · rw [chx_d, chm_pu] at c49
      refine g_iload_n h dX6_number_52 rfl ?_
      refine g_iconst (v := (-1)) h dX6_number_53 (by decide) ?_
      refine g_icne h 61 dX6_number_54 (by decide) (fun c54 => absurd rfl c54) (fun c54 => ?_)
      refine g_iconst (v := 0) h dX6_number_57 (by decide) ?_
      refine g_goto h 65 dX6_number_58 (by decide) ?_
      refine g_aload_n h dX6_number_65 rfl ?_
      refine g_aload_n h dX6_number_66 rfl ?_
      refine gf6_153 h  dX6_number_67 ?_
      refine g_top (nI (e + 1)) m150_s ?_
      refine cl6_143 h  (ct_X6_character (p := (e + 1)) ht1 (by omega)) rfl dX6_number_70 rfl (Nat.le_of_ble_eq_true rfl) (by decide) ?_
      refine g_top (chm σ t (e + 1)) (by rw [chx_dig (by rw [chm_pu]; exact c49), chm_pu]) ?_
      refine g_iadd h dX6_number_73 ?_
      refine g_bipush (v := 48) h dX6_number_74 (by decide) ?_
      refine g_isub h dX6_number_76 ?_
      refine g_top (chm σ t (e + 1) - 48) (z48 _) ?_
      refine g_istore_n h dX6_number_77 (by rw [hL]; decide) ?_
      refine g_aload_n h dX6_number_78 rfl ?_
      refine g_dup h dX6_number_79 rfl ?_
      refine gf6_153 h  dX6_number_80 ?_
      refine g_iconst (v := 1) h dX6_number_83 (by decide) ?_
      refine g_iadd h dX6_number_84 ?_
      refine g_top (nI (e + 2)) (by rw [m150_s]; exact nI_1 _) ?_
      refine gp6_153 h  dX6_number_85 ?_
      refine g_iincN h dX6_number_88 rfl (by rw [hL]; decide) ?_
      refine g_goto h 29 dX6_number_91 (by decide) ?_
      refine g_mem (pu σ 150 14 (nI (e + 2))) (by rw [pu_pu]) ?_
      refine g_sub [(0, ra X 150), (1, .int (chm σ t (e + 1) - 48)), (2, .int (nI 1))] ⟨rfl, rfl, rfl, trivial⟩ ?_
      have d1 : dig (chm σ t (e + 1)) = true := c49
      refine g_iload_n h dX6_number_29 rfl ?_
      refine g_iconst (v := 2) h dX6_number_30 (by decide) ?_
      refine g_icge h 94 dX6_number_31 (by decide) (fun c31 => absurd c31 (by decide)) (fun c31 => ?_)
      refine g_aload_n h dX6_number_34 rfl ?_
      refine g_aload_n h dX6_number_35 rfl ?_
      refine gf6_153 h  dX6_number_36 ?_
      refine g_top (nI (e + 2)) m150_s ?_
      refine cl6_143 h  (ct_X6_character (p := (e + 2)) ht2 (by omega)) rfl dX6_number_39 rfl (Nat.le_of_ble_eq_true rfl) (by decide) ?_
      refine g_bipush (v := 48) h dX6_number_42 (by decide) ?_
      refine g_bipush (v := 57) h dX6_number_44 (by decide) ?_
      refine cl6_42 h (ct_X6_within) rfl dX6_number_46 rfl (Nat.le_of_ble_eq_true rfl) (by decide) ?_
      refine g_ifeqB h 94 dX6_number_49 (by decide) (fun c49 => ?_) (fun c49 => ?_)
      · rw [chx_d, chm_pu] at c49
        refine g_iload_n h dX6_number_94 rfl ?_
        exact g_iret h hr dX6_number_95 (by rw [if_pos (by unfold rnOk; rw [decide_eq_true c10, d1]; rfl)]; unfold rnV; rw [if_pos c49]) (by unfold rnE; rw [if_neg (fun q => q c10), if_neg (by rw [d1]; decide), if_pos c49])
      · rw [chx_d, chm_pu] at c49
        refine g_iload_n h dX6_number_52 rfl ?_
        refine g_iconst (v := (-1)) h dX6_number_53 (by decide) ?_
        refine g_icne h 61 dX6_number_54 (by decide) (fun c54 => ?_) (fun c54 => absurd c54 (dig_m1 d1))
        refine g_bipush (v := 10) h dX6_number_61 (by decide) ?_
        refine g_iload_n h dX6_number_63 rfl ?_
        refine g_imul h dX6_number_64 ?_
        refine g_aload_n h dX6_number_65 rfl ?_
        refine g_aload_n h dX6_number_66 rfl ?_
        refine gf6_153 h  dX6_number_67 ?_
        refine g_top (nI (e + 2)) m150_s ?_
        refine cl6_143 h  (ct_X6_character (p := (e + 2)) ht2 (by omega)) rfl dX6_number_70 rfl (Nat.le_of_ble_eq_true rfl) (by decide) ?_
        refine g_top (chm σ t (e + 2)) (by rw [chx_dig (by rw [chm_pu]; exact c49), chm_pu]) ?_
        refine g_iadd h dX6_number_73 ?_
        refine g_bipush (v := 48) h dX6_number_74 (by decide) ?_
        refine g_isub h dX6_number_76 ?_
        refine g_top (10 * (chm σ t (e + 1) - 48) + (chm σ t (e + 2) - 48)) (a48 _ _) ?_
        refine g_istore_n h dX6_number_77 (by rw [hL]; decide) ?_
        refine g_aload_n h dX6_number_78 rfl ?_
        refine g_dup h dX6_number_79 rfl ?_
        refine gf6_153 h  dX6_number_80 ?_
        refine g_iconst (v := 1) h dX6_number_83 (by decide) ?_
        refine g_iadd h dX6_number_84 ?_
        refine g_top (nI (e + 3)) (by rw [m150_s]; exact nI_1 _) ?_
        refine gp6_153 h  dX6_number_85 ?_
        refine g_iincN h dX6_number_88 rfl (by rw [hL]; decide) ?_
        refine g_goto h 29 dX6_number_91 (by decide) ?_
        refine g_mem (pu σ 150 14 (nI (e + 3))) (by rw [pu_pu]) ?_
        refine g_sub [(0, ra X 150), (1, .int (10 * (chm σ t (e + 1) - 48) + (chm σ t (e + 2) - 48))), (2, .int (nI 2))] ⟨rfl, rfl, rfl, trivial⟩ ?_
        refine g_iload_n h dX6_number_29 rfl ?_
        refine g_iconst (v := 2) h dX6_number_30 (by decide) ?_
        refine g_icge h 94 dX6_number_31 (by decide) (fun c31 => ?_) (fun c31 => absurd (by decide) c31)
        refine g_iload_n h dX6_number_94 rfl ?_
        exact g_iret h hr dX6_number_95 (by rw [if_pos (by unfold rnOk; rw [decide_eq_true c10, d1]; rfl)]; unfold rnV; rw [if_neg (by rw [c49]; decide)]) (by unfold rnE; rw [if_neg (fun q => q c10), if_neg (by rw [d1]; decide), if_neg (by rw [c49]; decide)])
  · rw [chx_32] at c10
    refine g_iconst (v := (-1)) h dX6_number_13 (by decide) ?_
    exact g_iret h hr dX6_number_14 (by rw [if_neg (by unfold rnOk; rw [decide_eq_false c10]; simp)]) (by unfold rnE; rw [if_pos c10, ← he, pu_id])