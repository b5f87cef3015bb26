/-! the JDK's texts: length() and charAt(int) of the five words -/
def sLen (i : Nat) : Nat := ([4, 4, 4, 4, 3] : List Nat).getD i 0
def sByt (i j : Nat) : Int32 := (([[116, 97, 107, 101], [115, 107, 105, 112], [102, 108, 105, 112], [108, 111, 111, 112], [99, 117, 116]] : List (List Int32)).getD i []).getD j 0
abbrev rs (X : fX) (i : Nat) : Value := .ref (X.2.2.2 (2 + i))
abbrev rv (X : fX) (i : Nat) : Value := .ref (X.2.2.2 (7 + i))
section JT
variable {l : Launch} {x : fC} {X : fX} {σ : fM} {L : List (Nat × Value)} {st : List Value} {pc : Nat} {cc : ByteArray} {own : String} {d : Nat}
theorem g_callVR (h : Ok l x X cc own d) {y : MethodName} {cy : ByteArray} {mL idx d' n b : Nat} {ret : Option FieldType} {av : List Value} {v : Option Value} {σ' : fM} {rest : List Value} {C : String}
    (hG : GoodIn lw_gd (wsV own idx C y (fT y cy mL ret))) (hy : y.cls = C ∧ y.cls ≠ "java/lang/invoke/MethodHandle" ∧ y.cls ≠ "java/lang/invoke/VarHandle" ∧ (parseMethodDescriptor y.desc).map (fun d => d.parameters.length) = some n) (hrec : ∀ (H : Heap) (locs : List Loc), va_S (xA x) (xs x).heap H locs → ∃ cell : Cell, H[b]? = some cell ∧ cell.vm.isStatics = false ∧ (xs x).vm.findClass C = some cell.cls) (hmL : mL ≤ 11) (hn : av.length = n)
    (hC : Ct l X y cy mL ret d' (.ref b :: av) σ v σ') (hd : decode cc pc = .ok (.invokevirtual idx, 3)) (hst : st = av.reverse ++ .ref b :: rest) (hcat : (rest.map fun v => v.category).sum ≤ 8) (hdd : d' < d) (kk : G x X σ' L (v.toList ++ rest) (pc + 3)) : G x X σ L st pc := fun H locs ls hP hS hl => by
  refine g_cont h hS hl (va_runV (As := av) (rest := rest) (b := b) ⟨h.hx, h.hb, h.hml, h.ho, h.hts⟩ (by have hC' := hC; rw [← h.1.1] at hC'; exact hC') (cwV n h.hts hG rfl rfl rfl hy (g_room h hdd hmL)) ⟨fPc_blind _ _ _, hrec H locs hS, fun U hU hW => ⟨rfl, g_start h hP hS U hU hW⟩⟩ rfl hn hl.1 hst (lv_room hcat) hd h.hC) kk
theorem g_srec (h : Ok l x X cc own d) {i : Nat} (hi : i < 5) : ∀ (H : Heap) (locs : List Loc), va_S (xA x) (xs x).heap H locs → ∃ cell : Cell, H[X.2.2.2 (2 + i)]? = some cell ∧ cell.vm.isStatics = false ∧ (xs x).vm.findClass "java/lang/String" = some cell.cls := fun H locs hS => vk_recv (i := i) (adK := fun i => X.2.2.2 (2 + i)) h.hZ.1.2.2.1 hi hS
theorem g_sval (h : Ok l x X cc RJ0 d) {i : Nat} (hi : i < 5) (hd : decode cc pc = .ok (.getfield 9, 3)) (k : G x X σ L (rv X i :: st) (pc + 3)) : G x X σ L (rs X i :: st) pc := fun H locs ls hP hS hl =>
  vk_getf h.hx h.hb (h.hZ.1.2.2.1.1 i hi).2.2.1 hS h.ho (h.hts (.fieldLink RJ0 9 "java/lang/String" "value" "[B") (lw_in 936 (by decide +kernel) rfl)) (fun _ h9 => h9) hd (k H locs ls hP hS hl)
theorem g_scod (h : Ok l x X cc RJ0 d) {i : Nat} (hi : i < 5) (hd : decode cc pc = .ok (.getfield 15, 3)) (k : G x X σ L (.int 0 :: st) (pc + 3)) : G x X σ L (rs X i :: st) pc := fun H locs ls hP hS hl =>
  vk_getf h.hx h.hb (h.hZ.1.2.2.1.1 i hi).2.1 hS h.ho (h.hts (.fieldLink RJ0 15 "java/lang/String" "coder" "B") (lw_in 937 (by decide +kernel) rfl)) (fun _ h9 => h9) hd (k H locs ls hP hS hl)
theorem g_scs (h : Ok l x X cc RJ0 d) (hd : decode cc pc = .ok (.getstatic 38, 3)) (k : G x X σ L (.int 1 :: st) (pc + 3)) : G x X σ L st pc := fun H locs ls hP hS hl =>
  va_gets h.hx h.hb h.hZ.1.2.2.2.1 hS h.ho (h.hts (.fieldLink RJ0 38 "java/lang/String" "COMPACT_STRINGS" "Z") (lw_in 557 (by decide +kernel) rfl)) (fun _ h9 => h9) hd (k H locs ls hP hS hl)
theorem g_ssi (h : Ok l x X cc RJ0 d) (hd : decode cc pc = .ok (.getstatic 1053, 3)) (k : ∀ v : Value, (v = .null ∨ ∃ t, v = .ref t) → G x X σ L (v :: st) (pc + 3)) : G x X σ L st pc := fun H locs ls hP hS hl => by
  rcases h.hZ.1.2.2.2.2 with hz | ⟨t, hz⟩
  · exact va_gets h.hx h.hb hz hS h.ho (h.hts (.fieldLink RJ0 1053 "jdk/internal/util/Preconditions" "SIOOBE_FORMATTER" "Ljava/util/function/BiFunction;") (lw_in 573 (by decide +kernel) rfl)) (fun _ h9 => h9) hd (k .null (Or.inl rfl) H locs ls hP hS hl)
  · exact va_gets h.hx h.hb hz hS h.ho (h.hts (.fieldLink RJ0 1053 "jdk/internal/util/Preconditions" "SIOOBE_FORMATTER" "Ljava/util/function/BiFunction;") (lw_in 573 (by decide +kernel) rfl)) (fun _ h9 => h9) hd (k (.ref t) (Or.inr ⟨t, rfl⟩) H locs ls hP hS hl)
theorem g_slen (h : Ok l x X cc own d) {i : Nat} (hi : i < 5) (hd : decode cc pc = .ok (.arraylength, 1)) (k : G x X σ L (.int (nI (sLen i)) :: st) (pc + 1)) : G x X σ L (rv X i :: st) pc := fun H locs ls hP hS hl =>
  va_tlen h.hx h.hb (h.hZ.1.2.2.1.1 i hi).2.2.2 hS rfl hd (k H locs ls hP hS hl)
theorem g_sbyt (h : Ok l x X cc own d) {i j : Nat} (hi : i < 5) (hj : j < sLen i) (hd : decode cc pc = .ok (.baload, 1)) (k : G x X σ L (.int (sByt i j) :: st) (pc + 1)) : G x X σ L (.int (nI j) :: rv X i :: st) pc := fun H locs ls hP hS hl => by
  have h4 : sLen i ≤ 4 := by
    rcases (show i = 0 ∨ i = 1 ∨ i = 2 ∨ i = 3 ∨ i = 4 by omega) with rfl | rfl | rfl | rfl | rfl <;> decide
  exact va_tb h.hx h.hb (h.hZ.1.2.2.1.1 i hi).2.2.2 hS (show vp_in (nI j) (sLen i) from vp_in_nI hj (by omega)) (by rw [nI_clamp (by omega)]; rfl) hd (k H locs ls hP hS hl)
end JT
theorem sc_ok : ∀ i, i < 5 → ∀ j, j < sLen i → (((sByt i j) &&& 255).toUInt32 % 65536).toInt32 = sByt i j ∧ narrow .char (.int (sByt i j)) = .int (sByt i j) := by decide +kernel
theorem sl_ok : ∀ i, i < 5 → nI (sLen i) >>> ((0 : Int32) &&& 31) = nI (sLen i) := by decide +kernel
theorem ct_J0_coder {l : Launch} {X : fX} {σ : fM} {i : Nat} (hi : i < 5) : Ct l X yJ0_coder_7d493 cJ0_coder_7d493 1 (some .byte) 0 [rs X i] σ (some (.int 0)) σ := by
  refine Ct.of RJ0 rfl (by decide) (Nat.le_of_ble_eq_true rfl) ?_
  intro x hL h hr
  refine g_scs h dJ0_coder_7d493_0 ?_
  refine g_ifeq h 13 dJ0_coder_7d493_3 (by decide) (fun c => absurd c (by decide)) (fun c => ?_)
  refine g_aload_n h dJ0_coder_7d493_6 rfl ?_
  refine g_scod h hi dJ0_coder_7d493_7 ?_
  refine g_goto h 14 dJ0_coder_7d493_10 (by decide) ?_
  exact g_zret h hr rfl dJ0_coder_7d493_14 rfl rfl
theorem ct_J0_isLatin1 {l : Launch} {X : fX} {σ : fM} {i : Nat} (hi : i < 5) : Ct l X yJ0_isLatin1_aae02 cJ0_isLatin1_aae02 1 (some .boolean) 0 [rs X i] σ (some (.int 1)) σ := by
  refine Ct.of RJ0 rfl (by decide) (Nat.le_of_ble_eq_true rfl) ?_
  intro x hL h hr
  refine g_scs h dJ0_isLatin1_aae02_0 ?_
  refine g_ifeq h 17 dJ0_isLatin1_aae02_3 (by decide) (fun c => absurd c (by decide)) (fun c => ?_)
  refine g_aload_n h dJ0_isLatin1_aae02_6 rfl ?_
  refine g_scod h hi dJ0_isLatin1_aae02_7 ?_
  refine g_ifne h 17 dJ0_isLatin1_aae02_10 (by decide) (fun c => absurd rfl c) (fun c => ?_)
  refine g_iconst (v := 1) h dJ0_isLatin1_aae02_13 (by decide) ?_
  refine g_goto h 18 dJ0_isLatin1_aae02_14 (by decide) ?_
  exact g_zret h hr rfl dJ0_isLatin1_aae02_18 rfl rfl
theorem ct_J0_length {l : Launch} {X : fX} {σ : fM} {i : Nat} (hi : i < 5) : Ct l X yJ0_length_8abf5 cJ0_length_8abf5 1 (some .int) 1 [rs X i] σ (some (.int (nI (sLen i)))) σ := by
  refine Ct.of RJ0 rfl (by decide) (Nat.le_of_ble_eq_true rfl) ?_
  intro x hL h hr
  refine g_aload_n h dJ0_length_8abf5_0 rfl ?_
  refine g_sval h hi dJ0_length_8abf5_1 ?_
  refine g_slen h hi dJ0_length_8abf5_4 ?_
  refine g_aload_n h dJ0_length_8abf5_5 rfl ?_
  refine g_callVR h (n := 0) (C := RJ0) (rest := [.int (nI (sLen i))]) (gd_V (lw_in 553 (by decide +kernel) rfl) (lw_in 554 (by decide +kernel) rfl) (lw_in 555 (by decide +kernel) rfl) (lw_in 10 (by decide +kernel) rfl) (lw_in 556 (by decide +kernel) rfl)) (by decide +kernel) (g_srec h hi) (by decide) rfl (ct_J0_coder hi) dJ0_length_8abf5_6 rfl (Nat.le_of_ble_eq_true rfl) (by decide) ?_
  refine g_ishr h dJ0_length_8abf5_9 ?_
  exact g_iret h hr dJ0_length_8abf5_10 (sl_ok i hi) rfl
theorem ct_J3_checkIndex {l : Launch} {X : fX} {σ : fM} {i n : Nat} (hi : i < n) (hn : n < 2 ^ 31) {v : Value} (hv : v = .null ∨ ∃ t, v = .ref t) : Ct l X yJ3_checkIndex_8e157 cJ3_checkIndex_8e157 3 (some .int) 0 [.int (nI i), .int (nI n), v] σ (some (.int (nI i))) σ := by
  refine Ct.of RJ3 rfl (by decide) (by rcases hv with rfl | ⟨t, rfl⟩ <;> exact Nat.le_of_ble_eq_true rfl) ?_
  intro x hL h hr
  refine g_sub [(0, .int (nI i)), (1, .int (nI n))] ⟨rfl, rfl, trivial⟩ ?_
  refine g_iload_n h dJ3_checkIndex_8e157_0 rfl ?_
  refine g_iflt h 9 dJ3_checkIndex_8e157_1 (by decide) (fun c => absurd c (nI_pos (by omega))) (fun c => ?_)
  refine g_iload_n h dJ3_checkIndex_8e157_4 rfl ?_
  refine g_iload_n h dJ3_checkIndex_8e157_5 rfl ?_
  refine g_iclt h 16 dJ3_checkIndex_8e157_6 (by decide) (fun c => ?_) (fun c => absurd (nI_lt hi hn) c)
  refine g_iload_n h dJ3_checkIndex_8e157_16 rfl ?_
  exact g_iret h hr dJ3_checkIndex_8e157_17 rfl rfl
theorem ct_J0_checkIndex {l : Launch} {X : fX} {σ : fM} {i n : Nat} (hi : i < n) (hn : n < 2 ^ 31) : Ct l X yJ0_checkIndex_df160 cJ0_checkIndex_df160 2 none 1 [.int (nI i), .int (nI n)] σ none σ := by
  refine Ct.of RJ0 rfl (by decide) (Nat.le_of_ble_eq_true rfl) ?_
  intro x hL h hr
  refine g_iload_n h dJ0_checkIndex_df160_0 rfl ?_
  refine g_iload_n h dJ0_checkIndex_df160_1 rfl ?_
  refine g_ssi h dJ0_checkIndex_df160_2 (fun v hv => ?_)
  refine g_callS h (n := 3) (rest := []) (gd_T (lw_in 577 (by decide +kernel) rfl)) (lw_in 575 (by decide +kernel) rfl) (lw_in 576 (by decide +kernel) rfl) (lw_in 12 (by decide +kernel) rfl) (by decide +kernel) (by decide) rfl (ct_J3_checkIndex hi hn hv) dJ0_checkIndex_df160_5 rfl (Nat.le_of_ble_eq_true rfl) (by decide) ?_
  refine g_pop h dJ0_checkIndex_df160_8 rfl ?_
  exact g_vret h hr dJ0_checkIndex_df160_9 rfl
theorem ct_J1_charAt {l : Launch} {X : fX} {σ : fM} {i j : Nat} (hi : i < 5) (hj : j < sLen i) : Ct l X yJ1_charAt_3b067 cJ1_charAt_3b067 2 (some .char) 2 [rv X i, .int (nI j)] σ (some (.int (sByt i j))) σ := by
  have h4 : sLen i ≤ 4 := by
    rcases (show i = 0 ∨ i = 1 ∨ i = 2 ∨ i = 3 ∨ i = 4 by omega) with rfl | rfl | rfl | rfl | rfl <;> decide
  refine Ct.of RJ1 rfl (by decide) (Nat.le_of_ble_eq_true rfl) ?_
  intro x hL h hr
  refine g_iload_n h dJ1_charAt_3b067_0 rfl ?_
  refine g_aload_n h dJ1_charAt_3b067_1 rfl ?_
  refine g_slen h hi dJ1_charAt_3b067_2 ?_
  refine g_callS h (n := 2) (rest := []) (gd_T (lw_in 572 (by decide +kernel) rfl)) (lw_in 570 (by decide +kernel) rfl) (lw_in 571 (by decide +kernel) rfl) (lw_in 10 (by decide +kernel) rfl) (by decide +kernel) (by decide) rfl (ct_J0_checkIndex hj (by omega)) dJ1_charAt_3b067_3 rfl (Nat.le_of_ble_eq_true rfl) (by decide) ?_
  refine g_aload_n h dJ1_charAt_3b067_6 rfl ?_
  refine g_iload_n h dJ1_charAt_3b067_7 rfl ?_
  refine g_sbyt h hi hj dJ1_charAt_3b067_8 ?_
  refine g_sipush (v := 255) h dJ1_charAt_3b067_9 (by decide) ?_
  refine g_iand h dJ1_charAt_3b067_12 ?_
  refine g_i2c h dJ1_charAt_3b067_13 ?_
  refine g_top (sByt i j) (sc_ok i hi j hj).1 ?_
  exact g_zret h hr (sc_ok i hi j hj).2 dJ1_charAt_3b067_14 rfl rfl
theorem ct_J0_charAt {l : Launch} {X : fX} {σ : fM} {i j : Nat} (hi : i < 5) (hj : j < sLen i) : Ct l X yJ0_charAt_5068e cJ0_charAt_5068e 2 (some .char) 3 [rs X i, .int (nI j)] σ (some (.int (sByt i j))) σ := by
  refine Ct.of RJ0 rfl (by decide) (Nat.le_of_ble_eq_true rfl) ?_
  intro x hL h hr
  refine g_aload_n h dJ0_charAt_5068e_0 rfl ?_
  refine g_callVR h (n := 0) (C := RJ0) (rest := []) (gd_V (lw_in 563 (by decide +kernel) rfl) (lw_in 564 (by decide +kernel) rfl) (lw_in 565 (by decide +kernel) rfl) (lw_in 10 (by decide +kernel) rfl) (lw_in 566 (by decide +kernel) rfl)) (by decide +kernel) (g_srec h hi) (by decide) rfl (ct_J0_isLatin1 hi) dJ0_charAt_5068e_1 rfl (Nat.le_of_ble_eq_true rfl) (by decide) ?_
  refine g_ifeq h 16 dJ0_charAt_5068e_4 (by decide) (fun c => absurd c (by decide)) (fun c => ?_)
  refine g_aload_n h dJ0_charAt_5068e_7 rfl ?_
  refine g_sval h hi dJ0_charAt_5068e_8 ?_
  refine g_iload_n h dJ0_charAt_5068e_11 rfl ?_
  refine g_callS h (n := 2) (rest := []) (gd_T (lw_in 569 (by decide +kernel) rfl)) (lw_in 567 (by decide +kernel) rfl) (lw_in 568 (by decide +kernel) rfl) (lw_in 11 (by decide +kernel) rfl) (by decide +kernel) (by decide) rfl (ct_J1_charAt hi hj) dJ0_charAt_5068e_12 rfl (Nat.le_of_ble_eq_true rfl) (by decide) ?_
  exact g_zret h hr (sc_ok i hi j hj).2 dJ0_charAt_5068e_15 rfl rfl
section JW
variable {l : Launch} {x : fC} {X : fX} {σ : fM} {L : List (Nat × Value)} {st : List Value} {pc : Nat} {cc : ByteArray} {d : Nat}
/-- rows for them in the class of texts -/
theorem g_slength (h : Ok l x X cc RX4 d) {i : Nat} (hi : i < 5) (hd : decode cc pc = .ok (.invokevirtual 91, 3)) (hcat : (st.map fun v => v.category).sum ≤ 8) (hdd : 1 < d) (k : G x X σ L (.int (nI (sLen i)) :: st) (pc + 3)) : G x X σ L (rs X i :: st) pc :=
  g_callVR h (n := 0) (C := RJ0) (rest := st) (gd_V (lw_in 549 (by decide +kernel) rfl) (lw_in 550 (by decide +kernel) rfl) (lw_in 551 (by decide +kernel) rfl) (lw_in 10 (by decide +kernel) rfl) (lw_in 552 (by decide +kernel) rfl)) (by decide +kernel) (g_srec h hi) (by decide) rfl (ct_J0_length hi) hd rfl hcat hdd k
theorem g_scharAt (h : Ok l x X cc RX4 d) {i j : Nat} (hi : i < 5) (hj : j < sLen i) (hd : decode cc pc = .ok (.invokevirtual 96, 3)) (hcat : (st.map fun v => v.category).sum ≤ 8) (hdd : 3 < d) (k : G x X σ L (.int (sByt i j) :: st) (pc + 3)) : G x X σ L (.int (nI j) :: rs X i :: st) pc :=
  g_callVR h (n := 1) (C := RJ0) (rest := st) (gd_V (lw_in 559 (by decide +kernel) rfl) (lw_in 560 (by decide +kernel) rfl) (lw_in 561 (by decide +kernel) rfl) (lw_in 10 (by decide +kernel) rfl) (lw_in 562 (by decide +kernel) rfl)) (by decide +kernel) (g_srec h hi) (by decide) rfl (ct_J0_charAt hi hj) hd rfl hcat hdd k
theorem g_ldcS (h : Ok l x X cc RX4 d) (i : Nat) {idx : Nat} {tx : String} (hR : vk_R "BranchBets$Text" idx tx (X.2.2.2 (2 + i)) (xs x)) (hd : decode cc pc = .ok (.ldc idx, 2)) (k : G x X σ L (rs X i :: st) (pc + 2)) : G x X σ L st pc := fun H locs ls hP hS hl =>
  va_ldcS h.hx h.hb h.ho hR hd (k H locs ls hP hS hl)
end JW
