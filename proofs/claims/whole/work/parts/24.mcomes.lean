/-! the model: a branch comes -/
def fl (f g : Nat → Int32) (i : Nat) : Nat → Int32 := fun o => if o < i then f o else g o
theorem fl_s (f g : Nat → Int32) (i : Nat) : upd (fl f g i) i (f i) = fl f g (i + 1) := by
  funext q
  unfold upd fl
  by_cases h : q = i
  · rw [if_pos h, if_pos (by omega), h]
  · rw [if_neg h]
    by_cases h2 : q < i
    · rw [if_pos h2, if_pos (by omega)]
    · rw [if_neg h2, if_neg (by omega)]
theorem fl_at {f g : Nat → Int32} {i o : Nat} (h : o < i) : fl f g i o = f o := if_pos h
theorem fl_0 (f g : Nat → Int32) : fl f g 0 = g := by funext q; exact if_neg (Nat.not_lt_zero q)
def csM (σ : fM) (f1 f2 f3 f4 : Nat → Int32) (i : Nat) : fM := (fun k => if k = 155 then fl f1 (σ.1 155) i else if k = 156 then fl f2 (σ.1 156) i else if k = 157 then fl f3 (σ.1 157) i else if k = 158 then fl f4 (σ.1 158) i else σ.1 k, σ.2)
theorem csM_ne {σ : fM} {f1 f2 f3 f4 : Nat → Int32} {i k : Nat} (h : k < 155 ∨ 158 < k) : (csM σ f1 f2 f3 f4 i).1 k = σ.1 k := by
  unfold csM
  dsimp only
  rw [if_neg (by omega), if_neg (by omega), if_neg (by omega), if_neg (by omega)]
theorem csM_0 (σ : fM) (f1 f2 f3 f4 : Nat → Int32) : csM σ f1 f2 f3 f4 0 = σ := by
  refine Prod.ext ?_ rfl
  funext k
  show (if k = 155 then _ else _) = _
  rw [fl_0, fl_0, fl_0, fl_0]
  split
  · rename_i h; rw [h]
  · split
    · rename_i h; rw [h]
    · split
      · rename_i h; rw [h]
      · split
        · rename_i h; rw [h]
        · rfl
theorem csM_s (σ : fM) (f1 f2 f3 f4 : Nat → Int32) (i : Nat) : pu (pu (pu (pu (csM σ f1 f2 f3 f4 i) 155 i (f1 i)) 156 i (f2 i)) 157 i (f3 i)) 158 i (f4 i) = csM σ f1 f2 f3 f4 (i + 1) := by
  refine Prod.ext ?_ rfl
  funext k
  by_cases h1 : k = 155
  · subst h1
    rw [pu_ne _ (by decide), pu_ne _ (by decide), pu_ne _ (by decide), pu_upd]
    exact fl_s f1 _ i
  · by_cases h2 : k = 156
    · subst h2
      rw [pu_ne _ (by decide), pu_ne _ (by decide), pu_upd, pu_ne _ (by decide)]
      exact fl_s f2 _ i
    · by_cases h3 : k = 157
      · subst h3
        rw [pu_ne _ (by decide), pu_upd, pu_ne _ (by decide), pu_ne _ (by decide)]
        exact fl_s f3 _ i
      · by_cases h4 : k = 158
        · subst h4
          rw [pu_upd, pu_ne _ (by decide), pu_ne _ (by decide), pu_ne _ (by decide)]
          exact fl_s f4 _ i
        · rw [pu_ne _ h4, pu_ne _ h3, pu_ne _ h2, pu_ne _ h1]
          show (if k = 155 then _ else _) = (if k = 155 then _ else _)
          rw [if_neg h1, if_neg h2, if_neg h3, if_neg h4, if_neg h1, if_neg h2, if_neg h3, if_neg h4]
def cf1 (r : Nat → Int32) (o : Nat) : Int32 := bi (oIn (mo r o))
def cf2 (r : Nat → Int32) (n a : Nat) (o : Nat) : Int32 := mWord r n o a
def cf3 (r : Nat → Int32) (a : Nat) (o : Nat) : Int32 := oStake (mo r o) (mt r o) (r 0) (nI a) (r 3)
def cf4 (r : Nat → Int32) (o : Nat) : Int32 := mo r o 2
def csT (σ : fM) (n a i : Nat) : fM := csM σ (cf1 (σ.1 151)) (cf2 (σ.1 151) n a) (cf3 (σ.1 151) a) (cf4 (σ.1 151)) i
/-- what an oracle was: right or wrong, and its record, ruins -/
def mnA (tp sd : Nat → Int32) (k : Int32) (o : Nat) (r : Nat → Int32) : Nat → Int32 := if tp o = 1 then upd (addR r o (if sd o = k then 5 else 6) 1) (73 + 42 * o + 7) (2 * mo (addR r o (if sd o = k then 5 else 6) 1) o 7 - 2 * mo (addR r o (if sd o = k then 5 else 6) 1) o 7 / 65536 * 65536 + (if sd o = k then 1 else 0)) else r
def mnStep (tp sd ps : Nat → Int32) (k : Int32) (o : Nat) (r : Nat → Int32) : Nat → Int32 := addR (mnA tp sd k o r) o 8 (if ps o ≤ 0 then 0 else if mo (mnA tp sd k o r) o 2 = 0 then 1 else 0)
def mnF (tp sd ps : Nat → Int32) (k : Int32) (r : Nat → Int32) : Nat → Nat → Int32
  | 0 => r
  | o + 1 => mnStep tp sd ps k o (mnF tp sd ps k r o)
theorem mnA_ne {tp sd r : Nat → Int32} {k : Int32} {o q : Nat} (hq : ∀ p, 5 ≤ p → p < 9 → q ≠ 73 + 42 * o + p) : mnA tp sd k o r q = r q := by
  unfold mnA
  split
  · rw [upd_n _ _ _ _ (hq 7 (by decide) (by decide))]
    split
    · exact addR_ne (hq 5 (by decide) (by decide))
    · exact addR_ne (hq 6 (by decide) (by decide))
  · rfl
theorem mnF_ne {tp sd ps r : Nat → Int32} {k : Int32} {q n : Nat} (hq : ∀ o, o < n → ∀ p, 5 ≤ p → p < 9 → q ≠ 73 + 42 * o + p) : ∀ i, i ≤ n → mnF tp sd ps k r i q = r q
  | 0, _ => rfl
  | i + 1, h => by
    show addR _ i 8 _ q = _
    rw [addR_ne (hq i (by omega) 8 (by decide) (by decide)), mnA_ne (hq i (by omega))]
    exact mnF_ne hq i (by omega)
def mlS (r : Nat → Int32) (a o : Nat) : Nat := (oSlot (mo r o) (nI a) (r 3)).toNatClampNeg
def mlStep (a : Nat) (k : Int32) (o : Nat) (r : Nat → Int32) : Nat → Int32 := if oTab (mo r o) = true then upd r (73 + 42 * o + (10 + mlS r a o)) (mLrn (mt r o (mlS r a o)) k) else r
def mlF (a : Nat) (k : Int32) (r : Nat → Int32) : Nat → Nat → Int32
  | 0 => r
  | o + 1 => mlStep a k o (mlF a k r o)
theorem mlF_ne {r : Nat → Int32} {a n : Nat} {k : Int32} (hg : ∀ o, o < n → oGood (mo r o)) : ∀ i, i ≤ n → ∀ q, (∀ o, o < n → ∀ p, 10 ≤ p → p < 42 → q ≠ 73 + 42 * o + p) → mlF a k r i q = r q
  | 0, _, _, _ => rfl
  | i + 1, h, q, hq => by
    have ih := mlF_ne (a := a) (k := k) hg i (by omega)
    have z0 : ∀ p, p < 2 → mo (mlF a k r i) i p = mo r i p := fun p hp => ih _ (fun o ho p2 h1 h2 => by omega)
    have zg : oGood (mo (mlF a k r i) i) := oGood_cg (z0 0 (by decide)) (z0 1 (by decide)) (hg i (by omega))
    show mlStep a k i _ q = _
    unfold mlStep
    split
    · rename_i ht
      obtain ⟨j, hj, ej⟩ := vp_in_of (oSlot_in zg ht (nI a) (mlF a k r i 3)) (by decide)
      rw [upd_n _ _ _ _ (hq i (by omega) _ (by omega) (by unfold mlS; rw [ej, nI_clamp (by omega)]; omega))]
      exact ih q hq
    · exact ih q hq
theorem mbM_ne {tp sd sk r : Nat → Int32} {k : Int32} {n m : Nat} (hn6 : n ≤ 6) (hm8 : m ≤ 8) (h8 : r 8 = nI m) (hcr : mcr r m) {q : Nat} (hq : notP q) (h1 : q < 325) (h2 : q ≠ 8) (h3 : q ≠ 4) (h4 : q ≠ 6) : mbM tp sd sk r n m k q = r q := by
  unfold mbM
  split
  · rfl
  · split
    · rfl
    · rw [upd_n _ _ _ _ h4, upd_n _ _ _ _ h3]
      exact (mbZ_I hn6 hm8 h8 hcr n hn6).2.2.2 q hq h1 h2
theorem mbM_cr {tp sd sk r : Nat → Int32} {k : Int32} {n m : Nat} (hn6 : n ≤ 6) (hm8 : m ≤ 8) (h8 : r 8 = nI m) (hcr : mcr r m) : mbM tp sd sk r n m k 8 = nI (mbN tp sd sk r n m k) ∧ mbN tp sd sk r n m k ≤ m ∧ mcr (mbM tp sd sk r n m k) (mbN tp sd sk r n m k) := by
  unfold mbM mbN
  split
  · exact ⟨h8, Nat.le_refl m, hcr⟩
  · split
    · exact ⟨h8, Nat.le_refl m, hcr⟩
    · obtain ⟨a1, a2, a3, -⟩ := mbZ_I (tp := tp) (sd := sd) (sk := sk) (k := k) hn6 hm8 h8 hcr n hn6
      refine ⟨by rw [upd_n _ _ _ _ (by decide), upd_n _ _ _ _ (by decide)]; exact a1, a2, fun l hl => ?_⟩
      obtain ⟨c, b1, b2⟩ := a3 l hl
      exact ⟨c, b1, by show upd (upd _ 4 _) 6 _ (325 + 3 * l + 0) = _; rw [upd_n _ _ _ _ (by omega), upd_n _ _ _ _ (by omega)]; exact b2⟩
/-- the row behind a branch: bets, records, counters, history -/
def mcB (σ : fM) (n m a : Nat) (k : Int32) : Nat → Int32 := mbM ((csT σ n a n).1 155) ((csT σ n a n).1 156) ((csT σ n a n).1 157) (σ.1 151) n m k
def mcC (σ : fM) (n m a : Nat) (k : Int32) : Nat := mbN ((csT σ n a n).1 155) ((csT σ n a n).1 156) ((csT σ n a n).1 157) (σ.1 151) n m k
def mcV (σ : fM) (n a : Nat) (k : Int32) : Int32 := mbV ((csT σ n a n).1 155) ((csT σ n a n).1 156) ((csT σ n a n).1 157) n k
def mcN (σ : fM) (n m a : Nat) (k : Int32) : Nat → Nat → Int32 := mnF ((csT σ n a n).1 155) ((csT σ n a n).1 156) ((csT σ n a n).1 158) k (mcB σ n m a k)
def mcL (σ : fM) (n m a : Nat) (k : Int32) : Nat → Nat → Int32 := mlF a k (mcN σ n m a k n)
def mcE (r : Nat → Int32) (a : Nat) (k : Int32) : Nat → Int32 := upd (upd (upd r 3 (2 * r 3 + k - (2 * r 3 + k) / 256 * 256)) (9 + a) 1) 5 (r 5 + 1)
def mcR (σ : fM) (n m a : Nat) (k : Int32) : Nat → Int32 := mcE (mcL σ n m a k n) a k
/-- the memory behind a branch -/
def mcM (σ : fM) (n m a : Nat) (k : Int32) : fM := puR (csT σ n a n) 151 (mcR σ n m a k)
theorem nine_add (j : Nat) : (9 : Int32) + nI j = nI (9 + j) := by rw [show (9 : Int32) = nI 9 by decide, nI_add]

set_option maxRecDepth 100000 in
set_option maxHeartbeats 4000000 in
theorem ct_X6_comes {l : Launch} {X : fX} {σ : fM} {n m a : Nat} (hg : mgd (σ.1 151) n m) (hcr : mcr (σ.1 151) m) (ha : a < 64) {k : Int32} : Ct l X yX6_comes cX6_comes 6 (some .int) 7 [ra X 150, .int (nI a), .int k] σ (some (.int (mcV σ n a k))) (mcM σ n m a k) := by
  refine Ct.of RX6 rfl (by decide) (Nat.le_of_ble_eq_true rfl) ?_
  intro x hL h hr
  refine g_sub [(0, ra X 150), (1, .int (nI a)), (2, .int k)] ⟨rfl, rfl, rfl, trivial⟩ ?_
  have hg0 := hg
  obtain ⟨⟨hn, hn6, hm, hm8⟩, hh, hor⟩ := hg
  have e1n : (csT σ n a n).1 151 = σ.1 151 := csM_ne (Or.inl (by decide))
  have hB : ∀ q, notP q → q < 325 → q ≠ 8 → q ≠ 4 → q ≠ 6 → mcB σ n m a k q = σ.1 151 q := fun q h1 h2 h3 h4 h5 => mbM_ne hn6 hm8 hm hcr h1 h2 h3 h4 h5
  have hB7 : mcB σ n m a k 7 = nI n := (hB 7 (notP_lo (by decide)) (by decide) (by decide) (by decide) (by decide)).trans hn
  have hN7 : mcN σ n m a k n 7 = nI n := (mnF_ne (n := n) (fun o ho p hp hp2 => by omega) n (Nat.le_refl n)).trans hB7
  have hN3 : mcN σ n m a k n 3 = σ.1 151 3 := (mnF_ne (n := n) (fun o ho p hp hp2 => by omega) n (Nat.le_refl n)).trans (hB 3 (notP_lo (by decide)) (by decide) (by decide) (by decide) (by decide))
  have hNo : ∀ i, i < n → ∀ p, p < 2 → mo (mcN σ n m a k n) i p = mo (σ.1 151) i p := fun i hi p hp => (mnF_ne (n := n) (fun o ho p hp hp2 => by omega) n (Nat.le_refl n)).trans (hB (73 + 42 * i + p) (notP_o (by omega) (by omega)) (by omega) (by omega) (by omega) (by omega))
  have hNg : ∀ i, i < n → oGood (mo (mcN σ n m a k n) i) := fun i hi => oGood_cg (hNo i hi 0 (by decide)) (hNo i hi 1 (by decide)) (hor i hi).2.1
  have LOOP3 : ∀ (q i : Nat), i + q = n → G x X (puR (csT σ n a n) 151 (mcL σ n m a k i)) [(0, ra X 150), (1, .int (nI a)), (2, .int k), (3, .int (mcV σ n a k)), (4, .int (nI i))] [] 209 := by
    intro q
    induction q with
    | zero =>
      intro i hi 
      have hie : i = n := by omega
      rw [hie]
      have z7 : mcL σ n m a k n 7 = nI n := (mlF_ne (n := n) hNg n (Nat.le_refl n) _ (fun o ho p hp hp2 => by omega)).trans hN7
      refine g_iload h dX6_comes_209 rfl ?_
      refine g_aload_n h dX6_comes_211 rfl ?_
      refine gf6_7 h  dX6_comes_212 ?_
      refine g_bipush (v := 7) h dX6_comes_215 (by decide) ?_
      refine g_ialdN h (k := 151) (by decide) (enc_151 X) (show (7 : Int32) = nI 7 by decide) (by decide) (by decide) dX6_comes_217 ?_
      refine g_top (nI n) (by rw [puR_self]; exact z7) ?_
      refine g_icge h 244 dX6_comes_218 (by decide) (fun c218 => ?_) (fun c218 => absurd (Int32.le_refl _) c218)
      refine g_aload_n h dX6_comes_244 rfl ?_
      refine gf6_7 h  dX6_comes_245 ?_
      refine g_iconst (v := 3) h dX6_comes_248 (by decide) ?_
      refine g_iconst (v := 2) h dX6_comes_249 (by decide) ?_
      refine g_aload_n h dX6_comes_250 rfl ?_
      refine gf6_7 h  dX6_comes_251 ?_
      refine g_iconst (v := 3) h dX6_comes_254 (by decide) ?_
      refine g_ialdN h (k := 151) (by decide) (enc_151 X) (show (3 : Int32) = nI 3 by decide) (by decide) (by decide) dX6_comes_255 ?_
      refine g_imul h dX6_comes_256 ?_
      refine g_iload_n h dX6_comes_257 rfl ?_
      refine g_iadd h dX6_comes_258 ?_
      refine g_sipush (v := 256) h dX6_comes_259 (by decide) ?_
      refine g_irem h dX6_comes_262 (by decide) ?_
      refine g_iastN h (k := 151) (by decide) (enc_151 X) (show (3 : Int32) = nI 3 by decide) (by decide) (by decide) dX6_comes_263 ?_
      refine g_aload_n h dX6_comes_264 rfl ?_
      refine gf6_7 h  dX6_comes_265 ?_
      refine g_bipush (v := 9) h dX6_comes_268 (by decide) ?_
      refine g_iload_n h dX6_comes_270 rfl ?_
      refine g_iadd h dX6_comes_271 ?_
      refine g_iconst (v := 1) h dX6_comes_272 (by decide) ?_
      refine g_iastN h (k := 151) (by decide) (enc_151 X) (nine_add a) (by omega) (by decide) dX6_comes_273 ?_
      refine g_aload_n h dX6_comes_274 rfl ?_
      refine gf6_7 h  dX6_comes_275 ?_
      refine g_iconst (v := 5) h dX6_comes_278 (by decide) ?_
      refine g_dup2 h dX6_comes_279 rfl rfl ?_
      refine g_ialdN h (k := 151) (by decide) (enc_151 X) (show (5 : Int32) = nI 5 by decide) (by decide) (by decide) dX6_comes_280 ?_
      refine g_iconst (v := 1) h dX6_comes_281 (by decide) ?_
      refine g_iadd h dX6_comes_282 ?_
      refine g_iastN h (k := 151) (by decide) (enc_151 X) (show (5 : Int32) = nI 5 by decide) (by decide) (by decide) dX6_comes_283 ?_
      refine g_iload_n h dX6_comes_284 rfl ?_
      exact g_iret h hr dX6_comes_285 rfl (by unfold mcM mcR mcE; simp only [pu_puR, puR_puR, puR_self]; refine congrArg (puR _ 151) (congrArg (fun z => upd _ 5 (z + 1)) ?_); rw [upd_n _ _ _ _ (by omega), upd_n _ _ _ _ (by decide)])
    | succ q ih =>
      intro i hi 
      have hlt : i < n := by omega
      have z7 : mcL σ n m a k i 7 = nI n := (mlF_ne (n := n) hNg i (by omega) _ (fun o ho p hp hp2 => by omega)).trans hN7
      have z3 : mcL σ n m a k i 3 = σ.1 151 3 := (mlF_ne (n := n) hNg i (by omega) _ (fun o ho p hp hp2 => by omega)).trans hN3
      have zo : ∀ p, p < 2 → mo (mcL σ n m a k i) i p = mo (σ.1 151) i p := fun p hp => (mlF_ne (n := n) hNg i (by omega) _ (fun o ho q hq hq2 => by omega)).trans (hNo i hlt p hp)
      generalize hz : mcL σ n m a k i = z at z7 z3 zo ⊢
      have zg : oGood (mo z i) := oGood_cg (zo 0 (by decide)) (zo 1 (by decide)) (hor i hlt).2.1
      have zh : mhi z := by obtain ⟨hv, h1, h2⟩ := hh; exact ⟨hv, h1, z3.trans h2⟩
      refine g_iload h dX6_comes_209 rfl ?_
      refine g_aload_n h dX6_comes_211 rfl ?_
      refine gf6_7 h  dX6_comes_212 ?_
      refine g_bipush (v := 7) h dX6_comes_215 (by decide) ?_
      refine g_ialdN h (k := 151) (by decide) (enc_151 X) (show (7 : Int32) = nI 7 by decide) (by decide) (by decide) dX6_comes_217 ?_
      refine g_top (nI n) (by rw [puR_self]; exact z7) ?_
      refine g_icge h 244 dX6_comes_218 (by decide) (fun c218 => absurd c218 (nI_ge hlt (by omega))) (fun c218 => ?_)
      refine g_aload_n h dX6_comes_221 rfl ?_
      refine g_iload h dX6_comes_222 rfl ?_
      refine cl6_50 h  (ct_X6_hasTable (i := i) (by omega)) rfl dX6_comes_224 rfl (Nat.le_of_ble_eq_true rfl) (by decide) ?_
      refine g_ifeqB h 238 dX6_comes_227 (by decide) (fun c227 => ?_) (fun c227 => ?_)
      · rw [puR_self] at c227
        refine g_iincN h dX6_comes_238 rfl (by rw [hL]; decide) ?_
        refine g_goto h 209 dX6_comes_241 (by decide) ?_
        refine g_mem (puR (csT σ n a n) 151 (mcL σ n m a k (i + 1))) (by show _ = puR (csT σ n a n) 151 (mlStep a k i (mcL σ n m a k i)); rw [hz]; first | (simp [pu_puR, puR_puR, puR_self, mlStep, mlS, c218, c227]; done) | (simp_all [pu_puR, puR_puR, puR_self, mlStep, mlS]; done)) ?_
        refine g_sub [(0, ra X 150), (1, .int (nI a)), (2, .int k), (3, .int (mcV σ n a k)), (4, .int (nI (i + 1)))] ⟨rfl, rfl, rfl, rfl, rfl, trivial⟩ ?_
        exact ih (i + 1) (by omega)
      · rw [puR_self] at c227
        refine g_aload_n h dX6_comes_230 rfl ?_
        refine g_iload h dX6_comes_231 rfl ?_
        refine g_iload_n h dX6_comes_233 rfl ?_
        refine g_iload_n h dX6_comes_234 rfl ?_
        refine cl6_114 h  (ct_X6_learns (i := i) (a := a) (by omega) ha (by rw [puR_self]; exact zh) (by rw [puR_self]; exact zg) (by rw [puR_self]; exact c227)) rfl dX6_comes_235 rfl (Nat.le_of_ble_eq_true rfl) (by decide) ?_
        refine g_iincN h dX6_comes_238 rfl (by rw [hL]; decide) ?_
        refine g_goto h 209 dX6_comes_241 (by decide) ?_
        refine g_mem (puR (csT σ n a n) 151 (mcL σ n m a k (i + 1))) (by show _ = puR (csT σ n a n) 151 (mlStep a k i (mcL σ n m a k i)); rw [hz]; first | (simp [pu_puR, puR_puR, puR_self, mlStep, mlS, c218, c227]; done) | (simp_all [pu_puR, puR_puR, puR_self, mlStep, mlS]; done)) ?_
        refine g_sub [(0, ra X 150), (1, .int (nI a)), (2, .int k), (3, .int (mcV σ n a k)), (4, .int (nI (i + 1)))] ⟨rfl, rfl, rfl, rfl, rfl, trivial⟩ ?_
        exact ih (i + 1) (by omega)
  have LOOP2 : ∀ (q i : Nat), i + q = n → G x X (puR (csT σ n a n) 151 (mcN σ n m a k i)) [(0, ra X 150), (1, .int (nI a)), (2, .int k), (3, .int (mcV σ n a k)), (4, .int (nI i))] [] 83 := by
    intro q
    induction q with
    | zero =>
      intro i hi 
      have hie : i = n := by omega
      rw [hie]
      have z7 : mcN σ n m a k n 7 = nI n := (mnF_ne (n := n) (fun o ho p hp hp2 => by omega) n (Nat.le_refl n)).trans hB7
      refine g_iload h dX6_comes_83 rfl ?_
      refine g_aload_n h dX6_comes_85 rfl ?_
      refine gf6_7 h  dX6_comes_86 ?_
      refine g_bipush (v := 7) h dX6_comes_89 (by decide) ?_
      refine g_ialdN h (k := 151) (by decide) (enc_151 X) (show (7 : Int32) = nI 7 by decide) (by decide) (by decide) dX6_comes_91 ?_
      refine g_top (nI n) (by rw [puR_self]; exact z7) ?_
      refine g_icge h 206 dX6_comes_92 (by decide) (fun c92 => ?_) (fun c92 => absurd (Int32.le_refl _) c92)
      refine g_iconst (v := 0) h dX6_comes_206 (by decide) ?_
      refine g_istore h dX6_comes_207 (by rw [hL]; decide) ?_
      refine g_mem (puR (csT σ n a n) 151 (mcL σ n m a k 0)) rfl ?_
      refine g_sub [(0, ra X 150), (1, .int (nI a)), (2, .int k), (3, .int (mcV σ n a k)), (4, .int (nI 0))] ⟨rfl, rfl, rfl, rfl, lk_0, trivial⟩ ?_
      exact LOOP3 n 0 (by omega)
    | succ q ih =>
      intro i hi 
      have hlt : i < n := by omega
      have z7 : mcN σ n m a k i 7 = nI n := (mnF_ne (n := n) (fun o ho p hp hp2 => by omega) i (by omega)).trans hB7
      generalize hz : mcN σ n m a k i = z at z7 ⊢
      refine g_iload h dX6_comes_83 rfl ?_
      refine g_aload_n h dX6_comes_85 rfl ?_
      refine gf6_7 h  dX6_comes_86 ?_
      refine g_bipush (v := 7) h dX6_comes_89 (by decide) ?_
      refine g_ialdN h (k := 151) (by decide) (enc_151 X) (show (7 : Int32) = nI 7 by decide) (by decide) (by decide) dX6_comes_91 ?_
      refine g_top (nI n) (by rw [puR_self]; exact z7) ?_
      refine g_icge h 206 dX6_comes_92 (by decide) (fun c92 => absurd c92 (nI_ge hlt (by omega))) (fun c92 => ?_)
      refine g_aload_n h dX6_comes_95 rfl ?_
      refine gf6_22 h  dX6_comes_96 ?_
      refine g_iload h dX6_comes_99 rfl ?_
      refine g_ialdN h (k := 155) (by decide) (enc_155 X) rfl (by omega) (by decide) dX6_comes_101 ?_
      refine g_top ((csT σ n a n).1 155 i) rfl ?_
      refine g_iconst (v := 1) h dX6_comes_102 (by decide) ?_
      refine g_icne h 167 dX6_comes_103 (by decide) (fun c103 => ?_) (fun c103 => ?_)
      · refine g_aload_n h dX6_comes_167 rfl ?_
        refine g_iload h dX6_comes_168 rfl ?_
        refine g_bipush (v := 8) h dX6_comes_170 (by decide) ?_
        refine g_aload_n h dX6_comes_172 rfl ?_
        refine gf6_31 h  dX6_comes_173 ?_
        refine g_iload h dX6_comes_176 rfl ?_
        refine g_ialdN h (k := 158) (by decide) (enc_158 X) rfl (by omega) (by decide) dX6_comes_178 ?_
        refine g_top ((csT σ n a n).1 158 i) rfl ?_
        refine g_ifle h 196 dX6_comes_179 (by decide) (fun c179 => ?_) (fun c179 => ?_)
        · refine g_iconst (v := 0) h dX6_comes_196 (by decide) ?_
          refine cl6_94 h  (ct_X6_addPart (i := i) (p := 8) (by omega) (by decide)) rfl dX6_comes_197 rfl (Nat.le_of_ble_eq_true rfl) (by decide) ?_
          refine g_iincN h dX6_comes_200 rfl (by rw [hL]; decide) ?_
          refine g_goto h 83 dX6_comes_203 (by decide) ?_
          refine g_mem (puR (csT σ n a n) 151 (mcN σ n m a k (i + 1))) (by show _ = puR (csT σ n a n) 151 (mnStep ((csT σ n a n).1 155) ((csT σ n a n).1 156) ((csT σ n a n).1 158) k i (mcN σ n m a k i)); rw [hz]; first | (simp [pu_puR, puR_puR, puR_self, mnStep, mnA, addR, c92, c103, c179]; done) | (simp_all [pu_puR, puR_puR, puR_self, mnStep, mnA, addR]; done)) ?_
          refine g_sub [(0, ra X 150), (1, .int (nI a)), (2, .int k), (3, .int (mcV σ n a k)), (4, .int (nI (i + 1)))] ⟨rfl, rfl, rfl, rfl, rfl, trivial⟩ ?_
          exact ih (i + 1) (by omega)
        · refine g_aload_n h dX6_comes_182 rfl ?_
          refine g_iload h dX6_comes_183 rfl ?_
          refine g_iconst (v := 2) h dX6_comes_185 (by decide) ?_
          refine cl6_46 h  (ct_X6_part (i := i) (p := 2) (by omega) (by decide)) rfl dX6_comes_186 rfl (Nat.le_of_ble_eq_true rfl) (by decide) ?_
          refine g_ifne h 196 dX6_comes_189 (by decide) (fun c189 => ?_) (fun c189 => ?_)
          · try simp only [pu_puR, puR_puR, puR_self, Int32.add_zero] at c189
            refine g_iconst (v := 0) h dX6_comes_196 (by decide) ?_
            refine cl6_94 h  (ct_X6_addPart (i := i) (p := 8) (by omega) (by decide)) rfl dX6_comes_197 rfl (Nat.le_of_ble_eq_true rfl) (by decide) ?_
            refine g_iincN h dX6_comes_200 rfl (by rw [hL]; decide) ?_
            refine g_goto h 83 dX6_comes_203 (by decide) ?_
            refine g_mem (puR (csT σ n a n) 151 (mcN σ n m a k (i + 1))) (by show _ = puR (csT σ n a n) 151 (mnStep ((csT σ n a n).1 155) ((csT σ n a n).1 156) ((csT σ n a n).1 158) k i (mcN σ n m a k i)); rw [hz]; first | (simp [pu_puR, puR_puR, puR_self, mnStep, mnA, addR, c92, c103, c179, c189]; done) | (simp_all [pu_puR, puR_puR, puR_self, mnStep, mnA, addR]; done)) ?_
            refine g_sub [(0, ra X 150), (1, .int (nI a)), (2, .int k), (3, .int (mcV σ n a k)), (4, .int (nI (i + 1)))] ⟨rfl, rfl, rfl, rfl, rfl, trivial⟩ ?_
            exact ih (i + 1) (by omega)
          · try simp only [pu_puR, puR_puR, puR_self, Int32.add_zero] at c189
            refine g_iconst (v := 1) h dX6_comes_192 (by decide) ?_
            refine g_goto h 197 dX6_comes_193 (by decide) ?_
            refine cl6_94 h  (ct_X6_addPart (i := i) (p := 8) (by omega) (by decide)) rfl dX6_comes_197 rfl (Nat.le_of_ble_eq_true rfl) (by decide) ?_
            refine g_iincN h dX6_comes_200 rfl (by rw [hL]; decide) ?_
            refine g_goto h 83 dX6_comes_203 (by decide) ?_
            refine g_mem (puR (csT σ n a n) 151 (mcN σ n m a k (i + 1))) (by show _ = puR (csT σ n a n) 151 (mnStep ((csT σ n a n).1 155) ((csT σ n a n).1 156) ((csT σ n a n).1 158) k i (mcN σ n m a k i)); rw [hz]; first | (simp [pu_puR, puR_puR, puR_self, mnStep, mnA, addR, c92, c103, c179, c189]; done) | (simp_all [pu_puR, puR_puR, puR_self, mnStep, mnA, addR]; done)) ?_
            refine g_sub [(0, ra X 150), (1, .int (nI a)), (2, .int k), (3, .int (mcV σ n a k)), (4, .int (nI (i + 1)))] ⟨rfl, rfl, rfl, rfl, rfl, trivial⟩ ?_
            exact ih (i + 1) (by omega)
      · refine g_aload_n h dX6_comes_106 rfl ?_
        refine gf6_25 h  dX6_comes_107 ?_
        refine g_iload h dX6_comes_110 rfl ?_
        refine g_ialdN h (k := 156) (by decide) (enc_156 X) rfl (by omega) (by decide) dX6_comes_112 ?_
        refine g_top ((csT σ n a n).1 156 i) rfl ?_
        refine g_iload_n h dX6_comes_113 rfl ?_
        refine g_icne h 121 dX6_comes_114 (by decide) (fun c114 => ?_) (fun c114 => ?_)
        · refine g_iconst (v := 0) h dX6_comes_121 (by decide) ?_
          refine g_istore h dX6_comes_122 (by rw [hL]; decide) ?_
          refine g_aload_n h dX6_comes_124 rfl ?_
          refine g_iload h dX6_comes_125 rfl ?_
          refine g_iload h dX6_comes_127 rfl ?_
          refine g_iconst (v := 1) h dX6_comes_129 (by decide) ?_
          refine g_icne h 137 dX6_comes_130 (by decide) (fun c130 => ?_) (fun c130 => absurd c130 (by decide))
          refine g_bipush (v := 6) h dX6_comes_137 (by decide) ?_
          refine g_iconst (v := 1) h dX6_comes_139 (by decide) ?_
          refine cl6_94 h  (ct_X6_addPart (i := i) (p := 6) (by omega) (by decide)) rfl dX6_comes_140 rfl (Nat.le_of_ble_eq_true rfl) (by decide) ?_
          refine g_aload_n h dX6_comes_143 rfl ?_
          refine g_iload h dX6_comes_144 rfl ?_
          refine g_bipush (v := 7) h dX6_comes_146 (by decide) ?_
          refine g_iconst (v := 2) h dX6_comes_148 (by decide) ?_
          refine g_aload_n h dX6_comes_149 rfl ?_
          refine g_iload h dX6_comes_150 rfl ?_
          refine g_bipush (v := 7) h dX6_comes_152 (by decide) ?_
          refine cl6_46 h  (ct_X6_part (i := i) (p := 7) (by omega) (by decide)) rfl dX6_comes_154 rfl (Nat.le_of_ble_eq_true rfl) (by decide) ?_
          refine g_imul h dX6_comes_157 ?_
          refine g_ldc h (65536) (lw_in 809 (by decide +kernel) rfl) dX6_comes_158 ?_
          refine g_irem h dX6_comes_160 (by decide) ?_
          refine g_iload h dX6_comes_161 rfl ?_
          refine g_iadd h dX6_comes_163 ?_
          refine cl6_82 h  (ct_X6_setPart (i := i) (p := 7) (by omega) (by decide)) rfl dX6_comes_164 rfl (Nat.le_of_ble_eq_true rfl) (by decide) ?_
          refine g_aload_n h dX6_comes_167 rfl ?_
          refine g_iload h dX6_comes_168 rfl ?_
          refine g_bipush (v := 8) h dX6_comes_170 (by decide) ?_
          refine g_aload_n h dX6_comes_172 rfl ?_
          refine gf6_31 h  dX6_comes_173 ?_
          refine g_iload h dX6_comes_176 rfl ?_
          refine g_ialdN h (k := 158) (by decide) (enc_158 X) rfl (by omega) (by decide) dX6_comes_178 ?_
          refine g_top ((csT σ n a n).1 158 i) rfl ?_
          refine g_ifle h 196 dX6_comes_179 (by decide) (fun c179 => ?_) (fun c179 => ?_)
          · refine g_iconst (v := 0) h dX6_comes_196 (by decide) ?_
            refine cl6_94 h  (ct_X6_addPart (i := i) (p := 8) (by omega) (by decide)) rfl dX6_comes_197 rfl (Nat.le_of_ble_eq_true rfl) (by decide) ?_
            refine g_iincN h dX6_comes_200 rfl (by rw [hL]; decide) ?_
            refine g_goto h 83 dX6_comes_203 (by decide) ?_
            refine g_mem (puR (csT σ n a n) 151 (mcN σ n m a k (i + 1))) (by show _ = puR (csT σ n a n) 151 (mnStep ((csT σ n a n).1 155) ((csT σ n a n).1 156) ((csT σ n a n).1 158) k i (mcN σ n m a k i)); rw [hz]; first | (simp [pu_puR, puR_puR, puR_self, mnStep, mnA, addR, c92, c103, c114, c130, c179]; done) | (simp_all [pu_puR, puR_puR, puR_self, mnStep, mnA, addR]; done)) ?_
            refine g_sub [(0, ra X 150), (1, .int (nI a)), (2, .int k), (3, .int (mcV σ n a k)), (4, .int (nI (i + 1)))] ⟨rfl, rfl, rfl, rfl, rfl, trivial⟩ ?_
            exact ih (i + 1) (by omega)
          · refine g_aload_n h dX6_comes_182 rfl ?_
            refine g_iload h dX6_comes_183 rfl ?_
            refine g_iconst (v := 2) h dX6_comes_185 (by decide) ?_
            refine cl6_46 h  (ct_X6_part (i := i) (p := 2) (by omega) (by decide)) rfl dX6_comes_186 rfl (Nat.le_of_ble_eq_true rfl) (by decide) ?_
            refine g_ifne h 196 dX6_comes_189 (by decide) (fun c189 => ?_) (fun c189 => ?_)
            · try simp only [pu_puR, puR_puR, puR_self, Int32.add_zero] at c189
              refine g_iconst (v := 0) h dX6_comes_196 (by decide) ?_
              refine cl6_94 h  (ct_X6_addPart (i := i) (p := 8) (by omega) (by decide)) rfl dX6_comes_197 rfl (Nat.le_of_ble_eq_true rfl) (by decide) ?_
              refine g_iincN h dX6_comes_200 rfl (by rw [hL]; decide) ?_
              refine g_goto h 83 dX6_comes_203 (by decide) ?_
              refine g_mem (puR (csT σ n a n) 151 (mcN σ n m a k (i + 1))) (by show _ = puR (csT σ n a n) 151 (mnStep ((csT σ n a n).1 155) ((csT σ n a n).1 156) ((csT σ n a n).1 158) k i (mcN σ n m a k i)); rw [hz]; first | (simp [pu_puR, puR_puR, puR_self, mnStep, mnA, addR, c92, c103, c114, c130, c179, c189]; done) | (simp_all [pu_puR, puR_puR, puR_self, mnStep, mnA, addR]; done)) ?_
              refine g_sub [(0, ra X 150), (1, .int (nI a)), (2, .int k), (3, .int (mcV σ n a k)), (4, .int (nI (i + 1)))] ⟨rfl, rfl, rfl, rfl, rfl, trivial⟩ ?_
              exact ih (i + 1) (by omega)
            · try simp only [pu_puR, puR_puR, puR_self, Int32.add_zero] at c189
              refine g_iconst (v := 1) h dX6_comes_192 (by decide) ?_
              refine g_goto h 197 dX6_comes_193 (by decide) ?_
              refine cl6_94 h  (ct_X6_addPart (i := i) (p := 8) (by omega) (by decide)) rfl dX6_comes_197 rfl (Nat.le_of_ble_eq_true rfl) (by decide) ?_
              refine g_iincN h dX6_comes_200 rfl (by rw [hL]; decide) ?_
              refine g_goto h 83 dX6_comes_203 (by decide) ?_
              refine g_mem (puR (csT σ n a n) 151 (mcN σ n m a k (i + 1))) (by show _ = puR (csT σ n a n) 151 (mnStep ((csT σ n a n).1 155) ((csT σ n a n).1 156) ((csT σ n a n).1 158) k i (mcN σ n m a k i)); rw [hz]; first | (simp [pu_puR, puR_puR, puR_self, mnStep, mnA, addR, c92, c103, c114, c130, c179, c189]; done) | (simp_all [pu_puR, puR_puR, puR_self, mnStep, mnA, addR]; done)) ?_
              refine g_sub [(0, ra X 150), (1, .int (nI a)), (2, .int k), (3, .int (mcV σ n a k)), (4, .int (nI (i + 1)))] ⟨rfl, rfl, rfl, rfl, rfl, trivial⟩ ?_
              exact ih (i + 1) (by omega)
        · refine g_iconst (v := 1) h dX6_comes_117 (by decide) ?_
          refine g_goto h 122 dX6_comes_118 (by decide) ?_
          refine g_istore h dX6_comes_122 (by rw [hL]; decide) ?_
          refine g_aload_n h dX6_comes_124 rfl ?_
          refine g_iload h dX6_comes_125 rfl ?_
          refine g_iload h dX6_comes_127 rfl ?_
          refine g_iconst (v := 1) h dX6_comes_129 (by decide) ?_
          refine g_icne h 137 dX6_comes_130 (by decide) (fun c130 => absurd rfl c130) (fun c130 => ?_)
          refine g_iconst (v := 5) h dX6_comes_133 (by decide) ?_
          refine g_goto h 139 dX6_comes_134 (by decide) ?_
          refine g_iconst (v := 1) h dX6_comes_139 (by decide) ?_
          refine cl6_94 h  (ct_X6_addPart (i := i) (p := 5) (by omega) (by decide)) rfl dX6_comes_140 rfl (Nat.le_of_ble_eq_true rfl) (by decide) ?_
          refine g_aload_n h dX6_comes_143 rfl ?_
          refine g_iload h dX6_comes_144 rfl ?_
          refine g_bipush (v := 7) h dX6_comes_146 (by decide) ?_
          refine g_iconst (v := 2) h dX6_comes_148 (by decide) ?_
          refine g_aload_n h dX6_comes_149 rfl ?_
          refine g_iload h dX6_comes_150 rfl ?_
          refine g_bipush (v := 7) h dX6_comes_152 (by decide) ?_
          refine cl6_46 h  (ct_X6_part (i := i) (p := 7) (by omega) (by decide)) rfl dX6_comes_154 rfl (Nat.le_of_ble_eq_true rfl) (by decide) ?_
          refine g_imul h dX6_comes_157 ?_
          refine g_ldc h (65536) (lw_in 809 (by decide +kernel) rfl) dX6_comes_158 ?_
          refine g_irem h dX6_comes_160 (by decide) ?_
          refine g_iload h dX6_comes_161 rfl ?_
          refine g_iadd h dX6_comes_163 ?_
          refine cl6_82 h  (ct_X6_setPart (i := i) (p := 7) (by omega) (by decide)) rfl dX6_comes_164 rfl (Nat.le_of_ble_eq_true rfl) (by decide) ?_
          refine g_aload_n h dX6_comes_167 rfl ?_
          refine g_iload h dX6_comes_168 rfl ?_
          refine g_bipush (v := 8) h dX6_comes_170 (by decide) ?_
          refine g_aload_n h dX6_comes_172 rfl ?_
          refine gf6_31 h  dX6_comes_173 ?_
          refine g_iload h dX6_comes_176 rfl ?_
          refine g_ialdN h (k := 158) (by decide) (enc_158 X) rfl (by omega) (by decide) dX6_comes_178 ?_
          refine g_top ((csT σ n a n).1 158 i) rfl ?_
          refine g_ifle h 196 dX6_comes_179 (by decide) (fun c179 => ?_) (fun c179 => ?_)
          · refine g_iconst (v := 0) h dX6_comes_196 (by decide) ?_
            refine cl6_94 h  (ct_X6_addPart (i := i) (p := 8) (by omega) (by decide)) rfl dX6_comes_197 rfl (Nat.le_of_ble_eq_true rfl) (by decide) ?_
            refine g_iincN h dX6_comes_200 rfl (by rw [hL]; decide) ?_
            refine g_goto h 83 dX6_comes_203 (by decide) ?_
            refine g_mem (puR (csT σ n a n) 151 (mcN σ n m a k (i + 1))) (by show _ = puR (csT σ n a n) 151 (mnStep ((csT σ n a n).1 155) ((csT σ n a n).1 156) ((csT σ n a n).1 158) k i (mcN σ n m a k i)); rw [hz]; first | (simp [pu_puR, puR_puR, puR_self, mnStep, mnA, addR, c92, c103, c114, c130, c179]; done) | (simp_all [pu_puR, puR_puR, puR_self, mnStep, mnA, addR]; done)) ?_
            refine g_sub [(0, ra X 150), (1, .int (nI a)), (2, .int k), (3, .int (mcV σ n a k)), (4, .int (nI (i + 1)))] ⟨rfl, rfl, rfl, rfl, rfl, trivial⟩ ?_
            exact ih (i + 1) (by omega)
          · refine g_aload_n h dX6_comes_182 rfl ?_
            refine g_iload h dX6_comes_183 rfl ?_
            refine g_iconst (v := 2) h dX6_comes_185 (by decide) ?_
            refine cl6_46 h  (ct_X6_part (i := i) (p := 2) (by omega) (by decide)) rfl dX6_comes_186 rfl (Nat.le_of_ble_eq_true rfl) (by decide) ?_
            refine g_ifne h 196 dX6_comes_189 (by decide) (fun c189 => ?_) (fun c189 => ?_)
            · try simp only [pu_puR, puR_puR, puR_self, Int32.add_zero] at c189
              refine g_iconst (v := 0) h dX6_comes_196 (by decide) ?_
              refine cl6_94 h  (ct_X6_addPart (i := i) (p := 8) (by omega) (by decide)) rfl dX6_comes_197 rfl (Nat.le_of_ble_eq_true rfl) (by decide) ?_
              refine g_iincN h dX6_comes_200 rfl (by rw [hL]; decide) ?_
              refine g_goto h 83 dX6_comes_203 (by decide) ?_
              refine g_mem (puR (csT σ n a n) 151 (mcN σ n m a k (i + 1))) (by show _ = puR (csT σ n a n) 151 (mnStep ((csT σ n a n).1 155) ((csT σ n a n).1 156) ((csT σ n a n).1 158) k i (mcN σ n m a k i)); rw [hz]; first | (simp [pu_puR, puR_puR, puR_self, mnStep, mnA, addR, c92, c103, c114, c130, c179, c189]; done) | (simp_all [pu_puR, puR_puR, puR_self, mnStep, mnA, addR]; done)) ?_
              refine g_sub [(0, ra X 150), (1, .int (nI a)), (2, .int k), (3, .int (mcV σ n a k)), (4, .int (nI (i + 1)))] ⟨rfl, rfl, rfl, rfl, rfl, trivial⟩ ?_
              exact ih (i + 1) (by omega)
            · try simp only [pu_puR, puR_puR, puR_self, Int32.add_zero] at c189
              refine g_iconst (v := 1) h dX6_comes_192 (by decide) ?_
              refine g_goto h 197 dX6_comes_193 (by decide) ?_
              refine cl6_94 h  (ct_X6_addPart (i := i) (p := 8) (by omega) (by decide)) rfl dX6_comes_197 rfl (Nat.le_of_ble_eq_true rfl) (by decide) ?_
              refine g_iincN h dX6_comes_200 rfl (by rw [hL]; decide) ?_
              refine g_goto h 83 dX6_comes_203 (by decide) ?_
              refine g_mem (puR (csT σ n a n) 151 (mcN σ n m a k (i + 1))) (by show _ = puR (csT σ n a n) 151 (mnStep ((csT σ n a n).1 155) ((csT σ n a n).1 156) ((csT σ n a n).1 158) k i (mcN σ n m a k i)); rw [hz]; first | (simp [pu_puR, puR_puR, puR_self, mnStep, mnA, addR, c92, c103, c114, c130, c179, c189]; done) | (simp_all [pu_puR, puR_puR, puR_self, mnStep, mnA, addR]; done)) ?_
              refine g_sub [(0, ra X 150), (1, .int (nI a)), (2, .int k), (3, .int (mcV σ n a k)), (4, .int (nI (i + 1)))] ⟨rfl, rfl, rfl, rfl, rfl, trivial⟩ ?_
              exact ih (i + 1) (by omega)
  have LOOP1 : ∀ (q i : Nat), i + q = n → G x X (csT σ n a i) [(0, ra X 150), (1, .int (nI a)), (2, .int k), (3, .int (nI i))] [] 2 := by
    intro q
    induction q with
    | zero =>
      intro i hi 
      have hie : i = n := by omega
      rw [hie]
      refine g_iload_n h dX6_comes_2 rfl ?_
      refine g_aload_n h dX6_comes_3 rfl ?_
      refine gf6_7 h  dX6_comes_4 ?_
      refine g_bipush (v := 7) h dX6_comes_7 (by decide) ?_
      refine g_ialdN h (k := 151) (by decide) (enc_151 X) (show (7 : Int32) = nI 7 by decide) (by decide) (by decide) dX6_comes_9 ?_
      refine g_top (nI n) (by rw [e1n]; exact hn) ?_
      refine g_icge h 74 dX6_comes_10 (by decide) (fun c10 => ?_) (fun c10 => absurd (Int32.le_refl _) c10)
      refine g_aload_n h dX6_comes_74 rfl ?_
      refine g_iload_n h dX6_comes_75 rfl ?_
      refine cl6_110 h  (ct_X6_bets (n := n) (m := m) (by rw [e1n]; exact hg0.1) (by rw [e1n]; exact hcr)) rfl dX6_comes_76 rfl (Nat.le_of_ble_eq_true rfl) (by decide) ?_
      refine g_mem (puR (csT σ n a n) 151 (mcB σ n m a k)) (by rw [e1n]; rfl) ?_
      refine g_top (mcV σ n a k) rfl ?_
      refine g_istore_n h dX6_comes_79 (by rw [hL]; decide) ?_
      refine g_iconst (v := 0) h dX6_comes_80 (by decide) ?_
      refine g_istore h dX6_comes_81 (by rw [hL]; decide) ?_
      refine g_mem (puR (csT σ n a n) 151 (mcN σ n m a k 0)) rfl ?_
      refine g_sub [(0, ra X 150), (1, .int (nI a)), (2, .int k), (3, .int (mcV σ n a k)), (4, .int (nI 0))] ⟨rfl, rfl, rfl, rfl, lk_0, trivial⟩ ?_
      exact LOOP2 n 0 (by omega)
    | succ q ih =>
      intro i hi 
      have hlt : i < n := by omega
      have e1 : (csT σ n a i).1 151 = σ.1 151 := csM_ne (Or.inl (by decide))
      generalize hτ : csT σ n a i = τ at e1 ⊢
      refine g_iload_n h dX6_comes_2 rfl ?_
      refine g_aload_n h dX6_comes_3 rfl ?_
      refine gf6_7 h  dX6_comes_4 ?_
      refine g_bipush (v := 7) h dX6_comes_7 (by decide) ?_
      refine g_ialdN h (k := 151) (by decide) (enc_151 X) (show (7 : Int32) = nI 7 by decide) (by decide) (by decide) dX6_comes_9 ?_
      refine g_top (nI n) (by rw [e1]; exact hn) ?_
      refine g_icge h 74 dX6_comes_10 (by decide) (fun c10 => absurd c10 (nI_ge hlt (by omega))) (fun c10 => ?_)
      refine g_aload_n h dX6_comes_13 rfl ?_
      refine gf6_22 h  dX6_comes_14 ?_
      refine g_iload_n h dX6_comes_17 rfl ?_
      refine g_aload_n h dX6_comes_18 rfl ?_
      refine g_iload_n h dX6_comes_19 rfl ?_
      refine cl6_70 h  (ct_X6_isIn (i := i) (by omega) (by rw [e1]; exact purse_nn (hor i hlt))) rfl dX6_comes_20 rfl (Nat.le_of_ble_eq_true rfl) (by decide) ?_
      refine g_ifeqB h 30 dX6_comes_23 (by decide) (fun c23 => ?_) (fun c23 => ?_)
      · refine g_iconst (v := 0) h dX6_comes_30 (by decide) ?_
        refine g_top (cf1 (σ.1 151) i) (by rw [e1] at c23; simp [cf1, bi, c23]) ?_
        refine g_iastN h (k := 155) (by decide) (enc_155 X) rfl (by omega) (by decide) dX6_comes_31 ?_
        refine g_aload_n h dX6_comes_32 rfl ?_
        refine gf6_25 h  dX6_comes_33 ?_
        refine g_iload_n h dX6_comes_36 rfl ?_
        refine g_aload_n h dX6_comes_37 rfl ?_
        refine g_iload_n h dX6_comes_38 rfl ?_
        refine g_iload_n h dX6_comes_39 rfl ?_
        refine cl6_104 h  (ct_X6_wordOf (n := n) (m := m) (j := i) (by rw [pu_ne _ (by decide), e1]; exact hg0) hlt ha) rfl dX6_comes_40 rfl (Nat.le_of_ble_eq_true rfl) (by decide) ?_
        refine g_top (cf2 (σ.1 151) n a i) (by rw [pu_ne _ (by decide), e1]; rfl) ?_
        refine g_iastN h (k := 156) (by decide) (enc_156 X) rfl (by omega) (by decide) dX6_comes_43 ?_
        refine g_aload_n h dX6_comes_44 rfl ?_
        refine gf6_28 h  dX6_comes_45 ?_
        refine g_iload_n h dX6_comes_48 rfl ?_
        refine g_aload_n h dX6_comes_49 rfl ?_
        refine g_iload_n h dX6_comes_50 rfl ?_
        refine g_iload_n h dX6_comes_51 rfl ?_
        refine cl6_107 h  (ct_X6_stakeOf (i := i) (by omega) ha (by rw [pu_ne _ (by decide), pu_ne _ (by decide), e1]; exact hh) (by rw [pu_ne _ (by decide), pu_ne _ (by decide), e1]; exact hor i hlt)) rfl dX6_comes_52 rfl (Nat.le_of_ble_eq_true rfl) (by decide) ?_
        refine g_top (cf3 (σ.1 151) a i) (by rw [pu_ne _ (by decide), pu_ne _ (by decide), e1]; rfl) ?_
        refine g_iastN h (k := 157) (by decide) (enc_157 X) rfl (by omega) (by decide) dX6_comes_55 ?_
        refine g_aload_n h dX6_comes_56 rfl ?_
        refine gf6_31 h  dX6_comes_57 ?_
        refine g_iload_n h dX6_comes_60 rfl ?_
        refine g_aload_n h dX6_comes_61 rfl ?_
        refine g_iload_n h dX6_comes_62 rfl ?_
        refine g_iconst (v := 2) h dX6_comes_63 (by decide) ?_
        refine cl6_46 h  (ct_X6_part (i := i) (p := 2) (by omega) (by decide)) rfl dX6_comes_64 rfl (Nat.le_of_ble_eq_true rfl) (by decide) ?_
        refine g_top (cf4 (σ.1 151) i) (by rw [pu_ne _ (by decide), pu_ne _ (by decide), pu_ne _ (by decide), e1]; rfl) ?_
        refine g_iastN h (k := 158) (by decide) (enc_158 X) rfl (by omega) (by decide) dX6_comes_67 ?_
        refine g_iincN h dX6_comes_68 rfl (by rw [hL]; decide) ?_
        refine g_goto h 2 dX6_comes_71 (by decide) ?_
        refine g_mem (csT σ n a (i + 1)) (by rw [← hτ]; exact csM_s _ _ _ _ _ i) ?_
        refine g_sub [(0, ra X 150), (1, .int (nI a)), (2, .int k), (3, .int (nI (i + 1)))] ⟨rfl, rfl, rfl, rfl, trivial⟩ ?_
        exact ih (i + 1) (by omega)
      · refine g_iconst (v := 1) h dX6_comes_26 (by decide) ?_
        refine g_goto h 31 dX6_comes_27 (by decide) ?_
        refine g_top (cf1 (σ.1 151) i) (by rw [e1] at c23; simp [cf1, bi, c23]) ?_
        refine g_iastN h (k := 155) (by decide) (enc_155 X) rfl (by omega) (by decide) dX6_comes_31 ?_
        refine g_aload_n h dX6_comes_32 rfl ?_
        refine gf6_25 h  dX6_comes_33 ?_
        refine g_iload_n h dX6_comes_36 rfl ?_
        refine g_aload_n h dX6_comes_37 rfl ?_
        refine g_iload_n h dX6_comes_38 rfl ?_
        refine g_iload_n h dX6_comes_39 rfl ?_
        refine cl6_104 h  (ct_X6_wordOf (n := n) (m := m) (j := i) (by rw [pu_ne _ (by decide), e1]; exact hg0) hlt ha) rfl dX6_comes_40 rfl (Nat.le_of_ble_eq_true rfl) (by decide) ?_
        refine g_top (cf2 (σ.1 151) n a i) (by rw [pu_ne _ (by decide), e1]; rfl) ?_
        refine g_iastN h (k := 156) (by decide) (enc_156 X) rfl (by omega) (by decide) dX6_comes_43 ?_
        refine g_aload_n h dX6_comes_44 rfl ?_
        refine gf6_28 h  dX6_comes_45 ?_
        refine g_iload_n h dX6_comes_48 rfl ?_
        refine g_aload_n h dX6_comes_49 rfl ?_
        refine g_iload_n h dX6_comes_50 rfl ?_
        refine g_iload_n h dX6_comes_51 rfl ?_
        refine cl6_107 h  (ct_X6_stakeOf (i := i) (by omega) ha (by rw [pu_ne _ (by decide), pu_ne _ (by decide), e1]; exact hh) (by rw [pu_ne _ (by decide), pu_ne _ (by decide), e1]; exact hor i hlt)) rfl dX6_comes_52 rfl (Nat.le_of_ble_eq_true rfl) (by decide) ?_
        refine g_top (cf3 (σ.1 151) a i) (by rw [pu_ne _ (by decide), pu_ne _ (by decide), e1]; rfl) ?_
        refine g_iastN h (k := 157) (by decide) (enc_157 X) rfl (by omega) (by decide) dX6_comes_55 ?_
        refine g_aload_n h dX6_comes_56 rfl ?_
        refine gf6_31 h  dX6_comes_57 ?_
        refine g_iload_n h dX6_comes_60 rfl ?_
        refine g_aload_n h dX6_comes_61 rfl ?_
        refine g_iload_n h dX6_comes_62 rfl ?_
        refine g_iconst (v := 2) h dX6_comes_63 (by decide) ?_
        refine cl6_46 h  (ct_X6_part (i := i) (p := 2) (by omega) (by decide)) rfl dX6_comes_64 rfl (Nat.le_of_ble_eq_true rfl) (by decide) ?_
        refine g_top (cf4 (σ.1 151) i) (by rw [pu_ne _ (by decide), pu_ne _ (by decide), pu_ne _ (by decide), e1]; rfl) ?_
        refine g_iastN h (k := 158) (by decide) (enc_158 X) rfl (by omega) (by decide) dX6_comes_67 ?_
        refine g_iincN h dX6_comes_68 rfl (by rw [hL]; decide) ?_
        refine g_goto h 2 dX6_comes_71 (by decide) ?_
        refine g_mem (csT σ n a (i + 1)) (by rw [← hτ]; exact csM_s _ _ _ _ _ i) ?_
        refine g_sub [(0, ra X 150), (1, .int (nI a)), (2, .int k), (3, .int (nI (i + 1)))] ⟨rfl, rfl, rfl, rfl, trivial⟩ ?_
        exact ih (i + 1) (by omega)
  refine g_iconst (v := 0) h dX6_comes_0 (by decide) ?_
  refine g_istore_n h dX6_comes_1 (by rw [hL]; decide) ?_
  refine g_mem (csT σ n a 0) (csM_0 _ _ _ _ _).symm ?_
  refine g_sub [(0, ra X 150), (1, .int (nI a)), (2, .int k), (3, .int (nI 0))] ⟨rfl, rfl, rfl, lk_0, trivial⟩ ?_
  exact LOOP1 n 0 (by omega)