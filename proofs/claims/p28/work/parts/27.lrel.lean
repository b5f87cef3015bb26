/-! class and law: one relation -/
/-- the state s of the class is what the law's rows tell -/
def lrl (σ : fM) (s : Nat) (Q O T V : Nat → Int32) (m : Nat) : Prop :=
  cnt σ s 5 m ∧ Q 7 = nI m ∧ (σ.1 (iS s) 5 = Q 4 ∧ σ.1 (iS s) 6 = Q 3 ∧ σ.1 (iS s) 7 = Q 5 ∧ σ.1 (iS s) 8 = Q 6) ∧ (∀ j, j < 3 → σ.1 (iSet s) j = Q j) ∧
  (∀ i, i < 5 → (∀ p, p < 4 → σ.1 (iO s i) p = O (10 * i + p)) ∧ (∀ p, 4 ≤ p → p < 8 → σ.1 (iO s i) (p + 1) = O (10 * i + p)) ∧ ∀ q, q < 8 → σ.1 (iT s i) q = T (8 * i + q)) ∧
  ∀ l, l < m → ∀ j, j < 3 → σ.1 (iL s l) j = V (3 * l + j)
/-- an oracle, as it should be, after at most y branches -/
def lgo (O T : Nat → Int32) (y i : Nat) : Prop := (∃ c : Nat, c ≤ 4 ∧ O (10 * i) = nI c) ∧ (∃ n : Nat, n ≤ 3 ∧ O (10 * i + 1) = nI n) ∧ (O (10 * i) = 0 → O (10 * i + 1) = 0 ∨ O (10 * i + 1) = 1) ∧ (O (10 * i + 3) = -1 ∨ ∃ b : Nat, b < 3 ∧ O (10 * i + 3) = nI b) ∧
  (∃ v : Nat, v < 65536 ∧ O (10 * i + 6) = nI v) ∧ (∃ a b : Nat, a + b ≤ y ∧ O (10 * i + 4) = nI a ∧ O (10 * i + 5) = nI b) ∧ ∀ q, q < 8 → ∃ v : Nat, v ≤ 3 ∧ T (8 * i + q) = nI v
/-- the rows, as they should be: at most B coins in purses -/
def lgd (Q O T V : Nat → Int32) (m B y : Nat) : Prop :=
  ((∃ u : Nat, 1 ≤ u ∧ u ≤ 50 ∧ Q 0 = nI u) ∧ (∃ c : Nat, c ≤ 50 ∧ Q 1 = nI c) ∧ (∃ c : Nat, c ≤ 100 ∧ Q 2 = nI c) ∧ ∃ h : Nat, h < 256 ∧ Q 3 = nI h) ∧ (∀ i, i < 5 → lgo O T y i) ∧ (∃ p : Nat → Nat, lpu O p ∧ sumN p 5 ≤ B) ∧ llo V m
theorem lgd.H {Q O T V : Nat → Int32} {m B y : Nat} (g : lgd Q O T V m B y) (hB : B < 2 ^ 30) : lH O T := fun k hk => by
  obtain ⟨-, ho, ⟨p, hp, hs⟩, -⟩ := g
  obtain ⟨h1, h2, -, h4, -, -, h7⟩ := ho k hk
  exact ⟨h1, h2, ⟨p k, by have := sumN_le (p := p) hk; omega, hp k hk⟩, h4, h7⟩
theorem lgd.cr {Q O T V : Nat → Int32} {m B y : Nat} (g : lgd Q O T V m B y) (h7 : Q 7 = nI m) (hm : m ≤ 8) : lcr Q V m := ⟨h7, hm, fun l hl => (g.2.2.2 l hl).1⟩
theorem lgd_up {Q O T V : Nat → Int32} {m B B' y y' : Nat} (g : lgd Q O T V m B y) (h1 : B ≤ B') (h2 : y ≤ y') : lgd Q O T V m B' y' := by
  obtain ⟨a, ho, ⟨p, hp, hs⟩, hl⟩ := g
  refine ⟨a, fun i hi => ?_, ⟨p, hp, by omega⟩, hl⟩
  obtain ⟨b1, b2, b3, b4, b5, ⟨x, z, h, e⟩, b7⟩ := ho i hi
  exact ⟨b1, b2, b3, b4, b5, ⟨x, z, by omega, e⟩, b7⟩
theorem lrl.ro {σ : fM} {s m : Nat} {Q O T V : Nat → Int32} (h : lrl σ s Q O T V m) {i : Nat} (hi : i < 5) {p : Nat} (hp : p < 4) : σ.1 (iO s i) p = ro O i p := (h.2.2.2.2.1 i hi).1 p hp
theorem oGood_l {O : Nat → Int32} {i : Nat} (h : ∃ n : Nat, n ≤ 3 ∧ O (10 * i + 1) = nI n) : oGood (ro O i) := fun _ => by
  obtain ⟨n, h1, h2⟩ := h
  exact ⟨n, by omega, h2⟩
theorem lrl_gst {σ : fM} {s m B y : Nat} {Q O T V : Nat → Int32} (h : lrl σ s Q O T V m) (g : lgd Q O T V m B y) : gst σ s 5 m := by
  refine ⟨h.1, fun l hl => ?_, fun i hi => ?_⟩
  · obtain ⟨⟨c, h1, h2⟩, -⟩ := g.2.2.2 l hl
    exact ⟨c, by omega, (h.2.2.2.2.2 l hl 0 (by decide)).trans h2⟩
  · exact oGood_cg (h.ro hi (by decide)) (h.ro hi (by decide)) (oGood_l (g.2.1 i hi).2.1)
/-- an oracle's word and stake hang on four ints and eight counters -/
theorem word_8 {f t : Nat → Int32} {O T : Nat → Int32} (hK : lK O) {i : Nat} (hi : i < 5) (h0 : f 0 = ro O i 0) (h1 : f 1 = ro O i 1) (ht : ∀ q, q < 8 → t q = rt T i q) (a hi' : Int32) : oWord f t a hi' = oWord (ro O i) (rt T i) a hi' := by
  obtain ⟨j, hj, ej⟩ := lSlot hK hi a hi'
  unfold oWord
  rw [oTab_cg h0, oSlot_cg h0 h1, h1, ej, nI_clamp (by omega), ht j hj]
theorem stake_8 {f t : Nat → Int32} {O T : Nat → Int32} (hK : lK O) {i : Nat} (hi : i < 5) (h0 : f 0 = ro O i 0) (h1 : f 1 = ro O i 1) (h2 : f 2 = ro O i 2) (h3 : f 3 = ro O i 3) (ht : ∀ q, q < 8 → t q = rt T i q) (u a hi' : Int32) : oStake f t u a hi' = oStake (ro O i) (rt T i) u a hi' := by
  obtain ⟨j, hj, ej⟩ := lSlot hK hi a hi'
  have hs : oSure f t a hi' = oSure (ro O i) (rt T i) a hi' := by
    unfold oSure
    rw [oTab_cg h0, oSlot_cg h0 h1, ej, nI_clamp (by omega), ht j hj]
  unfold oStake
  rw [oIn_cg h2 h3, hs, h2]
section FORE
variable {σ : fM} {s m B y : Nat} {Q O T V : Nat → Int32}
theorem foW_l (h : lrl σ s Q O T V m) (hK : lK O) (a : Int32) {i : Nat} (hi : i < 5) : foW σ s a i = lW Q O T a i := by
  unfold foW lW
  rw [h.2.2.1.2.1]
  exact word_8 hK hi (h.ro hi (by decide)) (h.ro hi (by decide)) (h.2.2.2.2.1 i hi).2.2 _ _
theorem foSt_l (h : lrl σ s Q O T V m) (hK : lK O) (a : Int32) {i : Nat} (hi : i < 5) : foSt σ s a i = lS Q O T a i := by
  unfold foSt lS
  rw [h.2.2.1.2.1, h.2.2.2.1 0 (by decide)]
  exact stake_8 hK hi (h.ro hi (by decide)) (h.ro hi (by decide)) (h.ro hi (by decide)) (h.ro hi (by decide)) (h.2.2.2.2.1 i hi).2.2 _ _ _
theorem foC_l (h : lrl σ s Q O T V m) (hK : lK O) (a : Int32) : foC1 σ s a 5 = lC1 Q O T a 5 ∧ foC0 σ s a 5 = lC0 Q O T a 5 := by
  have e : ∀ i, i < 5 → σ.1 (iO s i) 0 = O (10 * i) ∧ σ.1 (iO s i) 2 = O (10 * i + 2) ∧ oIn (σ.1 (iO s i)) = oIn (ro O i) ∧ foW σ s a i = lW Q O T a i := fun i hi => ⟨h.ro hi (p := 0) (by decide), h.ro hi (p := 2) (by decide), oIn_cg (h.ro hi (by decide)) (h.ro hi (by decide)), foW_l h hK a hi⟩
  constructor
  · refine sumF_cg (fun i hi => ?_)
    obtain ⟨e0, e2, e3, e4⟩ := e i hi
    rw [e0, e2, e3, e4]
  · refine sumF_cg (fun i hi => ?_)
    obtain ⟨e0, e2, e3, e4⟩ := e i hi
    rw [e0, e2, e3, e4]
/-- what is foretold: the same words and stakes -/
theorem fo_l (h : lrl σ s Q O T V m) (hK : lK O) (a : Int32) {i : Nat} (hi : i < 5) : (fore σ s 5 a).1 (iO s i) 9 = lY Q O T a i ∧ (fore σ s 5 a).1 (iO s i) 10 = lS Q O T a i := by
  obtain ⟨c1, c0⟩ := foC_l h hK a
  have e0 : σ.1 (iO s i) 0 = O (10 * i) := h.ro hi (p := 0) (by decide)
  rw [fore_O _ hi]
  unfold foR2 foR1 lY
  rw [e0, c1, c0, foSt_l h hK a hi, foW_l h hK a hi]
  by_cases h4 : O (10 * i) = 4
  · rw [if_pos h4, if_pos h4, if_pos h4]
    exact ⟨by rw [upd_s], by rw [upd_n _ _ _ _ (by decide), upd_s]⟩
  · rw [if_neg h4, if_neg h4, if_neg h4]
    exact ⟨by rw [upd_s], by rw [upd_n _ _ _ _ (by decide), upd_s]⟩
theorem lY_01 (g : lgd Q O T V m B y) (a : Int32) {i : Nat} (hi : i < 5) : lY Q O T a i = 0 ∨ lY Q O T a i = 1 := by
  obtain ⟨⟨c, hc, ec⟩, -, h01, -⟩ := g.2.1 i hi
  unfold lY
  by_cases h4 : O (10 * i) = 4
  · rw [if_pos h4]
    split
    · exact Or.inl rfl
    · exact Or.inr rfl
  · rw [if_neg h4]
    unfold lW oWord
    by_cases hT : oTab (ro O i) = true
    · rw [if_pos hT]
      split
      · exact Or.inl rfl
      · exact Or.inr rfl
    · rw [if_neg hT]
      refine h01 ?_
      rw [tab_k hc (show ro O i 0 = nI c from ec)] at hT
      rcases (show c = 0 ∨ c = 1 ∨ c = 2 ∨ c = 3 ∨ c = 4 by omega) with rfl | rfl | rfl | rfl | rfl
      · exact ec
      · exact absurd rfl hT
      · exact absurd rfl hT
      · exact absurd rfl hT
      · exact absurd ec h4
/-- stakes, as numbers -/
theorem lS_N (g : lgd Q O T V m B y) (hB : B < 2 ^ 24) (a : Int32) {p : Nat → Nat} (hp : lpu O p) (hs : sumN p 5 ≤ B) {i : Nat} (hi : i < 5) : lS Q O T a i = nI (ix (lS Q O T a i)) ∧ ix (lS Q O T a i) ≤ p i ∧ ix (lS Q O T a i) ≤ 100 ∧ (oIn (ro O i) = true ↔ 1 ≤ ix (lS Q O T a i)) := by
  obtain ⟨⟨⟨u, u1, u2, eu⟩, -⟩, -⟩ := g
  have hle := sumN_le (p := p) hi
  by_cases hin : oIn (ro O i) = true
  · obtain ⟨x, x1, x2, x3, ex⟩ := oStake_N (f := ro O i) (t := rt T i) (a := a) (hi := Q 3) u1 u2 (p := p i) (by omega) (hp i hi) hin
    have e : lS Q O T a i = nI x := by unfold lS; rw [eu]; exact ex
    have e2 : ix (lS Q O T a i) = x := by unfold ix; rw [e]; exact nI_clamp (by omega)
    rw [e2]
    exact ⟨e, x2, x3, fun _ => x1, fun _ => hin⟩
  · have e : lS Q O T a i = 0 := oStake_0 hin
    have e2 : ix (lS Q O T a i) = 0 := by unfold ix; rw [e]; rfl
    rw [e2]
    exact ⟨by rw [e]; rfl, Nat.zero_le _, Nat.zero_le _, fun q => absurd q hin, fun q => absurd q (by decide)⟩
end FORE
/-- a bit is set in an even number -/
theorem or_bit (v : Nat) (hv : v < 2 ^ 20) {b : Nat} (hb : b ≤ 1) : ((nI v <<< (1 &&& 31)) ||| nI b : Int32) = nI (2 * v + b) := by
  rw [pk_shlN (1 &&& 31) 1 (by decide) (by omega)]
  apply Int32.toBitVec_inj.mp
  rw [Int32.toBitVec_or]
  show BitVec.ofNat 32 (v * 2 ^ 1) ||| BitVec.ofNat 32 b = BitVec.ofNat 32 (2 * v + b)
  apply BitVec.eq_of_toNat_eq
  rw [BitVec.toNat_or, BitVec.toNat_ofNat, BitVec.toNat_ofNat, BitVec.toNat_ofNat, Nat.mod_eq_of_lt (by omega), Nat.mod_eq_of_lt (by omega), Nat.mod_eq_of_lt (by omega)]
  have := Nat.shiftLeft_add_eq_or_of_lt (i := 1) (b := b) (by omega) v
  rw [Nat.shiftLeft_eq] at this
  rw [← this]
  omega
theorem lrn_q {c tk : Int32} (h : ∃ v : Nat, v ≤ 3 ∧ c = nI v) (hk : tk = 0 ∨ tk = 1) : oLrn c tk = c + lqv tk c ∧ ∃ v : Nat, v ≤ 3 ∧ oLrn c tk = nI v := by
  obtain ⟨v, hv, e⟩ := h
  subst e
  rcases hk with rfl | rfl
  · rcases (show v = 0 ∨ v = 1 ∨ v = 2 ∨ v = 3 by omega) with rfl | rfl | rfl | rfl
    · exact ⟨by decide, 0, by decide, by decide⟩
    · exact ⟨by decide, 0, by decide, by decide⟩
    · exact ⟨by decide, 1, by decide, by decide⟩
    · exact ⟨by decide, 2, by decide, by decide⟩
  · rcases (show v = 0 ∨ v = 1 ∨ v = 2 ∨ v = 3 by omega) with rfl | rfl | rfl | rfl
    · exact ⟨by decide, 1, by decide, by decide⟩
    · exact ⟨by decide, 2, by decide, by decide⟩
    · exact ⟨by decide, 3, by decide, by decide⟩
    · exact ⟨by decide, 3, by decide, by decide⟩
/-- an oracle's row of the law behind the record: its places -/
theorem lr_v {O w : Nat → Int32} {tk : Int32} {i p : Nat} (hp : p < 8) : lrB w i (lrA w tk i O) (10 * i + p) =
    if p = 7 then O (10 * i + 7) + (if w (10 + i) ≤ 0 then 0 else if O (10 * i + 2) = 0 then 1 else 0) else if O (10 * i + 3) < 0 ∨ w (10 + i) ≤ 0 then O (10 * i + p) else if p = 4 then O (10 * i + 4) + (if w i = tk then 1 else 0) else if p = 5 then O (10 * i + 5) + (if w i = tk then 0 else 1) else if p = 6 then ((O (10 * i + 6) <<< (1 &&& 31)) ||| (if w i = tk then 1 else 0)) &&& 65535 else O (10 * i + p) := by
  have e2 : lrA w tk i O (10 * i + 2) = O (10 * i + 2) := lrA_ne (Or.inl (by omega)) (by omega)
  unfold lrB
  by_cases h7 : p = 7
  · subst h7
    rw [if_pos rfl, upd_s, e2]
    have e7 : lrA w tk i O (10 * i + 7) = O (10 * i + 7) := by
      unfold lrA
      split
      · rfl
      · split
        · rfl
        · try dsimp only
          rw [upd_n _ _ _ _ (by omega), upd_n _ _ _ _ (by omega), upd_n _ _ _ _ (by omega)]
    rw [e7]
  · rw [if_neg h7, upd_n _ _ _ _ (by omega)]
    unfold lrA
    by_cases h3 : O (10 * i + 3) < 0
    · rw [if_pos h3, if_pos (Or.inl h3)]
    · rw [if_neg h3]
      by_cases hw : w (10 + i) ≤ 0
      · rw [if_pos hw, if_pos (Or.inr hw)]
      · have hn : ¬ (O (10 * i + 3) < 0 ∨ w (10 + i) ≤ 0) := fun q => q.elim h3 hw
        rw [if_neg hw, if_neg hn]
        try dsimp only
        rcases (show p = 0 ∨ p = 1 ∨ p = 2 ∨ p = 3 ∨ p = 4 ∨ p = 5 ∨ p = 6 by omega) with rfl | rfl | rfl | rfl | rfl | rfl | rfl <;> simp [upd]
theorem lrF_v {w : Nat → Int32} {tk a hi : Int32} {z : (Nat → Int32) × (Nat → Int32)} {i : Nat} : ∀ n, n ≤ 5 → (∀ p, p < 8 → (lrF w tk a hi z n).1 (10 * i + p) = if i < n then lrB w i (lrA w tk i z.1) (10 * i + p) else z.1 (10 * i + p))
  | 0, _, p, hp => by rw [if_neg (Nat.not_lt_zero i)]; rfl
  | n + 1, h, p, hp => by
    show lrB w n (lrA w tk n (lrF w tk a hi z n).1) (10 * i + p) = _
    by_cases hin : i = n
    · subst hin
      rw [if_pos (Nat.lt_succ_self i), lr_v hp, lr_v hp]
      have e : ∀ q, q < 8 → (lrF w tk a hi z i).1 (10 * i + q) = z.1 (10 * i + q) := fun q hq => by rw [lrF_v i (by omega) q hq, if_neg (Nat.lt_irrefl i)]
      rw [e 7 (by decide), e 2 (by decide), e 3 (by decide), e 4 (by decide), e 5 (by decide), e 6 (by decide), e p hp]
    · have ne : lrB w n (lrA w tk n (lrF w tk a hi z n).1) (10 * i + p) = (lrF w tk a hi z n).1 (10 * i + p) := by
        unfold lrB
        rw [upd_n _ _ _ _ (by omega), lrA_ne (Or.inr (by omega)) (by omega)]
      rw [ne, lrF_v n (by omega) p hp]
      by_cases h2 : i < n
      · rw [if_pos h2, if_pos (show i < n + 1 by omega)]
      · rw [if_neg h2, if_neg (show ¬ i < n + 1 by omega)]
theorem lrF_t {w : Nat → Int32} {tk a hi : Int32} {z : (Nat → Int32) × (Nat → Int32)} (hK : lK z.1) {i q : Nat} (hi5 : i < 5) (hq : q < 8) : ∀ n, n ≤ 5 → (lrF w tk a hi z n).2 (8 * i + q) = if i < n then (if oTab (ro z.1 i) = true ∧ q = (oSlot (ro z.1 i) a hi).toNatClampNeg then z.2 (8 * i + q) + lqv tk (z.2 (8 * i + q)) else z.2 (8 * i + q)) else z.2 (8 * i + q)
  | 0, _ => by rw [if_neg (Nat.not_lt_zero i)]; rfl
  | n + 1, h => by
    have ih := lrF_t (w := w) (tk := tk) (a := a) (hi := hi) hK hi5 hq n (by omega)
    show lrT a hi tk n (lrB w n (lrA w tk n (lrF w tk a hi z n).1)) (lrF w tk a hi z n).2 (8 * i + q) = _
    have eO : ∀ p, p < 4 → ro (lrB w n (lrA w tk n (lrF w tk a hi z n).1)) n p = ro z.1 n p := fun p hp => by
      rw [ro_p, ro_p]
      unfold lrB
      rw [upd_n _ _ _ _ (by omega), lrA_ne (Or.inl (by omega)) (by omega)]
      exact lrF_K n _ (by omega)
    have zT := oTab_cg (eO 0 (by decide))
    have zS := oSlot_cg (eO 0 (by decide)) (eO 1 (by decide)) a hi
    unfold lrT
    rw [zT, zS]
    obtain ⟨js, hjs, ejs⟩ := lSlot hK (k := n) (by omega) a hi
    by_cases hT : oTab (ro z.1 n) = true
    · rw [if_pos hT, ejs, nI_clamp (by omega)]
      by_cases hin : i = n
      · subst hin
        rw [if_pos (Nat.lt_succ_self i), ejs, nI_clamp (by omega)]
        rw [if_neg (Nat.lt_irrefl i)] at ih
        by_cases hqs : q = js
        · subst hqs
          rw [if_pos ⟨hT, rfl⟩, upd_s, ih]
        · rw [if_neg (fun e => hqs e.2), upd_n _ _ _ _ (by omega), ih]
      · rw [upd_n _ _ _ _ (by omega), ih]
        by_cases h2 : i < n
        · rw [if_pos h2, if_pos (show i < n + 1 by omega)]
        · rw [if_neg h2, if_neg (show ¬ i < n + 1 by omega)]
    · rw [if_neg hT, ih]
      by_cases hin : i = n
      · subst hin
        rw [if_neg (Nat.lt_irrefl i), if_pos (Nat.lt_succ_self i), if_neg (fun e => hT e.1)]
      · by_cases h2 : i < n
        · rw [if_pos h2, if_pos (show i < n + 1 by omega)]
        · rw [if_neg h2, if_neg (show ¬ i < n + 1 by omega)]
/-- one oracle's record: class and law -/
theorem lrec_eq {f : Nat → Int32} {O w : Nat → Int32} {tk Y S : Int32} {i v pb pa : Nat} (h4 : ∀ p, p < 4 → f p = O (10 * i + p)) (h8 : ∀ p, 4 ≤ p → p < 8 → f (p + 1) = O (10 * i + p)) (hwY : w i = Y) (hwP : w (10 + i) = nI pb) (hv : v < 65536) (h6 : O (10 * i + 6) = nI v) (hpb : pb < 2 ^ 30) (hpa : pa < 2 ^ 30) (h2 : O (10 * i + 2) = nI pa)
    (hin : ¬ S ≤ 0 ↔ (¬ O (10 * i + 3) < 0 ∧ 0 < pb)) (hle : S ≤ 0 → pb ≤ pa) :
    (∀ p, p < 4 → (if S ≤ 0 then f else oNote f (if Y = tk then 1 else 0)) p = lrB w i (lrA w tk i O) (10 * i + p)) ∧ ∀ p, 4 ≤ p → p < 8 → (if S ≤ 0 then f else oNote f (if Y = tk then 1 else 0)) (p + 1) = lrB w i (lrA w tk i O) (10 * i + p) := by
  have hw0 : (w (10 + i) ≤ 0) ↔ pb = 0 := by
    rw [hwP]
    constructor
    · intro q
      rcases Nat.eq_zero_or_pos pb with z | z
      · exact z
      · exact absurd q (nI_nle z (by omega))
    · intro q; rw [q]; decide
  by_cases hS : S ≤ 0
  · have hout : O (10 * i + 3) < 0 ∨ w (10 + i) ≤ 0 := by
      by_cases q : O (10 * i + 3) < 0
      · exact Or.inl q
      · exact Or.inr (hw0.mpr (Nat.eq_zero_of_not_pos (fun z => hin.mpr ⟨q, z⟩ hS)))
    rw [if_pos hS]
    have e7 : lrB w i (lrA w tk i O) (10 * i + 7) = O (10 * i + 7) := by
      rw [lr_v (by decide), if_pos rfl]
      by_cases q : w (10 + i) ≤ 0
      · rw [if_pos q, Int32.add_zero]
      · have : 0 < pb := Nat.pos_of_ne_zero (fun z => q (hw0.mpr z))
        have := hle hS
        rw [if_neg q, if_neg (by rw [h2]; intro z; exact absurd ((nI_eq (b := 0) (by omega) (by decide)).mp z) (by omega)), Int32.add_zero]
    refine ⟨fun p hp => ?_, fun p hp1 hp2 => ?_⟩
    · rw [lr_v (by omega), if_neg (by omega), if_pos hout, h4 p hp]
    · by_cases hp7 : p = 7
      · subst hp7
        rw [e7]; exact h8 7 (by decide) (by decide)
      · rw [lr_v hp2, if_neg hp7, if_pos hout, h8 p hp1 hp2]
  · obtain ⟨hb, hpos⟩ := hin.mp hS
    have hnw : ¬ w (10 + i) ≤ 0 := fun q => absurd (hw0.mp q) (by omega)
    have hnout : ¬ (O (10 * i + 3) < 0 ∨ w (10 + i) ≤ 0) := fun q => q.elim hb hnw
    rw [if_neg hS]
    refine ⟨fun p hp => ?_, fun p hp1 hp2 => ?_⟩
    · rw [oNote_01 _ _ _ (by omega), h4 p hp, lr_v (by omega), if_neg (by omega), if_neg hnout, if_neg (by omega), if_neg (by omega), if_neg (by omega)]
    · have f2 := h4 2 (by decide)
      have f5 : f 5 = O (10 * i + 4) := h8 4 (by decide) (by decide)
      have f6 : f 6 = O (10 * i + 5) := h8 5 (by decide) (by decide)
      have f7 : f 7 = O (10 * i + 6) := h8 6 (by decide) (by decide)
      have f8 : f 8 = O (10 * i + 7) := h8 7 (by decide) (by decide)
      have hone : (if Y = tk then (1 : Int32) else 0) = nI (if Y = tk then 1 else 0) := by split <;> rfl
      rw [lr_v hp2, oNote_v _ _ _ (by omega), hwY]
      rcases (show p = 4 ∨ p = 5 ∨ p = 6 ∨ p = 7 by omega) with rfl | rfl | rfl | rfl
      · by_cases hs : Y = tk
        · simp [hs, hb, hnw, f5]
        · simp [hs, hb, hnw, f5]
      · by_cases hs : Y = tk
        · simp [hs, hb, hnw, f6]
        · simp [hs, hb, hnw, f6]
      · rw [if_neg (show ¬ (6 + 1 = 8) by decide), if_pos (show 6 + 1 = 7 from rfl), if_neg (show ¬ (6 = 7) by decide), if_neg hnout, if_neg (show ¬ (6 = 4) by decide), if_neg (show ¬ (6 = 5) by decide), if_pos (show 6 = 6 from rfl), f7, h6, hone]
        have e3 : (if nI (if Y = tk then 1 else 0) = 0 then (0 : Int32) else 1) = nI (if Y = tk then 1 else 0) := by split <;> decide
        rw [e3, or_bit v (by omega) (by split <;> omega), show (2 : Int32) = nI 2 by decide, pk_mul, nI_add]
      · rw [if_pos (show 7 + 1 = 8 from rfl), if_pos (show 7 = 7 from rfl), if_neg hnw, f2, f8]
        by_cases hz : O (10 * i + 2) = 0
        · rw [if_pos hz, if_pos hz]
        · rw [if_neg hz, if_neg hz, Int32.add_zero]
