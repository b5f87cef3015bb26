/-! trials: what would be -/
theorem and1 (x : Int32) : x &&& 1 = 0 ∨ x &&& 1 = 1 := by
  obtain ⟨j, hj, e⟩ := pk_andE x (m := 1) 1 (by decide)
  rw [e]
  rcases (show j = 0 ∨ j = 1 by omega) with rfl | rfl
  · exact Or.inl rfl
  · exact Or.inr rfl
/-- the law's rows, and the number of loans -/
abbrev lzT : Type := (Nat → Int32) × (Nat → Int32) × (Nat → Int32) × (Nat → Int32) × Nat
def lzS (a tk : Int32) (w : Nat → Int32) (z : lzT) : lzT :=
  (brQ z.1 z.2.1 z.2.2.1 z.2.2.2.1 z.2.2.2.2 a tk w, (brR z.1 z.2.1 z.2.2.1 z.2.2.2.1 z.2.2.2.2 a tk w).1, (brR z.1 z.2.1 z.2.2.1 z.2.2.2.1 z.2.2.2.2 a tk w).2, (lbB z.1 z.2.1 z.2.2.1 z.2.2.2.1 z.2.2.2.2 a tk w).2.2.1, (lbB z.1 z.2.1 z.2.2.1 z.2.2.2.1 z.2.2.2.2 a tk w).2.2.2)
def lzF (a : Int32) (f : Nat → Int32) (z : lzT) : Nat → lzT
  | 0 => z
  | n + 1 => lzS a (f n) (fun _ => 0) (lzF a f z n)
def lrz (σ : fM) (s : Nat) (z : lzT) : Prop := lrl σ s z.1 z.2.1 z.2.2.1 z.2.2.2.1 z.2.2.2.2
def lgz (z : lzT) (B y : Nat) : Prop := lgd z.1 z.2.1 z.2.2.1 z.2.2.2.1 z.2.2.2.2 B y
/-- a branch more -/
theorem lz_run {σ : fM} {s n B y : Nat} {a tk : Int32} {z : lzT} (w : Nat → Int32) (h : lrz σ s z) (hn : n = z.2.2.2.2) (g : lgz z B y) (hB : B < 2 ^ 24 - 2 ^ 12) (hk : tk = 0 ∨ tk = 1) :
    lrz (runM σ s 5 n a tk) s (lzS a tk w z) ∧ runN σ s 5 n a tk = (lzS a tk w z).2.2.2.2 ∧ lgz (lzS a tk w z) B (y + 1) := by
  subst hn
  obtain ⟨-, r2, r3, r4⟩ := lrun (w := w) (a := a) h g hB hk
  unfold lrz lgz lzS
  dsimp only
  exact ⟨r3, r2, r4⟩
/-- the branches of a row, by its bits -/
def tkr (t r : Nat) (n : Nat) : Int32 := (nI r >>> (nI (t - 1 - n) &&& 31)) &&& 1
section TRY
variable {μ : fM} {Q O T V w : Nat → Int32} {m B y : Nat}
theorem lz_pb {a : Int32} {t r : Nat} (h : lrl μ 0 Q O T V m) (g : lgd Q O T V m B y) (hB : B < 2 ^ 24 - 2 ^ 12) : ∀ n, lrz (pbZ μ 5 m t (nI r) a n).1 1 (lzF a (tkr t r) (Q, O, T, V, m) n) ∧ (pbZ μ 5 m t (nI r) a n).2 = (lzF a (tkr t r) (Q, O, T, V, m) n).2.2.2.2 ∧ lgz (lzF a (tkr t r) (Q, O, T, V, m) n) B (y + n)
  | 0 => ⟨lrl_copy (by decide) h, rfl, g⟩
  | n + 1 => by
    obtain ⟨h1, h2, h3⟩ := lz_pb (a := a) (t := t) (r := r) h g hB n
    exact lz_run (fun _ => 0) h1 h2 h3 hB (and1 _)
theorem lz_dm {a tk : Int32} (h : lrl μ 0 Q O T V m) (g : lgd Q O T V m B y) (hB : B < 2 ^ 24 - 2 ^ 12) (hk : tk = 0 ∨ tk = 1) : ∀ n, lrz (dmZ μ 5 m a tk n).1 1 (lzF a (fun _ => tk) (Q, O, T, V, m) n) ∧ (dmZ μ 5 m a tk n).2 = (lzF a (fun _ => tk) (Q, O, T, V, m) n).2.2.2.2 ∧ lgz (lzF a (fun _ => tk) (Q, O, T, V, m) n) B (y + n)
  | 0 => ⟨lrl_copy (by decide) h, rfl, g⟩
  | n + 1 => by
    obtain ⟨h1, h2, h3⟩ := lz_dm (a := a) h g hB hk n
    exact lz_run (fun _ => 0) h1 h2 h3 hB hk
/-- the purse behind a row of branches -/
def wP (z : lzT) (a : Int32) (t k r : Nat) : Int32 := (lzF a (tkr t r) z t).2.1 (10 * k + 2)
theorem pb_P {a : Int32} {t r k : Nat} (h : lrl μ 0 Q O T V m) (g : lgd Q O T V m B y) (hB : B < 2 ^ 24 - 2 ^ 12) (hk : k < 5) : (pbZ μ 5 m t (nI r) a t).1.1 (iO 1 k) 2 = wP (Q, O, T, V, m) a t k r :=
  lrl.ro (lz_pb (a := a) (t := t) (r := r) h g hB t).1 hk (p := 2) (by decide)
theorem KM_tr {τ : fM} (e : ∀ q, q < 30 ∨ 54 ≤ q → τ.1 q = μ.1 q) (K : KM μ Q O T V w m B y) : KM τ Q O T V w m B y := KM_cg (fun q hq => e q (by omega)) K
theorem w_gain {a k r : Nat} (K : KM μ Q O T V w m B y) (hB : B < 2 ^ 24 - 2 ^ 12) (ha : a < 64) (hk : k < 5) (hr : r < 2) : (cGain μ 5 m (nI k) (nI a) (nI r)).1 = wP (Q, O, T, V, m) (nI a) 1 k r - O (10 * k + 2) ∧ ∀ q, q < 30 ∨ 54 ≤ q → (cGain μ 5 m (nI k) (nI a) (nI r)).2.1 q = μ.1 q := by
  have w01 : wi (nI r) 0 1 = true := by rcases (show r = 0 ∨ r = 1 by omega) with rfl | rfl <;> decide
  have hm8 := K.m8
  have hgc := gst_copy (s := 1) (s2 := 0) (by decide) K.gst
  have out : ∀ q, q < 30 ∨ 54 ≤ q → (runM (copyM μ 1 0 5 m) 1 5 m (nI a) (nI r)).1 q = μ.1 q := fun q hq => by
    rw [run_out (nI a) (nI r) hgc (by omega), copyM_ne (by decide) hm8 (by omega)]
  have hb : nI r = tkr 1 r 0 := by
    unfold tkr
    rcases (show r = 0 ∨ r = 1 by omega) with rfl | rfl <;> decide
  unfold cGain
  rw [K.n5, if_neg (tne (wi5 k hk)), if_neg (tne (isA64 a ha)), if_neg (tne w01), ix_n (by omega)]
  refine ⟨?_, out⟩
  dsimp only
  rw [out (iO 0 k) (by unfold iO; omega), show μ.1 (iO 0 k) 2 = O (10 * k + 2) from K.1.1.ro hk (p := 2) (by decide)]
  have e := pb_P (a := nI a) (t := 1) (r := r) K.1.1 K.1.2.1 hB hk
  rw [← e]
  show (runM (copyM μ 1 0 5 m) 1 5 m (nI a) (nI r)).1 (iO 1 k) 2 - _ = (runM (copyM μ 1 0 5 m) 1 5 m (nI a) (tkr 1 r 0)).1 (iO 1 k) 2 - _
  rw [← hb]
/-- the best row, and the most coins -/
def wbm (p : Nat → Int32) : Nat → Int32 × Int32
  | 0 => (0, -1)
  | r + 1 => (if p r ≤ (wbm p r).2 then (wbm p r).1 else nI r, if p r ≤ (wbm p r).2 then (wbm p r).2 else p r)
theorem br_W {a : Int32} {t k : Nat} (h : lrl μ 0 Q O T V m) (g : lgd Q O T V m B y) (hB : B < 2 ^ 24 - 2 ^ 12) (hk : k < 5) : ∀ r, (brZ μ 5 m t a k r).2 = wbm (wP (Q, O, T, V, m) a t k) r
  | 0 => rfl
  | r + 1 => by
    have ih := br_W (a := a) (t := t) h g hB hk r
    have gs := lrl_gst h g
    have hr : lrl (brZ μ 5 m t a k r).1 0 Q O T V m := lrl_cg (by decide) (fun q h1 h2 => (brZ_out (t := t) (j := k) (q := q) a gs (by omega) r).1) h
    have e := pb_P (a := a) (t := t) (r := r) hr g hB hk
    have ih1 := congrArg Prod.fst ih
    have ih2 := congrArg Prod.snd ih
    show ((if (pbZ (brZ μ 5 m t a k r).1 5 m t (nI r) a t).1.1 (iO 1 k) 2 ≤ (brZ μ 5 m t a k r).2.2 then (brZ μ 5 m t a k r).2.1 else nI r), (if (pbZ (brZ μ 5 m t a k r).1 5 m t (nI r) a t).1.1 (iO 1 k) 2 ≤ (brZ μ 5 m t a k r).2.2 then (brZ μ 5 m t a k r).2.2 else (pbZ (brZ μ 5 m t a k r).1 5 m t (nI r) a t).1.1 (iO 1 k) 2)) = _
    rw [e, ih1, ih2]
    rfl
theorem w_best {a k t j : Nat} (K : KM μ Q O T V w m B y) (hB : B < 2 ^ 24 - 2 ^ 12) (ha : a < 64) (hk : k < 5) (ht : 1 ≤ t) (ht5 : t ≤ 5) (hj : j < 2) : (cBest μ 5 m (nI k) (nI a) (nI t) (nI j)).1 = (if j = 0 then (wbm (wP (Q, O, T, V, m) (nI a) t k) (2 ^ t)).1 else (wbm (wP (Q, O, T, V, m) (nI a) t k) (2 ^ t)).2) ∧ ∀ q, q < 30 ∨ 54 ≤ q → (cBest μ 5 m (nI k) (nI a) (nI t) (nI j)).2.1 q = μ.1 q := by
  have w01 : wi (nI j) 0 1 = true := by rcases (show j = 0 ∨ j = 1 by omega) with rfl | rfl <;> decide
  have wt : wi (nI t) 1 5 = true := by rcases (show t = 1 ∨ t = 2 ∨ t = 3 ∨ t = 4 ∨ t = 5 by omega) with rfl | rfl | rfl | rfl | rfl <;> decide
  have e := br_W (a := nI a) (t := t) K.1.1 K.1.2.1 hB hk (2 ^ t)
  unfold cBest
  rw [K.n5, if_neg (tne (wi5 k hk)), if_neg (tne (isA64 a ha)), if_neg (tne wt), if_neg (tne w01), ix_n (by omega), ix_n (by omega)]
  dsimp only
  refine ⟨?_, fun q hq => (brZ_out (t := t) (j := k) (nI a) K.gst hq (2 ^ t)).1⟩
  rw [← e]
  rcases (show j = 0 ∨ j = 1 by omega) with rfl | rfl
  · rw [if_pos (by decide), if_pos rfl]
  · rw [if_neg (by decide), if_neg (by decide)]
/-- how soon ruin would come -/
theorem w_doom {a k tk : Nat} (K : KM μ Q O T V w m B y) (ha : a < 64) (hk : k < 5) (htk : tk < 2) : (cDoom μ 5 m (nI k) (nI a) (nI tk)).1 = (if fstF (dmP μ 5 m k (nI a) (nI tk)) 101 < 101 then nI (fstF (dmP μ 5 m k (nI a) (nI tk)) 101) else -1000004) ∧ ∀ q, q < 30 ∨ 54 ≤ q → (cDoom μ 5 m (nI k) (nI a) (nI tk)).2.1 q = μ.1 q := by
  have w01 : wi (nI tk) 0 1 = true := by rcases (show tk = 0 ∨ tk = 1 by omega) with rfl | rfl <;> decide
  unfold cDoom
  rw [K.n5, if_neg (tne (wi5 k hk)), if_neg (tne (isA64 a ha)), if_neg (tne w01), ix_n (by omega)]
  have out : ∀ i q, q < 30 ∨ 54 ≤ q → (dmZ μ 5 m (nI a) (nI tk) i).1.1 q = μ.1 q := fun i q hq => dmZ_out (nI a) (nI tk) K.gst hq i
  have o100 := out 100
  have oF := out (fstF (dmP μ 5 m k (nI a) (nI tk)) 101)
  generalize dmZ μ 5 m (nI a) (nI tk) 100 = z at o100 ⊢
  generalize dmZ μ 5 m (nI a) (nI tk) (fstF (dmP μ 5 m k (nI a) (nI tk)) 101) = z2 at oF ⊢
  generalize fstF (dmP μ 5 m k (nI a) (nI tk)) 101 = n
  by_cases hn : n < 101
  · rw [if_pos hn, if_pos hn]
    exact ⟨rfl, oF⟩
  · rw [if_neg hn, if_neg hn]
    exact ⟨rfl, o100⟩
/-- a second bank beside -/
theorem KM_b {Q1 O1 T1 V1 w1 : Nat → Int32} (K : KM μ Q O T V w m B y) : KM (put5 μ 1 Q1 O1 T1 V1 w1) Q O T V w1 m B y := by
  obtain ⟨⟨h1, h2, h3, f, z, h4, h5, h6⟩, ⟨m1, m2, m3, m4, m5⟩⟩ := K
  obtain ⟨b1, b2, b3, b4⟩ := p5_b (σ := μ) (b := 1) (b' := 0) (Q := Q1) (O := O1) (T := T1) (V := V1) (w := w1) (by decide)
  exact ⟨⟨lrl_cg (by decide) (fun q _ hq => p5_lo (by omega)) h1, h2, lse_cg (fun i hi => by rw [p5_lo (by unfold iO; omega)]; exact ⟨rfl, rfl⟩) h3, f, z, by rw [p5_lo (by decide)]; exact h4, by rw [p5_lo (by decide)]; exact h5, h6⟩, b1.trans m1, b2.trans m2, b3.trans m3, b4.trans m4, p5_w⟩
/-- a memory that keeps the second bank -/
theorem p5_keep {τ : fM} {Q1 O1 T1 V1 w1 : Nat → Int32} (e : ∀ q, q < 30 ∨ 54 ≤ q → τ.1 q = (put5 μ 1 Q1 O1 T1 V1 w1).1 q) : τ = put5 τ 1 Q1 O1 T1 V1 w1 :=
  (p5_self ((e _ (Or.inr (by unfold qI; omega))).trans p5_q) ((e _ (Or.inr (by unfold oI; omega))).trans p5_o) ((e _ (Or.inr (by unfold tI; omega))).trans p5_t) ((e _ (Or.inr (by unfold vI; omega))).trans p5_v) ((e _ (Or.inr (by decide))).trans p5_w)).symm
end TRY
