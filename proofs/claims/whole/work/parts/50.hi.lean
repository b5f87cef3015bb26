/-! the class's calls and the cells of the model -/
section HI
variable {σ : fM} {n m f z t B y q : Nat}
theorem keep_hi (h1 : P1 σ n m B y) (hq : 150 ≤ q) : (keepM σ f z n m).1 q = σ.1 q := keepM_ne h1.n6 h1.m8 (by omega) (Or.inr hq)
theorem hi_set (h1 : P1 σ n m B y) (hq : 150 ≤ q) (w v : Int32) : (cSet σ f z n m w v).2.1 q = σ.1 q := by
  unfold cSet
  split
  · rfl
  · split
    · rfl
    · dsimp only
      rw [pu_ne _ (by unfold iSet; omega), keep_hi h1 hq]
theorem hi_oracle (h1 : P1 σ n m B y) (hq : 150 ≤ q) (k u p : Int32) : (cOracle σ f z n m k u p).2.1 q = σ.1 q := by
  have hn := h1.n6
  unfold cOracle
  split
  · rfl
  · split
    · rfl
    · split
      · rfl
      · split
        · rfl
        · rename_i hh
          rw [h1.1.1.1] at hh
          have hlt : n < 6 := (nI_ltI (b := 6) (by omega) (by decide)).mp (Decidable.not_not.mp hh)
          dsimp only
          rw [pu_ne _ (by unfold iS; omega), puR_ne _ (by unfold iT; omega), puR_ne _ (by unfold iO; omega), keep_hi h1 hq]
theorem hi_seat (h1 : P1 σ n m B y) (hq : 150 ≤ q) (o b : Int32) : (cSeat σ f z n m o b).2.1 q = σ.1 q := by
  have hn := h1.n6
  unfold cSeat
  rw [h1.S3]
  split
  · rfl
  · rename_i ho
    obtain ⟨j, hj, -, e⟩ := h1.or ho
    rw [e]
    split
    · rfl
    · split
      · rfl
      · split
        · rfl
        · dsimp only
          by_cases hp : (if tak σ 0 n b 0 = true then (if tak σ 0 n b 1 = true then (-1 : Int32) else 1) else 0) = -1
          · rw [if_pos hp]
          · rw [if_neg hp]
            dsimp only
            rw [pu_ne _ (by unfold iO; omega), pu_ne _ (by unfold iO; omega), keep_hi h1 hq]
theorem hi_stand (h1 : P1 σ n m B y) (hq : 150 ≤ q) (o : Int32) : (cStand σ f z n m o).2.1 q = σ.1 q := by
  have hn := h1.n6
  unfold cStand
  rw [h1.S3]
  split
  · rfl
  · rename_i ho
    obtain ⟨j, hj, -, e⟩ := h1.or ho
    rw [e]
    split
    · rfl
    · dsimp only
      rw [pu_ne _ (by unfold iO; omega), pu_ne _ (by unfold iO; omega), keep_hi h1 hq]
theorem hi_give (h1 : P1 σ n m B y) (hq : 150 ≤ q) (o v : Int32) : (cGive σ f z n m o v).2.1 q = σ.1 q := by
  have hn := h1.n6
  unfold cGive
  rw [h1.S3]
  split
  · rfl
  · rename_i ho
    obtain ⟨j, hj, -, e⟩ := h1.or ho
    rw [e]
    split
    · rfl
    · split
      · rfl
      · dsimp only
        rw [pu_ne _ (by unfold iO; omega), keep_hi h1 hq]
theorem hi_lend (h1 : P1 σ n m B y) (hq : 150 ≤ q) (c e v : Int32) : (cLend σ f z n m c e v).2.1 q = σ.1 q := by
  have hn := h1.n6
  have hm := h1.m8
  unfold cLend
  rw [h1.S3]
  by_cases ho : wi c 0 (σ.1 151 7 - 1) = false
  · rw [if_pos ho]
  · rw [if_neg ho]
    by_cases ho2 : wi e 0 (σ.1 151 7 - 1) = false
    · rw [if_pos ho2]
    · rw [if_neg ho2]
      obtain ⟨j, hj, -, e1⟩ := h1.or ho
      obtain ⟨i, hi, -, e2⟩ := h1.or ho2
      rw [e1, e2]
      split
      · rfl
      · split
        · rfl
        · split
          · rfl
          · split
            · rfl
            · dsimp only
              rw [addM_x (by unfold iO; omega) (by unfold iO; omega) (by unfold iL; omega) (by unfold iS; omega), keep_hi h1 hq]
theorem hi_branch (h1 : P1 σ n m B y) (hq : 150 ≤ q) (a k : Int32) : (cBranch σ f z n m a k).2.1 q = σ.1 q := by
  unfold cBranch
  split
  · rfl
  · split
    · rfl
    · dsimp only
      rw [run_out a k (sT_gst (P1_keep h1)) (by omega), keep_hi h1 hq]
theorem hi_says (h1 : P1 σ n m B y) (hq : 150 ≤ q) (o a : Int32) : (cSays σ n o a).2.1 q = σ.1 q := by
  unfold cSays
  split
  · rfl
  · split
    · rfl
    · exact fore_out a h1.n6 (by omega)
theorem hi_stake (h1 : P1 σ n m B y) (hq : 150 ≤ q) (o a : Int32) : (cStake σ n o a).2.1 q = σ.1 q := by
  unfold cStake
  split
  · rfl
  · split
    · rfl
    · exact fore_out a h1.n6 (by omega)
theorem hi_odds (h1 : P1 σ n m B y) (hq : 150 ≤ q) (a : Int32) (xa ya : Nat) : (cOdds σ n a xa ya).2.1 q = σ.1 q := by
  unfold cOdds
  split
  · rfl
  · exact fore_out a h1.n6 (by omega)
theorem hi_gain (h1 : P1 σ n m B y) (hq : 150 ≤ q) (o a k : Int32) : (cGain σ n m o a k).2.1 q = σ.1 q := by
  unfold cGain
  split
  · rfl
  · split
    · rfl
    · split
      · rfl
      · exact dmZ_out a k (sT_gst h1) (by omega) 1
theorem hi_doom (h1 : P1 σ n m B y) (hq : 150 ≤ q) (o a k : Int32) : (cDoom σ n m o a k).2.1 q = σ.1 q := by
  unfold cDoom
  split
  · rfl
  · split
    · rfl
    · split
      · rfl
      · have e : ∀ i, (dmZ σ n m a k i).1.1 q = σ.1 q := fun i => dmZ_out a k (sT_gst h1) (by omega) i
        by_cases hf : fstF (dmP σ n m (ix o) a k) 101 < 101
        · rw [if_pos hf]
          dsimp only
          rw [e]
        · rw [if_neg hf]
          dsimp only
          rw [e]
theorem hi_best (h1 : P1 σ n m B y) (hq : 150 ≤ q) (o a u w : Int32) : (cBest σ n m o a u w).2.1 q = σ.1 q := by
  unfold cBest
  split
  · rfl
  · split
    · rfl
    · split
      · rfl
      · split
        · rfl
        · exact (brZ_out a (sT_gst h1) (by omega) _).1
theorem hi_undo {n' m' : Nat} (h2 : P2 σ f z B y) (hu : 0 < z → n' ≤ 6 ∧ m' ≤ 8) (hq : 150 ≤ q) : (cUndo σ f z n' m').2.1 q = σ.1 q := by
  unfold cUndo
  rw [h2.1.2.1]
  by_cases hz : 0 < z
  · obtain ⟨a, b⟩ := hu hz
    have h4 : (f + (z - 1)) % 4 < 4 := Nat.mod_lt _ (by decide)
    split
    · rfl
    · unfold backM
      dsimp only
      rw [copyM_ne a b (by omega), pu_ne _ (by omega)]
  · rw [if_pos (by rw [Nat.eq_zero_of_not_pos hz]; decide)]
theorem hi_type (hq : 150 ≤ q) (c : Int32) : (cType σ t c).2.1 q = σ.1 q := by
  unfold cType
  split
  · rfl
  · split
    · rfl
    · dsimp only
      rw [pu_ne _ (by omega), pu_ne _ (by omega)]
theorem hi_clear (hq : 150 ≤ q) : (cClear σ).2.1 q = σ.1 q := pu_ne _ (by omega)
theorem hi_fault (hq : 150 ≤ q) (w : Int32) : (cFault σ t w).2.1 q = σ.1 q := by
  unfold cFault
  split
  · rfl
  · split
    · exact (hfR_o σ t).2.1 q (by omega) (by omega)
    · exact (hfR_o σ t).2.1 q (by omega) (by omega)
theorem plZ_hi {K : fM} {g : Nat → Int32} (gK : gst K 0 n m) (tK : tx K t) (cK : chr K t = g) (hq : 30 ≤ q) : ∀ i, (plZ K g t n m i).1.1 q = K.1 q
  | 0 => rfl
  | i + 1 => by
    rw [plZ_1, doM_out _ _ (gst_ord (roM_o (plZ K g t n m i).1 t (ps g i)).1 (plZ_ok g gK tK cK i).1) (Or.inr hq), (roM_o (plZ K g t n m i).1 t (ps g i)).1.2.1 q (by omega) (by omega)]
    exact plZ_hi gK tK cK hq i
theorem hi_play (h1 : P1 σ n m B y) (h3 : P3 σ t) (hq : 150 ≤ q) : (cPlay σ f z n m t).2.1 q = σ.1 q := by
  unfold cPlay
  have e0 := (hfR_o σ t).2.1 q (by omega) (by omega)
  have k1 : P1 (hfR σ t) n m B y := P1_cg (fun q a b => (hfR_o σ t).2.1 q (by omega) (by omega)) (by rw [(hfR_o σ t).1]) (fun q hq => by rw [(hfR_o σ t).2.1 151 (by decide) (by decide)]) h1
  have kt := hfR_tx h3.1
  have tK := keep_tx (f := f) (z := z) k1.n6 k1.m8 kt.1
  split
  · exact e0
  · dsimp only
    rw [plZ_hi (sT_gst (P1_keep k1)) tK.1 (tK.2.trans kt.2) (by omega), keep_hi k1 hq, e0]
end HI
