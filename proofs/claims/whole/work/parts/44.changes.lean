/-! class and model: the best row, and changes -/
section BEST
variable {σ : fM} {n m f z t B y : Nat}
theorem pb_eq {x σ1 : fM} {a u : Nat} {r : Int32} {rr : Nat → Int32} (T : sT σ1 0 rr n m B y) (hx : ∀ q, q < 349 → x.1 151 q = rr q) (hB : B < 2 ^ 24 - 2 ^ 12) (hy : y + 4000 < 2 ^ 24) (ha : a < 64) : ∀ i, i ≤ 101 → (pbZ σ1 n m u r (nI a) i).2 = (mpbZ x n m u a r i).2 ∧ sT (pbZ σ1 n m u r (nI a) i).1 1 ((mpbZ x n m u a r i).1.1 151) n (pbZ σ1 n m u r (nI a) i).2 B (y + i)
  | 0, _ => ⟨rfl, rel_copy (by decide) (sT_cg (by decide) (fun _ _ _ => rfl) rfl hx T)⟩
  | i + 1, hi => by
    obtain ⟨e, T'⟩ := pb_eq (u := u) (r := r) T hx hB hy ha i (by omega)
    obtain ⟨-, r2, r3⟩ := run_eq T' hB (by omega) ha (mpbK_01 u r i) (σM := (mpbZ x n m u a r i).1) rfl
    have e2 : (pbZ σ1 n m u r (nI a) (i + 1)).2 = (mpbZ x n m u a r (i + 1)).2 := by
      show runN _ 1 n _ (nI a) (mpbK u r i) = mcC _ n _ a (mpbK u r i)
      rw [r2, e]
    refine ⟨e2, ?_⟩
    show sT (runM _ 1 n _ (nI a) (mpbK u r i)) 1 ((mcM _ n _ a (mpbK u r i)).1 151) n (runN _ 1 n _ (nI a) (mpbK u r i)) B (y + i + 1)
    rw [mcM_151, r2]
    rw [← e]
    exact r3
theorem brZ_s {a : Int32} {u j r : Nat} : brZ σ n m u a j (r + 1) = ((pbZ (brZ σ n m u a j r).1 n m u (nI r) a u).1, if (pbZ (brZ σ n m u a j r).1 n m u (nI r) a u).1.1 (iO 1 j) 2 ≤ (brZ σ n m u a j r).2.2 then (brZ σ n m u a j r).2.1 else nI r, if (pbZ (brZ σ n m u a j r).1 n m u (nI r) a u).1.1 (iO 1 j) 2 ≤ (brZ σ n m u a j r).2.2 then (brZ σ n m u a j r).2.2 else (pbZ (brZ σ n m u a j r).1 n m u (nI r) a u).1.1 (iO 1 j) 2) := by rw [brZ]
theorem br_eq {τ : fM} {a u j : Nat} (h1 : P1 σ n m B y) (hB : B < 2 ^ 24 - 2 ^ 12) (hy : y + 4000 < 2 ^ 24) (ha : a < 64) (hu : u ≤ 5) (hj : j < n) (hτ : τ.1 151 = σ.1 151) : ∀ r, (brZ σ n m u (nI a) j r).2 = (mbrZ (kM τ) n m u a j r).2
  | 0 => rfl
  | r + 1 => by
    have ih := br_eq h1 hB hy ha hu hj hτ r
    have gs := sT_gst h1
    have hk : ∀ q, q < 349 → (kM τ).1 152 q = (kM τ).1 151 q := fun q hq => by rw [kM_152 hq, kM_151]
    have hr := (mbrZ_ok (n := n) (m := m) (t := u) (a := a) (j := j) hk r).1
    have T : sT (brZ σ n m u (nI a) j r).1 0 (σ.1 151) n m B y := sT_cg (by decide) (fun q c d => (brZ_out (nI a) gs (by omega) r).1) (brZ_2n (nI a) gs (fun x => absurd (iS_inj x) (by decide)) r) (fun _ _ => rfl) h1
    obtain ⟨-, R⟩ := pb_eq (x := (mbrZ (kM τ) n m u a j r).1) (u := u) (r := nI r) T (fun q hq => by rw [hr q hq, kM_151, hτ]) hB hy ha u (by omega)
    have pe : (pbZ (brZ σ n m u (nI a) j r).1 n m u (nI r) (nI a) u).1.1 (iO 1 j) 2 = mo ((mpbZ (mbrZ (kM τ) n m u a j r).1 n m u a (nI r) u).1.1 151) j 2 := (R.1.2.2.2.1 j hj).1 2 (by decide) (by decide)
    rw [brZ_s, mbrZ_s]
    unfold mbrS
    dsimp only
    rw [pe, ih]
theorem eq_best (h1 : P1 σ n m B y) (h2 : P2 σ f z B y) (h3 : P3 σ t) (hB : B < 2 ^ 24 - 2 ^ 12) (hy : y + 4000 < 2 ^ 24) (o a u w : Int32) : Eqv (cBest σ n m o a u w) (fun τ => mBest τ n m o a u w) B y := by
  unfold Eqv cBest mBest
  rw [h1.S3]
  by_cases ho : wi o 0 (σ.1 151 7 - 1) = false
  · rw [if_pos ho]
    dsimp only
    rw [if_pos ho]
    exact ⟨rfl, up_all h1 h2 h3⟩
  · rw [if_neg ho]
    by_cases hw : isA a = false
    · rw [if_pos hw]
      dsimp only
      rw [if_neg ho, if_pos hw]
      exact ⟨rfl, up_all h1 h2 h3⟩
    · rw [if_neg hw]
      by_cases hu : wi u 1 5 = false
      · rw [if_pos hu]
        dsimp only
        rw [if_neg ho, if_neg hw, if_pos hu]
        exact ⟨rfl, up_all h1 h2 h3⟩
      · rw [if_neg hu]
        by_cases hx : wi w 0 1 = false
        · rw [if_pos hx]
          dsimp only
          rw [if_neg ho, if_neg hw, if_neg hu, if_pos hx]
          exact ⟨rfl, up_all h1 h2 h3⟩
        · rw [if_neg hx]
          dsimp only
          have gs := sT_gst h1
          obtain ⟨j, hj, -, e⟩ := h1.or ho
          obtain ⟨v, hv, ea, ev⟩ := ad_of hw
          obtain ⟨q, hq5, eq, eu⟩ := wi_to (v := u) (k := 5) (b := 5) (by decide) (by decide) (fun x => hu (by
            unfold wi at x ⊢
            have l : ¬ u < 1 → ¬ u < 0 := fun a b => a (Int32.lt_trans b (by decide))
            by_cases c1 : u < 1
            · simp [c1]
            · simpa [c1, l c1] using x))
          rw [e, eu, ev, ea]
          have hq : ∀ q', q' < 30 ∨ 54 ≤ q' → (brZ σ n m q (nI v) j (2 ^ q)).1.1 q' = σ.1 q' := fun q' h => (brZ_out (nI v) gs h _).1
          have hL : ∀ s, s ≠ 1 → (brZ σ n m q (nI v) j (2 ^ q)).1.2 (iS s) = σ.2 (iS s) := fun s h => brZ_2n (nI v) gs (fun x => h (iS_inj x)) _
          rw [ea] at hw
          have R := br_eq (τ := (brZ σ n m q (nI v) j (2 ^ q)).1) h1 hB hy hv hq5 hj (hq 151 (by decide)) (2 ^ q)
          rw [hq 151 (by decide), if_neg ho, if_neg hw, if_neg hu, if_neg hx]
          dsimp only
          rw [← R]
          refine ⟨rfl, ?_⟩
          obtain ⟨k1, k2⟩ := mbrZ_ok (σ := kM (brZ σ n m q (nI v) j (2 ^ q)).1) (n := n) (m := m) (t := q) (a := v) (j := j) (fun q hq => by rw [kM_152 hq, kM_151]) (2 ^ q)
          refine Kv_tr h1 h2 h3 (fun q' h => ?_) (fun q' h => ?_) (fun s hs => ?_)
          · rw [k2 q' (by omega) (by omega), kM_ne (by omega), hq q' (by omega)]
          · rw [k1 q' h, kM_151, hq 151 (by decide)]
          · rw [mbrZ_2]
            show (kM _).2 _ = _
            exact hL s hs
end BEST
section CHANGES
variable {σ : fM} {n m f z t B y : Nat}
theorem D_go {c τ : fM} {n' m' : Nat} (h1 : P1 σ n m B y) (h2 : P2 σ f z B y) (h3 : P3 σ t) (hc : ∀ q, q < 6 ∨ 30 ≤ q → c.1 q = (keepM σ f z n m).1 q) (hcL : ∀ s, 2 ≤ s → c.2 (iS s) = (keepM σ f z n m).2 (iS s))
    (ht : ∀ q, q ≠ 151 → q < 155 ∨ 158 < q → τ.1 q = (mrec c z).1 q) (htL : τ.2 = c.2) (hP : sT c 0 (τ.1 151) n' m' (B + 10000) (y + 4000)) : Kv τ (B + 10000) (y + 4000) := by
  have t0 : ∀ q, q < 150 → τ.1 q = c.1 q := fun q hq => by rw [ht q (by omega) (by omega), mrec_ne (by omega) (by omega)]
  refine D_fin h1 h2 h3 (fun q hq => hc q (by omega)) hcL t0 htL (fun j => by rw [ht 150 (by decide) (by decide)]) (ht 153 (by decide) (by decide)) (by rw [ht 154 (by decide) (by decide), mrec_ne (by decide) (by decide)]) (n' := n') (m' := m') ?_
  exact sT_cg (by decide) (fun q a b => t0 q (by omega)) (by rw [htL]) (fun _ _ => rfl) hP
theorem keep_151 (h1 : P1 σ n m B y) {c : fM} (hc : ∀ q, q < 6 ∨ 30 ≤ q → c.1 q = (keepM σ f z n m).1 q) : c.1 151 = σ.1 151 := by
  rw [hc 151 (by decide), keepM_ne h1.n6 h1.m8 (by decide) (by decide)]
theorem keep_lo (h1 : P1 σ n m B y) {q : Nat} (h6 : 6 ≤ q) (hq : q < 30) : (keepM σ f z n m).1 q = σ.1 q := keepM_ne h1.n6 h1.m8 (by omega) (by omega)
/-- one oracle's purse, booth and place -/
theorem rel_or {K c : fM} {r R : Nat → Int32} {j : Nat} (h : rel K 0 r n m) (hj : j < n) (hc : ∀ q, q ≠ iO 0 j → c.1 q = K.1 q) (h2 : c.2 = K.2) (hR : ∀ q, (∀ p, 2 ≤ p → p < 5 → q ≠ 73 + 42 * j + p) → R q = r q)
    (hp : ∀ p, p < 9 → p ≠ 4 → c.1 (iO 0 j) p = mo R j p) (h4 : ¬ mo R j 3 = -1 → c.1 (iO 0 j) 4 = mo R j 4) : rel c 0 R n m := by
  obtain ⟨hcn, ⟨a5, a6, a7, a8⟩, hW, hO, hL, e, he1, he2, he3⟩ := h
  have hn6 := hcn.2.2.1
  have hm8 := hcn.2.2.2
  have eS : c.1 (iS 0) = K.1 (iS 0) := hc _ (by unfold iS iO; omega)
  have eR : ∀ q, q < 73 ∨ 325 ≤ q → R q = r q := fun q hq => hR q (fun p _ _ => by omega)
  have eM : ∀ i, i ≠ j → ∀ p, p < 42 → mo R i p = mo r i p := fun i hi p hp => hR _ (fun p' _ _ => by omega)
  refine ⟨⟨by rw [eS]; exact hcn.1, by rw [eS]; exact hcn.2.1, hn6, hm8⟩, ⟨by rw [eS, eR 4 (by decide)]; exact a5, by rw [eS, eR 3 (by decide)]; exact a6, by rw [eS, eR 5 (by decide)]; exact a7, by rw [eS, eR 6 (by decide)]; exact a8⟩, fun q hq => ?_, fun i hi => ⟨?_, ?_, fun q hq => ?_⟩, fun l hl q hq => ?_, e, he1, by rw [h2]; exact he2, fun a ha => by rw [eR _ (by omega)]; exact he3 a ha⟩
  · rw [hc _ (by unfold iSet iO; omega), eR q (by omega)]; exact hW q hq
  · by_cases e : i = j
    · rw [e]; exact hp
    · intro p hp h4
      rw [hc _ (by unfold iO; omega), eM i e p (by omega)]; exact (hO i hi).1 p hp h4
  · by_cases e : i = j
    · rw [e]; exact h4
    · intro hb
      rw [eM i e 3 (by decide)] at hb
      rw [hc _ (by unfold iO; omega), eM i e 4 (by decide)]; exact (hO i hi).2.1 hb
  · rw [hc _ (fun x => iO_T 0 j 0 i x.symm), show mt R i q = mt r i q from hR _ (fun p _ _ => by omega)]; exact (hO i hi).2.2 q hq
  · rw [hc _ (iL_O 0 l 0 j (by omega) (by omega)), show ml R l q = ml r l q from eR _ (by omega)]; exact hL l hl q hq
theorem mG_or {r R : Nat → Int32} {j B' : Nat} (g : mG r n m B y) (hj : j < n) (hR : ∀ q, (∀ p, 2 ≤ p → p < 5 → q ≠ 73 + 42 * j + p) → R q = r q) (hp : ∃ p : Nat → Nat, pus R n p ∧ sumN p n ≤ B') : mG R n m B' y := by
  obtain ⟨⟨a1, hn6, a3, hm8⟩, ⟨hv, b1, b2⟩, ⟨c1, c2, c3⟩, ho, -, hl⟩ := g
  have eR : ∀ q, q < 73 ∨ 325 ≤ q → R q = r q := fun q hq => hR q (fun p _ _ => by omega)
  have eM : ∀ i p, p < 2 ∨ 5 ≤ p → p < 42 → mo R i p = mo r i p := fun i p hp hp2 => hR _ (fun p' _ _ => by omega)
  refine ⟨⟨by rw [eR 7 (by decide)]; exact a1, hn6, by rw [eR 8 (by decide)]; exact a3, hm8⟩, ⟨hv, b1, by rw [eR 3 (by decide)]; exact b2⟩, ⟨by rw [eR 0 (by decide)]; exact c1, by rw [eR 1 (by decide)]; exact c2, by rw [eR 2 (by decide)]; exact c3⟩, fun i hi => ?_, hp, lgo_cg hl (fun l q hl hq => eR _ (by omega))⟩
  obtain ⟨⟨k0, k1, k2, k3⟩, ⟨v, v1, v2⟩, x, y, q1, q2, q3⟩ := ho i hi
  exact ⟨⟨by rw [eM i 0 (by decide) (by decide)]; exact k0, oGood_cg (eM i 0 (by decide) (by decide)) (eM i 1 (by decide) (by decide)) k1, fun q hq => by rw [show mt R i q = mt r i q from eM i (10 + q) (by omega) (by omega)]; exact k2 q hq, by rw [eM i 0 (by decide) (by decide), eM i 1 (by decide) (by decide)]; exact k3⟩, ⟨v, v1, (eM i 7 (by decide) (by decide)).trans v2⟩, x, y, q1, (eM i 5 (by decide) (by decide)).trans q2, (eM i 6 (by decide) (by decide)).trans q3⟩
theorem mG_pus {r : Nat → Int32} (g : mG r n m B y) : ∃ p : Nat → Nat, pus r n p ∧ sumN p n ≤ B := g.2.2.2.2.1
theorem eq_stand (h1 : P1 σ n m B y) (h2 : P2 σ f z B y) (h3 : P3 σ t) (o : Int32) : Eqv (cStand σ f z n m o) (fun τ => mStand τ z o) B y := by
  unfold Eqv cStand mStand
  rw [h1.S3]
  by_cases ho : wi o 0 (σ.1 151 7 - 1) = false
  · rw [if_pos ho]
    dsimp only
    rw [if_pos ho]
    exact ⟨rfl, up_all h1 h2 h3⟩
  · rw [if_neg ho]
    obtain ⟨j, hj, -, e⟩ := h1.or ho
    have hn6 := h1.n6
    rw [e, oSeat_cg (h1.O hj (p := 3) (by decide) (by decide))]
    by_cases hs : oSeat (mo (σ.1 151) j) = false
    · rw [if_pos hs]
      dsimp only
      rw [if_neg ho, if_pos hs]
      exact ⟨rfl, up_all h1 h2 h3⟩
    · rw [if_neg hs]
      dsimp only
      have hc : ∀ q, q ≠ iO 0 j → (pu (pu (keepM σ f z n m) (iO 0 j) 3 (-1)) (iO 0 j) 4 (-1)).1 q = (keepM σ f z n m).1 q := fun q hq => by rw [pu_ne _ hq, pu_ne _ hq]
      have hc2 : ∀ q, q < 6 ∨ 30 ≤ q → (pu (pu (keepM σ f z n m) (iO 0 j) 3 (-1)) (iO 0 j) 4 (-1)).1 q = (keepM σ f z n m).1 q := fun q hq => hc q (by unfold iO; omega)
      rw [keep_151 h1 hc2, if_neg ho, if_neg hs]
      dsimp only
      have eK : (keepM σ f z n m).1 (iO 0 j) = σ.1 (iO 0 j) := keep_lo h1 (by unfold iO; omega) (by unfold iO; omega)
      refine ⟨by rw [eK, h1.O hj (by decide) (by decide)], D_go (c := pu (pu (keepM σ f z n m) (iO 0 j) 3 (-1)) (iO 0 j) 4 (-1)) h1 h2 h3 hc2 (fun s hs => rfl) (fun q a b => puR_ne _ a) (by show (mrec _ _).2 = _; rw [mrec_2]) (n' := n) (m' := m) ?_⟩
      rw [puR_self]
      have hR : ∀ q, (∀ p, 2 ≤ p → p < 5 → q ≠ 73 + 42 * j + p) → upd (σ.1 151) (73 + 42 * j + 3) (-1) q = σ.1 151 q := fun q hq => upd_n _ _ _ _ (hq 3 (by decide) (by decide))
      have m3 : mo (upd (σ.1 151) (73 + 42 * j + 3) (-1)) j 3 = -1 := upd_s _ _ _
      have mi : ∀ i, i ≠ j → ∀ p, p < 42 → mo (upd (σ.1 151) (73 + 42 * j + 3) (-1)) i p = mo (σ.1 151) i p := fun i hi p hp => upd_n _ _ _ _ (by omega)
      obtain ⟨p, p1, p2⟩ := mG_pus h1.2.1
      have b1 := h1.2.2
      have pk := P1_keep (f := f) (z := z) h1
      refine sT_up ⟨rel_or pk.1 hj hc rfl hR (fun p hp h4 => ?_) (fun x => absurd m3 x), mG_or h1.2.1 hj hR ⟨p, pus_ne p1 (fun i hi => upd_n _ _ _ _ (by omega)), p2⟩, ⟨fun i hi => ?_, fun i i' hi hi' hii hb e => ?_⟩⟩ (Nat.le_add_right _ _) (Nat.le_add_right _ _)
      · rw [pu_upd, upd_n _ _ _ _ h4, pu_upd, eK]
        by_cases e3 : p = 3
        · rw [e3, upd_s, m3]
        · rw [upd_n _ _ _ _ e3, h1.O hj hp h4]
          show _ = upd (σ.1 151) (73 + 42 * j + 3) (-1) (73 + 42 * j + p)
          rw [upd_n _ _ _ _ (by omega)]
          rfl
      · by_cases e : i = j
        · rw [e]; exact Or.inl m3
        · rw [mi i e 3 (by decide), mi i e 4 (by decide)]; exact b1.1 i hi
      · have ij : i ≠ j := fun x => hb (by rw [x]; exact m3)
        have ij' : i' ≠ j := fun x => hb (by rw [e, x]; exact m3)
        rw [mi i ij 3 (by decide)] at hb
        rw [mi i ij 3 (by decide), mi i' ij' 3 (by decide)] at e
        rw [mi i ij 4 (by decide), mi i' ij' 4 (by decide)]
        exact b1.2 i i' hi hi' hii hb e
theorem eq_give (h1 : P1 σ n m B y) (h2 : P2 σ f z B y) (h3 : P3 σ t) (o v : Int32) : Eqv (cGive σ f z n m o v) (fun τ => mGive τ z o v) B y := by
  unfold Eqv cGive mGive
  rw [h1.S3]
  by_cases ho : wi o 0 (σ.1 151 7 - 1) = false
  · rw [if_pos ho]
    dsimp only
    rw [if_pos ho]
    exact ⟨rfl, up_all h1 h2 h3⟩
  · rw [if_neg ho]
    obtain ⟨j, hj, -, e⟩ := h1.or ho
    have hn6 := h1.n6
    rw [e, h1.O hj (by decide) (by decide)]
    by_cases hw : wi v 1 9999 = false
    · rw [if_pos hw]
      dsimp only
      rw [if_neg ho, if_pos hw]
      exact ⟨rfl, up_all h1 h2 h3⟩
    · rw [if_neg hw]
      by_cases hs : ¬ mo (σ.1 151) j 2 + v ≤ 100000
      · rw [if_pos hs]
        dsimp only
        rw [if_neg ho, if_neg hw, if_pos hs]
        exact ⟨rfl, up_all h1 h2 h3⟩
      · rw [if_neg hs]
        dsimp only
        have eK : (keepM σ f z n m).1 (iO 0 j) 2 = mo (σ.1 151) j 2 := by rw [keep_lo h1 (by unfold iO; omega) (by unfold iO; omega)]; exact h1.O hj (by decide) (by decide)
        rw [eK]
        have hc : ∀ q, q ≠ iO 0 j → (pu (keepM σ f z n m) (iO 0 j) 2 (mo (σ.1 151) j 2 + v)).1 q = (keepM σ f z n m).1 q := fun q hq => by rw [pu_ne _ hq]
        have hc2 : ∀ q, q < 6 ∨ 30 ≤ q → (pu (keepM σ f z n m) (iO 0 j) 2 (mo (σ.1 151) j 2 + v)).1 q = (keepM σ f z n m).1 q := fun q hq => hc q (by unfold iO; omega)
        rw [keep_151 h1 hc2, if_neg ho, if_neg hw, if_neg hs]
        dsimp only
        refine ⟨rfl, D_go (c := pu (keepM σ f z n m) (iO 0 j) 2 (mo (σ.1 151) j 2 + v)) h1 h2 h3 hc2 (fun s hs => rfl) (fun q a b => puR_ne _ a) (by show (mrec _ _).2 = _; rw [mrec_2]) (n' := n) (m' := m) ?_⟩
        rw [puR_self]
        obtain ⟨w, hw1, ew⟩ : ∃ w, w ≤ 9999 ∧ v = nI w := by
          obtain ⟨w, a, b, -⟩ := wi_to (v := v) (b := 9999) (k := 9999) (by decide) (by decide) (fun x => hw (by
            unfold wi at x ⊢
            have l : ¬ v < 1 → ¬ v < 0 := fun a b => a (Int32.lt_trans b (by decide))
            by_cases c1 : v < 1
            · simp [c1]
            · simpa [c1, l c1] using x))
          exact ⟨w, a, b⟩
        have hR : ∀ q, (∀ p, 2 ≤ p → p < 5 → q ≠ 73 + 42 * j + p) → addR (σ.1 151) j 2 v q = σ.1 151 q := fun q hq => upd_n _ _ _ _ (hq 2 (by decide) (by decide))
        obtain ⟨p, p1, p2⟩ := mG_pus h1.2.1
        have pk := P1_keep (f := f) (z := z) h1
        have ms := sumN_upd (p := p) (i := j) (v := p j + w) hj
        have m3 : ∀ i p, ¬ p = 2 → p < 42 → mo (addR (σ.1 151) j 2 v) i p = mo (σ.1 151) i p := fun i p hp hp4 => upd_n _ _ _ _ (by omega)
        refine sT_up ⟨rel_or pk.1 hj hc rfl hR (fun p hp h4 => ?_) (fun x => ?_), mG_or h1.2.1 hj hR ⟨_, by rw [ew]; exact pus_add p1 hj, by omega⟩, mBo_cg (fun i hi => ⟨m3 i 3 (by decide) (by decide), m3 i 4 (by decide) (by decide)⟩) h1.2.2⟩ (Nat.le_refl _) (Nat.le_add_right _ _)
        · rw [pu_upd, keep_lo h1 (by unfold iO; omega) (by unfold iO; omega)]
          by_cases e3 : p = 2
          · rw [e3, upd_s, mo_addR, if_pos rfl]
          · rw [upd_n _ _ _ _ e3, h1.O hj hp h4, m3 j p e3 (by omega)]
        · rw [m3 j 3 (by decide) (by decide)] at x
          rw [pu_upd, upd_n _ _ _ _ (by decide), keep_lo h1 (by unfold iO; omega) (by unfold iO; omega), h1.O4 hj x, m3 j 4 (by decide) (by decide)]
end CHANGES
