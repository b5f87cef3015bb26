/-! the start: what is kept holds, statics and texts -/
theorem m0_r {j : Nat} (h : 3 ≤ j) : m0.1 151 j = 0 := by
  show (if j = 0 then (5 : Int32) else if j = 1 then 10 else if j = 2 then 50 else 0) = 0
  rw [if_neg (by omega), if_neg (by omega), if_neg (by omega)]
theorem Kv_0 : Kv m0 0 0 := by
  have zS : ∀ j, m0.1 (iS 0) j = 0 := fun j => m0_0 (by decide) (by decide)
  have z1 : ∀ j, m0.1 1 j = 0 := fun j => m0_0 (by decide) (by decide)
  have z3 : ∀ j, m0.1 3 j = 0 := fun j => m0_0 (by decide) (by decide)
  have zm : ∀ j, m0.1 150 j = 0 := fun j => m0_0 (by decide) (by decide)
  refine ⟨0, 0, 0, 0, 0, ⟨⟨⟨zS 3, zS 4, by decide, by decide⟩, ⟨by rw [zS, m0_r (by decide)], by rw [zS, m0_r (by decide)], by rw [zS, m0_r (by decide)], by rw [zS, m0_r (by decide)]⟩, fun j hj => ?_, fun i hi => absurd hi (Nat.not_lt_zero i), fun i hi => absurd hi (Nat.not_lt_zero i), 0, by decide, rfl, fun a ha => by rw [m0_r (by omega), Nat.zero_div, if_neg (by decide)]⟩, ⟨⟨m0_r (by decide), by decide, m0_r (by decide), by decide⟩, ⟨0, by decide, m0_r (by decide)⟩, ⟨⟨5, by decide, by decide, rfl⟩, ⟨10, by decide, rfl⟩, ⟨50, by decide, rfl⟩⟩, fun i hi => absurd hi (Nat.not_lt_zero i), ⟨fun _ => 0, fun i hi => absurd hi (Nat.not_lt_zero i), Nat.le_refl 0⟩, fun i hi => absurd hi (Nat.not_lt_zero i)⟩, ⟨fun i hi => absurd hi (Nat.not_lt_zero i), fun i _ hi => absurd hi (Nat.not_lt_zero i)⟩⟩, ⟨⟨z1 1, z1 2, by decide, by decide⟩, zm 3, fun i hi => absurd hi (Nat.not_lt_zero i)⟩, ⟨z3 2, by decide, fun i hi => absurd hi (Nat.not_lt_zero i)⟩, zm 5, fun i hi => absurd hi (Nat.not_lt_zero i)⟩
  rw [m0_S (by decide)]
  rcases (show j = 0 ∨ j = 1 ∨ j = 2 by omega) with rfl | rfl | rfl <;> rfl
theorem lt_w {w : Cond} (i : Nat) (h : tables_1[i]? = some w) : w ∈ lw_tbl := List.mem_append_right _ (List.mem_of_getElem? h)
theorem vk_S_cg {N : Nat} {len : List Nat} {byt : List (List Int32)} {k v k' v' : Nat → Nat} {A : Nat → Prop} {U : State} {H : Heap} (h : vk_S N len byt k v A U H) (e : ∀ i, i < N → k' i = k i ∧ v' i = v i) : vk_S N len byt k' v' A U H :=
  ⟨fun i hi => by rw [(e i hi).1, (e i hi).2]; exact h.1 i hi, fun i j hi hj q => h.2 i j hi hj (by rw [← (e i hi).1, ← (e j hj).1]; exact q)⟩
def txT (i : Nat) : Term := .string "BranchBets$Text" (if i = 0 then 77 else if i = 1 then 83 else if i = 2 then 85 else if i = 3 then 87 else 89)
set_option maxRecDepth 100000 in
set_option maxHeartbeats 4000000 in
theorem start_S {s : State} {b : Nat} (hgv : (Jvm.Cond.and given_1 narrow_1).before #[Value.ref b] s = true) : ∃ adK adV : Nat → Nat, vk_S 5 [4, 4, 4, 4, 3] [[116, 97, 107, 101], [115, 107, 105, 112], [102, 108, 105, 112], [108, 111, 111, 112], [99, 117, 116]] adK adV (fun q => s.heap.size ≤ q) s s.heap ∧ ∀ i : Nat, i < 5 → (txT i).eval #[Value.ref b] s none [] s = some (.ref (adK i)) := by
  have hs := flat_of_before _ hgv
  have hA : ∀ a : Nat, a < s.heap.size → ¬ (fun q : Nat => s.heap.size ≤ q) a := fun a ha h => Nat.not_lt.mpr h ha
  refine vk_Sof (fun i hi => ?_) (fun i hi => ?_) (fun i hi => ?_) (fun i hi => ?_) (fun i hi => ?_) (fun i hi j hj => ?_) (fun i j hi hj hij => ?_) hA
  · rcases (show i = 0 ∨ i = 1 ∨ i = 2 ∨ i = 3 ∨ i = 4 by omega) with rfl | rfl | rfl | rfl | rfl <;> decide
  · rcases (show i = 0 ∨ i = 1 ∨ i = 2 ∨ i = 3 ∨ i = 4 by omega) with rfl | rfl | rfl | rfl | rfl <;> exact hs _ (by decide +kernel)
  · rcases (show i = 0 ∨ i = 1 ∨ i = 2 ∨ i = 3 ∨ i = 4 by omega) with rfl | rfl | rfl | rfl | rfl <;> exact hs _ (by decide +kernel)
  · rcases (show i = 0 ∨ i = 1 ∨ i = 2 ∨ i = 3 ∨ i = 4 by omega) with rfl | rfl | rfl | rfl | rfl <;> exact hs _ (by decide +kernel)
  · rcases (show i = 0 ∨ i = 1 ∨ i = 2 ∨ i = 3 ∨ i = 4 by omega) with rfl | rfl | rfl | rfl | rfl <;> exact hs _ (by decide +kernel)
  · rcases (show i = 0 ∨ i = 1 ∨ i = 2 ∨ i = 3 ∨ i = 4 by omega) with rfl | rfl | rfl | rfl | rfl
    · rcases (show j = 0 ∨ j = 1 ∨ j = 2 ∨ j = 3 from (by have : j < 4 := hj; omega)) with rfl | rfl | rfl | rfl <;> exact hs _ (by decide +kernel)
    · rcases (show j = 0 ∨ j = 1 ∨ j = 2 ∨ j = 3 from (by have : j < 4 := hj; omega)) with rfl | rfl | rfl | rfl <;> exact hs _ (by decide +kernel)
    · rcases (show j = 0 ∨ j = 1 ∨ j = 2 ∨ j = 3 from (by have : j < 4 := hj; omega)) with rfl | rfl | rfl | rfl <;> exact hs _ (by decide +kernel)
    · rcases (show j = 0 ∨ j = 1 ∨ j = 2 ∨ j = 3 from (by have : j < 4 := hj; omega)) with rfl | rfl | rfl | rfl <;> exact hs _ (by decide +kernel)
    · rcases (show j = 0 ∨ j = 1 ∨ j = 2 from (by have : j < 3 := hj; omega)) with rfl | rfl | rfl <;> exact hs _ (by decide +kernel)
  · rcases (show i = 0 ∨ i = 1 ∨ i = 2 ∨ i = 3 ∨ i = 4 by omega) with rfl | rfl | rfl | rfl | rfl <;> rcases (show j = 0 ∨ j = 1 ∨ j = 2 ∨ j = 3 ∨ j = 4 by omega) with rfl | rfl | rfl | rfl | rfl <;> first | exact absurd rfl hij | exact Or.inl (hs _ (by decide +kernel)) | exact Or.inr (hs _ (by decide +kernel))
