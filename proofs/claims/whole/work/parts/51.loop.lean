/-! the law's loop -/
/-- the script: Ln ints sc at the address b -/
def SCx (x : fC) (b Ln : Nat) (sc : Nat → Int32) : Prop := va_X b Ln sc (xs x) (xs x).heap ∧ b < (xs x).heap.size ∧ ¬ xA x b ∧ Ln ≤ 2560
def LL (X : fX) (b k : Nat) : List (Nat × Value) := [(0, .ref b), (1, ra X 0), (2, ra X 150), (3, .int (nI (5 * k)))]
section LOOP
variable {l : Launch} {x : fC} {X : fX} {σ : fM} {L : List (Nat × Value)} {st : List Value} {pc b Ln : Nat} {sc : Nat → Int32} {cc : ByteArray} {own : String} {d : Nat}
theorem g_len (h : Ok l x X cc own d) (S : SCx x b Ln sc) (hd : decode cc pc = .ok (.arraylength, 1)) (k : G x X σ L (.int (nI Ln) :: st) (pc + 1)) : G x X σ L (.ref b :: st) pc := fun H locs ls hP hS hl =>
  va_slen h.hx h.hb S.1 S.2.1 S.2.2.1 hS hd (k H locs ls hP hS hl)
theorem g_sc (h : Ok l x X cc own d) (S : SCx x b Ln sc) {i : Nat} (hin : i < Ln) (hd : decode cc pc = .ok (.iaload, 1)) (k : G x X σ L (.int (sc i) :: st) (pc + 1)) : G x X σ L (.int (nI i) :: .ref b :: st) pc := fun H locs ls hP hS hl => by
  have h25 := S.2.2.2
  refine va_sld h.hx h.hb S.1 S.2.1 S.2.2.1 hS (vp_in_nI hin (by omega)) hd ?_
  rw [nI_clamp (by omega)]
  exact k H locs ls hP hS hl
theorem g_arg (h : Ok l x X cc own d) (S : SCx x b Ln sc) {i j : Nat} {n : Int} (hl0 : lk L 0 = some (.ref b)) (hl3 : lk L 3 = some (.int (nI i))) (hj : Int32.ofInt n = nI j) (hin : i + j < Ln) (d0 : decode cc pc = .ok (.aload_n 0, 1)) (d1 : decode cc (pc + 1) = .ok (.iload_n 3, 1)) (d2 : decode cc (pc + 2) = .ok (.iconst n, 1)) (d3 : decode cc (pc + 3) = .ok (.iadd, 1)) (d4 : decode cc (pc + 4) = .ok (.iaload, 1)) (k : G x X σ L (.int (sc (i + j)) :: st) (pc + 5)) : G x X σ L st pc := by
  refine g_aload_n (k4 := 0) h d0 hl0 ?_
  refine g_iload_n (k4 := 3) h d1 hl3 ?_
  refine g_iconst h d2 hj ?_
  refine g_iadd h d3 ?_
  rw [nI_add]
  exact g_sc h S hin d4 k
theorem sh_m {r : Nat → Int32} {n m B y : Nat} (g : mG r n m B y) (hy : y < 2 ^ 24) : ∀ i, i < n → shR (mo r i) := fun i hi => by
  obtain ⟨-, -, a, b, h1, h2, h3⟩ := g.2.2.2.1 i hi
  exact ⟨a, b, by omega, h2, h3⟩
theorem sh_c {n m B y : Nat} (h1 : P1 σ n m B y) (hy : y < 2 ^ 24) : ∀ i, i < n → shR (σ.1 (iO 0 i)) := fun i hi => by
  obtain ⟨a, b, h2, h3, h4⟩ := sh_m h1.2.1 hy i hi
  exact ⟨a, b, h2, (h1.O hi (by decide) (by decide)).trans h3, (h1.O hi (by decide) (by decide)).trans h4⟩
theorem odds_x {n m B y : Nat} (h1 : P1 σ n m B y) (hB : B < 2 ^ 24) (a : Int32) : ∃ xa ya : Nat, xa + ya < 2 ^ 24 ∧ (isA a = true → stk (fore σ 0 n a) 0 n 1 = nI xa ∧ stk (fore σ 0 n a) 0 n 0 = nI ya ∧ modO (σ.1 151) n (ix a) n = nI xa ∧ modA (σ.1 151) (ix a) n = nI (xa + ya)) := by
  by_cases hA : isA a = false
  · exact ⟨0, 0, by decide, fun q => by rw [hA] at q; cases q⟩
  · obtain ⟨v, hv, ea, ev⟩ := ad_of hA
    obtain ⟨xa, ya, e1, e2, e3, e4, e5⟩ := odds_h (a := v) h1 hB
    exact ⟨xa, ya, e1, fun _ => by rw [ev, ea]; exact ⟨e2, e3, e4, e5⟩⟩
theorem law_c0 {k : Nat} (h : Ok l x X cL_law RL 12) (S : SCx x b Ln sc) (hk : 5 * k + 5 ≤ Ln) (hKv : Kv σ (10000 * k) (4000 * k)) (back : ∀ σ1, Kv σ1 (10000 * k + 10000) (4000 * k + 4000) → G x X σ1 (LL X b k) [] 903) : G x X σ (LL X b k) [] 148 := by
  obtain ⟨n, m, f, z, t, h1, h2, h3⟩ := hKv
  have h25 := S.2.2.2
  have hB : 10000 * k < 2 ^ 24 - 2 ^ 12 := by omega
  have hB2 : 10000 * k < 2 ^ 24 := by omega
  have hy : 4000 * k + 4000 < 2 ^ 24 := by omega
  have gs := sT_gst h1
  refine g_aload_n h dL_law_148 rfl ?_
  refine g_arg h S (j := 1) rfl rfl (by decide) (by omega) dL_law_149 dL_law_150 dL_law_151 dL_law_152 dL_law_153 ?_
  refine g_arg h S (j := 2) rfl rfl (by decide) (by omega) dL_law_154 dL_law_155 dL_law_156 dL_law_157 dL_law_158 ?_
  generalize hA1 : sc (5 * k + 1) = A1
  generalize hA2 : sc (5 * k + 2) = A2
  refine clL_13 h (ct_X5_set (w := A1) (v := A2) gs h2.1) rfl dL_law_159 rfl (Nat.le_of_ble_eq_true rfl) (by decide) ?_
  have hi : ∀ q, 150 ≤ q → (cSet σ f z n m A1 A2).2.1 q = σ.1 q := fun q hq => hi_set h1 hq A1 A2
  have E : Eqv (cSet σ f z n m A1 A2) (fun τ => mSet τ z A1 A2) (10000 * k) (4000 * k) := eq_set h1 h2 h3 A1 A2
  generalize cSet σ f z n m A1 A2 = c at hi E ⊢
  have hz : mrc c.2 z := ⟨by rw [hi 150 (by decide)]; exact h2.2.1, h2.1.2.2.2⟩
  have hg : mG (c.2.1 151) n m (10000 * k) (4000 * k) := by rw [hi 151 (by decide)]; exact h1.2.1
  have ht : mtx c.2 t := ⟨by rw [hi 150 (by decide)]; exact h3.2.1, h3.1.2.1⟩
  refine g_aload_n h dL_law_162 rfl ?_
  refine g_arg h S (j := 1) rfl rfl (by decide) (by omega) dL_law_163 dL_law_164 dL_law_165 dL_law_166 dL_law_167 ?_
  refine g_arg h S (j := 2) rfl rfl (by decide) (by omega) dL_law_168 dL_law_169 dL_law_170 dL_law_171 dL_law_172 ?_
  rw [hA1, hA2]
  refine clL_17 h (ct_X6_set (w := A1) (v := A2) hz) rfl dL_law_173 rfl (Nat.le_of_ble_eq_true rfl) (by decide) ?_
  exact g_iceq h 903 dL_law_176 (by decide) (fun _ => back _ E.2) (fun hne => absurd E.1 hne)
theorem law_c1 {k : Nat} (h : Ok l x X cL_law RL 12) (S : SCx x b Ln sc) (hk : 5 * k + 5 ≤ Ln) (hKv : Kv σ (10000 * k) (4000 * k)) (back : ∀ σ1, Kv σ1 (10000 * k + 10000) (4000 * k + 4000) → G x X σ1 (LL X b k) [] 903) : G x X σ (LL X b k) [] 181 := by
  obtain ⟨n, m, f, z, t, h1, h2, h3⟩ := hKv
  have h25 := S.2.2.2
  have hB : 10000 * k < 2 ^ 24 - 2 ^ 12 := by omega
  have hB2 : 10000 * k < 2 ^ 24 := by omega
  have hy : 4000 * k + 4000 < 2 ^ 24 := by omega
  have gs := sT_gst h1
  refine g_aload_n h dL_law_181 rfl ?_
  refine g_arg h S (j := 1) rfl rfl (by decide) (by omega) dL_law_182 dL_law_183 dL_law_184 dL_law_185 dL_law_186 ?_
  refine g_arg h S (j := 2) rfl rfl (by decide) (by omega) dL_law_187 dL_law_188 dL_law_189 dL_law_190 dL_law_191 ?_
  refine g_arg h S (j := 3) rfl rfl (by decide) (by omega) dL_law_192 dL_law_193 dL_law_194 dL_law_195 dL_law_196 ?_
  generalize hA1 : sc (5 * k + 1) = A1
  generalize hA2 : sc (5 * k + 2) = A2
  generalize hA3 : sc (5 * k + 3) = A3
  refine clL_18 h (ct_X5_oracle (k := A1) (u := A2) (p := A3) gs h2.1) rfl dL_law_197 rfl (Nat.le_of_ble_eq_true rfl) (by decide) ?_
  have hi : ∀ q, 150 ≤ q → (cOracle σ f z n m A1 A2 A3).2.1 q = σ.1 q := fun q hq => hi_oracle h1 hq A1 A2 A3
  have E : Eqv (cOracle σ f z n m A1 A2 A3) (fun τ => mOracle τ z n A1 A2 A3) (10000 * k) (4000 * k) := eq_oracle h1 h2 h3 A1 A2 A3
  generalize cOracle σ f z n m A1 A2 A3 = c at hi E ⊢
  have hz : mrc c.2 z := ⟨by rw [hi 150 (by decide)]; exact h2.2.1, h2.1.2.2.2⟩
  have hg : mG (c.2.1 151) n m (10000 * k) (4000 * k) := by rw [hi 151 (by decide)]; exact h1.2.1
  have ht : mtx c.2 t := ⟨by rw [hi 150 (by decide)]; exact h3.2.1, h3.1.2.1⟩
  refine g_aload_n h dL_law_200 rfl ?_
  refine g_arg h S (j := 1) rfl rfl (by decide) (by omega) dL_law_201 dL_law_202 dL_law_203 dL_law_204 dL_law_205 ?_
  refine g_arg h S (j := 2) rfl rfl (by decide) (by omega) dL_law_206 dL_law_207 dL_law_208 dL_law_209 dL_law_210 ?_
  refine g_arg h S (j := 3) rfl rfl (by decide) (by omega) dL_law_211 dL_law_212 dL_law_213 dL_law_214 dL_law_215 ?_
  rw [hA1, hA2, hA3]
  refine clL_22 h (ct_X6_oracle (k := A1) (u := A2) (p := A3) hz hg.1) rfl dL_law_216 rfl (Nat.le_of_ble_eq_true rfl) (by decide) ?_
  exact g_iceq h 903 dL_law_219 (by decide) (fun _ => back _ E.2) (fun hne => absurd E.1 hne)
theorem law_c2 {k : Nat} (h : Ok l x X cL_law RL 12) (S : SCx x b Ln sc) (hk : 5 * k + 5 ≤ Ln) (hKv : Kv σ (10000 * k) (4000 * k)) (back : ∀ σ1, Kv σ1 (10000 * k + 10000) (4000 * k + 4000) → G x X σ1 (LL X b k) [] 903) : G x X σ (LL X b k) [] 224 := by
  obtain ⟨n, m, f, z, t, h1, h2, h3⟩ := hKv
  have h25 := S.2.2.2
  have hB : 10000 * k < 2 ^ 24 - 2 ^ 12 := by omega
  have hB2 : 10000 * k < 2 ^ 24 := by omega
  have hy : 4000 * k + 4000 < 2 ^ 24 := by omega
  have gs := sT_gst h1
  refine g_aload_n h dL_law_224 rfl ?_
  refine g_arg h S (j := 1) rfl rfl (by decide) (by omega) dL_law_225 dL_law_226 dL_law_227 dL_law_228 dL_law_229 ?_
  refine g_arg h S (j := 2) rfl rfl (by decide) (by omega) dL_law_230 dL_law_231 dL_law_232 dL_law_233 dL_law_234 ?_
  generalize hA1 : sc (5 * k + 1) = A1
  generalize hA2 : sc (5 * k + 2) = A2
  refine clL_23 h (ct_X5_seat (o := A1) (b := A2) gs h2.1) rfl dL_law_235 rfl (Nat.le_of_ble_eq_true rfl) (by decide) ?_
  have hi : ∀ q, 150 ≤ q → (cSeat σ f z n m A1 A2).2.1 q = σ.1 q := fun q hq => hi_seat h1 hq A1 A2
  have E : Eqv (cSeat σ f z n m A1 A2) (fun τ => mSeat τ z n A1 A2) (10000 * k) (4000 * k) := eq_seat h1 h2 h3 A1 A2
  generalize cSeat σ f z n m A1 A2 = c at hi E ⊢
  have hz : mrc c.2 z := ⟨by rw [hi 150 (by decide)]; exact h2.2.1, h2.1.2.2.2⟩
  have hg : mG (c.2.1 151) n m (10000 * k) (4000 * k) := by rw [hi 151 (by decide)]; exact h1.2.1
  have ht : mtx c.2 t := ⟨by rw [hi 150 (by decide)]; exact h3.2.1, h3.1.2.1⟩
  refine g_aload_n h dL_law_238 rfl ?_
  refine g_arg h S (j := 1) rfl rfl (by decide) (by omega) dL_law_239 dL_law_240 dL_law_241 dL_law_242 dL_law_243 ?_
  refine g_arg h S (j := 2) rfl rfl (by decide) (by omega) dL_law_244 dL_law_245 dL_law_246 dL_law_247 dL_law_248 ?_
  rw [hA1, hA2]
  refine clL_26 h (ct_X6_seat (v := A1) (b := A2) hz hg.1) rfl dL_law_249 rfl (Nat.le_of_ble_eq_true rfl) (by decide) ?_
  exact g_iceq h 903 dL_law_252 (by decide) (fun _ => back _ E.2) (fun hne => absurd E.1 hne)
theorem law_c3 {k : Nat} (h : Ok l x X cL_law RL 12) (S : SCx x b Ln sc) (hk : 5 * k + 5 ≤ Ln) (hKv : Kv σ (10000 * k) (4000 * k)) (back : ∀ σ1, Kv σ1 (10000 * k + 10000) (4000 * k + 4000) → G x X σ1 (LL X b k) [] 903) : G x X σ (LL X b k) [] 257 := by
  obtain ⟨n, m, f, z, t, h1, h2, h3⟩ := hKv
  have h25 := S.2.2.2
  have hB : 10000 * k < 2 ^ 24 - 2 ^ 12 := by omega
  have hB2 : 10000 * k < 2 ^ 24 := by omega
  have hy : 4000 * k + 4000 < 2 ^ 24 := by omega
  have gs := sT_gst h1
  refine g_aload_n h dL_law_257 rfl ?_
  refine g_arg h S (j := 1) rfl rfl (by decide) (by omega) dL_law_258 dL_law_259 dL_law_260 dL_law_261 dL_law_262 ?_
  generalize hA1 : sc (5 * k + 1) = A1
  refine clL_27 h (ct_X5_stand (o := A1) gs h2.1) rfl dL_law_263 rfl (Nat.le_of_ble_eq_true rfl) (by decide) ?_
  have hi : ∀ q, 150 ≤ q → (cStand σ f z n m A1).2.1 q = σ.1 q := fun q hq => hi_stand h1 hq A1
  have E : Eqv (cStand σ f z n m A1) (fun τ => mStand τ z A1) (10000 * k) (4000 * k) := eq_stand h1 h2 h3 A1
  generalize cStand σ f z n m A1 = c at hi E ⊢
  have hz : mrc c.2 z := ⟨by rw [hi 150 (by decide)]; exact h2.2.1, h2.1.2.2.2⟩
  have hg : mG (c.2.1 151) n m (10000 * k) (4000 * k) := by rw [hi 151 (by decide)]; exact h1.2.1
  have ht : mtx c.2 t := ⟨by rw [hi 150 (by decide)]; exact h3.2.1, h3.1.2.1⟩
  refine g_aload_n h dL_law_266 rfl ?_
  refine g_arg h S (j := 1) rfl rfl (by decide) (by omega) dL_law_267 dL_law_268 dL_law_269 dL_law_270 dL_law_271 ?_
  rw [hA1]
  refine clL_31 h (ct_X6_stand (v := A1) hz hg.1) rfl dL_law_272 rfl (Nat.le_of_ble_eq_true rfl) (by decide) ?_
  exact g_iceq h 903 dL_law_275 (by decide) (fun _ => back _ E.2) (fun hne => absurd E.1 hne)
theorem law_c4 {k : Nat} (h : Ok l x X cL_law RL 12) (S : SCx x b Ln sc) (hk : 5 * k + 5 ≤ Ln) (hKv : Kv σ (10000 * k) (4000 * k)) (back : ∀ σ1, Kv σ1 (10000 * k + 10000) (4000 * k + 4000) → G x X σ1 (LL X b k) [] 903) : G x X σ (LL X b k) [] 280 := by
  obtain ⟨n, m, f, z, t, h1, h2, h3⟩ := hKv
  have h25 := S.2.2.2
  have hB : 10000 * k < 2 ^ 24 - 2 ^ 12 := by omega
  have hB2 : 10000 * k < 2 ^ 24 := by omega
  have hy : 4000 * k + 4000 < 2 ^ 24 := by omega
  have gs := sT_gst h1
  refine g_aload_n h dL_law_280 rfl ?_
  refine g_arg h S (j := 1) rfl rfl (by decide) (by omega) dL_law_281 dL_law_282 dL_law_283 dL_law_284 dL_law_285 ?_
  refine g_arg h S (j := 2) rfl rfl (by decide) (by omega) dL_law_286 dL_law_287 dL_law_288 dL_law_289 dL_law_290 ?_
  generalize hA1 : sc (5 * k + 1) = A1
  generalize hA2 : sc (5 * k + 2) = A2
  refine clL_32 h (ct_X5_give (o := A1) (v := A2) gs h2.1) rfl dL_law_291 rfl (Nat.le_of_ble_eq_true rfl) (by decide) ?_
  have hi : ∀ q, 150 ≤ q → (cGive σ f z n m A1 A2).2.1 q = σ.1 q := fun q hq => hi_give h1 hq A1 A2
  have E : Eqv (cGive σ f z n m A1 A2) (fun τ => mGive τ z A1 A2) (10000 * k) (4000 * k) := eq_give h1 h2 h3 A1 A2
  generalize cGive σ f z n m A1 A2 = c at hi E ⊢
  have hz : mrc c.2 z := ⟨by rw [hi 150 (by decide)]; exact h2.2.1, h2.1.2.2.2⟩
  have hg : mG (c.2.1 151) n m (10000 * k) (4000 * k) := by rw [hi 151 (by decide)]; exact h1.2.1
  have ht : mtx c.2 t := ⟨by rw [hi 150 (by decide)]; exact h3.2.1, h3.1.2.1⟩
  refine g_aload_n h dL_law_294 rfl ?_
  refine g_arg h S (j := 1) rfl rfl (by decide) (by omega) dL_law_295 dL_law_296 dL_law_297 dL_law_298 dL_law_299 ?_
  refine g_arg h S (j := 2) rfl rfl (by decide) (by omega) dL_law_300 dL_law_301 dL_law_302 dL_law_303 dL_law_304 ?_
  rw [hA1, hA2]
  refine clL_35 h (ct_X6_give (v := A1) (c := A2) hz hg.1) rfl dL_law_305 rfl (Nat.le_of_ble_eq_true rfl) (by decide) ?_
  exact g_iceq h 903 dL_law_308 (by decide) (fun _ => back _ E.2) (fun hne => absurd E.1 hne)
theorem law_c5 {k : Nat} (h : Ok l x X cL_law RL 12) (S : SCx x b Ln sc) (hk : 5 * k + 5 ≤ Ln) (hKv : Kv σ (10000 * k) (4000 * k)) (back : ∀ σ1, Kv σ1 (10000 * k + 10000) (4000 * k + 4000) → G x X σ1 (LL X b k) [] 903) : G x X σ (LL X b k) [] 313 := by
  obtain ⟨n, m, f, z, t, h1, h2, h3⟩ := hKv
  have h25 := S.2.2.2
  have hB : 10000 * k < 2 ^ 24 - 2 ^ 12 := by omega
  have hB2 : 10000 * k < 2 ^ 24 := by omega
  have hy : 4000 * k + 4000 < 2 ^ 24 := by omega
  have gs := sT_gst h1
  refine g_aload_n h dL_law_313 rfl ?_
  refine g_arg h S (j := 1) rfl rfl (by decide) (by omega) dL_law_314 dL_law_315 dL_law_316 dL_law_317 dL_law_318 ?_
  refine g_arg h S (j := 2) rfl rfl (by decide) (by omega) dL_law_319 dL_law_320 dL_law_321 dL_law_322 dL_law_323 ?_
  refine g_arg h S (j := 3) rfl rfl (by decide) (by omega) dL_law_324 dL_law_325 dL_law_326 dL_law_327 dL_law_328 ?_
  generalize hA1 : sc (5 * k + 1) = A1
  generalize hA2 : sc (5 * k + 2) = A2
  generalize hA3 : sc (5 * k + 3) = A3
  refine clL_36 h (ct_X5_lend (o := A1) (e := A2) (v := A3) gs h2.1) rfl dL_law_329 rfl (Nat.le_of_ble_eq_true rfl) (by decide) ?_
  have hi : ∀ q, 150 ≤ q → (cLend σ f z n m A1 A2 A3).2.1 q = σ.1 q := fun q hq => hi_lend h1 hq A1 A2 A3
  have E : Eqv (cLend σ f z n m A1 A2 A3) (fun τ => mLend τ z m A1 A2 A3) (10000 * k) (4000 * k) := eq_lend h1 h2 h3 hB2 A1 A2 A3
  generalize cLend σ f z n m A1 A2 A3 = c at hi E ⊢
  have hz : mrc c.2 z := ⟨by rw [hi 150 (by decide)]; exact h2.2.1, h2.1.2.2.2⟩
  have hg : mG (c.2.1 151) n m (10000 * k) (4000 * k) := by rw [hi 151 (by decide)]; exact h1.2.1
  have ht : mtx c.2 t := ⟨by rw [hi 150 (by decide)]; exact h3.2.1, h3.1.2.1⟩
  refine g_aload_n h dL_law_332 rfl ?_
  refine g_arg h S (j := 1) rfl rfl (by decide) (by omega) dL_law_333 dL_law_334 dL_law_335 dL_law_336 dL_law_337 ?_
  refine g_arg h S (j := 2) rfl rfl (by decide) (by omega) dL_law_338 dL_law_339 dL_law_340 dL_law_341 dL_law_342 ?_
  refine g_arg h S (j := 3) rfl rfl (by decide) (by omega) dL_law_343 dL_law_344 dL_law_345 dL_law_346 dL_law_347 ?_
  rw [hA1, hA2, hA3]
  refine clL_39 h (ct_X6_lend (c := A1) (e := A2) (v := A3) hz hg.1) rfl dL_law_348 rfl (Nat.le_of_ble_eq_true rfl) (by decide) ?_
  exact g_iceq h 903 dL_law_351 (by decide) (fun _ => back _ E.2) (fun hne => absurd E.1 hne)
theorem law_c6 {k : Nat} (h : Ok l x X cL_law RL 12) (S : SCx x b Ln sc) (hk : 5 * k + 5 ≤ Ln) (hKv : Kv σ (10000 * k) (4000 * k)) (back : ∀ σ1, Kv σ1 (10000 * k + 10000) (4000 * k + 4000) → G x X σ1 (LL X b k) [] 903) : G x X σ (LL X b k) [] 356 := by
  obtain ⟨n, m, f, z, t, h1, h2, h3⟩ := hKv
  have h25 := S.2.2.2
  have hB : 10000 * k < 2 ^ 24 - 2 ^ 12 := by omega
  have hB2 : 10000 * k < 2 ^ 24 := by omega
  have hy : 4000 * k + 4000 < 2 ^ 24 := by omega
  have gs := sT_gst h1
  refine g_aload_n h dL_law_356 rfl ?_
  refine g_arg h S (j := 1) rfl rfl (by decide) (by omega) dL_law_357 dL_law_358 dL_law_359 dL_law_360 dL_law_361 ?_
  refine g_arg h S (j := 2) rfl rfl (by decide) (by omega) dL_law_362 dL_law_363 dL_law_364 dL_law_365 dL_law_366 ?_
  generalize hA1 : sc (5 * k + 1) = A1
  generalize hA2 : sc (5 * k + 2) = A2
  refine clL_40 h (ct_X5_branch (a := A1) (k := A2) gs h2.1) rfl dL_law_367 rfl (Nat.le_of_ble_eq_true rfl) (by decide) ?_
  have hi : ∀ q, 150 ≤ q → (cBranch σ f z n m A1 A2).2.1 q = σ.1 q := fun q hq => hi_branch h1 hq A1 A2
  have E : Eqv (cBranch σ f z n m A1 A2) (fun τ => mBranch τ z n m A1 A2) (10000 * k) (4000 * k) := eq_branch h1 h2 h3 hB hy A1 A2
  generalize cBranch σ f z n m A1 A2 = c at hi E ⊢
  have hz : mrc c.2 z := ⟨by rw [hi 150 (by decide)]; exact h2.2.1, h2.1.2.2.2⟩
  have hg : mG (c.2.1 151) n m (10000 * k) (4000 * k) := by rw [hi 151 (by decide)]; exact h1.2.1
  have ht : mtx c.2 t := ⟨by rw [hi 150 (by decide)]; exact h3.2.1, h3.1.2.1⟩
  refine g_aload_n h dL_law_370 rfl ?_
  refine g_arg h S (j := 1) rfl rfl (by decide) (by omega) dL_law_371 dL_law_372 dL_law_373 dL_law_374 dL_law_375 ?_
  refine g_arg h S (j := 2) rfl rfl (by decide) (by omega) dL_law_376 dL_law_377 dL_law_378 dL_law_379 dL_law_380 ?_
  rw [hA1, hA2]
  refine clL_43 h (ct_X6_branch (a := A1) (k := A2) hz (hg.gd hB2) hg.cr) rfl dL_law_381 rfl (Nat.le_of_ble_eq_true rfl) (by decide) ?_
  exact g_iceq h 903 dL_law_384 (by decide) (fun _ => back _ E.2) (fun hne => absurd E.1 hne)
theorem law_c7 {k : Nat} (h : Ok l x X cL_law RL 12) (S : SCx x b Ln sc) (hk : 5 * k + 5 ≤ Ln) (hKv : Kv σ (10000 * k) (4000 * k)) (back : ∀ σ1, Kv σ1 (10000 * k + 10000) (4000 * k + 4000) → G x X σ1 (LL X b k) [] 903) : G x X σ (LL X b k) [] 389 := by
  obtain ⟨n, m, f, z, t, h1, h2, h3⟩ := hKv
  have h25 := S.2.2.2
  have hB : 10000 * k < 2 ^ 24 - 2 ^ 12 := by omega
  have hB2 : 10000 * k < 2 ^ 24 := by omega
  have hy : 4000 * k + 4000 < 2 ^ 24 := by omega
  have gs := sT_gst h1
  refine g_aload_n h dL_law_389 rfl ?_
  refine g_arg h S (j := 1) rfl rfl (by decide) (by omega) dL_law_390 dL_law_391 dL_law_392 dL_law_393 dL_law_394 ?_
  refine g_arg h S (j := 2) rfl rfl (by decide) (by omega) dL_law_395 dL_law_396 dL_law_397 dL_law_398 dL_law_399 ?_
  generalize hA1 : sc (5 * k + 1) = A1
  generalize hA2 : sc (5 * k + 2) = A2
  refine clL_44 h (ct_X5_oracleOf (o := A1) (w := A2) gs) rfl dL_law_400 rfl (Nat.le_of_ble_eq_true rfl) (by decide) ?_
  have c2 : (cOracleOf σ n m A1 A2).2 = σ := by
    unfold cOracleOf
    repeat' (first | rfl | split)
  have hi : ∀ q, 150 ≤ q → (cOracleOf σ n m A1 A2).2.1 q = σ.1 q := fun q _ => by rw [c2]
  have E : Eqv (cOracleOf σ n m A1 A2) (fun τ => mOracleOf τ m A1 A2) (10000 * k) (4000 * k) := Eqv_r h1 h2 h3 (eq_oracleOf h1 A1 A2) c2
  clear c2
  generalize cOracleOf σ n m A1 A2 = c at hi E ⊢
  have hz : mrc c.2 z := ⟨by rw [hi 150 (by decide)]; exact h2.2.1, h2.1.2.2.2⟩
  have hg : mG (c.2.1 151) n m (10000 * k) (4000 * k) := by rw [hi 151 (by decide)]; exact h1.2.1
  have ht : mtx c.2 t := ⟨by rw [hi 150 (by decide)]; exact h3.2.1, h3.1.2.1⟩
  refine g_aload_n h dL_law_403 rfl ?_
  refine g_arg h S (j := 1) rfl rfl (by decide) (by omega) dL_law_404 dL_law_405 dL_law_406 dL_law_407 dL_law_408 ?_
  refine g_arg h S (j := 2) rfl rfl (by decide) (by omega) dL_law_409 dL_law_410 dL_law_411 dL_law_412 dL_law_413 ?_
  rw [hA1, hA2]
  refine clL_47 h (ct_X6_oracleOf (v := A1) (w := A2) hg.1) rfl dL_law_414 rfl (Nat.le_of_ble_eq_true rfl) (by decide) ?_
  exact g_iceq h 903 dL_law_417 (by decide) (fun _ => back _ E.2) (fun hne => absurd E.1 hne)
theorem law_c8 {k : Nat} (h : Ok l x X cL_law RL 12) (S : SCx x b Ln sc) (hk : 5 * k + 5 ≤ Ln) (hKv : Kv σ (10000 * k) (4000 * k)) (back : ∀ σ1, Kv σ1 (10000 * k + 10000) (4000 * k + 4000) → G x X σ1 (LL X b k) [] 903) : G x X σ (LL X b k) [] 422 := by
  obtain ⟨n, m, f, z, t, h1, h2, h3⟩ := hKv
  have h25 := S.2.2.2
  have hB : 10000 * k < 2 ^ 24 - 2 ^ 12 := by omega
  have hB2 : 10000 * k < 2 ^ 24 := by omega
  have hy : 4000 * k + 4000 < 2 ^ 24 := by omega
  have gs := sT_gst h1
  refine g_aload_n h dL_law_422 rfl ?_
  refine g_arg h S (j := 1) rfl rfl (by decide) (by omega) dL_law_423 dL_law_424 dL_law_425 dL_law_426 dL_law_427 ?_
  refine g_arg h S (j := 2) rfl rfl (by decide) (by omega) dL_law_428 dL_law_429 dL_law_430 dL_law_431 dL_law_432 ?_
  generalize hA1 : sc (5 * k + 1) = A1
  generalize hA2 : sc (5 * k + 2) = A2
  refine clL_48 h (ct_X5_counter (o := A1) (i := A2) gs) rfl dL_law_433 rfl (Nat.le_of_ble_eq_true rfl) (by decide) ?_
  have c2 : (cCounter σ A1 A2).2 = σ := by
    unfold cCounter
    repeat' (first | rfl | split)
  have hi : ∀ q, 150 ≤ q → (cCounter σ A1 A2).2.1 q = σ.1 q := fun q _ => by rw [c2]
  have E : Eqv (cCounter σ A1 A2) (fun τ => mCounter τ A1 A2) (10000 * k) (4000 * k) := Eqv_r h1 h2 h3 (eq_counter h1 A1 A2) c2
  clear c2
  generalize cCounter σ A1 A2 = c at hi E ⊢
  have hz : mrc c.2 z := ⟨by rw [hi 150 (by decide)]; exact h2.2.1, h2.1.2.2.2⟩
  have hg : mG (c.2.1 151) n m (10000 * k) (4000 * k) := by rw [hi 151 (by decide)]; exact h1.2.1
  have ht : mtx c.2 t := ⟨by rw [hi 150 (by decide)]; exact h3.2.1, h3.1.2.1⟩
  refine g_aload_n h dL_law_436 rfl ?_
  refine g_arg h S (j := 1) rfl rfl (by decide) (by omega) dL_law_437 dL_law_438 dL_law_439 dL_law_440 dL_law_441 ?_
  refine g_arg h S (j := 2) rfl rfl (by decide) (by omega) dL_law_442 dL_law_443 dL_law_444 dL_law_445 dL_law_446 ?_
  rw [hA1, hA2]
  refine clL_51 h (ct_X6_counter (v := A1) (i := A2) hg) rfl dL_law_447 rfl (Nat.le_of_ble_eq_true rfl) (by decide) ?_
  exact g_iceq h 903 dL_law_450 (by decide) (fun _ => back _ E.2) (fun hne => absurd E.1 hne)
theorem law_c9 {k : Nat} (h : Ok l x X cL_law RL 12) (S : SCx x b Ln sc) (hk : 5 * k + 5 ≤ Ln) (hKv : Kv σ (10000 * k) (4000 * k)) (back : ∀ σ1, Kv σ1 (10000 * k + 10000) (4000 * k + 4000) → G x X σ1 (LL X b k) [] 903) : G x X σ (LL X b k) [] 455 := by
  obtain ⟨n, m, f, z, t, h1, h2, h3⟩ := hKv
  have h25 := S.2.2.2
  have hB : 10000 * k < 2 ^ 24 - 2 ^ 12 := by omega
  have hB2 : 10000 * k < 2 ^ 24 := by omega
  have hy : 4000 * k + 4000 < 2 ^ 24 := by omega
  have gs := sT_gst h1
  refine g_aload_n h dL_law_455 rfl ?_
  refine g_arg h S (j := 1) rfl rfl (by decide) (by omega) dL_law_456 dL_law_457 dL_law_458 dL_law_459 dL_law_460 ?_
  refine g_arg h S (j := 2) rfl rfl (by decide) (by omega) dL_law_461 dL_law_462 dL_law_463 dL_law_464 dL_law_465 ?_
  generalize hA1 : sc (5 * k + 1) = A1
  generalize hA2 : sc (5 * k + 2) = A2
  refine clL_52 h (ct_X5_loanOf (i := A1) (w := A2) gs) rfl dL_law_466 rfl (Nat.le_of_ble_eq_true rfl) (by decide) ?_
  have c2 : (cLoanOf σ A1 A2).2 = σ := by
    unfold cLoanOf
    repeat' (first | rfl | split)
  have hi : ∀ q, 150 ≤ q → (cLoanOf σ A1 A2).2.1 q = σ.1 q := fun q _ => by rw [c2]
  have E : Eqv (cLoanOf σ A1 A2) (fun τ => mLoanOf τ A1 A2) (10000 * k) (4000 * k) := Eqv_r h1 h2 h3 (eq_loanOf h1 A1 A2) c2
  clear c2
  generalize cLoanOf σ A1 A2 = c at hi E ⊢
  have hz : mrc c.2 z := ⟨by rw [hi 150 (by decide)]; exact h2.2.1, h2.1.2.2.2⟩
  have hg : mG (c.2.1 151) n m (10000 * k) (4000 * k) := by rw [hi 151 (by decide)]; exact h1.2.1
  have ht : mtx c.2 t := ⟨by rw [hi 150 (by decide)]; exact h3.2.1, h3.1.2.1⟩
  refine g_aload_n h dL_law_469 rfl ?_
  refine g_arg h S (j := 1) rfl rfl (by decide) (by omega) dL_law_470 dL_law_471 dL_law_472 dL_law_473 dL_law_474 ?_
  refine g_arg h S (j := 2) rfl rfl (by decide) (by omega) dL_law_475 dL_law_476 dL_law_477 dL_law_478 dL_law_479 ?_
  rw [hA1, hA2]
  refine clL_55 h (ct_X6_loanOf (i := A1) (w := A2) hg.1) rfl dL_law_480 rfl (Nat.le_of_ble_eq_true rfl) (by decide) ?_
  exact g_iceq h 903 dL_law_483 (by decide) (fun _ => back _ E.2) (fun hne => absurd E.1 hne)
theorem law_c10 {k : Nat} (h : Ok l x X cL_law RL 12) (S : SCx x b Ln sc) (hk : 5 * k + 5 ≤ Ln) (hKv : Kv σ (10000 * k) (4000 * k)) (back : ∀ σ1, Kv σ1 (10000 * k + 10000) (4000 * k + 4000) → G x X σ1 (LL X b k) [] 903) : G x X σ (LL X b k) [] 488 := by
  obtain ⟨n, m, f, z, t, h1, h2, h3⟩ := hKv
  have h25 := S.2.2.2
  have hB : 10000 * k < 2 ^ 24 - 2 ^ 12 := by omega
  have hB2 : 10000 * k < 2 ^ 24 := by omega
  have hy : 4000 * k + 4000 < 2 ^ 24 := by omega
  have gs := sT_gst h1
  refine g_aload_n h dL_law_488 rfl ?_
  refine g_arg h S (j := 1) rfl rfl (by decide) (by omega) dL_law_489 dL_law_490 dL_law_491 dL_law_492 dL_law_493 ?_
  refine g_arg h S (j := 2) rfl rfl (by decide) (by omega) dL_law_494 dL_law_495 dL_law_496 dL_law_497 dL_law_498 ?_
  generalize hA1 : sc (5 * k + 1) = A1
  generalize hA2 : sc (5 * k + 2) = A2
  refine clL_56 h (ct_X5_aliases (o := A1) (a := A2) gs) rfl dL_law_499 rfl (Nat.le_of_ble_eq_true rfl) (by decide) ?_
  have c2 : (cAliases σ A1 A2).2 = σ := by
    unfold cAliases
    repeat' (first | rfl | split)
  have hi : ∀ q, 150 ≤ q → (cAliases σ A1 A2).2.1 q = σ.1 q := fun q _ => by rw [c2]
  have E : Eqv (cAliases σ A1 A2) (fun τ => mAliases τ A1 A2) (10000 * k) (4000 * k) := Eqv_r h1 h2 h3 (eq_aliases h1 A1 A2) c2
  clear c2
  generalize cAliases σ A1 A2 = c at hi E ⊢
  have hz : mrc c.2 z := ⟨by rw [hi 150 (by decide)]; exact h2.2.1, h2.1.2.2.2⟩
  have hg : mG (c.2.1 151) n m (10000 * k) (4000 * k) := by rw [hi 151 (by decide)]; exact h1.2.1
  have ht : mtx c.2 t := ⟨by rw [hi 150 (by decide)]; exact h3.2.1, h3.1.2.1⟩
  refine g_aload_n h dL_law_502 rfl ?_
  refine g_arg h S (j := 1) rfl rfl (by decide) (by omega) dL_law_503 dL_law_504 dL_law_505 dL_law_506 dL_law_507 ?_
  refine g_arg h S (j := 2) rfl rfl (by decide) (by omega) dL_law_508 dL_law_509 dL_law_510 dL_law_511 dL_law_512 ?_
  rw [hA1, hA2]
  refine clL_59 h (ct_X6_aliases (v := A1) (a := A2) hg) rfl dL_law_513 rfl (Nat.le_of_ble_eq_true rfl) (by decide) ?_
  exact g_iceq h 903 dL_law_516 (by decide) (fun _ => back _ E.2) (fun hne => absurd E.1 hne)
theorem law_c11 {k : Nat} (h : Ok l x X cL_law RL 12) (S : SCx x b Ln sc) (hk : 5 * k + 5 ≤ Ln) (hKv : Kv σ (10000 * k) (4000 * k)) (back : ∀ σ1, Kv σ1 (10000 * k + 10000) (4000 * k + 4000) → G x X σ1 (LL X b k) [] 903) : G x X σ (LL X b k) [] 521 := by
  obtain ⟨n, m, f, z, t, h1, h2, h3⟩ := hKv
  have h25 := S.2.2.2
  have hB : 10000 * k < 2 ^ 24 - 2 ^ 12 := by omega
  have hB2 : 10000 * k < 2 ^ 24 := by omega
  have hy : 4000 * k + 4000 < 2 ^ 24 := by omega
  have gs := sT_gst h1
  refine g_aload_n h dL_law_521 rfl ?_
  refine g_arg h S (j := 1) rfl rfl (by decide) (by omega) dL_law_522 dL_law_523 dL_law_524 dL_law_525 dL_law_526 ?_
  generalize hA1 : sc (5 * k + 1) = A1
  refine clL_60 h (ct_X5_share (o := A1) gs (sh_c h1 (by omega))) rfl dL_law_527 rfl (Nat.le_of_ble_eq_true rfl) (by decide) ?_
  have c2 : (cShare σ A1).2 = σ := by
    unfold cShare
    repeat' (first | rfl | split)
  have hi : ∀ q, 150 ≤ q → (cShare σ A1).2.1 q = σ.1 q := fun q _ => by rw [c2]
  have E : Eqv (cShare σ A1) (fun τ => mShare τ A1) (10000 * k) (4000 * k) := Eqv_r h1 h2 h3 (eq_share h1 A1) c2
  clear c2
  generalize cShare σ A1 = c at hi E ⊢
  have hz : mrc c.2 z := ⟨by rw [hi 150 (by decide)]; exact h2.2.1, h2.1.2.2.2⟩
  have hg : mG (c.2.1 151) n m (10000 * k) (4000 * k) := by rw [hi 151 (by decide)]; exact h1.2.1
  have ht : mtx c.2 t := ⟨by rw [hi 150 (by decide)]; exact h3.2.1, h3.1.2.1⟩
  refine g_aload_n h dL_law_530 rfl ?_
  refine g_arg h S (j := 1) rfl rfl (by decide) (by omega) dL_law_531 dL_law_532 dL_law_533 dL_law_534 dL_law_535 ?_
  rw [hA1]
  refine clL_63 h (ct_X6_share (o := A1) hg.1 (sh_m hg (by omega))) rfl dL_law_536 rfl (Nat.le_of_ble_eq_true rfl) (by decide) ?_
  exact g_iceq h 903 dL_law_539 (by decide) (fun _ => back _ E.2) (fun hne => absurd E.1 hne)
theorem law_c12 {k : Nat} (h : Ok l x X cL_law RL 12) (S : SCx x b Ln sc) (hk : 5 * k + 5 ≤ Ln) (hKv : Kv σ (10000 * k) (4000 * k)) (back : ∀ σ1, Kv σ1 (10000 * k + 10000) (4000 * k + 4000) → G x X σ1 (LL X b k) [] 903) : G x X σ (LL X b k) [] 544 := by
  obtain ⟨n, m, f, z, t, h1, h2, h3⟩ := hKv
  have h25 := S.2.2.2
  have hB : 10000 * k < 2 ^ 24 - 2 ^ 12 := by omega
  have hB2 : 10000 * k < 2 ^ 24 := by omega
  have hy : 4000 * k + 4000 < 2 ^ 24 := by omega
  have gs := sT_gst h1
  refine g_aload_n h dL_law_544 rfl ?_
  refine g_arg h S (j := 1) rfl rfl (by decide) (by omega) dL_law_545 dL_law_546 dL_law_547 dL_law_548 dL_law_549 ?_
  generalize hA1 : sc (5 * k + 1) = A1
  refine clL_64 h (ct_X5_rich (p := A1) gs) rfl dL_law_550 rfl (Nat.le_of_ble_eq_true rfl) (by decide) ?_
  have c2 : (cRich σ n A1).2 = σ := by
    unfold cRich
    repeat' (first | rfl | split)
  have hi : ∀ q, 150 ≤ q → (cRich σ n A1).2.1 q = σ.1 q := fun q _ => by rw [c2]
  have E : Eqv (cRich σ n A1) (fun τ => mRich τ n A1) (10000 * k) (4000 * k) := Eqv_r h1 h2 h3 (eq_rich h1 hB2 A1) c2
  clear c2
  generalize cRich σ n A1 = c at hi E ⊢
  have hz : mrc c.2 z := ⟨by rw [hi 150 (by decide)]; exact h2.2.1, h2.1.2.2.2⟩
  have hg : mG (c.2.1 151) n m (10000 * k) (4000 * k) := by rw [hi 151 (by decide)]; exact h1.2.1
  have ht : mtx c.2 t := ⟨by rw [hi 150 (by decide)]; exact h3.2.1, h3.1.2.1⟩
  refine g_aload_n h dL_law_553 rfl ?_
  refine g_arg h S (j := 1) rfl rfl (by decide) (by omega) dL_law_554 dL_law_555 dL_law_556 dL_law_557 dL_law_558 ?_
  rw [hA1]
  refine clL_67 h (ct_X6_rich (p := A1) hg.1) rfl dL_law_559 rfl (Nat.le_of_ble_eq_true rfl) (by decide) ?_
  exact g_iceq h 903 dL_law_562 (by decide) (fun _ => back _ E.2) (fun hne => absurd E.1 hne)
theorem law_c13 {k : Nat} (h : Ok l x X cL_law RL 12) (S : SCx x b Ln sc) (hk : 5 * k + 5 ≤ Ln) (hKv : Kv σ (10000 * k) (4000 * k)) (back : ∀ σ1, Kv σ1 (10000 * k + 10000) (4000 * k + 4000) → G x X σ1 (LL X b k) [] 903) : G x X σ (LL X b k) [] 567 := by
  obtain ⟨n, m, f, z, t, h1, h2, h3⟩ := hKv
  have h25 := S.2.2.2
  have hB : 10000 * k < 2 ^ 24 - 2 ^ 12 := by omega
  have hB2 : 10000 * k < 2 ^ 24 := by omega
  have hy : 4000 * k + 4000 < 2 ^ 24 := by omega
  have gs := sT_gst h1
  refine g_aload_n h dL_law_567 rfl ?_
  refine g_arg h S (j := 1) rfl rfl (by decide) (by omega) dL_law_568 dL_law_569 dL_law_570 dL_law_571 dL_law_572 ?_
  refine g_arg h S (j := 2) rfl rfl (by decide) (by omega) dL_law_573 dL_law_574 dL_law_575 dL_law_576 dL_law_577 ?_
  generalize hA1 : sc (5 * k + 1) = A1
  generalize hA2 : sc (5 * k + 2) = A2
  refine clL_68 h (ct_X5_says (o := A1) (a := A2) gs) rfl dL_law_578 rfl (Nat.le_of_ble_eq_true rfl) (by decide) ?_
  have hi : ∀ q, 150 ≤ q → (cSays σ n A1 A2).2.1 q = σ.1 q := fun q hq => hi_says h1 hq A1 A2
  have E : Eqv (cSays σ n A1 A2) (fun τ => mSays τ n A1 A2) (10000 * k) (4000 * k) := eq_says h1 h2 h3 hB2 A1 A2
  generalize cSays σ n A1 A2 = c at hi E ⊢
  have hz : mrc c.2 z := ⟨by rw [hi 150 (by decide)]; exact h2.2.1, h2.1.2.2.2⟩
  have hg : mG (c.2.1 151) n m (10000 * k) (4000 * k) := by rw [hi 151 (by decide)]; exact h1.2.1
  have ht : mtx c.2 t := ⟨by rw [hi 150 (by decide)]; exact h3.2.1, h3.1.2.1⟩
  refine g_aload_n h dL_law_581 rfl ?_
  refine g_arg h S (j := 1) rfl rfl (by decide) (by omega) dL_law_582 dL_law_583 dL_law_584 dL_law_585 dL_law_586 ?_
  refine g_arg h S (j := 2) rfl rfl (by decide) (by omega) dL_law_587 dL_law_588 dL_law_589 dL_law_590 dL_law_591 ?_
  rw [hA1, hA2]
  refine clL_71 h (ct_X6_says (v := A1) (a := A2) hg hB (by omega)) rfl dL_law_592 rfl (Nat.le_of_ble_eq_true rfl) (by decide) ?_
  exact g_iceq h 903 dL_law_595 (by decide) (fun _ => back _ E.2) (fun hne => absurd E.1 hne)
theorem law_c14 {k : Nat} (h : Ok l x X cL_law RL 12) (S : SCx x b Ln sc) (hk : 5 * k + 5 ≤ Ln) (hKv : Kv σ (10000 * k) (4000 * k)) (back : ∀ σ1, Kv σ1 (10000 * k + 10000) (4000 * k + 4000) → G x X σ1 (LL X b k) [] 903) : G x X σ (LL X b k) [] 600 := by
  obtain ⟨n, m, f, z, t, h1, h2, h3⟩ := hKv
  have h25 := S.2.2.2
  have hB : 10000 * k < 2 ^ 24 - 2 ^ 12 := by omega
  have hB2 : 10000 * k < 2 ^ 24 := by omega
  have hy : 4000 * k + 4000 < 2 ^ 24 := by omega
  have gs := sT_gst h1
  refine g_aload_n h dL_law_600 rfl ?_
  refine g_arg h S (j := 1) rfl rfl (by decide) (by omega) dL_law_601 dL_law_602 dL_law_603 dL_law_604 dL_law_605 ?_
  refine g_arg h S (j := 2) rfl rfl (by decide) (by omega) dL_law_606 dL_law_607 dL_law_608 dL_law_609 dL_law_610 ?_
  generalize hA1 : sc (5 * k + 1) = A1
  generalize hA2 : sc (5 * k + 2) = A2
  refine clL_72 h (ct_X5_stake (o := A1) (a := A2) gs) rfl dL_law_611 rfl (Nat.le_of_ble_eq_true rfl) (by decide) ?_
  have hi : ∀ q, 150 ≤ q → (cStake σ n A1 A2).2.1 q = σ.1 q := fun q hq => hi_stake h1 hq A1 A2
  have E : Eqv (cStake σ n A1 A2) (fun τ => mStake τ A1 A2) (10000 * k) (4000 * k) := eq_stake h1 h2 h3 hB2 A1 A2
  generalize cStake σ n A1 A2 = c at hi E ⊢
  have hz : mrc c.2 z := ⟨by rw [hi 150 (by decide)]; exact h2.2.1, h2.1.2.2.2⟩
  have hg : mG (c.2.1 151) n m (10000 * k) (4000 * k) := by rw [hi 151 (by decide)]; exact h1.2.1
  have ht : mtx c.2 t := ⟨by rw [hi 150 (by decide)]; exact h3.2.1, h3.1.2.1⟩
  refine g_aload_n h dL_law_614 rfl ?_
  refine g_arg h S (j := 1) rfl rfl (by decide) (by omega) dL_law_615 dL_law_616 dL_law_617 dL_law_618 dL_law_619 ?_
  refine g_arg h S (j := 2) rfl rfl (by decide) (by omega) dL_law_620 dL_law_621 dL_law_622 dL_law_623 dL_law_624 ?_
  rw [hA1, hA2]
  refine clL_75 h (ct_X6_stake (v := A1) (a := A2) hg hB (by omega)) rfl dL_law_625 rfl (Nat.le_of_ble_eq_true rfl) (by decide) ?_
  exact g_iceq h 903 dL_law_628 (by decide) (fun _ => back _ E.2) (fun hne => absurd E.1 hne)
theorem law_c15 {k : Nat} (h : Ok l x X cL_law RL 12) (S : SCx x b Ln sc) (hk : 5 * k + 5 ≤ Ln) (hKv : Kv σ (10000 * k) (4000 * k)) (back : ∀ σ1, Kv σ1 (10000 * k + 10000) (4000 * k + 4000) → G x X σ1 (LL X b k) [] 903) : G x X σ (LL X b k) [] 633 := by
  obtain ⟨n, m, f, z, t, h1, h2, h3⟩ := hKv
  have h25 := S.2.2.2
  have hB : 10000 * k < 2 ^ 24 - 2 ^ 12 := by omega
  have hB2 : 10000 * k < 2 ^ 24 := by omega
  have hy : 4000 * k + 4000 < 2 ^ 24 := by omega
  have gs := sT_gst h1
  obtain ⟨xa, ya, hxy, hxa⟩ := odds_x h1 hB2 (sc (5 * k + 1))
  refine g_aload_n h dL_law_633 rfl ?_
  refine g_arg h S (j := 1) rfl rfl (by decide) (by omega) dL_law_634 dL_law_635 dL_law_636 dL_law_637 dL_law_638 ?_
  generalize hA1 : sc (5 * k + 1) = A1 at hxa ⊢
  refine clL_76 h (ct_X5_odds (a := A1) (xa := xa) (ya := ya) gs hxy (fun q => ⟨(hxa q).1, (hxa q).2.1⟩)) rfl dL_law_639 rfl (Nat.le_of_ble_eq_true rfl) (by decide) ?_
  have hi : ∀ q, 150 ≤ q → (cOdds σ n A1 xa ya).2.1 q = σ.1 q := fun q hq => hi_odds h1 hq A1 xa ya
  have E : Eqv (cOdds σ n A1 xa ya) (fun τ => mOdds τ A1 xa ya) (10000 * k) (4000 * k) := eq_odds h1 h2 h3 A1 xa ya
  generalize cOdds σ n A1 xa ya = c at hi E ⊢
  have hz : mrc c.2 z := ⟨by rw [hi 150 (by decide)]; exact h2.2.1, h2.1.2.2.2⟩
  have hg : mG (c.2.1 151) n m (10000 * k) (4000 * k) := by rw [hi 151 (by decide)]; exact h1.2.1
  have ht : mtx c.2 t := ⟨by rw [hi 150 (by decide)]; exact h3.2.1, h3.1.2.1⟩
  refine g_aload_n h dL_law_642 rfl ?_
  refine g_arg h S (j := 1) rfl rfl (by decide) (by omega) dL_law_643 dL_law_644 dL_law_645 dL_law_646 dL_law_647 ?_
  rw [hA1]
  refine clL_79 h (ct_X6_odds (a := A1) (xa := xa) (ya := ya) hg hB hxy (fun q => by rw [hi 151 (by decide)]; exact (hxa q).2.2)) rfl dL_law_648 rfl (Nat.le_of_ble_eq_true rfl) (by decide) ?_
  exact g_iceq h 903 dL_law_651 (by decide) (fun _ => back _ E.2) (fun hne => absurd E.1 hne)
theorem law_c16 {k : Nat} (h : Ok l x X cL_law RL 12) (S : SCx x b Ln sc) (hk : 5 * k + 5 ≤ Ln) (hKv : Kv σ (10000 * k) (4000 * k)) (back : ∀ σ1, Kv σ1 (10000 * k + 10000) (4000 * k + 4000) → G x X σ1 (LL X b k) [] 903) : G x X σ (LL X b k) [] 656 := by
  obtain ⟨n, m, f, z, t, h1, h2, h3⟩ := hKv
  have h25 := S.2.2.2
  have hB : 10000 * k < 2 ^ 24 - 2 ^ 12 := by omega
  have hB2 : 10000 * k < 2 ^ 24 := by omega
  have hy : 4000 * k + 4000 < 2 ^ 24 := by omega
  have gs := sT_gst h1
  refine g_aload_n h dL_law_656 rfl ?_
  refine g_arg h S (j := 1) rfl rfl (by decide) (by omega) dL_law_657 dL_law_658 dL_law_659 dL_law_660 dL_law_661 ?_
  refine g_arg h S (j := 2) rfl rfl (by decide) (by omega) dL_law_662 dL_law_663 dL_law_664 dL_law_665 dL_law_666 ?_
  refine g_arg h S (j := 3) rfl rfl (by decide) (by omega) dL_law_667 dL_law_668 dL_law_669 dL_law_670 dL_law_671 ?_
  generalize hA1 : sc (5 * k + 1) = A1
  generalize hA2 : sc (5 * k + 2) = A2
  generalize hA3 : sc (5 * k + 3) = A3
  refine clL_80 h (ct_X5_gain (o := A1) (a := A2) (k := A3) gs) rfl dL_law_672 rfl (Nat.le_of_ble_eq_true rfl) (by decide) ?_
  have hi : ∀ q, 150 ≤ q → (cGain σ n m A1 A2 A3).2.1 q = σ.1 q := fun q hq => hi_gain h1 hq A1 A2 A3
  have E : Eqv (cGain σ n m A1 A2 A3) (fun τ => mGain τ n m A1 A2 A3) (10000 * k) (4000 * k) := eq_gain h1 h2 h3 hB hy A1 A2 A3
  generalize cGain σ n m A1 A2 A3 = c at hi E ⊢
  have hz : mrc c.2 z := ⟨by rw [hi 150 (by decide)]; exact h2.2.1, h2.1.2.2.2⟩
  have hg : mG (c.2.1 151) n m (10000 * k) (4000 * k) := by rw [hi 151 (by decide)]; exact h1.2.1
  have ht : mtx c.2 t := ⟨by rw [hi 150 (by decide)]; exact h3.2.1, h3.1.2.1⟩
  refine g_aload_n h dL_law_675 rfl ?_
  refine g_arg h S (j := 1) rfl rfl (by decide) (by omega) dL_law_676 dL_law_677 dL_law_678 dL_law_679 dL_law_680 ?_
  refine g_arg h S (j := 2) rfl rfl (by decide) (by omega) dL_law_681 dL_law_682 dL_law_683 dL_law_684 dL_law_685 ?_
  refine g_arg h S (j := 3) rfl rfl (by decide) (by omega) dL_law_686 dL_law_687 dL_law_688 dL_law_689 dL_law_690 ?_
  rw [hA1, hA2, hA3]
  refine clL_83 h (ct_X6_gain (v := A1) (a := A2) (k := A3) hg hB (by omega)) rfl dL_law_691 rfl (Nat.le_of_ble_eq_true rfl) (by decide) ?_
  exact g_iceq h 903 dL_law_694 (by decide) (fun _ => back _ E.2) (fun hne => absurd E.1 hne)
theorem law_c17 {k : Nat} (h : Ok l x X cL_law RL 12) (S : SCx x b Ln sc) (hk : 5 * k + 5 ≤ Ln) (hKv : Kv σ (10000 * k) (4000 * k)) (back : ∀ σ1, Kv σ1 (10000 * k + 10000) (4000 * k + 4000) → G x X σ1 (LL X b k) [] 903) : G x X σ (LL X b k) [] 699 := by
  obtain ⟨n, m, f, z, t, h1, h2, h3⟩ := hKv
  have h25 := S.2.2.2
  have hB : 10000 * k < 2 ^ 24 - 2 ^ 12 := by omega
  have hB2 : 10000 * k < 2 ^ 24 := by omega
  have hy : 4000 * k + 4000 < 2 ^ 24 := by omega
  have gs := sT_gst h1
  refine g_aload_n h dL_law_699 rfl ?_
  refine g_arg h S (j := 1) rfl rfl (by decide) (by omega) dL_law_700 dL_law_701 dL_law_702 dL_law_703 dL_law_704 ?_
  refine g_arg h S (j := 2) rfl rfl (by decide) (by omega) dL_law_705 dL_law_706 dL_law_707 dL_law_708 dL_law_709 ?_
  refine g_arg h S (j := 3) rfl rfl (by decide) (by omega) dL_law_710 dL_law_711 dL_law_712 dL_law_713 dL_law_714 ?_
  generalize hA1 : sc (5 * k + 1) = A1
  generalize hA2 : sc (5 * k + 2) = A2
  generalize hA3 : sc (5 * k + 3) = A3
  refine clL_84 h (ct_X5_doom (o := A1) (a := A2) (k := A3) gs) rfl dL_law_715 rfl (Nat.le_of_ble_eq_true rfl) (by decide) ?_
  have hi : ∀ q, 150 ≤ q → (cDoom σ n m A1 A2 A3).2.1 q = σ.1 q := fun q hq => hi_doom h1 hq A1 A2 A3
  have E : Eqv (cDoom σ n m A1 A2 A3) (fun τ => mDoom τ n m A1 A2 A3) (10000 * k) (4000 * k) := eq_doom h1 h2 h3 hB hy A1 A2 A3
  generalize cDoom σ n m A1 A2 A3 = c at hi E ⊢
  have hz : mrc c.2 z := ⟨by rw [hi 150 (by decide)]; exact h2.2.1, h2.1.2.2.2⟩
  have hg : mG (c.2.1 151) n m (10000 * k) (4000 * k) := by rw [hi 151 (by decide)]; exact h1.2.1
  have ht : mtx c.2 t := ⟨by rw [hi 150 (by decide)]; exact h3.2.1, h3.1.2.1⟩
  refine g_aload_n h dL_law_718 rfl ?_
  refine g_arg h S (j := 1) rfl rfl (by decide) (by omega) dL_law_719 dL_law_720 dL_law_721 dL_law_722 dL_law_723 ?_
  refine g_arg h S (j := 2) rfl rfl (by decide) (by omega) dL_law_724 dL_law_725 dL_law_726 dL_law_727 dL_law_728 ?_
  refine g_arg h S (j := 3) rfl rfl (by decide) (by omega) dL_law_729 dL_law_730 dL_law_731 dL_law_732 dL_law_733 ?_
  rw [hA1, hA2, hA3]
  refine clL_87 h (ct_X6_doom (v := A1) (a := A2) (k := A3) hg hB (by omega)) rfl dL_law_734 rfl (Nat.le_of_ble_eq_true rfl) (by decide) ?_
  exact g_iceq h 903 dL_law_737 (by decide) (fun _ => back _ E.2) (fun hne => absurd E.1 hne)
theorem law_c18 {k : Nat} (h : Ok l x X cL_law RL 12) (S : SCx x b Ln sc) (hk : 5 * k + 5 ≤ Ln) (hKv : Kv σ (10000 * k) (4000 * k)) (back : ∀ σ1, Kv σ1 (10000 * k + 10000) (4000 * k + 4000) → G x X σ1 (LL X b k) [] 903) : G x X σ (LL X b k) [] 742 := by
  obtain ⟨n, m, f, z, t, h1, h2, h3⟩ := hKv
  have h25 := S.2.2.2
  have hB : 10000 * k < 2 ^ 24 - 2 ^ 12 := by omega
  have hB2 : 10000 * k < 2 ^ 24 := by omega
  have hy : 4000 * k + 4000 < 2 ^ 24 := by omega
  have gs := sT_gst h1
  refine g_aload_n h dL_law_742 rfl ?_
  refine g_arg h S (j := 1) rfl rfl (by decide) (by omega) dL_law_743 dL_law_744 dL_law_745 dL_law_746 dL_law_747 ?_
  refine g_arg h S (j := 2) rfl rfl (by decide) (by omega) dL_law_748 dL_law_749 dL_law_750 dL_law_751 dL_law_752 ?_
  refine g_arg h S (j := 3) rfl rfl (by decide) (by omega) dL_law_753 dL_law_754 dL_law_755 dL_law_756 dL_law_757 ?_
  refine g_arg h S (j := 4) rfl rfl (by decide) (by omega) dL_law_758 dL_law_759 dL_law_760 dL_law_761 dL_law_762 ?_
  generalize hA1 : sc (5 * k + 1) = A1
  generalize hA2 : sc (5 * k + 2) = A2
  generalize hA3 : sc (5 * k + 3) = A3
  generalize hA4 : sc (5 * k + 4) = A4
  refine clL_88 h (ct_X5_bestRow (o := A1) (a := A2) (t := A3) (w := A4) gs) rfl dL_law_763 rfl (Nat.le_of_ble_eq_true rfl) (by decide) ?_
  have hi : ∀ q, 150 ≤ q → (cBest σ n m A1 A2 A3 A4).2.1 q = σ.1 q := fun q hq => hi_best h1 hq A1 A2 A3 A4
  have E : Eqv (cBest σ n m A1 A2 A3 A4) (fun τ => mBest τ n m A1 A2 A3 A4) (10000 * k) (4000 * k) := eq_best h1 h2 h3 hB hy A1 A2 A3 A4
  generalize cBest σ n m A1 A2 A3 A4 = c at hi E ⊢
  have hz : mrc c.2 z := ⟨by rw [hi 150 (by decide)]; exact h2.2.1, h2.1.2.2.2⟩
  have hg : mG (c.2.1 151) n m (10000 * k) (4000 * k) := by rw [hi 151 (by decide)]; exact h1.2.1
  have ht : mtx c.2 t := ⟨by rw [hi 150 (by decide)]; exact h3.2.1, h3.1.2.1⟩
  refine g_aload_n h dL_law_766 rfl ?_
  refine g_arg h S (j := 1) rfl rfl (by decide) (by omega) dL_law_767 dL_law_768 dL_law_769 dL_law_770 dL_law_771 ?_
  refine g_arg h S (j := 2) rfl rfl (by decide) (by omega) dL_law_772 dL_law_773 dL_law_774 dL_law_775 dL_law_776 ?_
  refine g_arg h S (j := 3) rfl rfl (by decide) (by omega) dL_law_777 dL_law_778 dL_law_779 dL_law_780 dL_law_781 ?_
  refine g_arg h S (j := 4) rfl rfl (by decide) (by omega) dL_law_782 dL_law_783 dL_law_784 dL_law_785 dL_law_786 ?_
  rw [hA1, hA2, hA3, hA4]
  refine clL_92 h (ct_X6_bestRow (v := A1) (a := A2) (t := A3) (w := A4) hg hB (by omega)) rfl dL_law_787 rfl (Nat.le_of_ble_eq_true rfl) (by decide) ?_
  exact g_iceq h 903 dL_law_790 (by decide) (fun _ => back _ E.2) (fun hne => absurd E.1 hne)
theorem law_c19 {k : Nat} (h : Ok l x X cL_law RL 12) (S : SCx x b Ln sc) (hk : 5 * k + 5 ≤ Ln) (hKv : Kv σ (10000 * k) (4000 * k)) (back : ∀ σ1, Kv σ1 (10000 * k + 10000) (4000 * k + 4000) → G x X σ1 (LL X b k) [] 903) : G x X σ (LL X b k) [] 795 := by
  obtain ⟨n, m, f, z, t, h1, h2, h3⟩ := hKv
  have h25 := S.2.2.2
  have hB : 10000 * k < 2 ^ 24 - 2 ^ 12 := by omega
  have hB2 : 10000 * k < 2 ^ 24 := by omega
  have hy : 4000 * k + 4000 < 2 ^ 24 := by omega
  have gs := sT_gst h1
  refine g_aload_n h dL_law_795 rfl ?_
  refine g_arg h S (j := 1) rfl rfl (by decide) (by omega) dL_law_796 dL_law_797 dL_law_798 dL_law_799 dL_law_800 ?_
  generalize hA1 : sc (5 * k + 1) = A1
  refine clL_93 h (ct_X5_count (w := A1) gs) rfl dL_law_801 rfl (Nat.le_of_ble_eq_true rfl) (by decide) ?_
  have c2 : (cCount σ n A1).2 = σ := by
    unfold cCount
    repeat' (first | rfl | split)
  have hi : ∀ q, 150 ≤ q → (cCount σ n A1).2.1 q = σ.1 q := fun q _ => by rw [c2]
  have E : Eqv (cCount σ n A1) (fun τ => mCount τ n A1) (10000 * k) (4000 * k) := Eqv_r h1 h2 h3 (eq_count h1 h2 h3 A1) c2
  clear c2
  generalize cCount σ n A1 = c at hi E ⊢
  have hz : mrc c.2 z := ⟨by rw [hi 150 (by decide)]; exact h2.2.1, h2.1.2.2.2⟩
  have hg : mG (c.2.1 151) n m (10000 * k) (4000 * k) := by rw [hi 151 (by decide)]; exact h1.2.1
  have ht : mtx c.2 t := ⟨by rw [hi 150 (by decide)]; exact h3.2.1, h3.1.2.1⟩
  refine g_aload_n h dL_law_804 rfl ?_
  refine g_arg h S (j := 1) rfl rfl (by decide) (by omega) dL_law_805 dL_law_806 dL_law_807 dL_law_808 dL_law_809 ?_
  rw [hA1]
  refine clL_96 h (ct_X6_count (w := A1) hg.1) rfl dL_law_810 rfl (Nat.le_of_ble_eq_true rfl) (by decide) ?_
  exact g_iceq h 903 dL_law_813 (by decide) (fun _ => back _ E.2) (fun hne => absurd E.1 hne)
theorem law_c20 {k : Nat} (h : Ok l x X cL_law RL 12) (S : SCx x b Ln sc) (hk : 5 * k + 5 ≤ Ln) (hKv : Kv σ (10000 * k) (4000 * k)) (back : ∀ σ1, Kv σ1 (10000 * k + 10000) (4000 * k + 4000) → G x X σ1 (LL X b k) [] 903) : G x X σ (LL X b k) [] 818 := by
  obtain ⟨n, m, f, z, t, h1, h2, h3⟩ := hKv
  have h25 := S.2.2.2
  have hB : 10000 * k < 2 ^ 24 - 2 ^ 12 := by omega
  have hB2 : 10000 * k < 2 ^ 24 := by omega
  have hy : 4000 * k + 4000 < 2 ^ 24 := by omega
  have gs := sT_gst h1
  obtain ⟨n1, m1, hu⟩ := h2.old
  refine g_aload_n h dL_law_818 rfl ?_
  refine clL_97 h (ct_X5_undo (n := n1) (m := m1) h2.1 (fun q => (hu q).1.1)) rfl dL_law_819 rfl (Nat.le_of_ble_eq_true rfl) (by decide) ?_
  have hi : ∀ q, 150 ≤ q → (cUndo σ f z n1 m1).2.1 q = σ.1 q := fun q hq => hi_undo h2 (fun q => ⟨(hu q).1.1.2.2.1, (hu q).1.1.2.2.2⟩) hq
  have E : Eqv (cUndo σ f z n1 m1) (fun τ => mUndo τ z) (10000 * k) (4000 * k) := eq_undo h1 h2 h3 hu
  generalize cUndo σ f z n1 m1 = c at hi E ⊢
  have hz : mrc c.2 z := ⟨by rw [hi 150 (by decide)]; exact h2.2.1, h2.1.2.2.2⟩
  have hg : mG (c.2.1 151) n m (10000 * k) (4000 * k) := by rw [hi 151 (by decide)]; exact h1.2.1
  have ht : mtx c.2 t := ⟨by rw [hi 150 (by decide)]; exact h3.2.1, h3.1.2.1⟩
  refine g_aload_n h dL_law_822 rfl ?_
  refine clL_101 h (ct_X6_undo hz) rfl dL_law_823 rfl (Nat.le_of_ble_eq_true rfl) (by decide) ?_
  exact g_iceq h 903 dL_law_826 (by decide) (fun _ => back _ E.2) (fun hne => absurd E.1 hne)
theorem law_c21 {k : Nat} (h : Ok l x X cL_law RL 12) (S : SCx x b Ln sc) (hk : 5 * k + 5 ≤ Ln) (hKv : Kv σ (10000 * k) (4000 * k)) (back : ∀ σ1, Kv σ1 (10000 * k + 10000) (4000 * k + 4000) → G x X σ1 (LL X b k) [] 903) : G x X σ (LL X b k) [] 831 := by
  obtain ⟨n, m, f, z, t, h1, h2, h3⟩ := hKv
  have h25 := S.2.2.2
  have hB : 10000 * k < 2 ^ 24 - 2 ^ 12 := by omega
  have hB2 : 10000 * k < 2 ^ 24 := by omega
  have hy : 4000 * k + 4000 < 2 ^ 24 := by omega
  have gs := sT_gst h1
  refine g_aload_n h dL_law_831 rfl ?_
  refine g_arg h S (j := 1) rfl rfl (by decide) (by omega) dL_law_832 dL_law_833 dL_law_834 dL_law_835 dL_law_836 ?_
  generalize hA1 : sc (5 * k + 1) = A1
  refine clL_102 h (ct_X5_type (t := t) (c := A1) h3.1.1 h3.1.2.1) rfl dL_law_837 rfl (Nat.le_of_ble_eq_true rfl) (by decide) ?_
  have hi : ∀ q, 150 ≤ q → (cType σ t A1).2.1 q = σ.1 q := fun q hq => hi_type hq A1
  have E : Eqv (cType σ t A1) (fun τ => mType τ t A1) (10000 * k) (4000 * k) := eq_type h1 h2 h3 A1
  generalize cType σ t A1 = c at hi E ⊢
  have hz : mrc c.2 z := ⟨by rw [hi 150 (by decide)]; exact h2.2.1, h2.1.2.2.2⟩
  have hg : mG (c.2.1 151) n m (10000 * k) (4000 * k) := by rw [hi 151 (by decide)]; exact h1.2.1
  have ht : mtx c.2 t := ⟨by rw [hi 150 (by decide)]; exact h3.2.1, h3.1.2.1⟩
  refine g_aload_n h dL_law_840 rfl ?_
  refine g_arg h S (j := 1) rfl rfl (by decide) (by omega) dL_law_841 dL_law_842 dL_law_843 dL_law_844 dL_law_845 ?_
  rw [hA1]
  refine clL_105 h (ct_X6_type (t := t) (c := A1) ht.1 ht.2) rfl dL_law_846 rfl (Nat.le_of_ble_eq_true rfl) (by decide) ?_
  exact g_iceq h 903 dL_law_849 (by decide) (fun _ => back _ E.2) (fun hne => absurd E.1 hne)
theorem law_c22 {k : Nat} (h : Ok l x X cL_law RL 12) (S : SCx x b Ln sc) (hk : 5 * k + 5 ≤ Ln) (hKv : Kv σ (10000 * k) (4000 * k)) (back : ∀ σ1, Kv σ1 (10000 * k + 10000) (4000 * k + 4000) → G x X σ1 (LL X b k) [] 903) : G x X σ (LL X b k) [] 854 := by
  obtain ⟨n, m, f, z, t, h1, h2, h3⟩ := hKv
  have h25 := S.2.2.2
  have hB : 10000 * k < 2 ^ 24 - 2 ^ 12 := by omega
  have hB2 : 10000 * k < 2 ^ 24 := by omega
  have hy : 4000 * k + 4000 < 2 ^ 24 := by omega
  have gs := sT_gst h1
  refine g_aload_n h dL_law_854 rfl ?_
  refine clL_106 h (ct_X5_clearText) rfl dL_law_855 rfl (Nat.le_of_ble_eq_true rfl) (by decide) ?_
  have hi : ∀ q, 150 ≤ q → (cClear σ).2.1 q = σ.1 q := fun q hq => hi_clear hq
  have E : Eqv (cClear σ) (fun τ => mClear τ) (10000 * k) (4000 * k) := eq_clear h1 h2 h3
  generalize cClear σ = c at hi E ⊢
  have hz : mrc c.2 z := ⟨by rw [hi 150 (by decide)]; exact h2.2.1, h2.1.2.2.2⟩
  have hg : mG (c.2.1 151) n m (10000 * k) (4000 * k) := by rw [hi 151 (by decide)]; exact h1.2.1
  have ht : mtx c.2 t := ⟨by rw [hi 150 (by decide)]; exact h3.2.1, h3.1.2.1⟩
  refine g_aload_n h dL_law_858 rfl ?_
  refine clL_109 h (ct_X6_clearText) rfl dL_law_859 rfl (Nat.le_of_ble_eq_true rfl) (by decide) ?_
  exact g_iceq h 903 dL_law_862 (by decide) (fun _ => back _ E.2) (fun hne => absurd E.1 hne)
theorem law_c23 {k : Nat} (h : Ok l x X cL_law RL 12) (S : SCx x b Ln sc) (hk : 5 * k + 5 ≤ Ln) (hKv : Kv σ (10000 * k) (4000 * k)) (back : ∀ σ1, Kv σ1 (10000 * k + 10000) (4000 * k + 4000) → G x X σ1 (LL X b k) [] 903) : G x X σ (LL X b k) [] 867 := by
  obtain ⟨n, m, f, z, t, h1, h2, h3⟩ := hKv
  have h25 := S.2.2.2
  have hB : 10000 * k < 2 ^ 24 - 2 ^ 12 := by omega
  have hB2 : 10000 * k < 2 ^ 24 := by omega
  have hy : 4000 * k + 4000 < 2 ^ 24 := by omega
  have gs := sT_gst h1
  refine g_aload_n h dL_law_867 rfl ?_
  refine g_arg h S (j := 1) rfl rfl (by decide) (by omega) dL_law_868 dL_law_869 dL_law_870 dL_law_871 dL_law_872 ?_
  generalize hA1 : sc (5 * k + 1) = A1
  refine clL_110 h (ct_X5_fault (t := t) (w := A1) h3.1) rfl dL_law_873 rfl (Nat.le_of_ble_eq_true rfl) (by decide) ?_
  have hi : ∀ q, 150 ≤ q → (cFault σ t A1).2.1 q = σ.1 q := fun q hq => hi_fault hq A1
  have E : Eqv (cFault σ t A1) (fun τ => mFault τ t A1) (10000 * k) (4000 * k) := eq_fault h1 h2 h3 A1
  generalize cFault σ t A1 = c at hi E ⊢
  have hz : mrc c.2 z := ⟨by rw [hi 150 (by decide)]; exact h2.2.1, h2.1.2.2.2⟩
  have hg : mG (c.2.1 151) n m (10000 * k) (4000 * k) := by rw [hi 151 (by decide)]; exact h1.2.1
  have ht : mtx c.2 t := ⟨by rw [hi 150 (by decide)]; exact h3.2.1, h3.1.2.1⟩
  refine g_aload_n h dL_law_876 rfl ?_
  refine g_arg h S (j := 1) rfl rfl (by decide) (by omega) dL_law_877 dL_law_878 dL_law_879 dL_law_880 dL_law_881 ?_
  rw [hA1]
  refine clL_113 h (ct_X6_fault (t := t) (w := A1) ht) rfl dL_law_882 rfl (Nat.le_of_ble_eq_true rfl) (by decide) ?_
  exact g_iceq h 903 dL_law_885 (by decide) (fun _ => back _ E.2) (fun hne => absurd E.1 hne)
theorem law_c24 {k : Nat} (h : Ok l x X cL_law RL 12) (S : SCx x b Ln sc) (hk : 5 * k + 5 ≤ Ln) (hKv : Kv σ (10000 * k) (4000 * k)) (back : ∀ σ1, Kv σ1 (10000 * k + 10000) (4000 * k + 4000) → G x X σ1 (LL X b k) [] 903) : G x X σ (LL X b k) [] 890 := by
  obtain ⟨n, m, f, z, t, h1, h2, h3⟩ := hKv
  have h25 := S.2.2.2
  have hB : 10000 * k < 2 ^ 24 - 2 ^ 12 := by omega
  have hB2 : 10000 * k < 2 ^ 24 := by omega
  have hy : 4000 * k + 4000 < 2 ^ 24 := by omega
  have gs := sT_gst h1
  refine g_aload_n h dL_law_890 rfl ?_
  refine clL_114 h (ct_X5_play gs h2.1 h3.1) rfl dL_law_891 rfl (Nat.le_of_ble_eq_true rfl) (by decide) ?_
  have hi : ∀ q, 150 ≤ q → (cPlay σ f z n m t).2.1 q = σ.1 q := fun q hq => hi_play h1 h3 hq
  have E : Eqv (cPlay σ f z n m t) (fun τ => mPlay τ z n m t) (10000 * k) (4000 * k) := eq_play h1 h2 h3 hB hy
  generalize cPlay σ f z n m t = c at hi E ⊢
  have hz : mrc c.2 z := ⟨by rw [hi 150 (by decide)]; exact h2.2.1, h2.1.2.2.2⟩
  have hg : mG (c.2.1 151) n m (10000 * k) (4000 * k) := by rw [hi 151 (by decide)]; exact h1.2.1
  have ht : mtx c.2 t := ⟨by rw [hi 150 (by decide)]; exact h3.2.1, h3.1.2.1⟩
  refine g_aload_n h dL_law_894 rfl ?_
  refine clL_117 h (ct_X6_play ht hz hg hB hy) rfl dL_law_895 rfl (Nat.le_of_ble_eq_true rfl) (by decide) ?_
  exact g_iceq h 903 dL_law_898 (by decide) (fun _ => back _ E.2) (fun hne => absurd E.1 hne)
theorem law_loop (h : Ok l x X cL_law RL 12) (S : SCx x b Ln sc) (hL4 : xL x = 4) (fin : ∀ σ L, G x X σ L [.int 1] 910) : ∀ (r k : Nat) (σ : fM), Ln < 5 * k + 5 * r → Kv σ (10000 * k) (4000 * k) → 5 * k ≤ 2560 → G x X σ (LL X b k) [] 18 := by
  intro r
  induction r with
  | zero =>
    intro k σ hr hKv hk5
    have h25 := S.2.2.2
    refine g_iload_n h dL_law_18 rfl ?_
    refine g_aload_n h dL_law_19 rfl ?_
    refine g_len h S dL_law_20 ?_
    refine g_iconst (v := nI 5) h dL_law_21 (by decide) ?_
    refine g_isub h dL_law_22 ?_
    refine g_icgt h 909 dL_law_23 (by decide) (fun c => ?_) (fun c => ?_)
    · exact g_iconst (v := 1) h dL_law_909 (by decide) (fin _ _)
    · exfalso
      apply c
      rw [Int32.lt_iff_toInt_lt, pk_sub_toInt (by omega) (by omega), nI_toInt (by omega)]
      omega
  | succ r ih =>
    intro k σ hr hKv hk5
    have h25 := S.2.2.2
    refine g_iload_n h dL_law_18 rfl ?_
    refine g_aload_n h dL_law_19 rfl ?_
    refine g_len h S dL_law_20 ?_
    refine g_iconst (v := nI 5) h dL_law_21 (by decide) ?_
    refine g_isub h dL_law_22 ?_
    refine g_icgt h 909 dL_law_23 (by decide) (fun c => ?_) (fun c => ?_)
    · exact g_iconst (v := 1) h dL_law_909 (by decide) (fin _ _)
    · have hk : 5 * k + 5 ≤ Ln := by
        apply Nat.not_lt.mp
        intro q
        apply c
        rw [Int32.lt_iff_toInt_lt, pk_sub_toInt (by omega) (by omega), nI_toInt (by omega)]
        omega
      have back : ∀ σ1, Kv σ1 (10000 * k + 10000) (4000 * k + 4000) → G x X σ1 (LL X b k) [] 903 := fun σ1 hK1 => by
        refine g_iinc h dL_law_903 rfl (by rw [hL4]; decide) ?_
        refine g_goto h 18 dL_law_906 (by decide) ?_
        refine g_sub (LL X b (k + 1)) ⟨rfl, rfl, rfl, congrArg (fun q => some (Value.int q)) (show nI (5 * k) + nI 5 = nI (5 * (k + 1)) by rw [nI_add, Nat.mul_succ]), trivial⟩ ?_
        refine ih (k + 1) σ1 (by omega) ?_ (by omega)
        rw [Nat.mul_succ, Nat.mul_succ]
        exact hK1
      refine g_aload_n h dL_law_26 rfl ?_
      refine g_iload_n h dL_law_27 rfl ?_
      refine g_sc h S (by omega) dL_law_28 ?_
      refine g_bipush (v := 31) h dL_law_29 (by decide) ?_
      refine g_iand h dL_law_31 ?_
      obtain ⟨j, hj, ej⟩ := pk_andE (sc (5 * k)) (m := 31) 5 (by decide)
      refine g_top (nI j) ej ?_
      by_cases h24 : j ≤ 24
      · rcases (show j = 0 ∨ j = 1 ∨ j = 2 ∨ j = 3 ∨ j = 4 ∨ j = 5 ∨ j = 6 ∨ j = 7 ∨ j = 8 ∨ j = 9 ∨ j = 10 ∨ j = 11 ∨ j = 12 ∨ j = 13 ∨ j = 14 ∨ j = 15 ∨ j = 16 ∨ j = 17 ∨ j = 18 ∨ j = 19 ∨ j = 20 ∨ j = 21 ∨ j = 22 ∨ j = 23 ∨ j = 24 by omega) with rfl | rfl | rfl | rfl | rfl | rfl | rfl | rfl | rfl | rfl | rfl | rfl | rfl | rfl | rfl | rfl | rfl | rfl | rfl | rfl | rfl | rfl | rfl | rfl | rfl
        · refine g_tsIn (off := 116) h 148 dL_law_32 (by decide) (by decide) (by decide +kernel) (by decide) ?_
          exact law_c0 h S hk hKv back
        · refine g_tsIn (off := 149) h 181 dL_law_32 (by decide) (by decide) (by decide +kernel) (by decide) ?_
          exact law_c1 h S hk hKv back
        · refine g_tsIn (off := 192) h 224 dL_law_32 (by decide) (by decide) (by decide +kernel) (by decide) ?_
          exact law_c2 h S hk hKv back
        · refine g_tsIn (off := 225) h 257 dL_law_32 (by decide) (by decide) (by decide +kernel) (by decide) ?_
          exact law_c3 h S hk hKv back
        · refine g_tsIn (off := 248) h 280 dL_law_32 (by decide) (by decide) (by decide +kernel) (by decide) ?_
          exact law_c4 h S hk hKv back
        · refine g_tsIn (off := 281) h 313 dL_law_32 (by decide) (by decide) (by decide +kernel) (by decide) ?_
          exact law_c5 h S hk hKv back
        · refine g_tsIn (off := 324) h 356 dL_law_32 (by decide) (by decide) (by decide +kernel) (by decide) ?_
          exact law_c6 h S hk hKv back
        · refine g_tsIn (off := 357) h 389 dL_law_32 (by decide) (by decide) (by decide +kernel) (by decide) ?_
          exact law_c7 h S hk hKv back
        · refine g_tsIn (off := 390) h 422 dL_law_32 (by decide) (by decide) (by decide +kernel) (by decide) ?_
          exact law_c8 h S hk hKv back
        · refine g_tsIn (off := 423) h 455 dL_law_32 (by decide) (by decide) (by decide +kernel) (by decide) ?_
          exact law_c9 h S hk hKv back
        · refine g_tsIn (off := 456) h 488 dL_law_32 (by decide) (by decide) (by decide +kernel) (by decide) ?_
          exact law_c10 h S hk hKv back
        · refine g_tsIn (off := 489) h 521 dL_law_32 (by decide) (by decide) (by decide +kernel) (by decide) ?_
          exact law_c11 h S hk hKv back
        · refine g_tsIn (off := 512) h 544 dL_law_32 (by decide) (by decide) (by decide +kernel) (by decide) ?_
          exact law_c12 h S hk hKv back
        · refine g_tsIn (off := 535) h 567 dL_law_32 (by decide) (by decide) (by decide +kernel) (by decide) ?_
          exact law_c13 h S hk hKv back
        · refine g_tsIn (off := 568) h 600 dL_law_32 (by decide) (by decide) (by decide +kernel) (by decide) ?_
          exact law_c14 h S hk hKv back
        · refine g_tsIn (off := 601) h 633 dL_law_32 (by decide) (by decide) (by decide +kernel) (by decide) ?_
          exact law_c15 h S hk hKv back
        · refine g_tsIn (off := 624) h 656 dL_law_32 (by decide) (by decide) (by decide +kernel) (by decide) ?_
          exact law_c16 h S hk hKv back
        · refine g_tsIn (off := 667) h 699 dL_law_32 (by decide) (by decide) (by decide +kernel) (by decide) ?_
          exact law_c17 h S hk hKv back
        · refine g_tsIn (off := 710) h 742 dL_law_32 (by decide) (by decide) (by decide +kernel) (by decide) ?_
          exact law_c18 h S hk hKv back
        · refine g_tsIn (off := 763) h 795 dL_law_32 (by decide) (by decide) (by decide +kernel) (by decide) ?_
          exact law_c19 h S hk hKv back
        · refine g_tsIn (off := 786) h 818 dL_law_32 (by decide) (by decide) (by decide +kernel) (by decide) ?_
          exact law_c20 h S hk hKv back
        · refine g_tsIn (off := 799) h 831 dL_law_32 (by decide) (by decide) (by decide +kernel) (by decide) ?_
          exact law_c21 h S hk hKv back
        · refine g_tsIn (off := 822) h 854 dL_law_32 (by decide) (by decide) (by decide +kernel) (by decide) ?_
          exact law_c22 h S hk hKv back
        · refine g_tsIn (off := 835) h 867 dL_law_32 (by decide) (by decide) (by decide +kernel) (by decide) ?_
          exact law_c23 h S hk hKv back
        · refine g_tsIn (off := 858) h 890 dL_law_32 (by decide) (by decide) (by decide +kernel) (by decide) ?_
          exact law_c24 h S hk hKv back
      · refine g_tsOut h 903 dL_law_32 (Or.inr (by rw [nI_toInt (by omega)]; omega)) (by decide) ?_
        exact back σ (by
          obtain ⟨n, m, f, z, t, h1, h2, h3⟩ := hKv
          exact up_all h1 h2 h3)
end LOOP
