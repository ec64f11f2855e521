/-! the law's calls, each (by program: wip/whole/spec_sj.py) -/
section
variable {E : am_E} {d pc q t : Nat} {M : Mth} {L S : List Value} {h : Hp} {Q : Option Value → Hp → Prop}
/-- a call that the small machine does not walk -/
theorem Ex_orc {op i mode n : Nat} {ts : List Nat} {C : Mth} {ins : Instr} {vs rest : List Value} {r1 : Option Value} {h1 : Hp} (hd : decode M.2.2.1 pc = .ok (ins, 3)) (hop : am_op ins = some (op, i)) (hi : am_inv M.1 op i = some (mode, n, ts, C)) (hm : 9 < mode) (h20 : 20 ≤ d) (hn : Nat.ble n S.length = true) (hvs : (S.take n).reverse = vs) (hrest : S.drop n = rest) (hcat : Nat.ble (am_cats rest) 8 = true) (hrc : am_rc mode ts vs h = true) (hO : E.1 mode vs h = some (r1, h1)) (hq : pc + 3 = q)
    (k : Ex E (d + 1) M q L (r1.toList ++ rest) h1 Q) : Ex E (d + 1) M pc L S h Q := by
  subst hq; subst hvs; subst hrest
  obtain ⟨F2, r2, h2, e2, p⟩ := k
  refine ⟨F2 + 1, r2, h2, ?_, p⟩
  have hl : am_lok ins 3 = true := by cases ins <;> first | rfl | cases hop
  simp only [am, hd, hl, hop, hi, if_true]
  rw [if_pos ⟨Nat.le_of_ble_eq_true hn, Nat.le_of_ble_eq_true hcat, hrc, fun z => absurd z (by omega), fun _ => h20⟩, if_neg (by omega), if_neg (by omega)]
  simp only [hO]
  exact e2
theorem Ex_icmp_same {x : Int32} {off : Int} (hd : decode M.2.2.1 pc = .ok (.if_icmp .eq off, 3)) (ht : am_tk pc off = some t) (k : Ex E d M t L S h Q) : Ex E d M pc L (.int x :: .int x :: S) h Q := by
  obtain ⟨h1, rfl⟩ := am_tk_ok ht
  refine Ex_step hd rfl rfl rfl (?_ : am_s E.2 M (.if_icmp .eq off) pc L _ h = some (am_tg pc off, L, S, h)) k
  show am_jp (am_c2 .eq x x) pc off L S h = _
  unfold am_jp am_c2
  simp [h1]
theorem Ex_lcmp_same {x : Int64} (hd : decode M.2.2.1 pc = .ok (.lcmp, 1)) (hq : pc + 1 = q) (k : Ex E d M q L (.int (i32 0) :: S) h Q) : Ex E d M pc L (.long x :: .long x :: S) h Q := by
  subst hq
  refine Ex_step hd rfl rfl rfl ?_ k
  simp only [am_s, am_l2]
  have e : lg_cmp x x = i32 0 := by
    unfold lg_cmp
    simp
    rfl
  rw [e]
/-- a number of the script -/
def sv (xs : List Int) (j : Int) : Int := xs.getD j.toNat 0
theorem sv_r {xs : List Int} (hx : ∀ z ∈ xs, -2147483648 ≤ z ∧ z ≤ 2147483647) (j : Int) : -2147483648 ≤ sv xs j ∧ sv xs j ≤ 2147483647 := by
  unfold sv
  by_cases hl : j.toNat < xs.length
  · rw [List.getD_eq_getElem?_getD, List.getElem?_eq_getElem hl]
    exact hx _ (List.getElem_mem hl)
  · rw [List.getD_eq_getElem?_getD, List.getElem?_eq_none (by omega)]
    show -2147483648 ≤ (0 : Int) ∧ (0 : Int) ≤ 2147483647
    omega
theorem Ex_scr {sc : Nat} {xs : List Int} {j : Int} (hd : decode M.2.2.1 pc = .ok (.iaload, 1)) (hq : pc + 1 = q) (ha : h.1 sc = some (20, ia xs)) (hj : 0 ≤ j ∧ j < (xs.length : Int) ∧ j ≤ 100000) (k : Ex E d M q L (.int (i32 (sv xs j)) :: S) h Q) : Ex E d M pc L (.int (i32 j) :: .ref sc :: S) h Q := by
  exact Ex_iald hd hq ha ⟨hj.1, by omega⟩ (ia_get (by omega)) k
end
theorem IN.x0 {h : Hp} {x : Nat} (I : IN h x) : ∃ fs, h.1 x = some (11, fs) := by
  obtain ⟨X, XI, hi, hw, ck, cf, rs, rx, P, C, R, O⟩ := I
  obtain ⟨⟨⟨bs, z0⟩, -⟩, -⟩ := C
  exact ⟨_, z0⟩
theorem GW.wide {h h1 : Hp} {x c s c2 s2 : Nat} (g : GW h h1 x c s) (h1' : c ≤ c2) (h2 : s ≤ s2) : GW h h1 x c2 s2 := ⟨by have := g.1; omega, g.2⟩
/-- what is asked of the two calls that throw and catch -/
def OrT (E : am_E) : Prop := ∀ (h : Hp) (x : Nat) (X XI : RS) (hi : Int) (hw ck cf rs : Nat → Int) (rx : Nat → List Int) (p : Int), CI h x X XI hi hw ck cf rs rx → (-2147483648 ≤ p ∧ p ≤ 2147483647) → E.2 ≤ x → ∃ h1, E.1 10 [.ref x, .int (i32 p)] h = some (some (.int (i32 (an_toss hw ck cf p))), h1) ∧ Gr h h1 0 0 200 1600
def OrE (E : am_E) : Prop := ∀ (h : Hp) (x : Nat) (X XI : RS) (hi : Int) (hw ck cf rs : Nat → Int) (rx : Nat → List Int) (p q : Int) (z : Int64), CI h x X XI hi hw ck cf rs rx → (-2147483648 ≤ p ∧ p ≤ 2147483647) → (-2147483648 ≤ q ∧ q ≤ 2147483647) → E.2 ≤ x → h.1 (x + 80) = some (21, [.long z]) → ∃ h1, E.1 11 [.ref x, .int (i32 p), .int (i32 q), .ref (x + 80)] h = some (some (.int (i32 (el_t hw rx p q))), h1) ∧ Gr h h1 (x + 80) (x + 81) 200 1600 ∧ ∃ z2 : Int64, h1.1 (x + 80) = some (21, [.long z2]) ∧ (el_t hw rx p q = 0 → z2 = i64 (el_v hw rx p q))
theorem lw_bath {E : am_E} {d x sc i : Nat} {h : Hp} {xs : List Int} {Q : Option Value → Hp → Prop} {v5 v6 v7 : Value} (hB : E.2 ≤ x) (hx : ∀ z ∈ xs, -2147483648 ≤ z ∧ z ≤ 2147483647) (hl : i + 6 ≤ xs.length) (hl2 : xs.length ≤ 100000) (ha : h.1 sc = some (20, ia xs)) (hsc : sc < x) (I : IN h x) (kont : ∀ (h2 : Hp) (w5 w6 w7 : Value), IN h2 x → GW h h2 x 400 3200 → Ex E (d + 21) mL_law 1538 [.ref sc, .ref x, .ref (x + 57), .ref (x + 80), .int (i32 (i : Int)), w5, w6, w7] [] h2 Q) : Ex E (d + 21) mL_law 208 [.ref sc, .ref x, .ref (x + 57), .ref (x + 80), .int (i32 (i : Int)), v5, v6, v7] [] h Q := by
  obtain ⟨bs, hx0⟩ := IN.x0 I
  refine Ex_aload_n dL_law_208 rfl rfl ?_
  refine Ex_aload_n dL_law_209 rfl rfl ?_
  refine Ex_iload dL_law_210 rfl rfl ?_
  refine Ex_iconst dL_law_212 rfl ?_
  refine Ex_iadd dL_law_213 rfl ?_
  refine Ex_scr dL_law_214 rfl ha (by omega) ?_
  refine Ex_inv 2 dL_law_215 rfl rfl (Or.inl rfl) rfl rfl rfl rfl hx0 rfl rfl rfl (Ex_post (pr_bath (d := d) hB I (sv_r hx _)) ?_)
  rintro r1 h1 ⟨a, rfl, gw1, ⟨fs, hm1⟩, k2⟩
  have ha1 := gw1.2 _ _ hsc ha
  refine Ex_aload_n dL_law_218 rfl rfl ?_
  refine Ex_aload_n dL_law_219 rfl rfl ?_
  refine Ex_iload dL_law_220 rfl rfl ?_
  refine Ex_iconst dL_law_222 rfl ?_
  refine Ex_iadd dL_law_223 rfl ?_
  refine Ex_scr dL_law_224 rfl ha1 (by omega) ?_
  refine Ex_inv 2 dL_law_225 rfl rfl (Or.inl rfl) rfl rfl rfl rfl hm1 rfl rfl rfl (Ex_post k2 ?_)
  rintro r2 h2 ⟨rfl, I2, gw2⟩
  refine Ex_icmp_same (t := 1538) dL_law_228 rfl ?_
  exact kont h2 _ _ _ I2 ((gw1.trans gw2).wide (by omega) (by omega))
theorem lw_child {E : am_E} {d x sc i : Nat} {h : Hp} {xs : List Int} {Q : Option Value → Hp → Prop} {v5 v6 v7 : Value} (hB : E.2 ≤ x) (hx : ∀ z ∈ xs, -2147483648 ≤ z ∧ z ≤ 2147483647) (hl : i + 6 ≤ xs.length) (hl2 : xs.length ≤ 100000) (ha : h.1 sc = some (20, ia xs)) (hsc : sc < x) (I : IN h x) (kont : ∀ (h2 : Hp) (w5 w6 w7 : Value), IN h2 x → GW h h2 x 400 3200 → Ex E (d + 21) mL_law 1538 [.ref sc, .ref x, .ref (x + 57), .ref (x + 80), .int (i32 (i : Int)), w5, w6, w7] [] h2 Q) : Ex E (d + 21) mL_law 233 [.ref sc, .ref x, .ref (x + 57), .ref (x + 80), .int (i32 (i : Int)), v5, v6, v7] [] h Q := by
  obtain ⟨bs, hx0⟩ := IN.x0 I
  refine Ex_aload_n dL_law_233 rfl rfl ?_
  refine Ex_aload_n dL_law_234 rfl rfl ?_
  refine Ex_iload dL_law_235 rfl rfl ?_
  refine Ex_iconst dL_law_237 rfl ?_
  refine Ex_iadd dL_law_238 rfl ?_
  refine Ex_scr dL_law_239 rfl ha (by omega) ?_
  refine Ex_aload_n dL_law_240 rfl rfl ?_
  refine Ex_iload dL_law_241 rfl rfl ?_
  refine Ex_iconst dL_law_243 rfl ?_
  refine Ex_iadd dL_law_244 rfl ?_
  refine Ex_scr dL_law_245 rfl ha (by omega) ?_
  refine Ex_inv 2 dL_law_246 rfl rfl (Or.inl rfl) rfl rfl rfl rfl hx0 rfl rfl rfl (Ex_post (pr_child (d := d) hB I (sv_r hx _) (sv_r hx _)) ?_)
  rintro r1 h1 ⟨a, rfl, gw1, ⟨fs, hm1⟩, k2⟩
  have ha1 := gw1.2 _ _ hsc ha
  refine Ex_aload_n dL_law_249 rfl rfl ?_
  refine Ex_aload_n dL_law_250 rfl rfl ?_
  refine Ex_iload dL_law_251 rfl rfl ?_
  refine Ex_iconst dL_law_253 rfl ?_
  refine Ex_iadd dL_law_254 rfl ?_
  refine Ex_scr dL_law_255 rfl ha1 (by omega) ?_
  refine Ex_aload_n dL_law_256 rfl rfl ?_
  refine Ex_iload dL_law_257 rfl rfl ?_
  refine Ex_iconst dL_law_259 rfl ?_
  refine Ex_iadd dL_law_260 rfl ?_
  refine Ex_scr dL_law_261 rfl ha1 (by omega) ?_
  refine Ex_inv 2 dL_law_262 rfl rfl (Or.inl rfl) rfl rfl rfl rfl hm1 rfl rfl rfl (Ex_post k2 ?_)
  rintro r2 h2 ⟨rfl, I2, gw2⟩
  refine Ex_icmp_same (t := 1538) dL_law_265 rfl ?_
  exact kont h2 _ _ _ I2 ((gw1.trans gw2).wide (by omega) (by omega))
theorem lw_comes {E : am_E} {d x sc i : Nat} {h : Hp} {xs : List Int} {Q : Option Value → Hp → Prop} {v5 v6 v7 : Value} (hB : E.2 ≤ x) (hx : ∀ z ∈ xs, -2147483648 ≤ z ∧ z ≤ 2147483647) (hl : i + 6 ≤ xs.length) (hl2 : xs.length ≤ 100000) (ha : h.1 sc = some (20, ia xs)) (hsc : sc < x) (I : IN h x) (kont : ∀ (h2 : Hp) (w5 w6 w7 : Value), IN h2 x → GW h h2 x 400 3200 → Ex E (d + 21) mL_law 1538 [.ref sc, .ref x, .ref (x + 57), .ref (x + 80), .int (i32 (i : Int)), w5, w6, w7] [] h2 Q) : Ex E (d + 21) mL_law 270 [.ref sc, .ref x, .ref (x + 57), .ref (x + 80), .int (i32 (i : Int)), v5, v6, v7] [] h Q := by
  obtain ⟨bs, hx0⟩ := IN.x0 I
  refine Ex_aload_n dL_law_270 rfl rfl ?_
  refine Ex_aload_n dL_law_271 rfl rfl ?_
  refine Ex_iload dL_law_272 rfl rfl ?_
  refine Ex_iconst dL_law_274 rfl ?_
  refine Ex_iadd dL_law_275 rfl ?_
  refine Ex_scr dL_law_276 rfl ha (by omega) ?_
  refine Ex_aload_n dL_law_277 rfl rfl ?_
  refine Ex_iload dL_law_278 rfl rfl ?_
  refine Ex_iconst dL_law_280 rfl ?_
  refine Ex_iadd dL_law_281 rfl ?_
  refine Ex_scr dL_law_282 rfl ha (by omega) ?_
  refine Ex_inv 2 dL_law_283 rfl rfl (Or.inl rfl) rfl rfl rfl rfl hx0 rfl rfl rfl (Ex_post (pr_comes (d := d) hB I (sv_r hx _) (sv_r hx _)) ?_)
  rintro r1 h1 ⟨a, rfl, gw1, ⟨fs, hm1⟩, k2⟩
  have ha1 := gw1.2 _ _ hsc ha
  refine Ex_aload_n dL_law_286 rfl rfl ?_
  refine Ex_aload_n dL_law_287 rfl rfl ?_
  refine Ex_iload dL_law_288 rfl rfl ?_
  refine Ex_iconst dL_law_290 rfl ?_
  refine Ex_iadd dL_law_291 rfl ?_
  refine Ex_scr dL_law_292 rfl ha1 (by omega) ?_
  refine Ex_aload_n dL_law_293 rfl rfl ?_
  refine Ex_iload dL_law_294 rfl rfl ?_
  refine Ex_iconst dL_law_296 rfl ?_
  refine Ex_iadd dL_law_297 rfl ?_
  refine Ex_scr dL_law_298 rfl ha1 (by omega) ?_
  refine Ex_inv 2 dL_law_299 rfl rfl (Or.inl rfl) rfl rfl rfl rfl hm1 rfl rfl rfl (Ex_post k2 ?_)
  rintro r2 h2 ⟨rfl, I2, gw2⟩
  refine Ex_icmp_same (t := 1538) dL_law_302 rfl ?_
  exact kont h2 _ _ _ I2 ((gw1.trans gw2).wide (by omega) (by omega))
theorem lw_feels {E : am_E} {d x sc i : Nat} {h : Hp} {xs : List Int} {Q : Option Value → Hp → Prop} {v5 v6 v7 : Value} (hB : E.2 ≤ x) (hx : ∀ z ∈ xs, -2147483648 ≤ z ∧ z ≤ 2147483647) (hl : i + 6 ≤ xs.length) (hl2 : xs.length ≤ 100000) (ha : h.1 sc = some (20, ia xs)) (hsc : sc < x) (I : IN h x) (kont : ∀ (h2 : Hp) (w5 w6 w7 : Value), IN h2 x → GW h h2 x 400 3200 → Ex E (d + 21) mL_law 1538 [.ref sc, .ref x, .ref (x + 57), .ref (x + 80), .int (i32 (i : Int)), w5, w6, w7] [] h2 Q) : Ex E (d + 21) mL_law 307 [.ref sc, .ref x, .ref (x + 57), .ref (x + 80), .int (i32 (i : Int)), v5, v6, v7] [] h Q := by
  obtain ⟨bs, hx0⟩ := IN.x0 I
  refine Ex_aload_n dL_law_307 rfl rfl ?_
  refine Ex_aload_n dL_law_308 rfl rfl ?_
  refine Ex_iload dL_law_309 rfl rfl ?_
  refine Ex_iconst dL_law_311 rfl ?_
  refine Ex_iadd dL_law_312 rfl ?_
  refine Ex_scr dL_law_313 rfl ha (by omega) ?_
  refine Ex_aload_n dL_law_314 rfl rfl ?_
  refine Ex_iload dL_law_315 rfl rfl ?_
  refine Ex_iconst dL_law_317 rfl ?_
  refine Ex_iadd dL_law_318 rfl ?_
  refine Ex_scr dL_law_319 rfl ha (by omega) ?_
  refine Ex_aload_n dL_law_320 rfl rfl ?_
  refine Ex_iload dL_law_321 rfl rfl ?_
  refine Ex_iconst dL_law_323 rfl ?_
  refine Ex_iadd dL_law_324 rfl ?_
  refine Ex_scr dL_law_325 rfl ha (by omega) ?_
  refine Ex_inv 2 dL_law_326 rfl rfl (Or.inl rfl) rfl rfl rfl rfl hx0 rfl rfl rfl (Ex_post (pr_feels (d := d) hB I (sv_r hx _) (sv_r hx _) (sv_r hx _)) ?_)
  rintro r1 h1 ⟨a, rfl, gw1, ⟨fs, hm1⟩, k2⟩
  have ha1 := gw1.2 _ _ hsc ha
  refine Ex_aload_n dL_law_329 rfl rfl ?_
  refine Ex_aload_n dL_law_330 rfl rfl ?_
  refine Ex_iload dL_law_331 rfl rfl ?_
  refine Ex_iconst dL_law_333 rfl ?_
  refine Ex_iadd dL_law_334 rfl ?_
  refine Ex_scr dL_law_335 rfl ha1 (by omega) ?_
  refine Ex_aload_n dL_law_336 rfl rfl ?_
  refine Ex_iload dL_law_337 rfl rfl ?_
  refine Ex_iconst dL_law_339 rfl ?_
  refine Ex_iadd dL_law_340 rfl ?_
  refine Ex_scr dL_law_341 rfl ha1 (by omega) ?_
  refine Ex_aload_n dL_law_342 rfl rfl ?_
  refine Ex_iload dL_law_343 rfl rfl ?_
  refine Ex_iconst dL_law_345 rfl ?_
  refine Ex_iadd dL_law_346 rfl ?_
  refine Ex_scr dL_law_347 rfl ha1 (by omega) ?_
  refine Ex_inv 2 dL_law_348 rfl rfl (Or.inl rfl) rfl rfl rfl rfl hm1 rfl rfl rfl (Ex_post k2 ?_)
  rintro r2 h2 ⟨rfl, I2, gw2⟩
  refine Ex_icmp_same (t := 1538) dL_law_351 rfl ?_
  exact kont h2 _ _ _ I2 ((gw1.trans gw2).wide (by omega) (by omega))
theorem lw_minute {E : am_E} {d x sc i : Nat} {h : Hp} {xs : List Int} {Q : Option Value → Hp → Prop} {v5 v6 v7 : Value} (hB : E.2 ≤ x) (hx : ∀ z ∈ xs, -2147483648 ≤ z ∧ z ≤ 2147483647) (hl : i + 6 ≤ xs.length) (hl2 : xs.length ≤ 100000) (ha : h.1 sc = some (20, ia xs)) (hsc : sc < x) (I : IN h x) (kont : ∀ (h2 : Hp) (w5 w6 w7 : Value), IN h2 x → GW h h2 x 400 3200 → Ex E (d + 21) mL_law 1538 [.ref sc, .ref x, .ref (x + 57), .ref (x + 80), .int (i32 (i : Int)), w5, w6, w7] [] h2 Q) : Ex E (d + 21) mL_law 356 [.ref sc, .ref x, .ref (x + 57), .ref (x + 80), .int (i32 (i : Int)), v5, v6, v7] [] h Q := by
  obtain ⟨bs, hx0⟩ := IN.x0 I
  refine Ex_aload_n dL_law_356 rfl rfl ?_
  refine Ex_aload_n dL_law_357 rfl rfl ?_
  refine Ex_iload dL_law_358 rfl rfl ?_
  refine Ex_iconst dL_law_360 rfl ?_
  refine Ex_iadd dL_law_361 rfl ?_
  refine Ex_scr dL_law_362 rfl ha (by omega) ?_
  refine Ex_aload_n dL_law_363 rfl rfl ?_
  refine Ex_iload dL_law_364 rfl rfl ?_
  refine Ex_iconst dL_law_366 rfl ?_
  refine Ex_iadd dL_law_367 rfl ?_
  refine Ex_scr dL_law_368 rfl ha (by omega) ?_
  refine Ex_inv 2 dL_law_369 rfl rfl (Or.inl rfl) rfl rfl rfl rfl hx0 rfl rfl rfl (Ex_post (pr_minute (d := d) hB I (sv_r hx _) (sv_r hx _)) ?_)
  rintro r1 h1 ⟨a, rfl, gw1, ⟨fs, hm1⟩, k2⟩
  have ha1 := gw1.2 _ _ hsc ha
  refine Ex_aload_n dL_law_372 rfl rfl ?_
  refine Ex_aload_n dL_law_373 rfl rfl ?_
  refine Ex_iload dL_law_374 rfl rfl ?_
  refine Ex_iconst dL_law_376 rfl ?_
  refine Ex_iadd dL_law_377 rfl ?_
  refine Ex_scr dL_law_378 rfl ha1 (by omega) ?_
  refine Ex_aload_n dL_law_379 rfl rfl ?_
  refine Ex_iload dL_law_380 rfl rfl ?_
  refine Ex_iconst dL_law_382 rfl ?_
  refine Ex_iadd dL_law_383 rfl ?_
  refine Ex_scr dL_law_384 rfl ha1 (by omega) ?_
  refine Ex_inv 2 dL_law_385 rfl rfl (Or.inl rfl) rfl rfl rfl rfl hm1 rfl rfl rfl (Ex_post k2 ?_)
  rintro r2 h2 ⟨rfl, I2, gw2⟩
  refine Ex_icmp_same (t := 1538) dL_law_388 rfl ?_
  exact kont h2 _ _ _ I2 ((gw1.trans gw2).wide (by omega) (by omega))
theorem lw_change {E : am_E} {d x sc i : Nat} {h : Hp} {xs : List Int} {Q : Option Value → Hp → Prop} {v5 v6 v7 : Value} (hB : E.2 ≤ x) (hx : ∀ z ∈ xs, -2147483648 ≤ z ∧ z ≤ 2147483647) (hl : i + 6 ≤ xs.length) (hl2 : xs.length ≤ 100000) (ha : h.1 sc = some (20, ia xs)) (hsc : sc < x) (I : IN h x) (kont : ∀ (h2 : Hp) (w5 w6 w7 : Value), IN h2 x → GW h h2 x 400 3200 → Ex E (d + 21) mL_law 1538 [.ref sc, .ref x, .ref (x + 57), .ref (x + 80), .int (i32 (i : Int)), w5, w6, w7] [] h2 Q) : Ex E (d + 21) mL_law 393 [.ref sc, .ref x, .ref (x + 57), .ref (x + 80), .int (i32 (i : Int)), v5, v6, v7] [] h Q := by
  obtain ⟨bs, hx0⟩ := IN.x0 I
  refine Ex_aload_n dL_law_393 rfl rfl ?_
  refine Ex_aload_n dL_law_394 rfl rfl ?_
  refine Ex_iload dL_law_395 rfl rfl ?_
  refine Ex_iconst dL_law_397 rfl ?_
  refine Ex_iadd dL_law_398 rfl ?_
  refine Ex_scr dL_law_399 rfl ha (by omega) ?_
  refine Ex_aload_n dL_law_400 rfl rfl ?_
  refine Ex_iload dL_law_401 rfl rfl ?_
  refine Ex_iconst dL_law_403 rfl ?_
  refine Ex_iadd dL_law_404 rfl ?_
  refine Ex_scr dL_law_405 rfl ha (by omega) ?_
  refine Ex_inv 2 dL_law_406 rfl rfl (Or.inl rfl) rfl rfl rfl rfl hx0 rfl rfl rfl (Ex_post (pr_change (d := d) hB I (sv_r hx _) (sv_r hx _)) ?_)
  rintro r1 h1 ⟨a, rfl, gw1, ⟨fs, hm1⟩, k2⟩
  have ha1 := gw1.2 _ _ hsc ha
  refine Ex_aload_n dL_law_409 rfl rfl ?_
  refine Ex_aload_n dL_law_410 rfl rfl ?_
  refine Ex_iload dL_law_411 rfl rfl ?_
  refine Ex_iconst dL_law_413 rfl ?_
  refine Ex_iadd dL_law_414 rfl ?_
  refine Ex_scr dL_law_415 rfl ha1 (by omega) ?_
  refine Ex_aload_n dL_law_416 rfl rfl ?_
  refine Ex_iload dL_law_417 rfl rfl ?_
  refine Ex_iconst dL_law_419 rfl ?_
  refine Ex_iadd dL_law_420 rfl ?_
  refine Ex_scr dL_law_421 rfl ha1 (by omega) ?_
  refine Ex_inv 2 dL_law_422 rfl rfl (Or.inl rfl) rfl rfl rfl rfl hm1 rfl rfl rfl (Ex_post k2 ?_)
  rintro r2 h2 ⟨rfl, I2, gw2⟩
  refine Ex_icmp_same (t := 1538) dL_law_425 rfl ?_
  exact kont h2 _ _ _ I2 ((gw1.trans gw2).wide (by omega) (by omega))
theorem lw_rest {E : am_E} {d x sc i : Nat} {h : Hp} {xs : List Int} {Q : Option Value → Hp → Prop} {v5 v6 v7 : Value} (hB : E.2 ≤ x) (hx : ∀ z ∈ xs, -2147483648 ≤ z ∧ z ≤ 2147483647) (hl : i + 6 ≤ xs.length) (hl2 : xs.length ≤ 100000) (ha : h.1 sc = some (20, ia xs)) (hsc : sc < x) (I : IN h x) (kont : ∀ (h2 : Hp) (w5 w6 w7 : Value), IN h2 x → GW h h2 x 400 3200 → Ex E (d + 21) mL_law 1538 [.ref sc, .ref x, .ref (x + 57), .ref (x + 80), .int (i32 (i : Int)), w5, w6, w7] [] h2 Q) : Ex E (d + 21) mL_law 430 [.ref sc, .ref x, .ref (x + 57), .ref (x + 80), .int (i32 (i : Int)), v5, v6, v7] [] h Q := by
  obtain ⟨bs, hx0⟩ := IN.x0 I
  refine Ex_aload_n dL_law_430 rfl rfl ?_
  refine Ex_aload_n dL_law_431 rfl rfl ?_
  refine Ex_iload dL_law_432 rfl rfl ?_
  refine Ex_iconst dL_law_434 rfl ?_
  refine Ex_iadd dL_law_435 rfl ?_
  refine Ex_scr dL_law_436 rfl ha (by omega) ?_
  refine Ex_inv 2 dL_law_437 rfl rfl (Or.inl rfl) rfl rfl rfl rfl hx0 rfl rfl rfl (Ex_post (pr_rest (d := d) hB I (sv_r hx _)) ?_)
  rintro r1 h1 ⟨a, rfl, gw1, ⟨fs, hm1⟩, k2⟩
  have ha1 := gw1.2 _ _ hsc ha
  refine Ex_aload_n dL_law_440 rfl rfl ?_
  refine Ex_aload_n dL_law_441 rfl rfl ?_
  refine Ex_iload dL_law_442 rfl rfl ?_
  refine Ex_iconst dL_law_444 rfl ?_
  refine Ex_iadd dL_law_445 rfl ?_
  refine Ex_scr dL_law_446 rfl ha1 (by omega) ?_
  refine Ex_inv 2 dL_law_447 rfl rfl (Or.inl rfl) rfl rfl rfl rfl hm1 rfl rfl rfl (Ex_post k2 ?_)
  rintro r2 h2 ⟨rfl, I2, gw2⟩
  refine Ex_icmp_same (t := 1538) dL_law_450 rfl ?_
  exact kont h2 _ _ _ I2 ((gw1.trans gw2).wide (by omega) (by omega))
theorem lw_ready {E : am_E} {d x sc i : Nat} {h : Hp} {xs : List Int} {Q : Option Value → Hp → Prop} {v5 v6 v7 : Value} (hB : E.2 ≤ x) (hx : ∀ z ∈ xs, -2147483648 ≤ z ∧ z ≤ 2147483647) (hl : i + 6 ≤ xs.length) (hl2 : xs.length ≤ 100000) (ha : h.1 sc = some (20, ia xs)) (hsc : sc < x) (I : IN h x) (kont : ∀ (h2 : Hp) (w5 w6 w7 : Value), IN h2 x → GW h h2 x 400 3200 → Ex E (d + 21) mL_law 1538 [.ref sc, .ref x, .ref (x + 57), .ref (x + 80), .int (i32 (i : Int)), w5, w6, w7] [] h2 Q) : Ex E (d + 21) mL_law 455 [.ref sc, .ref x, .ref (x + 57), .ref (x + 80), .int (i32 (i : Int)), v5, v6, v7] [] h Q := by
  obtain ⟨bs, hx0⟩ := IN.x0 I
  refine Ex_aload_n dL_law_455 rfl rfl ?_
  refine Ex_inv 2 dL_law_456 rfl rfl (Or.inl rfl) rfl rfl rfl rfl hx0 rfl rfl rfl (Ex_post (pr_ready (d := d) hB I ) ?_)
  rintro r1 h1 ⟨a, rfl, gw1, ⟨fs, hm1⟩, k2⟩
  have ha1 := gw1.2 _ _ hsc ha
  refine Ex_aload_n dL_law_459 rfl rfl ?_
  refine Ex_inv 2 dL_law_460 rfl rfl (Or.inl rfl) rfl rfl rfl rfl hm1 rfl rfl rfl (Ex_post k2 ?_)
  rintro r2 h2 ⟨rfl, I2, gw2⟩
  refine Ex_icmp_same (t := 1538) dL_law_463 rfl ?_
  exact kont h2 _ _ _ I2 ((gw1.trans gw2).wide (by omega) (by omega))
theorem lw_alone {E : am_E} {d x sc i : Nat} {h : Hp} {xs : List Int} {Q : Option Value → Hp → Prop} {v5 v6 v7 : Value} (hB : E.2 ≤ x) (hx : ∀ z ∈ xs, -2147483648 ≤ z ∧ z ≤ 2147483647) (hl : i + 6 ≤ xs.length) (hl2 : xs.length ≤ 100000) (ha : h.1 sc = some (20, ia xs)) (hsc : sc < x) (I : IN h x) (kont : ∀ (h2 : Hp) (w5 w6 w7 : Value), IN h2 x → GW h h2 x 400 3200 → Ex E (d + 21) mL_law 1538 [.ref sc, .ref x, .ref (x + 57), .ref (x + 80), .int (i32 (i : Int)), w5, w6, w7] [] h2 Q) : Ex E (d + 21) mL_law 468 [.ref sc, .ref x, .ref (x + 57), .ref (x + 80), .int (i32 (i : Int)), v5, v6, v7] [] h Q := by
  obtain ⟨bs, hx0⟩ := IN.x0 I
  refine Ex_aload_n dL_law_468 rfl rfl ?_
  refine Ex_aload_n dL_law_469 rfl rfl ?_
  refine Ex_iload dL_law_470 rfl rfl ?_
  refine Ex_iconst dL_law_472 rfl ?_
  refine Ex_iadd dL_law_473 rfl ?_
  refine Ex_scr dL_law_474 rfl ha (by omega) ?_
  refine Ex_aload_n dL_law_475 rfl rfl ?_
  refine Ex_iload dL_law_476 rfl rfl ?_
  refine Ex_iconst dL_law_478 rfl ?_
  refine Ex_iadd dL_law_479 rfl ?_
  refine Ex_scr dL_law_480 rfl ha (by omega) ?_
  refine Ex_inv 2 dL_law_481 rfl rfl (Or.inl rfl) rfl rfl rfl rfl hx0 rfl rfl rfl (Ex_post (pr_alone (d := d) hB I (sv_r hx _) (sv_r hx _)) ?_)
  rintro r1 h1 ⟨a, rfl, gw1, ⟨fs, hm1⟩, k2⟩
  have ha1 := gw1.2 _ _ hsc ha
  refine Ex_aload_n dL_law_484 rfl rfl ?_
  refine Ex_aload_n dL_law_485 rfl rfl ?_
  refine Ex_iload dL_law_486 rfl rfl ?_
  refine Ex_iconst dL_law_488 rfl ?_
  refine Ex_iadd dL_law_489 rfl ?_
  refine Ex_scr dL_law_490 rfl ha1 (by omega) ?_
  refine Ex_aload_n dL_law_491 rfl rfl ?_
  refine Ex_iload dL_law_492 rfl rfl ?_
  refine Ex_iconst dL_law_494 rfl ?_
  refine Ex_iadd dL_law_495 rfl ?_
  refine Ex_scr dL_law_496 rfl ha1 (by omega) ?_
  refine Ex_inv 2 dL_law_497 rfl rfl (Or.inl rfl) rfl rfl rfl rfl hm1 rfl rfl rfl (Ex_post k2 ?_)
  rintro r2 h2 ⟨rfl, I2, gw2⟩
  refine Ex_icmp_same (t := 1538) dL_law_500 rfl ?_
  exact kont h2 _ _ _ I2 ((gw1.trans gw2).wide (by omega) (by omega))
theorem lw_neverHeld {E : am_E} {d x sc i : Nat} {h : Hp} {xs : List Int} {Q : Option Value → Hp → Prop} {v5 v6 v7 : Value} (hB : E.2 ≤ x) (hx : ∀ z ∈ xs, -2147483648 ≤ z ∧ z ≤ 2147483647) (hl : i + 6 ≤ xs.length) (hl2 : xs.length ≤ 100000) (ha : h.1 sc = some (20, ia xs)) (hsc : sc < x) (I : IN h x) (kont : ∀ (h2 : Hp) (w5 w6 w7 : Value), IN h2 x → GW h h2 x 400 3200 → Ex E (d + 21) mL_law 1538 [.ref sc, .ref x, .ref (x + 57), .ref (x + 80), .int (i32 (i : Int)), w5, w6, w7] [] h2 Q) : Ex E (d + 21) mL_law 505 [.ref sc, .ref x, .ref (x + 57), .ref (x + 80), .int (i32 (i : Int)), v5, v6, v7] [] h Q := by
  obtain ⟨bs, hx0⟩ := IN.x0 I
  refine Ex_aload_n dL_law_505 rfl rfl ?_
  refine Ex_aload_n dL_law_506 rfl rfl ?_
  refine Ex_iload dL_law_507 rfl rfl ?_
  refine Ex_iconst dL_law_509 rfl ?_
  refine Ex_iadd dL_law_510 rfl ?_
  refine Ex_scr dL_law_511 rfl ha (by omega) ?_
  refine Ex_inv 2 dL_law_512 rfl rfl (Or.inl rfl) rfl rfl rfl rfl hx0 rfl rfl rfl (Ex_post (pr_neverHeld (d := d) hB I (sv_r hx _)) ?_)
  rintro r1 h1 ⟨a, rfl, gw1, ⟨fs, hm1⟩, k2⟩
  have ha1 := gw1.2 _ _ hsc ha
  refine Ex_aload_n dL_law_515 rfl rfl ?_
  refine Ex_aload_n dL_law_516 rfl rfl ?_
  refine Ex_iload dL_law_517 rfl rfl ?_
  refine Ex_iconst dL_law_519 rfl ?_
  refine Ex_iadd dL_law_520 rfl ?_
  refine Ex_scr dL_law_521 rfl ha1 (by omega) ?_
  refine Ex_inv 2 dL_law_522 rfl rfl (Or.inl rfl) rfl rfl rfl rfl hm1 rfl rfl rfl (Ex_post k2 ?_)
  rintro r2 h2 ⟨rfl, I2, gw2⟩
  refine Ex_icmp_same (t := 1538) dL_law_525 rfl ?_
  exact kont h2 _ _ _ I2 ((gw1.trans gw2).wide (by omega) (by omega))
theorem lw_mostSteps {E : am_E} {d x sc i : Nat} {h : Hp} {xs : List Int} {Q : Option Value → Hp → Prop} {v5 v6 v7 : Value} (hB : E.2 ≤ x) (hx : ∀ z ∈ xs, -2147483648 ≤ z ∧ z ≤ 2147483647) (hl : i + 6 ≤ xs.length) (hl2 : xs.length ≤ 100000) (ha : h.1 sc = some (20, ia xs)) (hsc : sc < x) (I : IN h x) (kont : ∀ (h2 : Hp) (w5 w6 w7 : Value), IN h2 x → GW h h2 x 400 3200 → Ex E (d + 21) mL_law 1538 [.ref sc, .ref x, .ref (x + 57), .ref (x + 80), .int (i32 (i : Int)), w5, w6, w7] [] h2 Q) : Ex E (d + 21) mL_law 530 [.ref sc, .ref x, .ref (x + 57), .ref (x + 80), .int (i32 (i : Int)), v5, v6, v7] [] h Q := by
  obtain ⟨bs, hx0⟩ := IN.x0 I
  refine Ex_aload_n dL_law_530 rfl rfl ?_
  refine Ex_aload_n dL_law_531 rfl rfl ?_
  refine Ex_iload dL_law_532 rfl rfl ?_
  refine Ex_iconst dL_law_534 rfl ?_
  refine Ex_iadd dL_law_535 rfl ?_
  refine Ex_scr dL_law_536 rfl ha (by omega) ?_
  refine Ex_aload_n dL_law_537 rfl rfl ?_
  refine Ex_iload dL_law_538 rfl rfl ?_
  refine Ex_iconst dL_law_540 rfl ?_
  refine Ex_iadd dL_law_541 rfl ?_
  refine Ex_scr dL_law_542 rfl ha (by omega) ?_
  refine Ex_inv 2 dL_law_543 rfl rfl (Or.inl rfl) rfl rfl rfl rfl hx0 rfl rfl rfl (Ex_post (pr_mostSteps (d := d) hB I (sv_r hx _) (sv_r hx _)) ?_)
  rintro r1 h1 ⟨a, rfl, gw1, ⟨fs, hm1⟩, k2⟩
  have ha1 := gw1.2 _ _ hsc ha
  refine Ex_aload_n dL_law_546 rfl rfl ?_
  refine Ex_aload_n dL_law_547 rfl rfl ?_
  refine Ex_iload dL_law_548 rfl rfl ?_
  refine Ex_iconst dL_law_550 rfl ?_
  refine Ex_iadd dL_law_551 rfl ?_
  refine Ex_scr dL_law_552 rfl ha1 (by omega) ?_
  refine Ex_aload_n dL_law_553 rfl rfl ?_
  refine Ex_iload dL_law_554 rfl rfl ?_
  refine Ex_iconst dL_law_556 rfl ?_
  refine Ex_iadd dL_law_557 rfl ?_
  refine Ex_scr dL_law_558 rfl ha1 (by omega) ?_
  refine Ex_inv 2 dL_law_559 rfl rfl (Or.inl rfl) rfl rfl rfl rfl hm1 rfl rfl rfl (Ex_post k2 ?_)
  rintro r2 h2 ⟨rfl, I2, gw2⟩
  refine Ex_icmp_same (t := 1538) dL_law_562 rfl ?_
  exact kont h2 _ _ _ I2 ((gw1.trans gw2).wide (by omega) (by omega))
theorem lw_byTurns {E : am_E} {d x sc i : Nat} {h : Hp} {xs : List Int} {Q : Option Value → Hp → Prop} {v5 v6 v7 : Value} (hB : E.2 ≤ x) (hx : ∀ z ∈ xs, -2147483648 ≤ z ∧ z ≤ 2147483647) (hl : i + 6 ≤ xs.length) (hl2 : xs.length ≤ 100000) (ha : h.1 sc = some (20, ia xs)) (hsc : sc < x) (I : IN h x) (kont : ∀ (h2 : Hp) (w5 w6 w7 : Value), IN h2 x → GW h h2 x 400 3200 → Ex E (d + 21) mL_law 1538 [.ref sc, .ref x, .ref (x + 57), .ref (x + 80), .int (i32 (i : Int)), w5, w6, w7] [] h2 Q) : Ex E (d + 21) mL_law 567 [.ref sc, .ref x, .ref (x + 57), .ref (x + 80), .int (i32 (i : Int)), v5, v6, v7] [] h Q := by
  obtain ⟨bs, hx0⟩ := IN.x0 I
  refine Ex_aload_n dL_law_567 rfl rfl ?_
  refine Ex_aload_n dL_law_568 rfl rfl ?_
  refine Ex_iload dL_law_569 rfl rfl ?_
  refine Ex_iconst dL_law_571 rfl ?_
  refine Ex_iadd dL_law_572 rfl ?_
  refine Ex_scr dL_law_573 rfl ha (by omega) ?_
  refine Ex_aload_n dL_law_574 rfl rfl ?_
  refine Ex_iload dL_law_575 rfl rfl ?_
  refine Ex_iconst dL_law_577 rfl ?_
  refine Ex_iadd dL_law_578 rfl ?_
  refine Ex_scr dL_law_579 rfl ha (by omega) ?_
  refine Ex_inv 2 dL_law_580 rfl rfl (Or.inl rfl) rfl rfl rfl rfl hx0 rfl rfl rfl (Ex_post (pr_byTurns (d := d) hB I (sv_r hx _) (sv_r hx _)) ?_)
  rintro r1 h1 ⟨a, rfl, gw1, ⟨fs, hm1⟩, k2⟩
  have ha1 := gw1.2 _ _ hsc ha
  refine Ex_aload_n dL_law_583 rfl rfl ?_
  refine Ex_aload_n dL_law_584 rfl rfl ?_
  refine Ex_iload dL_law_585 rfl rfl ?_
  refine Ex_iconst dL_law_587 rfl ?_
  refine Ex_iadd dL_law_588 rfl ?_
  refine Ex_scr dL_law_589 rfl ha1 (by omega) ?_
  refine Ex_aload_n dL_law_590 rfl rfl ?_
  refine Ex_iload dL_law_591 rfl rfl ?_
  refine Ex_iconst dL_law_593 rfl ?_
  refine Ex_iadd dL_law_594 rfl ?_
  refine Ex_scr dL_law_595 rfl ha1 (by omega) ?_
  refine Ex_inv 2 dL_law_596 rfl rfl (Or.inl rfl) rfl rfl rfl rfl hm1 rfl rfl rfl (Ex_post k2 ?_)
  rintro r2 h2 ⟨rfl, I2, gw2⟩
  refine Ex_icmp_same (t := 1538) dL_law_599 rfl ?_
  exact kont h2 _ _ _ I2 ((gw1.trans gw2).wide (by omega) (by omega))
theorem lw_allSwim {E : am_E} {d x sc i : Nat} {h : Hp} {xs : List Int} {Q : Option Value → Hp → Prop} {v5 v6 v7 : Value} (hB : E.2 ≤ x) (hx : ∀ z ∈ xs, -2147483648 ≤ z ∧ z ≤ 2147483647) (hl : i + 6 ≤ xs.length) (hl2 : xs.length ≤ 100000) (ha : h.1 sc = some (20, ia xs)) (hsc : sc < x) (I : IN h x) (kont : ∀ (h2 : Hp) (w5 w6 w7 : Value), IN h2 x → GW h h2 x 400 3200 → Ex E (d + 21) mL_law 1538 [.ref sc, .ref x, .ref (x + 57), .ref (x + 80), .int (i32 (i : Int)), w5, w6, w7] [] h2 Q) : Ex E (d + 21) mL_law 604 [.ref sc, .ref x, .ref (x + 57), .ref (x + 80), .int (i32 (i : Int)), v5, v6, v7] [] h Q := by
  obtain ⟨bs, hx0⟩ := IN.x0 I
  refine Ex_aload_n dL_law_604 rfl rfl ?_
  refine Ex_inv 2 dL_law_605 rfl rfl (Or.inl rfl) rfl rfl rfl rfl hx0 rfl rfl rfl (Ex_post (pr_allSwim (d := d) hB I ) ?_)
  rintro r1 h1 ⟨a, rfl, gw1, ⟨fs, hm1⟩, k2⟩
  have ha1 := gw1.2 _ _ hsc ha
  refine Ex_aload_n dL_law_608 rfl rfl ?_
  refine Ex_inv 2 dL_law_609 rfl rfl (Or.inl rfl) rfl rfl rfl rfl hm1 rfl rfl rfl (Ex_post k2 ?_)
  rintro r2 h2 ⟨rfl, I2, gw2⟩
  refine Ex_icmp_same (t := 1538) dL_law_612 rfl ?_
  exact kont h2 _ _ _ I2 ((gw1.trans gw2).wide (by omega) (by omega))
theorem lw_beside {E : am_E} {d x sc i : Nat} {h : Hp} {xs : List Int} {Q : Option Value → Hp → Prop} {v5 v6 v7 : Value} (hB : E.2 ≤ x) (hx : ∀ z ∈ xs, -2147483648 ≤ z ∧ z ≤ 2147483647) (hl : i + 6 ≤ xs.length) (hl2 : xs.length ≤ 100000) (ha : h.1 sc = some (20, ia xs)) (hsc : sc < x) (I : IN h x) (kont : ∀ (h2 : Hp) (w5 w6 w7 : Value), IN h2 x → GW h h2 x 400 3200 → Ex E (d + 21) mL_law 1538 [.ref sc, .ref x, .ref (x + 57), .ref (x + 80), .int (i32 (i : Int)), w5, w6, w7] [] h2 Q) : Ex E (d + 21) mL_law 617 [.ref sc, .ref x, .ref (x + 57), .ref (x + 80), .int (i32 (i : Int)), v5, v6, v7] [] h Q := by
  obtain ⟨bs, hx0⟩ := IN.x0 I
  refine Ex_aload_n dL_law_617 rfl rfl ?_
  refine Ex_aload_n dL_law_618 rfl rfl ?_
  refine Ex_iload dL_law_619 rfl rfl ?_
  refine Ex_iconst dL_law_621 rfl ?_
  refine Ex_iadd dL_law_622 rfl ?_
  refine Ex_scr dL_law_623 rfl ha (by omega) ?_
  refine Ex_inv 2 dL_law_624 rfl rfl (Or.inl rfl) rfl rfl rfl rfl hx0 rfl rfl rfl (Ex_post (pr_beside (d := d) hB I (sv_r hx _)) ?_)
  rintro r1 h1 ⟨a, rfl, gw1, ⟨fs, hm1⟩, k2⟩
  have ha1 := gw1.2 _ _ hsc ha
  refine Ex_aload_n dL_law_627 rfl rfl ?_
  refine Ex_aload_n dL_law_628 rfl rfl ?_
  refine Ex_iload dL_law_629 rfl rfl ?_
  refine Ex_iconst dL_law_631 rfl ?_
  refine Ex_iadd dL_law_632 rfl ?_
  refine Ex_scr dL_law_633 rfl ha1 (by omega) ?_
  refine Ex_inv 2 dL_law_634 rfl rfl (Or.inl rfl) rfl rfl rfl rfl hm1 rfl rfl rfl (Ex_post k2 ?_)
  rintro r2 h2 ⟨rfl, I2, gw2⟩
  refine Ex_icmp_same (t := 1538) dL_law_637 rfl ?_
  exact kont h2 _ _ _ I2 ((gw1.trans gw2).wide (by omega) (by omega))
theorem lw_helps {E : am_E} {d x sc i : Nat} {h : Hp} {xs : List Int} {Q : Option Value → Hp → Prop} {v5 v6 v7 : Value} (hB : E.2 ≤ x) (hx : ∀ z ∈ xs, -2147483648 ≤ z ∧ z ≤ 2147483647) (hl : i + 6 ≤ xs.length) (hl2 : xs.length ≤ 100000) (ha : h.1 sc = some (20, ia xs)) (hsc : sc < x) (I : IN h x) (kont : ∀ (h2 : Hp) (w5 w6 w7 : Value), IN h2 x → GW h h2 x 400 3200 → Ex E (d + 21) mL_law 1538 [.ref sc, .ref x, .ref (x + 57), .ref (x + 80), .int (i32 (i : Int)), w5, w6, w7] [] h2 Q) : Ex E (d + 21) mL_law 642 [.ref sc, .ref x, .ref (x + 57), .ref (x + 80), .int (i32 (i : Int)), v5, v6, v7] [] h Q := by
  obtain ⟨bs, hx0⟩ := IN.x0 I
  refine Ex_aload_n dL_law_642 rfl rfl ?_
  refine Ex_inv 2 dL_law_643 rfl rfl (Or.inl rfl) rfl rfl rfl rfl hx0 rfl rfl rfl (Ex_post (pr_helps (d := d) hB I ) ?_)
  rintro r1 h1 ⟨a, rfl, gw1, ⟨fs, hm1⟩, k2⟩
  have ha1 := gw1.2 _ _ hsc ha
  refine Ex_aload_n dL_law_646 rfl rfl ?_
  refine Ex_inv 2 dL_law_647 rfl rfl (Or.inl rfl) rfl rfl rfl rfl hm1 rfl rfl rfl (Ex_post k2 ?_)
  rintro r2 h2 ⟨rfl, I2, gw2⟩
  refine Ex_icmp_same (t := 1538) dL_law_650 rfl ?_
  exact kont h2 _ _ _ I2 ((gw1.trans gw2).wide (by omega) (by omega))
theorem lw_costs {E : am_E} {d x sc i : Nat} {h : Hp} {xs : List Int} {Q : Option Value → Hp → Prop} {v5 v6 v7 : Value} (hB : E.2 ≤ x) (hx : ∀ z ∈ xs, -2147483648 ≤ z ∧ z ≤ 2147483647) (hl : i + 6 ≤ xs.length) (hl2 : xs.length ≤ 100000) (ha : h.1 sc = some (20, ia xs)) (hsc : sc < x) (I : IN h x) (kont : ∀ (h2 : Hp) (w5 w6 w7 : Value), IN h2 x → GW h h2 x 400 3200 → Ex E (d + 21) mL_law 1538 [.ref sc, .ref x, .ref (x + 57), .ref (x + 80), .int (i32 (i : Int)), w5, w6, w7] [] h2 Q) : Ex E (d + 21) mL_law 655 [.ref sc, .ref x, .ref (x + 57), .ref (x + 80), .int (i32 (i : Int)), v5, v6, v7] [] h Q := by
  obtain ⟨bs, hx0⟩ := IN.x0 I
  refine Ex_aload_n dL_law_655 rfl rfl ?_
  refine Ex_aload_n dL_law_656 rfl rfl ?_
  refine Ex_iload dL_law_657 rfl rfl ?_
  refine Ex_iconst dL_law_659 rfl ?_
  refine Ex_iadd dL_law_660 rfl ?_
  refine Ex_scr dL_law_661 rfl ha (by omega) ?_
  refine Ex_inv 2 dL_law_662 rfl rfl (Or.inl rfl) rfl rfl rfl rfl hx0 rfl rfl rfl (Ex_post (pr_costs (d := d) hB I (sv_r hx _)) ?_)
  rintro r1 h1 ⟨a, rfl, gw1, ⟨fs, hm1⟩, k2⟩
  have ha1 := gw1.2 _ _ hsc ha
  refine Ex_aload_n dL_law_665 rfl rfl ?_
  refine Ex_aload_n dL_law_666 rfl rfl ?_
  refine Ex_iload dL_law_667 rfl rfl ?_
  refine Ex_iconst dL_law_669 rfl ?_
  refine Ex_iadd dL_law_670 rfl ?_
  refine Ex_scr dL_law_671 rfl ha1 (by omega) ?_
  refine Ex_inv 2 dL_law_672 rfl rfl (Or.inl rfl) rfl rfl rfl rfl hm1 rfl rfl rfl (Ex_post k2 ?_)
  rintro r2 h2 ⟨rfl, I2, gw2⟩
  refine Ex_icmp_same (t := 1538) dL_law_675 rfl ?_
  exact kont h2 _ _ _ I2 ((gw1.trans gw2).wide (by omega) (by omega))
theorem lw_bands {E : am_E} {d x sc i : Nat} {h : Hp} {xs : List Int} {Q : Option Value → Hp → Prop} {v5 v6 v7 : Value} (hB : E.2 ≤ x) (hx : ∀ z ∈ xs, -2147483648 ≤ z ∧ z ≤ 2147483647) (hl : i + 6 ≤ xs.length) (hl2 : xs.length ≤ 100000) (ha : h.1 sc = some (20, ia xs)) (hsc : sc < x) (I : IN h x) (kont : ∀ (h2 : Hp) (w5 w6 w7 : Value), IN h2 x → GW h h2 x 400 3200 → Ex E (d + 21) mL_law 1538 [.ref sc, .ref x, .ref (x + 57), .ref (x + 80), .int (i32 (i : Int)), w5, w6, w7] [] h2 Q) : Ex E (d + 21) mL_law 680 [.ref sc, .ref x, .ref (x + 57), .ref (x + 80), .int (i32 (i : Int)), v5, v6, v7] [] h Q := by
  obtain ⟨bs, hx0⟩ := IN.x0 I
  refine Ex_aload_n dL_law_680 rfl rfl ?_
  refine Ex_aload_n dL_law_681 rfl rfl ?_
  refine Ex_iload dL_law_682 rfl rfl ?_
  refine Ex_iconst dL_law_684 rfl ?_
  refine Ex_iadd dL_law_685 rfl ?_
  refine Ex_scr dL_law_686 rfl ha (by omega) ?_
  refine Ex_aload_n dL_law_687 rfl rfl ?_
  refine Ex_iload dL_law_688 rfl rfl ?_
  refine Ex_iconst dL_law_690 rfl ?_
  refine Ex_iadd dL_law_691 rfl ?_
  refine Ex_scr dL_law_692 rfl ha (by omega) ?_
  refine Ex_aload_n dL_law_693 rfl rfl ?_
  refine Ex_iload dL_law_694 rfl rfl ?_
  refine Ex_iconst dL_law_696 rfl ?_
  refine Ex_iadd dL_law_697 rfl ?_
  refine Ex_scr dL_law_698 rfl ha (by omega) ?_
  refine Ex_inv 2 dL_law_699 rfl rfl (Or.inl rfl) rfl rfl rfl rfl hx0 rfl rfl rfl (Ex_post (pr_bands (d := d) hB I (sv_r hx _) (sv_r hx _) (sv_r hx _)) ?_)
  rintro r1 h1 ⟨a, rfl, gw1, ⟨fs, hm1⟩, k2⟩
  have ha1 := gw1.2 _ _ hsc ha
  refine Ex_aload_n dL_law_702 rfl rfl ?_
  refine Ex_aload_n dL_law_703 rfl rfl ?_
  refine Ex_iload dL_law_704 rfl rfl ?_
  refine Ex_iconst dL_law_706 rfl ?_
  refine Ex_iadd dL_law_707 rfl ?_
  refine Ex_scr dL_law_708 rfl ha1 (by omega) ?_
  refine Ex_aload_n dL_law_709 rfl rfl ?_
  refine Ex_iload dL_law_710 rfl rfl ?_
  refine Ex_iconst dL_law_712 rfl ?_
  refine Ex_iadd dL_law_713 rfl ?_
  refine Ex_scr dL_law_714 rfl ha1 (by omega) ?_
  refine Ex_aload_n dL_law_715 rfl rfl ?_
  refine Ex_iload dL_law_716 rfl rfl ?_
  refine Ex_iconst dL_law_718 rfl ?_
  refine Ex_iadd dL_law_719 rfl ?_
  refine Ex_scr dL_law_720 rfl ha1 (by omega) ?_
  refine Ex_inv 2 dL_law_721 rfl rfl (Or.inl rfl) rfl rfl rfl rfl hm1 rfl rfl rfl (Ex_post k2 ?_)
  rintro r2 h2 ⟨rfl, I2, gw2⟩
  refine Ex_icmp_same (t := 1538) dL_law_724 rfl ?_
  exact kont h2 _ _ _ I2 ((gw1.trans gw2).wide (by omega) (by omega))
theorem lw_frights {E : am_E} {d x sc i : Nat} {h : Hp} {xs : List Int} {Q : Option Value → Hp → Prop} {v5 v6 v7 : Value} (hB : E.2 ≤ x) (hx : ∀ z ∈ xs, -2147483648 ≤ z ∧ z ≤ 2147483647) (hl : i + 6 ≤ xs.length) (hl2 : xs.length ≤ 100000) (ha : h.1 sc = some (20, ia xs)) (hsc : sc < x) (I : IN h x) (kont : ∀ (h2 : Hp) (w5 w6 w7 : Value), IN h2 x → GW h h2 x 400 3200 → Ex E (d + 21) mL_law 1538 [.ref sc, .ref x, .ref (x + 57), .ref (x + 80), .int (i32 (i : Int)), w5, w6, w7] [] h2 Q) : Ex E (d + 21) mL_law 729 [.ref sc, .ref x, .ref (x + 57), .ref (x + 80), .int (i32 (i : Int)), v5, v6, v7] [] h Q := by
  obtain ⟨bs, hx0⟩ := IN.x0 I
  refine Ex_aload_n dL_law_729 rfl rfl ?_
  refine Ex_aload_n dL_law_730 rfl rfl ?_
  refine Ex_iload dL_law_731 rfl rfl ?_
  refine Ex_iconst dL_law_733 rfl ?_
  refine Ex_iadd dL_law_734 rfl ?_
  refine Ex_scr dL_law_735 rfl ha (by omega) ?_
  refine Ex_aload_n dL_law_736 rfl rfl ?_
  refine Ex_iload dL_law_737 rfl rfl ?_
  refine Ex_iconst dL_law_739 rfl ?_
  refine Ex_iadd dL_law_740 rfl ?_
  refine Ex_scr dL_law_741 rfl ha (by omega) ?_
  refine Ex_aload_n dL_law_742 rfl rfl ?_
  refine Ex_iload dL_law_743 rfl rfl ?_
  refine Ex_iconst dL_law_745 rfl ?_
  refine Ex_iadd dL_law_746 rfl ?_
  refine Ex_scr dL_law_747 rfl ha (by omega) ?_
  refine Ex_aload_n dL_law_748 rfl rfl ?_
  refine Ex_iload dL_law_749 rfl rfl ?_
  refine Ex_iconst dL_law_751 rfl ?_
  refine Ex_iadd dL_law_752 rfl ?_
  refine Ex_scr dL_law_753 rfl ha (by omega) ?_
  refine Ex_aload_n dL_law_754 rfl rfl ?_
  refine Ex_iload dL_law_755 rfl rfl ?_
  refine Ex_iconst dL_law_757 rfl ?_
  refine Ex_iadd dL_law_758 rfl ?_
  refine Ex_scr dL_law_759 rfl ha (by omega) ?_
  refine Ex_inv 2 dL_law_760 rfl rfl (Or.inl rfl) rfl rfl rfl rfl hx0 rfl rfl rfl (Ex_post (pr_frights (d := d) hB I (sv_r hx _) (sv_r hx _) (sv_r hx _) (sv_r hx _) (sv_r hx _)) ?_)
  rintro r1 h1 ⟨a, rfl, gw1, ⟨fs, hm1⟩, k2⟩
  have ha1 := gw1.2 _ _ hsc ha
  refine Ex_aload_n dL_law_763 rfl rfl ?_
  refine Ex_aload_n dL_law_764 rfl rfl ?_
  refine Ex_iload dL_law_765 rfl rfl ?_
  refine Ex_iconst dL_law_767 rfl ?_
  refine Ex_iadd dL_law_768 rfl ?_
  refine Ex_scr dL_law_769 rfl ha1 (by omega) ?_
  refine Ex_aload_n dL_law_770 rfl rfl ?_
  refine Ex_iload dL_law_771 rfl rfl ?_
  refine Ex_iconst dL_law_773 rfl ?_
  refine Ex_iadd dL_law_774 rfl ?_
  refine Ex_scr dL_law_775 rfl ha1 (by omega) ?_
  refine Ex_aload_n dL_law_776 rfl rfl ?_
  refine Ex_iload dL_law_777 rfl rfl ?_
  refine Ex_iconst dL_law_779 rfl ?_
  refine Ex_iadd dL_law_780 rfl ?_
  refine Ex_scr dL_law_781 rfl ha1 (by omega) ?_
  refine Ex_aload_n dL_law_782 rfl rfl ?_
  refine Ex_iload dL_law_783 rfl rfl ?_
  refine Ex_iconst dL_law_785 rfl ?_
  refine Ex_iadd dL_law_786 rfl ?_
  refine Ex_scr dL_law_787 rfl ha1 (by omega) ?_
  refine Ex_aload_n dL_law_788 rfl rfl ?_
  refine Ex_iload dL_law_789 rfl rfl ?_
  refine Ex_iconst dL_law_791 rfl ?_
  refine Ex_iadd dL_law_792 rfl ?_
  refine Ex_scr dL_law_793 rfl ha1 (by omega) ?_
  refine Ex_inv 2 dL_law_794 rfl rfl (Or.inl rfl) rfl rfl rfl rfl hm1 rfl rfl rfl (Ex_post k2 ?_)
  rintro r2 h2 ⟨rfl, I2, gw2⟩
  refine Ex_lcmp_same dL_law_797 rfl ?_
  refine Ex_if_eq (t := 1538) dL_law_798 rfl rfl (by omega) (fun _ => ?_) (fun z => absurd rfl z)
  exact kont h2 _ _ _ I2 ((gw1.trans gw2).wide (by omega) (by omega))
theorem lw_was {E : am_E} {d x sc i : Nat} {h : Hp} {xs : List Int} {Q : Option Value → Hp → Prop} {v5 v6 v7 : Value} (hB : E.2 ≤ x) (hx : ∀ z ∈ xs, -2147483648 ≤ z ∧ z ≤ 2147483647) (hl : i + 6 ≤ xs.length) (hl2 : xs.length ≤ 100000) (ha : h.1 sc = some (20, ia xs)) (hsc : sc < x) (I : IN h x) (kont : ∀ (h2 : Hp) (w5 w6 w7 : Value), IN h2 x → GW h h2 x 400 3200 → Ex E (d + 21) mL_law 1538 [.ref sc, .ref x, .ref (x + 57), .ref (x + 80), .int (i32 (i : Int)), w5, w6, w7] [] h2 Q) : Ex E (d + 21) mL_law 803 [.ref sc, .ref x, .ref (x + 57), .ref (x + 80), .int (i32 (i : Int)), v5, v6, v7] [] h Q := by
  obtain ⟨bs, hx0⟩ := IN.x0 I
  refine Ex_aload_n dL_law_803 rfl rfl ?_
  refine Ex_aload_n dL_law_804 rfl rfl ?_
  refine Ex_iload dL_law_805 rfl rfl ?_
  refine Ex_iconst dL_law_807 rfl ?_
  refine Ex_iadd dL_law_808 rfl ?_
  refine Ex_scr dL_law_809 rfl ha (by omega) ?_
  refine Ex_aload_n dL_law_810 rfl rfl ?_
  refine Ex_iload dL_law_811 rfl rfl ?_
  refine Ex_iconst dL_law_813 rfl ?_
  refine Ex_iadd dL_law_814 rfl ?_
  refine Ex_scr dL_law_815 rfl ha (by omega) ?_
  refine Ex_aload_n dL_law_816 rfl rfl ?_
  refine Ex_iload dL_law_817 rfl rfl ?_
  refine Ex_iconst dL_law_819 rfl ?_
  refine Ex_iadd dL_law_820 rfl ?_
  refine Ex_scr dL_law_821 rfl ha (by omega) ?_
  refine Ex_aload_n dL_law_822 rfl rfl ?_
  refine Ex_iload dL_law_823 rfl rfl ?_
  refine Ex_iconst dL_law_825 rfl ?_
  refine Ex_iadd dL_law_826 rfl ?_
  refine Ex_scr dL_law_827 rfl ha (by omega) ?_
  refine Ex_inv 2 dL_law_828 rfl rfl (Or.inl rfl) rfl rfl rfl rfl hx0 rfl rfl rfl (Ex_post (pr_was (d := d) hB I (sv_r hx _) (sv_r hx _) (sv_r hx _) (sv_r hx _)) ?_)
  rintro r1 h1 ⟨a, rfl, gw1, ⟨fs, hm1⟩, k2⟩
  have ha1 := gw1.2 _ _ hsc ha
  refine Ex_aload_n dL_law_831 rfl rfl ?_
  refine Ex_aload_n dL_law_832 rfl rfl ?_
  refine Ex_iload dL_law_833 rfl rfl ?_
  refine Ex_iconst dL_law_835 rfl ?_
  refine Ex_iadd dL_law_836 rfl ?_
  refine Ex_scr dL_law_837 rfl ha1 (by omega) ?_
  refine Ex_aload_n dL_law_838 rfl rfl ?_
  refine Ex_iload dL_law_839 rfl rfl ?_
  refine Ex_iconst dL_law_841 rfl ?_
  refine Ex_iadd dL_law_842 rfl ?_
  refine Ex_scr dL_law_843 rfl ha1 (by omega) ?_
  refine Ex_aload_n dL_law_844 rfl rfl ?_
  refine Ex_iload dL_law_845 rfl rfl ?_
  refine Ex_iconst dL_law_847 rfl ?_
  refine Ex_iadd dL_law_848 rfl ?_
  refine Ex_scr dL_law_849 rfl ha1 (by omega) ?_
  refine Ex_aload_n dL_law_850 rfl rfl ?_
  refine Ex_iload dL_law_851 rfl rfl ?_
  refine Ex_iconst dL_law_853 rfl ?_
  refine Ex_iadd dL_law_854 rfl ?_
  refine Ex_scr dL_law_855 rfl ha1 (by omega) ?_
  refine Ex_inv 2 dL_law_856 rfl rfl (Or.inl rfl) rfl rfl rfl rfl hm1 rfl rfl rfl (Ex_post k2 ?_)
  rintro r2 h2 ⟨rfl, I2, gw2⟩
  refine Ex_icmp_same (t := 1538) dL_law_859 rfl ?_
  exact kont h2 _ _ _ I2 ((gw1.trans gw2).wide (by omega) (by omega))
theorem lw_dare {E : am_E} {d x sc i : Nat} {h : Hp} {xs : List Int} {Q : Option Value → Hp → Prop} {v5 v6 v7 : Value} (hB : E.2 ≤ x) (hx : ∀ z ∈ xs, -2147483648 ≤ z ∧ z ≤ 2147483647) (hl : i + 6 ≤ xs.length) (hl2 : xs.length ≤ 100000) (ha : h.1 sc = some (20, ia xs)) (hsc : sc < x) (I : IN h x) (kont : ∀ (h2 : Hp) (w5 w6 w7 : Value), IN h2 x → GW h h2 x 400 3200 → Ex E (d + 21) mL_law 1538 [.ref sc, .ref x, .ref (x + 57), .ref (x + 80), .int (i32 (i : Int)), w5, w6, w7] [] h2 Q) : Ex E (d + 21) mL_law 864 [.ref sc, .ref x, .ref (x + 57), .ref (x + 80), .int (i32 (i : Int)), v5, v6, v7] [] h Q := by
  obtain ⟨bs, hx0⟩ := IN.x0 I
  refine Ex_aload_n dL_law_864 rfl rfl ?_
  refine Ex_aload_n dL_law_865 rfl rfl ?_
  refine Ex_iload dL_law_866 rfl rfl ?_
  refine Ex_iconst dL_law_868 rfl ?_
  refine Ex_iadd dL_law_869 rfl ?_
  refine Ex_scr dL_law_870 rfl ha (by omega) ?_
  refine Ex_aload_n dL_law_871 rfl rfl ?_
  refine Ex_iload dL_law_872 rfl rfl ?_
  refine Ex_iconst dL_law_874 rfl ?_
  refine Ex_iadd dL_law_875 rfl ?_
  refine Ex_scr dL_law_876 rfl ha (by omega) ?_
  refine Ex_inv 2 dL_law_877 rfl rfl (Or.inl rfl) rfl rfl rfl rfl hx0 rfl rfl rfl (Ex_post (pr_dare (d := d) hB I (sv_r hx _) (sv_r hx _)) ?_)
  rintro r1 h1 ⟨a, rfl, gw1, ⟨fs, hm1⟩, k2⟩
  have ha1 := gw1.2 _ _ hsc ha
  refine Ex_aload_n dL_law_880 rfl rfl ?_
  refine Ex_aload_n dL_law_881 rfl rfl ?_
  refine Ex_iload dL_law_882 rfl rfl ?_
  refine Ex_iconst dL_law_884 rfl ?_
  refine Ex_iadd dL_law_885 rfl ?_
  refine Ex_scr dL_law_886 rfl ha1 (by omega) ?_
  refine Ex_aload_n dL_law_887 rfl rfl ?_
  refine Ex_iload dL_law_888 rfl rfl ?_
  refine Ex_iconst dL_law_890 rfl ?_
  refine Ex_iadd dL_law_891 rfl ?_
  refine Ex_scr dL_law_892 rfl ha1 (by omega) ?_
  refine Ex_inv 2 dL_law_893 rfl rfl (Or.inl rfl) rfl rfl rfl rfl hm1 rfl rfl rfl (Ex_post k2 ?_)
  rintro r2 h2 ⟨rfl, I2, gw2⟩
  refine Ex_icmp_same (t := 1538) dL_law_896 rfl ?_
  exact kont h2 _ _ _ I2 ((gw1.trans gw2).wide (by omega) (by omega))
theorem lw_group {E : am_E} {d x sc i : Nat} {h : Hp} {xs : List Int} {Q : Option Value → Hp → Prop} {v5 v6 v7 : Value} (hB : E.2 ≤ x) (hx : ∀ z ∈ xs, -2147483648 ≤ z ∧ z ≤ 2147483647) (hl : i + 6 ≤ xs.length) (hl2 : xs.length ≤ 100000) (ha : h.1 sc = some (20, ia xs)) (hsc : sc < x) (I : IN h x) (kont : ∀ (h2 : Hp) (w5 w6 w7 : Value), IN h2 x → GW h h2 x 400 3200 → Ex E (d + 21) mL_law 1538 [.ref sc, .ref x, .ref (x + 57), .ref (x + 80), .int (i32 (i : Int)), w5, w6, w7] [] h2 Q) : Ex E (d + 21) mL_law 901 [.ref sc, .ref x, .ref (x + 57), .ref (x + 80), .int (i32 (i : Int)), v5, v6, v7] [] h Q := by
  obtain ⟨bs, hx0⟩ := IN.x0 I
  refine Ex_aload_n dL_law_901 rfl rfl ?_
  refine Ex_aload_n dL_law_902 rfl rfl ?_
  refine Ex_iload dL_law_903 rfl rfl ?_
  refine Ex_iconst dL_law_905 rfl ?_
  refine Ex_iadd dL_law_906 rfl ?_
  refine Ex_scr dL_law_907 rfl ha (by omega) ?_
  refine Ex_aload_n dL_law_908 rfl rfl ?_
  refine Ex_iload dL_law_909 rfl rfl ?_
  refine Ex_iconst dL_law_911 rfl ?_
  refine Ex_iadd dL_law_912 rfl ?_
  refine Ex_scr dL_law_913 rfl ha (by omega) ?_
  refine Ex_inv 2 dL_law_914 rfl rfl (Or.inl rfl) rfl rfl rfl rfl hx0 rfl rfl rfl (Ex_post (pr_group (d := d) hB I (sv_r hx _) (sv_r hx _)) ?_)
  rintro r1 h1 ⟨a, rfl, gw1, ⟨fs, hm1⟩, k2⟩
  have ha1 := gw1.2 _ _ hsc ha
  refine Ex_aload_n dL_law_917 rfl rfl ?_
  refine Ex_aload_n dL_law_918 rfl rfl ?_
  refine Ex_iload dL_law_919 rfl rfl ?_
  refine Ex_iconst dL_law_921 rfl ?_
  refine Ex_iadd dL_law_922 rfl ?_
  refine Ex_scr dL_law_923 rfl ha1 (by omega) ?_
  refine Ex_aload_n dL_law_924 rfl rfl ?_
  refine Ex_iload dL_law_925 rfl rfl ?_
  refine Ex_iconst dL_law_927 rfl ?_
  refine Ex_iadd dL_law_928 rfl ?_
  refine Ex_scr dL_law_929 rfl ha1 (by omega) ?_
  refine Ex_inv 2 dL_law_930 rfl rfl (Or.inl rfl) rfl rfl rfl rfl hm1 rfl rfl rfl (Ex_post k2 ?_)
  rintro r2 h2 ⟨rfl, I2, gw2⟩
  refine Ex_icmp_same (t := 1538) dL_law_933 rfl ?_
  exact kont h2 _ _ _ I2 ((gw1.trans gw2).wide (by omega) (by omega))
theorem lw_forget {E : am_E} {d x sc i : Nat} {h : Hp} {xs : List Int} {Q : Option Value → Hp → Prop} {v5 v6 v7 : Value} (hB : E.2 ≤ x) (hx : ∀ z ∈ xs, -2147483648 ≤ z ∧ z ≤ 2147483647) (hl : i + 6 ≤ xs.length) (hl2 : xs.length ≤ 100000) (ha : h.1 sc = some (20, ia xs)) (hsc : sc < x) (I : IN h x) (kont : ∀ (h2 : Hp) (w5 w6 w7 : Value), IN h2 x → GW h h2 x 400 3200 → Ex E (d + 21) mL_law 1538 [.ref sc, .ref x, .ref (x + 57), .ref (x + 80), .int (i32 (i : Int)), w5, w6, w7] [] h2 Q) : Ex E (d + 21) mL_law 938 [.ref sc, .ref x, .ref (x + 57), .ref (x + 80), .int (i32 (i : Int)), v5, v6, v7] [] h Q := by
  obtain ⟨bs, hx0⟩ := IN.x0 I
  refine Ex_aload_n dL_law_938 rfl rfl ?_
  refine Ex_inv 2 dL_law_939 rfl rfl (Or.inl rfl) rfl rfl rfl rfl hx0 rfl rfl rfl (Ex_post (pr_forget (d := d) hB I ) ?_)
  rintro r1 h1 ⟨a, rfl, gw1, ⟨fs, hm1⟩, k2⟩
  have ha1 := gw1.2 _ _ hsc ha
  refine Ex_aload_n dL_law_942 rfl rfl ?_
  refine Ex_inv 2 dL_law_943 rfl rfl (Or.inl rfl) rfl rfl rfl rfl hm1 rfl rfl rfl (Ex_post k2 ?_)
  rintro r2 h2 ⟨rfl, I2, gw2⟩
  refine Ex_icmp_same (t := 1538) dL_law_946 rfl ?_
  exact kont h2 _ _ _ I2 ((gw1.trans gw2).wide (by omega) (by omega))
theorem lw_coldest {E : am_E} {d x sc i : Nat} {h : Hp} {xs : List Int} {Q : Option Value → Hp → Prop} {v5 v6 v7 : Value} (hB : E.2 ≤ x) (hx : ∀ z ∈ xs, -2147483648 ≤ z ∧ z ≤ 2147483647) (hl : i + 6 ≤ xs.length) (hl2 : xs.length ≤ 100000) (ha : h.1 sc = some (20, ia xs)) (hsc : sc < x) (I : IN h x) (kont : ∀ (h2 : Hp) (w5 w6 w7 : Value), IN h2 x → GW h h2 x 400 3200 → Ex E (d + 21) mL_law 1538 [.ref sc, .ref x, .ref (x + 57), .ref (x + 80), .int (i32 (i : Int)), w5, w6, w7] [] h2 Q) : Ex E (d + 21) mL_law 951 [.ref sc, .ref x, .ref (x + 57), .ref (x + 80), .int (i32 (i : Int)), v5, v6, v7] [] h Q := by
  obtain ⟨bs, hx0⟩ := IN.x0 I
  refine Ex_aload_n dL_law_951 rfl rfl ?_
  refine Ex_aload_n dL_law_952 rfl rfl ?_
  refine Ex_iload dL_law_953 rfl rfl ?_
  refine Ex_iconst dL_law_955 rfl ?_
  refine Ex_iadd dL_law_956 rfl ?_
  refine Ex_scr dL_law_957 rfl ha (by omega) ?_
  refine Ex_aload_n dL_law_958 rfl rfl ?_
  refine Ex_iload dL_law_959 rfl rfl ?_
  refine Ex_iconst dL_law_961 rfl ?_
  refine Ex_iadd dL_law_962 rfl ?_
  refine Ex_scr dL_law_963 rfl ha (by omega) ?_
  refine Ex_inv 2 dL_law_964 rfl rfl (Or.inl rfl) rfl rfl rfl rfl hx0 rfl rfl rfl (Ex_post (pr_coldest (d := d) hB I (sv_r hx _) (sv_r hx _)) ?_)
  rintro r1 h1 ⟨a, rfl, gw1, ⟨fs, hm1⟩, k2⟩
  have ha1 := gw1.2 _ _ hsc ha
  refine Ex_aload_n dL_law_967 rfl rfl ?_
  refine Ex_aload_n dL_law_968 rfl rfl ?_
  refine Ex_iload dL_law_969 rfl rfl ?_
  refine Ex_iconst dL_law_971 rfl ?_
  refine Ex_iadd dL_law_972 rfl ?_
  refine Ex_scr dL_law_973 rfl ha1 (by omega) ?_
  refine Ex_aload_n dL_law_974 rfl rfl ?_
  refine Ex_iload dL_law_975 rfl rfl ?_
  refine Ex_iconst dL_law_977 rfl ?_
  refine Ex_iadd dL_law_978 rfl ?_
  refine Ex_scr dL_law_979 rfl ha1 (by omega) ?_
  refine Ex_inv 2 dL_law_980 rfl rfl (Or.inl rfl) rfl rfl rfl rfl hm1 rfl rfl rfl (Ex_post k2 ?_)
  rintro r2 h2 ⟨rfl, I2, gw2⟩
  refine Ex_icmp_same (t := 1538) dL_law_983 rfl ?_
  exact kont h2 _ _ _ I2 ((gw1.trans gw2).wide (by omega) (by omega))
theorem lw_last {E : am_E} {d x sc i : Nat} {h : Hp} {xs : List Int} {Q : Option Value → Hp → Prop} {v5 v6 v7 : Value} (hB : E.2 ≤ x) (hx : ∀ z ∈ xs, -2147483648 ≤ z ∧ z ≤ 2147483647) (hl : i + 6 ≤ xs.length) (hl2 : xs.length ≤ 100000) (ha : h.1 sc = some (20, ia xs)) (hsc : sc < x) (I : IN h x) (kont : ∀ (h2 : Hp) (w5 w6 w7 : Value), IN h2 x → GW h h2 x 400 3200 → Ex E (d + 21) mL_law 1538 [.ref sc, .ref x, .ref (x + 57), .ref (x + 80), .int (i32 (i : Int)), w5, w6, w7] [] h2 Q) : Ex E (d + 21) mL_law 988 [.ref sc, .ref x, .ref (x + 57), .ref (x + 80), .int (i32 (i : Int)), v5, v6, v7] [] h Q := by
  obtain ⟨bs, hx0⟩ := IN.x0 I
  refine Ex_aload_n dL_law_988 rfl rfl ?_
  refine Ex_inv 2 dL_law_989 rfl rfl (Or.inl rfl) rfl rfl rfl rfl hx0 rfl rfl rfl (Ex_post (pr_last (d := d) hB I ) ?_)
  rintro r1 h1 ⟨a, rfl, gw1, ⟨fs, hm1⟩, k2⟩
  have ha1 := gw1.2 _ _ hsc ha
  refine Ex_aload_n dL_law_992 rfl rfl ?_
  refine Ex_inv 2 dL_law_993 rfl rfl (Or.inl rfl) rfl rfl rfl rfl hm1 rfl rfl rfl (Ex_post k2 ?_)
  rintro r2 h2 ⟨rfl, I2, gw2⟩
  refine Ex_icmp_same (t := 1538) dL_law_996 rfl ?_
  exact kont h2 _ _ _ I2 ((gw1.trans gw2).wide (by omega) (by omega))
theorem lw_mean {E : am_E} {d x sc i : Nat} {h : Hp} {xs : List Int} {Q : Option Value → Hp → Prop} {v5 v6 v7 : Value} (hB : E.2 ≤ x) (hx : ∀ z ∈ xs, -2147483648 ≤ z ∧ z ≤ 2147483647) (hl : i + 6 ≤ xs.length) (hl2 : xs.length ≤ 100000) (ha : h.1 sc = some (20, ia xs)) (hsc : sc < x) (I : IN h x) (kont : ∀ (h2 : Hp) (w5 w6 w7 : Value), IN h2 x → GW h h2 x 400 3200 → Ex E (d + 21) mL_law 1538 [.ref sc, .ref x, .ref (x + 57), .ref (x + 80), .int (i32 (i : Int)), w5, w6, w7] [] h2 Q) : Ex E (d + 21) mL_law 1001 [.ref sc, .ref x, .ref (x + 57), .ref (x + 80), .int (i32 (i : Int)), v5, v6, v7] [] h Q := by
  obtain ⟨bs, hx0⟩ := IN.x0 I
  refine Ex_aload_n dL_law_1001 rfl rfl ?_
  refine Ex_aload_n dL_law_1002 rfl rfl ?_
  refine Ex_iload dL_law_1003 rfl rfl ?_
  refine Ex_iconst dL_law_1005 rfl ?_
  refine Ex_iadd dL_law_1006 rfl ?_
  refine Ex_scr dL_law_1007 rfl ha (by omega) ?_
  refine Ex_inv 2 dL_law_1008 rfl rfl (Or.inl rfl) rfl rfl rfl rfl hx0 rfl rfl rfl (Ex_post (pr_mean (d := d) hB I (sv_r hx _)) ?_)
  rintro r1 h1 ⟨a, rfl, gw1, ⟨fs, hm1⟩, k2⟩
  have ha1 := gw1.2 _ _ hsc ha
  refine Ex_aload_n dL_law_1011 rfl rfl ?_
  refine Ex_aload_n dL_law_1012 rfl rfl ?_
  refine Ex_iload dL_law_1013 rfl rfl ?_
  refine Ex_iconst dL_law_1015 rfl ?_
  refine Ex_iadd dL_law_1016 rfl ?_
  refine Ex_scr dL_law_1017 rfl ha1 (by omega) ?_
  refine Ex_inv 2 dL_law_1018 rfl rfl (Or.inl rfl) rfl rfl rfl rfl hm1 rfl rfl rfl (Ex_post k2 ?_)
  rintro r2 h2 ⟨rfl, I2, gw2⟩
  refine Ex_lcmp_same dL_law_1021 rfl ?_
  refine Ex_if_eq (t := 1538) dL_law_1022 rfl rfl (by omega) (fun _ => ?_) (fun z => absurd rfl z)
  exact kont h2 _ _ _ I2 ((gw1.trans gw2).wide (by omega) (by omega))
theorem lw_forged {E : am_E} {d x sc i : Nat} {h : Hp} {xs : List Int} {Q : Option Value → Hp → Prop} {v5 v6 v7 : Value} (hB : E.2 ≤ x) (hx : ∀ z ∈ xs, -2147483648 ≤ z ∧ z ≤ 2147483647) (hl : i + 6 ≤ xs.length) (hl2 : xs.length ≤ 100000) (ha : h.1 sc = some (20, ia xs)) (hsc : sc < x) (I : IN h x) (kont : ∀ (h2 : Hp) (w5 w6 w7 : Value), IN h2 x → GW h h2 x 400 3200 → Ex E (d + 21) mL_law 1538 [.ref sc, .ref x, .ref (x + 57), .ref (x + 80), .int (i32 (i : Int)), w5, w6, w7] [] h2 Q) : Ex E (d + 21) mL_law 1027 [.ref sc, .ref x, .ref (x + 57), .ref (x + 80), .int (i32 (i : Int)), v5, v6, v7] [] h Q := by
  obtain ⟨bs, hx0⟩ := IN.x0 I
  refine Ex_aload_n dL_law_1027 rfl rfl ?_
  refine Ex_aload_n dL_law_1028 rfl rfl ?_
  refine Ex_iload dL_law_1029 rfl rfl ?_
  refine Ex_iconst dL_law_1031 rfl ?_
  refine Ex_iadd dL_law_1032 rfl ?_
  refine Ex_scr dL_law_1033 rfl ha (by omega) ?_
  refine Ex_inv 2 dL_law_1034 rfl rfl (Or.inl rfl) rfl rfl rfl rfl hx0 rfl rfl rfl (Ex_post (pr_forged (d := d) hB I (sv_r hx _)) ?_)
  rintro r1 h1 ⟨a, rfl, gw1, ⟨fs, hm1⟩, k2⟩
  have ha1 := gw1.2 _ _ hsc ha
  refine Ex_aload_n dL_law_1037 rfl rfl ?_
  refine Ex_aload_n dL_law_1038 rfl rfl ?_
  refine Ex_iload dL_law_1039 rfl rfl ?_
  refine Ex_iconst dL_law_1041 rfl ?_
  refine Ex_iadd dL_law_1042 rfl ?_
  refine Ex_scr dL_law_1043 rfl ha1 (by omega) ?_
  refine Ex_inv 2 dL_law_1044 rfl rfl (Or.inl rfl) rfl rfl rfl rfl hm1 rfl rfl rfl (Ex_post k2 ?_)
  rintro r2 h2 ⟨rfl, I2, gw2⟩
  refine Ex_icmp_same (t := 1538) dL_law_1047 rfl ?_
  exact kont h2 _ _ _ I2 ((gw1.trans gw2).wide (by omega) (by omega))
theorem lw_judge {E : am_E} {d x sc i : Nat} {h : Hp} {xs : List Int} {Q : Option Value → Hp → Prop} {v5 v6 v7 : Value} (hB : E.2 ≤ x) (hx : ∀ z ∈ xs, -2147483648 ≤ z ∧ z ≤ 2147483647) (hl : i + 6 ≤ xs.length) (hl2 : xs.length ≤ 100000) (ha : h.1 sc = some (20, ia xs)) (hsc : sc < x) (I : IN h x) (kont : ∀ (h2 : Hp) (w5 w6 w7 : Value), IN h2 x → GW h h2 x 400 3200 → Ex E (d + 21) mL_law 1538 [.ref sc, .ref x, .ref (x + 57), .ref (x + 80), .int (i32 (i : Int)), w5, w6, w7] [] h2 Q) : Ex E (d + 21) mL_law 1052 [.ref sc, .ref x, .ref (x + 57), .ref (x + 80), .int (i32 (i : Int)), v5, v6, v7] [] h Q := by
  obtain ⟨bs, hx0⟩ := IN.x0 I
  refine Ex_aload_n dL_law_1052 rfl rfl ?_
  refine Ex_aload_n dL_law_1053 rfl rfl ?_
  refine Ex_iload dL_law_1054 rfl rfl ?_
  refine Ex_iconst dL_law_1056 rfl ?_
  refine Ex_iadd dL_law_1057 rfl ?_
  refine Ex_scr dL_law_1058 rfl ha (by omega) ?_
  refine Ex_aload_n dL_law_1059 rfl rfl ?_
  refine Ex_iload dL_law_1060 rfl rfl ?_
  refine Ex_iconst dL_law_1062 rfl ?_
  refine Ex_iadd dL_law_1063 rfl ?_
  refine Ex_scr dL_law_1064 rfl ha (by omega) ?_
  refine Ex_inv 2 dL_law_1065 rfl rfl (Or.inl rfl) rfl rfl rfl rfl hx0 rfl rfl rfl (Ex_post (pr_judge (d := d) hB I (sv_r hx _) (sv_r hx _)) ?_)
  rintro r1 h1 ⟨a, rfl, gw1, ⟨fs, hm1⟩, k2⟩
  have ha1 := gw1.2 _ _ hsc ha
  refine Ex_aload_n dL_law_1068 rfl rfl ?_
  refine Ex_aload_n dL_law_1069 rfl rfl ?_
  refine Ex_iload dL_law_1070 rfl rfl ?_
  refine Ex_iconst dL_law_1072 rfl ?_
  refine Ex_iadd dL_law_1073 rfl ?_
  refine Ex_scr dL_law_1074 rfl ha1 (by omega) ?_
  refine Ex_aload_n dL_law_1075 rfl rfl ?_
  refine Ex_iload dL_law_1076 rfl rfl ?_
  refine Ex_iconst dL_law_1078 rfl ?_
  refine Ex_iadd dL_law_1079 rfl ?_
  refine Ex_scr dL_law_1080 rfl ha1 (by omega) ?_
  refine Ex_inv 2 dL_law_1081 rfl rfl (Or.inl rfl) rfl rfl rfl rfl hm1 rfl rfl rfl (Ex_post k2 ?_)
  rintro r2 h2 ⟨rfl, I2, gw2⟩
  refine Ex_icmp_same (t := 1538) dL_law_1084 rfl ?_
  exact kont h2 _ _ _ I2 ((gw1.trans gw2).wide (by omega) (by omega))
theorem lw_weeks {E : am_E} {d x sc i : Nat} {h : Hp} {xs : List Int} {Q : Option Value → Hp → Prop} {v5 v6 v7 : Value} (hB : E.2 ≤ x) (hx : ∀ z ∈ xs, -2147483648 ≤ z ∧ z ≤ 2147483647) (hl : i + 6 ≤ xs.length) (hl2 : xs.length ≤ 100000) (ha : h.1 sc = some (20, ia xs)) (hsc : sc < x) (I : IN h x) (kont : ∀ (h2 : Hp) (w5 w6 w7 : Value), IN h2 x → GW h h2 x 400 3200 → Ex E (d + 21) mL_law 1538 [.ref sc, .ref x, .ref (x + 57), .ref (x + 80), .int (i32 (i : Int)), w5, w6, w7] [] h2 Q) : Ex E (d + 21) mL_law 1089 [.ref sc, .ref x, .ref (x + 57), .ref (x + 80), .int (i32 (i : Int)), v5, v6, v7] [] h Q := by
  obtain ⟨bs, hx0⟩ := IN.x0 I
  refine Ex_aload_n dL_law_1089 rfl rfl ?_
  refine Ex_aload_n dL_law_1090 rfl rfl ?_
  refine Ex_iload dL_law_1091 rfl rfl ?_
  refine Ex_iconst dL_law_1093 rfl ?_
  refine Ex_iadd dL_law_1094 rfl ?_
  refine Ex_scr dL_law_1095 rfl ha (by omega) ?_
  refine Ex_aload_n dL_law_1096 rfl rfl ?_
  refine Ex_iload dL_law_1097 rfl rfl ?_
  refine Ex_iconst dL_law_1099 rfl ?_
  refine Ex_iadd dL_law_1100 rfl ?_
  refine Ex_scr dL_law_1101 rfl ha (by omega) ?_
  refine Ex_aload_n dL_law_1102 rfl rfl ?_
  refine Ex_iload dL_law_1103 rfl rfl ?_
  refine Ex_iconst dL_law_1105 rfl ?_
  refine Ex_iadd dL_law_1106 rfl ?_
  refine Ex_scr dL_law_1107 rfl ha (by omega) ?_
  refine Ex_inv 2 dL_law_1108 rfl rfl (Or.inl rfl) rfl rfl rfl rfl hx0 rfl rfl rfl (Ex_post (pr_weeks (d := d) hB I (sv_r hx _) (sv_r hx _) (sv_r hx _)) ?_)
  rintro r1 h1 ⟨a, rfl, gw1, ⟨fs, hm1⟩, k2⟩
  have ha1 := gw1.2 _ _ hsc ha
  refine Ex_aload_n dL_law_1111 rfl rfl ?_
  refine Ex_aload_n dL_law_1112 rfl rfl ?_
  refine Ex_iload dL_law_1113 rfl rfl ?_
  refine Ex_iconst dL_law_1115 rfl ?_
  refine Ex_iadd dL_law_1116 rfl ?_
  refine Ex_scr dL_law_1117 rfl ha1 (by omega) ?_
  refine Ex_aload_n dL_law_1118 rfl rfl ?_
  refine Ex_iload dL_law_1119 rfl rfl ?_
  refine Ex_iconst dL_law_1121 rfl ?_
  refine Ex_iadd dL_law_1122 rfl ?_
  refine Ex_scr dL_law_1123 rfl ha1 (by omega) ?_
  refine Ex_aload_n dL_law_1124 rfl rfl ?_
  refine Ex_iload dL_law_1125 rfl rfl ?_
  refine Ex_iconst dL_law_1127 rfl ?_
  refine Ex_iadd dL_law_1128 rfl ?_
  refine Ex_scr dL_law_1129 rfl ha1 (by omega) ?_
  refine Ex_inv 2 dL_law_1130 rfl rfl (Or.inl rfl) rfl rfl rfl rfl hm1 rfl rfl rfl (Ex_post k2 ?_)
  rintro r2 h2 ⟨rfl, I2, gw2⟩
  refine Ex_icmp_same (t := 1538) dL_law_1133 rfl ?_
  exact kont h2 _ _ _ I2 ((gw1.trans gw2).wide (by omega) (by omega))
theorem lw_image {E : am_E} {d x sc i : Nat} {h : Hp} {xs : List Int} {Q : Option Value → Hp → Prop} {v5 v6 v7 : Value} (hB : E.2 ≤ x) (hx : ∀ z ∈ xs, -2147483648 ≤ z ∧ z ≤ 2147483647) (hl : i + 6 ≤ xs.length) (hl2 : xs.length ≤ 100000) (ha : h.1 sc = some (20, ia xs)) (hsc : sc < x) (I : IN h x) (kont : ∀ (h2 : Hp) (w5 w6 w7 : Value), IN h2 x → GW h h2 x 400 3200 → Ex E (d + 21) mL_law 1538 [.ref sc, .ref x, .ref (x + 57), .ref (x + 80), .int (i32 (i : Int)), w5, w6, w7] [] h2 Q) : Ex E (d + 21) mL_law 1138 [.ref sc, .ref x, .ref (x + 57), .ref (x + 80), .int (i32 (i : Int)), v5, v6, v7] [] h Q := by
  obtain ⟨bs, hx0⟩ := IN.x0 I
  refine Ex_aload_n dL_law_1138 rfl rfl ?_
  refine Ex_inv 2 dL_law_1139 rfl rfl (Or.inl rfl) rfl rfl rfl rfl hx0 rfl rfl rfl (Ex_post (pr_image (d := d) hB I ) ?_)
  rintro r1 h1 ⟨a, rfl, gw1, ⟨fs, hm1⟩, k2⟩
  have ha1 := gw1.2 _ _ hsc ha
  refine Ex_aload_n dL_law_1142 rfl rfl ?_
  refine Ex_inv 2 dL_law_1143 rfl rfl (Or.inl rfl) rfl rfl rfl rfl hm1 rfl rfl rfl (Ex_post k2 ?_)
  rintro r2 h2 ⟨rfl, I2, gw2⟩
  refine Ex_icmp_same (t := 1538) dL_law_1146 rfl ?_
  exact kont h2 _ _ _ I2 ((gw1.trans gw2).wide (by omega) (by omega))
theorem lw_restore {E : am_E} {d x sc i : Nat} {h : Hp} {xs : List Int} {Q : Option Value → Hp → Prop} {v5 v6 v7 : Value} (hB : E.2 ≤ x) (hx : ∀ z ∈ xs, -2147483648 ≤ z ∧ z ≤ 2147483647) (hl : i + 6 ≤ xs.length) (hl2 : xs.length ≤ 100000) (ha : h.1 sc = some (20, ia xs)) (hsc : sc < x) (I : IN h x) (kont : ∀ (h2 : Hp) (w5 w6 w7 : Value), IN h2 x → GW h h2 x 400 3200 → Ex E (d + 21) mL_law 1538 [.ref sc, .ref x, .ref (x + 57), .ref (x + 80), .int (i32 (i : Int)), w5, w6, w7] [] h2 Q) : Ex E (d + 21) mL_law 1151 [.ref sc, .ref x, .ref (x + 57), .ref (x + 80), .int (i32 (i : Int)), v5, v6, v7] [] h Q := by
  obtain ⟨bs, hx0⟩ := IN.x0 I
  refine Ex_aload_n dL_law_1151 rfl rfl ?_
  refine Ex_inv 2 dL_law_1152 rfl rfl (Or.inl rfl) rfl rfl rfl rfl hx0 rfl rfl rfl (Ex_post (pr_restore (d := d) hB I ) ?_)
  rintro r1 h1 ⟨a, rfl, gw1, ⟨fs, hm1⟩, k2⟩
  have ha1 := gw1.2 _ _ hsc ha
  refine Ex_aload_n dL_law_1155 rfl rfl ?_
  refine Ex_inv 2 dL_law_1156 rfl rfl (Or.inl rfl) rfl rfl rfl rfl hm1 rfl rfl rfl (Ex_post k2 ?_)
  rintro r2 h2 ⟨rfl, I2, gw2⟩
  refine Ex_icmp_same (t := 1538) dL_law_1159 rfl ?_
  exact kont h2 _ _ _ I2 ((gw1.trans gw2).wide (by omega) (by omega))
theorem lw_count {E : am_E} {d x sc i : Nat} {h : Hp} {xs : List Int} {Q : Option Value → Hp → Prop} {v5 v6 v7 : Value} (hB : E.2 ≤ x) (hx : ∀ z ∈ xs, -2147483648 ≤ z ∧ z ≤ 2147483647) (hl : i + 6 ≤ xs.length) (hl2 : xs.length ≤ 100000) (ha : h.1 sc = some (20, ia xs)) (hsc : sc < x) (I : IN h x) (kont : ∀ (h2 : Hp) (w5 w6 w7 : Value), IN h2 x → GW h h2 x 400 3200 → Ex E (d + 21) mL_law 1538 [.ref sc, .ref x, .ref (x + 57), .ref (x + 80), .int (i32 (i : Int)), w5, w6, w7] [] h2 Q) : Ex E (d + 21) mL_law 1164 [.ref sc, .ref x, .ref (x + 57), .ref (x + 80), .int (i32 (i : Int)), v5, v6, v7] [] h Q := by
  obtain ⟨bs, hx0⟩ := IN.x0 I
  refine Ex_aload_n dL_law_1164 rfl rfl ?_
  refine Ex_aload_n dL_law_1165 rfl rfl ?_
  refine Ex_iload dL_law_1166 rfl rfl ?_
  refine Ex_iconst dL_law_1168 rfl ?_
  refine Ex_iadd dL_law_1169 rfl ?_
  refine Ex_scr dL_law_1170 rfl ha (by omega) ?_
  refine Ex_inv 2 dL_law_1171 rfl rfl (Or.inl rfl) rfl rfl rfl rfl hx0 rfl rfl rfl (Ex_post (pr_count (d := d) hB I (sv_r hx _)) ?_)
  rintro r1 h1 ⟨a, rfl, gw1, ⟨fs, hm1⟩, k2⟩
  have ha1 := gw1.2 _ _ hsc ha
  refine Ex_aload_n dL_law_1174 rfl rfl ?_
  refine Ex_aload_n dL_law_1175 rfl rfl ?_
  refine Ex_iload dL_law_1176 rfl rfl ?_
  refine Ex_iconst dL_law_1178 rfl ?_
  refine Ex_iadd dL_law_1179 rfl ?_
  refine Ex_scr dL_law_1180 rfl ha1 (by omega) ?_
  refine Ex_inv 2 dL_law_1181 rfl rfl (Or.inl rfl) rfl rfl rfl rfl hm1 rfl rfl rfl (Ex_post k2 ?_)
  rintro r2 h2 ⟨rfl, I2, gw2⟩
  refine Ex_icmp_same (t := 1538) dL_law_1184 rfl ?_
  exact kont h2 _ _ _ I2 ((gw1.trans gw2).wide (by omega) (by omega))
theorem lw_keep {E : am_E} {d x sc i : Nat} {h : Hp} {xs : List Int} {Q : Option Value → Hp → Prop} {v5 v6 v7 : Value} (hB : E.2 ≤ x) (hx : ∀ z ∈ xs, -2147483648 ≤ z ∧ z ≤ 2147483647) (hl : i + 6 ≤ xs.length) (hl2 : xs.length ≤ 100000) (ha : h.1 sc = some (20, ia xs)) (hsc : sc < x) (I : IN h x) (kont : ∀ (h2 : Hp) (w5 w6 w7 : Value), IN h2 x → GW h h2 x 400 3200 → Ex E (d + 21) mL_law 1538 [.ref sc, .ref x, .ref (x + 57), .ref (x + 80), .int (i32 (i : Int)), w5, w6, w7] [] h2 Q) : Ex E (d + 21) mL_law 1189 [.ref sc, .ref x, .ref (x + 57), .ref (x + 80), .int (i32 (i : Int)), v5, v6, v7] [] h Q := by
  obtain ⟨bs, hx0⟩ := IN.x0 I
  refine Ex_aload_n dL_law_1189 rfl rfl ?_
  refine Ex_aload_n dL_law_1190 rfl rfl ?_
  refine Ex_iload dL_law_1191 rfl rfl ?_
  refine Ex_iconst dL_law_1193 rfl ?_
  refine Ex_iadd dL_law_1194 rfl ?_
  refine Ex_scr dL_law_1195 rfl ha (by omega) ?_
  refine Ex_aload_n dL_law_1196 rfl rfl ?_
  refine Ex_iload dL_law_1197 rfl rfl ?_
  refine Ex_iconst dL_law_1199 rfl ?_
  refine Ex_iadd dL_law_1200 rfl ?_
  refine Ex_scr dL_law_1201 rfl ha (by omega) ?_
  refine Ex_aload_n dL_law_1202 rfl rfl ?_
  refine Ex_iload dL_law_1203 rfl rfl ?_
  refine Ex_iconst dL_law_1205 rfl ?_
  refine Ex_iadd dL_law_1206 rfl ?_
  refine Ex_scr dL_law_1207 rfl ha (by omega) ?_
  refine Ex_aload_n dL_law_1208 rfl rfl ?_
  refine Ex_iload dL_law_1209 rfl rfl ?_
  refine Ex_iconst dL_law_1211 rfl ?_
  refine Ex_iadd dL_law_1212 rfl ?_
  refine Ex_scr dL_law_1213 rfl ha (by omega) ?_
  refine Ex_inv 2 dL_law_1214 rfl rfl (Or.inl rfl) rfl rfl rfl rfl hx0 rfl rfl rfl (Ex_post (pr_keep (d := d) hB I (sv_r hx _) (sv_r hx _) (sv_r hx _) (sv_r hx _)) ?_)
  rintro r1 h1 ⟨a, rfl, gw1, ⟨fs, hm1⟩, k2⟩
  have ha1 := gw1.2 _ _ hsc ha
  refine Ex_aload_n dL_law_1217 rfl rfl ?_
  refine Ex_aload_n dL_law_1218 rfl rfl ?_
  refine Ex_iload dL_law_1219 rfl rfl ?_
  refine Ex_iconst dL_law_1221 rfl ?_
  refine Ex_iadd dL_law_1222 rfl ?_
  refine Ex_scr dL_law_1223 rfl ha1 (by omega) ?_
  refine Ex_aload_n dL_law_1224 rfl rfl ?_
  refine Ex_iload dL_law_1225 rfl rfl ?_
  refine Ex_iconst dL_law_1227 rfl ?_
  refine Ex_iadd dL_law_1228 rfl ?_
  refine Ex_scr dL_law_1229 rfl ha1 (by omega) ?_
  refine Ex_aload_n dL_law_1230 rfl rfl ?_
  refine Ex_iload dL_law_1231 rfl rfl ?_
  refine Ex_iconst dL_law_1233 rfl ?_
  refine Ex_iadd dL_law_1234 rfl ?_
  refine Ex_scr dL_law_1235 rfl ha1 (by omega) ?_
  refine Ex_aload_n dL_law_1236 rfl rfl ?_
  refine Ex_iload dL_law_1237 rfl rfl ?_
  refine Ex_iconst dL_law_1239 rfl ?_
  refine Ex_iadd dL_law_1240 rfl ?_
  refine Ex_scr dL_law_1241 rfl ha1 (by omega) ?_
  refine Ex_inv 2 dL_law_1242 rfl rfl (Or.inl rfl) rfl rfl rfl rfl hm1 rfl rfl rfl (Ex_post k2 ?_)
  rintro r2 h2 ⟨rfl, I2, gw2⟩
  refine Ex_icmp_same (t := 1538) dL_law_1245 rfl ?_
  exact kont h2 _ _ _ I2 ((gw1.trans gw2).wide (by omega) (by omega))
theorem lw_row {E : am_E} {d x sc i : Nat} {h : Hp} {xs : List Int} {Q : Option Value → Hp → Prop} {v5 v6 v7 : Value} (hB : E.2 ≤ x) (hx : ∀ z ∈ xs, -2147483648 ≤ z ∧ z ≤ 2147483647) (hl : i + 6 ≤ xs.length) (hl2 : xs.length ≤ 100000) (ha : h.1 sc = some (20, ia xs)) (hsc : sc < x) (I : IN h x) (kont : ∀ (h2 : Hp) (w5 w6 w7 : Value), IN h2 x → GW h h2 x 400 3200 → Ex E (d + 21) mL_law 1538 [.ref sc, .ref x, .ref (x + 57), .ref (x + 80), .int (i32 (i : Int)), w5, w6, w7] [] h2 Q) : Ex E (d + 21) mL_law 1250 [.ref sc, .ref x, .ref (x + 57), .ref (x + 80), .int (i32 (i : Int)), v5, v6, v7] [] h Q := by
  obtain ⟨bs, hx0⟩ := IN.x0 I
  refine Ex_aload_n dL_law_1250 rfl rfl ?_
  refine Ex_aload_n dL_law_1251 rfl rfl ?_
  refine Ex_iload dL_law_1252 rfl rfl ?_
  refine Ex_iconst dL_law_1254 rfl ?_
  refine Ex_iadd dL_law_1255 rfl ?_
  refine Ex_scr dL_law_1256 rfl ha (by omega) ?_
  refine Ex_aload_n dL_law_1257 rfl rfl ?_
  refine Ex_iload dL_law_1258 rfl rfl ?_
  refine Ex_iconst dL_law_1260 rfl ?_
  refine Ex_iadd dL_law_1261 rfl ?_
  refine Ex_scr dL_law_1262 rfl ha (by omega) ?_
  refine Ex_aload_n dL_law_1263 rfl rfl ?_
  refine Ex_iload dL_law_1264 rfl rfl ?_
  refine Ex_iconst dL_law_1266 rfl ?_
  refine Ex_iadd dL_law_1267 rfl ?_
  refine Ex_scr dL_law_1268 rfl ha (by omega) ?_
  refine Ex_inv 2 dL_law_1269 rfl rfl (Or.inl rfl) rfl rfl rfl rfl hx0 rfl rfl rfl (Ex_post (pr_row (d := d) hB I (sv_r hx _) (sv_r hx _) (sv_r hx _)) ?_)
  rintro r1 h1 ⟨a, rfl, gw1, ⟨fs, hm1⟩, k2⟩
  have ha1 := gw1.2 _ _ hsc ha
  refine Ex_aload_n dL_law_1272 rfl rfl ?_
  refine Ex_aload_n dL_law_1273 rfl rfl ?_
  refine Ex_iload dL_law_1274 rfl rfl ?_
  refine Ex_iconst dL_law_1276 rfl ?_
  refine Ex_iadd dL_law_1277 rfl ?_
  refine Ex_scr dL_law_1278 rfl ha1 (by omega) ?_
  refine Ex_aload_n dL_law_1279 rfl rfl ?_
  refine Ex_iload dL_law_1280 rfl rfl ?_
  refine Ex_iconst dL_law_1282 rfl ?_
  refine Ex_iadd dL_law_1283 rfl ?_
  refine Ex_scr dL_law_1284 rfl ha1 (by omega) ?_
  refine Ex_aload_n dL_law_1285 rfl rfl ?_
  refine Ex_iload dL_law_1286 rfl rfl ?_
  refine Ex_iconst dL_law_1288 rfl ?_
  refine Ex_iadd dL_law_1289 rfl ?_
  refine Ex_scr dL_law_1290 rfl ha1 (by omega) ?_
  refine Ex_inv 2 dL_law_1291 rfl rfl (Or.inl rfl) rfl rfl rfl rfl hm1 rfl rfl rfl (Ex_post k2 ?_)
  rintro r2 h2 ⟨rfl, I2, gw2⟩
  refine Ex_icmp_same (t := 1538) dL_law_1294 rfl ?_
  exact kont h2 _ _ _ I2 ((gw1.trans gw2).wide (by omega) (by omega))
theorem lw_put {E : am_E} {d x sc i : Nat} {h : Hp} {xs : List Int} {Q : Option Value → Hp → Prop} {v5 v6 v7 : Value} (hB : E.2 ≤ x) (hx : ∀ z ∈ xs, -2147483648 ≤ z ∧ z ≤ 2147483647) (hl : i + 6 ≤ xs.length) (hl2 : xs.length ≤ 100000) (ha : h.1 sc = some (20, ia xs)) (hsc : sc < x) (I : IN h x) (kont : ∀ (h2 : Hp) (w5 w6 w7 : Value), IN h2 x → GW h h2 x 400 3200 → Ex E (d + 21) mL_law 1538 [.ref sc, .ref x, .ref (x + 57), .ref (x + 80), .int (i32 (i : Int)), w5, w6, w7] [] h2 Q) : Ex E (d + 21) mL_law 1299 [.ref sc, .ref x, .ref (x + 57), .ref (x + 80), .int (i32 (i : Int)), v5, v6, v7] [] h Q := by
  obtain ⟨bs, hx0⟩ := IN.x0 I
  refine Ex_aload_n dL_law_1299 rfl rfl ?_
  refine Ex_aload_n dL_law_1300 rfl rfl ?_
  refine Ex_iload dL_law_1301 rfl rfl ?_
  refine Ex_iconst dL_law_1303 rfl ?_
  refine Ex_iadd dL_law_1304 rfl ?_
  refine Ex_scr dL_law_1305 rfl ha (by omega) ?_
  refine Ex_aload_n dL_law_1306 rfl rfl ?_
  refine Ex_iload dL_law_1307 rfl rfl ?_
  refine Ex_iconst dL_law_1309 rfl ?_
  refine Ex_iadd dL_law_1310 rfl ?_
  refine Ex_scr dL_law_1311 rfl ha (by omega) ?_
  refine Ex_aload_n dL_law_1312 rfl rfl ?_
  refine Ex_iload dL_law_1313 rfl rfl ?_
  refine Ex_iconst dL_law_1315 rfl ?_
  refine Ex_iadd dL_law_1316 rfl ?_
  refine Ex_scr dL_law_1317 rfl ha (by omega) ?_
  refine Ex_inv 2 dL_law_1318 rfl rfl (Or.inl rfl) rfl rfl rfl rfl hx0 rfl rfl rfl (Ex_post (pr_put (d := d) hB I (sv_r hx _) (sv_r hx _) (sv_r hx _)) ?_)
  rintro r1 h1 ⟨a, rfl, gw1, ⟨fs, hm1⟩, k2⟩
  have ha1 := gw1.2 _ _ hsc ha
  refine Ex_aload_n dL_law_1321 rfl rfl ?_
  refine Ex_aload_n dL_law_1322 rfl rfl ?_
  refine Ex_iload dL_law_1323 rfl rfl ?_
  refine Ex_iconst dL_law_1325 rfl ?_
  refine Ex_iadd dL_law_1326 rfl ?_
  refine Ex_scr dL_law_1327 rfl ha1 (by omega) ?_
  refine Ex_aload_n dL_law_1328 rfl rfl ?_
  refine Ex_iload dL_law_1329 rfl rfl ?_
  refine Ex_iconst dL_law_1331 rfl ?_
  refine Ex_iadd dL_law_1332 rfl ?_
  refine Ex_scr dL_law_1333 rfl ha1 (by omega) ?_
  refine Ex_aload_n dL_law_1334 rfl rfl ?_
  refine Ex_iload dL_law_1335 rfl rfl ?_
  refine Ex_iconst dL_law_1337 rfl ?_
  refine Ex_iadd dL_law_1338 rfl ?_
  refine Ex_scr dL_law_1339 rfl ha1 (by omega) ?_
  refine Ex_inv 2 dL_law_1340 rfl rfl (Or.inl rfl) rfl rfl rfl rfl hm1 rfl rfl rfl (Ex_post k2 ?_)
  rintro r2 h2 ⟨rfl, I2, gw2⟩
  refine Ex_icmp_same (t := 1538) dL_law_1343 rfl ?_
  exact kont h2 _ _ _ I2 ((gw1.trans gw2).wide (by omega) (by omega))
theorem lw_copy {E : am_E} {d x sc i : Nat} {h : Hp} {xs : List Int} {Q : Option Value → Hp → Prop} {v5 v6 v7 : Value} (hB : E.2 ≤ x) (hx : ∀ z ∈ xs, -2147483648 ≤ z ∧ z ≤ 2147483647) (hl : i + 6 ≤ xs.length) (hl2 : xs.length ≤ 100000) (ha : h.1 sc = some (20, ia xs)) (hsc : sc < x) (I : IN h x) (kont : ∀ (h2 : Hp) (w5 w6 w7 : Value), IN h2 x → GW h h2 x 400 3200 → Ex E (d + 21) mL_law 1538 [.ref sc, .ref x, .ref (x + 57), .ref (x + 80), .int (i32 (i : Int)), w5, w6, w7] [] h2 Q) : Ex E (d + 21) mL_law 1415 [.ref sc, .ref x, .ref (x + 57), .ref (x + 80), .int (i32 (i : Int)), v5, v6, v7] [] h Q := by
  obtain ⟨bs, hx0⟩ := IN.x0 I
  refine Ex_aload_n dL_law_1415 rfl rfl ?_
  refine Ex_aload_n dL_law_1416 rfl rfl ?_
  refine Ex_iload dL_law_1417 rfl rfl ?_
  refine Ex_iconst dL_law_1419 rfl ?_
  refine Ex_iadd dL_law_1420 rfl ?_
  refine Ex_scr dL_law_1421 rfl ha (by omega) ?_
  refine Ex_aload_n dL_law_1422 rfl rfl ?_
  refine Ex_iload dL_law_1423 rfl rfl ?_
  refine Ex_iconst dL_law_1425 rfl ?_
  refine Ex_iadd dL_law_1426 rfl ?_
  refine Ex_scr dL_law_1427 rfl ha (by omega) ?_
  refine Ex_aload_n dL_law_1428 rfl rfl ?_
  refine Ex_iload dL_law_1429 rfl rfl ?_
  refine Ex_iconst dL_law_1431 rfl ?_
  refine Ex_iadd dL_law_1432 rfl ?_
  refine Ex_scr dL_law_1433 rfl ha (by omega) ?_
  refine Ex_aload_n dL_law_1434 rfl rfl ?_
  refine Ex_iload dL_law_1435 rfl rfl ?_
  refine Ex_iconst dL_law_1437 rfl ?_
  refine Ex_iadd dL_law_1438 rfl ?_
  refine Ex_scr dL_law_1439 rfl ha (by omega) ?_
  refine Ex_aload_n dL_law_1440 rfl rfl ?_
  refine Ex_iload dL_law_1441 rfl rfl ?_
  refine Ex_iconst dL_law_1443 rfl ?_
  refine Ex_iadd dL_law_1444 rfl ?_
  refine Ex_scr dL_law_1445 rfl ha (by omega) ?_
  refine Ex_inv 2 dL_law_1446 rfl rfl (Or.inl rfl) rfl rfl rfl rfl hx0 rfl rfl rfl (Ex_post (pr_copy (d := d) hB I (sv_r hx _) (sv_r hx _) (sv_r hx _) (sv_r hx _) (sv_r hx _)) ?_)
  rintro r1 h1 ⟨a, rfl, gw1, ⟨fs, hm1⟩, k2⟩
  have ha1 := gw1.2 _ _ hsc ha
  refine Ex_aload_n dL_law_1449 rfl rfl ?_
  refine Ex_aload_n dL_law_1450 rfl rfl ?_
  refine Ex_iload dL_law_1451 rfl rfl ?_
  refine Ex_iconst dL_law_1453 rfl ?_
  refine Ex_iadd dL_law_1454 rfl ?_
  refine Ex_scr dL_law_1455 rfl ha1 (by omega) ?_
  refine Ex_aload_n dL_law_1456 rfl rfl ?_
  refine Ex_iload dL_law_1457 rfl rfl ?_
  refine Ex_iconst dL_law_1459 rfl ?_
  refine Ex_iadd dL_law_1460 rfl ?_
  refine Ex_scr dL_law_1461 rfl ha1 (by omega) ?_
  refine Ex_aload_n dL_law_1462 rfl rfl ?_
  refine Ex_iload dL_law_1463 rfl rfl ?_
  refine Ex_iconst dL_law_1465 rfl ?_
  refine Ex_iadd dL_law_1466 rfl ?_
  refine Ex_scr dL_law_1467 rfl ha1 (by omega) ?_
  refine Ex_aload_n dL_law_1468 rfl rfl ?_
  refine Ex_iload dL_law_1469 rfl rfl ?_
  refine Ex_iconst dL_law_1471 rfl ?_
  refine Ex_iadd dL_law_1472 rfl ?_
  refine Ex_scr dL_law_1473 rfl ha1 (by omega) ?_
  refine Ex_aload_n dL_law_1474 rfl rfl ?_
  refine Ex_iload dL_law_1475 rfl rfl ?_
  refine Ex_iconst dL_law_1477 rfl ?_
  refine Ex_iadd dL_law_1478 rfl ?_
  refine Ex_scr dL_law_1479 rfl ha1 (by omega) ?_
  refine Ex_inv 2 dL_law_1480 rfl rfl (Or.inl rfl) rfl rfl rfl rfl hm1 rfl rfl rfl (Ex_post k2 ?_)
  rintro r2 h2 ⟨rfl, I2, gw2⟩
  refine Ex_icmp_same (t := 1538) dL_law_1483 rfl ?_
  exact kont h2 _ _ _ I2 ((gw1.trans gw2).wide (by omega) (by omega))
theorem lw_cost {E : am_E} {d x sc i : Nat} {h : Hp} {xs : List Int} {Q : Option Value → Hp → Prop} {v5 v6 v7 : Value} (hB : E.2 ≤ x) (hx : ∀ z ∈ xs, -2147483648 ≤ z ∧ z ≤ 2147483647) (hl : i + 6 ≤ xs.length) (hl2 : xs.length ≤ 100000) (ha : h.1 sc = some (20, ia xs)) (hsc : sc < x) (I : IN h x) (kont : ∀ (h2 : Hp) (w5 w6 w7 : Value), IN h2 x → GW h h2 x 400 3200 → Ex E (d + 21) mL_law 1538 [.ref sc, .ref x, .ref (x + 57), .ref (x + 80), .int (i32 (i : Int)), w5, w6, w7] [] h2 Q) : Ex E (d + 21) mL_law 1488 [.ref sc, .ref x, .ref (x + 57), .ref (x + 80), .int (i32 (i : Int)), v5, v6, v7] [] h Q := by
  obtain ⟨bs, hx0⟩ := IN.x0 I
  refine Ex_aload_n dL_law_1488 rfl rfl ?_
  refine Ex_aload_n dL_law_1489 rfl rfl ?_
  refine Ex_iload dL_law_1490 rfl rfl ?_
  refine Ex_iconst dL_law_1492 rfl ?_
  refine Ex_iadd dL_law_1493 rfl ?_
  refine Ex_scr dL_law_1494 rfl ha (by omega) ?_
  refine Ex_inv 2 dL_law_1495 rfl rfl (Or.inl rfl) rfl rfl rfl rfl hx0 rfl rfl rfl (Ex_post (pr_cost (d := d) hB I (sv_r hx _)) ?_)
  rintro r1 h1 ⟨a, rfl, gw1, ⟨fs, hm1⟩, k2⟩
  have ha1 := gw1.2 _ _ hsc ha
  refine Ex_aload_n dL_law_1498 rfl rfl ?_
  refine Ex_aload_n dL_law_1499 rfl rfl ?_
  refine Ex_iload dL_law_1500 rfl rfl ?_
  refine Ex_iconst dL_law_1502 rfl ?_
  refine Ex_iadd dL_law_1503 rfl ?_
  refine Ex_scr dL_law_1504 rfl ha1 (by omega) ?_
  refine Ex_inv 2 dL_law_1505 rfl rfl (Or.inl rfl) rfl rfl rfl rfl hm1 rfl rfl rfl (Ex_post k2 ?_)
  rintro r2 h2 ⟨rfl, I2, gw2⟩
  refine Ex_icmp_same (t := 1538) dL_law_1508 rfl ?_
  exact kont h2 _ _ _ I2 ((gw1.trans gw2).wide (by omega) (by omega))
