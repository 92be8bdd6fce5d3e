/-! ===== the law: its cases (printed by wip/whole/law.py) ===== -/
section LC
variable {b L : Nat} {xs : Nat → Int32} {X : gaX} {nm : String} {c d n e cp : Nat} {i : Int} {M : gaM}
set_option maxRecDepth 20000 in
theorem lc_place (Z : ga_Z (lT b L xs) X cL_law RL 1000 nm c d (gk n e cp)) (hj : gj n e cp) (hI : Inv n M) (hi : 0 ≤ i ∧ i + 7 ≤ (L : Int)) (hL : L ≤ 3584) (kk : lK b L xs nm i c d) : ga_W X M 144 (lvL i) [] := by
  obtain ⟨r, Mc, Mm, h1, h2, h3⟩ := e_place (G := 5000) (Nat.le_refl 5000) hI (sv_ok (xs := xs) (i := i + 1))
  refine ga_al1 Z.C eL_law_144 ?_
  refine ga_al0 Z.C eL_law_145 ?_
  refine ga_il3 Z.C eL_law_146 ?_
  refine ga_push Z.C eL_law_147 ?_
  refine ga_iadd Z.C eL_law_148 ?_
  refine z_sld Z eL_law_149 ⟨by omega, by omega⟩ hL ?_
  refine ga_callV (ci := 5) (id := 0) (rest := []) [.inl (sv xs (i + 1))] Z.C Z.K eL_law_150 nRL_13 mX5_place vX5_place rfl (t_X5_place hj.1 h1) (by decide) rfl rfl (Nat.le_of_ble_eq_true rfl) ?_
  refine ga_al2 Z.C eL_law_153 ?_
  refine ga_al0 Z.C eL_law_154 ?_
  refine ga_il3 Z.C eL_law_155 ?_
  refine ga_push Z.C eL_law_156 ?_
  refine ga_iadd Z.C eL_law_157 ?_
  refine z_sld Z eL_law_158 ⟨by omega, by omega⟩ hL ?_
  refine ga_callV (ci := 6) (id := 100) (rest := [.inl r]) [.inl (sv xs (i + 1))] Z.C Z.K eL_law_159 nRL_17 mX6_place vX6_place rfl (t_X6_place hj.1 h2) (by decide) rfl rfl (Nat.le_of_ble_eq_true rfl) ?_
  refine ga_icmp_eqS Z.C eL_law_162 ?_
  exact kk X n e cp c d Mm Z hj h3 (by omega) (by omega)
set_option maxRecDepth 20000 in
theorem lc_fare (Z : ga_Z (lT b L xs) X cL_law RL 1000 nm c d (gk n e cp)) (hj : gj n e cp) (hI : Inv n M) (hi : 0 ≤ i ∧ i + 7 ≤ (L : Int)) (hL : L ≤ 3584) (kk : lK b L xs nm i c d) : ga_W X M 167 (lvL i) [] := by
  obtain ⟨r, Mc, Mm, h1, h2, h3⟩ := e_fare (G := 5000) hI (sv_ok (xs := xs) (i := i + 1)) (sv_ok (xs := xs) (i := i + 2)) (sv_ok (xs := xs) (i := i + 3))
  refine ga_al1 Z.C eL_law_167 ?_
  refine ga_al0 Z.C eL_law_168 ?_
  refine ga_il3 Z.C eL_law_169 ?_
  refine ga_push Z.C eL_law_170 ?_
  refine ga_iadd Z.C eL_law_171 ?_
  refine z_sld Z eL_law_172 ⟨by omega, by omega⟩ hL ?_
  refine ga_al0 Z.C eL_law_173 ?_
  refine ga_il3 Z.C eL_law_174 ?_
  refine ga_push Z.C eL_law_175 ?_
  refine ga_iadd Z.C eL_law_176 ?_
  refine z_sld Z eL_law_177 ⟨by omega, by omega⟩ hL ?_
  refine ga_al0 Z.C eL_law_178 ?_
  refine ga_il3 Z.C eL_law_179 ?_
  refine ga_push Z.C eL_law_180 ?_
  refine ga_iadd Z.C eL_law_181 ?_
  refine z_sld Z eL_law_182 ⟨by omega, by omega⟩ hL ?_
  refine ga_callV (ci := 5) (id := 0) (rest := []) [.inl (sv xs (i + 1)), .inl (sv xs (i + 2)), .inl (sv xs (i + 3))] Z.C Z.K eL_law_183 nRL_18 mX5_fare vX5_fare rfl (t_X5_fare hj.1 h1) (by decide) rfl rfl (Nat.le_of_ble_eq_true rfl) ?_
  refine ga_al2 Z.C eL_law_186 ?_
  refine ga_al0 Z.C eL_law_187 ?_
  refine ga_il3 Z.C eL_law_188 ?_
  refine ga_push Z.C eL_law_189 ?_
  refine ga_iadd Z.C eL_law_190 ?_
  refine z_sld Z eL_law_191 ⟨by omega, by omega⟩ hL ?_
  refine ga_al0 Z.C eL_law_192 ?_
  refine ga_il3 Z.C eL_law_193 ?_
  refine ga_push Z.C eL_law_194 ?_
  refine ga_iadd Z.C eL_law_195 ?_
  refine z_sld Z eL_law_196 ⟨by omega, by omega⟩ hL ?_
  refine ga_al0 Z.C eL_law_197 ?_
  refine ga_il3 Z.C eL_law_198 ?_
  refine ga_push Z.C eL_law_199 ?_
  refine ga_iadd Z.C eL_law_200 ?_
  refine z_sld Z eL_law_201 ⟨by omega, by omega⟩ hL ?_
  refine ga_callV (ci := 6) (id := 100) (rest := [.inl r]) [.inl (sv xs (i + 1)), .inl (sv xs (i + 2)), .inl (sv xs (i + 3))] Z.C Z.K eL_law_202 nRL_22 mX6_fare vX6_fare rfl (t_X6_fare hj.1 h2) (by decide) rfl rfl (Nat.le_of_ble_eq_true rfl) ?_
  refine ga_icmp_eqS Z.C eL_law_205 ?_
  exact kk X n e cp c d Mm Z hj h3 (by omega) (by omega)
set_option maxRecDepth 20000 in
theorem lc_green (Z : ga_Z (lT b L xs) X cL_law RL 1000 nm c d (gk n e cp)) (hj : gj n e cp) (hI : Inv n M) (hi : 0 ≤ i ∧ i + 7 ≤ (L : Int)) (hL : L ≤ 3584) (kk : lK b L xs nm i c d) : ga_W X M 210 (lvL i) [] := by
  obtain ⟨r, Mc, Mm, h1, h2, h3⟩ := e_green (G := 5000) (Nat.le_refl 5000) hI (sv_ok (xs := xs) (i := i + 1)) (sv_ok (xs := xs) (i := i + 2)) (sv_ok (xs := xs) (i := i + 3)) (sv_ok (xs := xs) (i := i + 4))
  refine ga_al1 Z.C eL_law_210 ?_
  refine ga_al0 Z.C eL_law_211 ?_
  refine ga_il3 Z.C eL_law_212 ?_
  refine ga_push Z.C eL_law_213 ?_
  refine ga_iadd Z.C eL_law_214 ?_
  refine z_sld Z eL_law_215 ⟨by omega, by omega⟩ hL ?_
  refine ga_al0 Z.C eL_law_216 ?_
  refine ga_il3 Z.C eL_law_217 ?_
  refine ga_push Z.C eL_law_218 ?_
  refine ga_iadd Z.C eL_law_219 ?_
  refine z_sld Z eL_law_220 ⟨by omega, by omega⟩ hL ?_
  refine ga_al0 Z.C eL_law_221 ?_
  refine ga_il3 Z.C eL_law_222 ?_
  refine ga_push Z.C eL_law_223 ?_
  refine ga_iadd Z.C eL_law_224 ?_
  refine z_sld Z eL_law_225 ⟨by omega, by omega⟩ hL ?_
  refine ga_al0 Z.C eL_law_226 ?_
  refine ga_il3 Z.C eL_law_227 ?_
  refine ga_push Z.C eL_law_228 ?_
  refine ga_iadd Z.C eL_law_229 ?_
  refine z_sld Z eL_law_230 ⟨by omega, by omega⟩ hL ?_
  refine ga_callV (ci := 5) (id := 0) (rest := []) [.inl (sv xs (i + 1)), .inl (sv xs (i + 2)), .inl (sv xs (i + 3)), .inl (sv xs (i + 4))] Z.C Z.K eL_law_231 nRL_23 mX5_green vX5_green rfl (t_X5_green hj.1 h1) (by decide) rfl rfl (Nat.le_of_ble_eq_true rfl) ?_
  refine ga_al2 Z.C eL_law_234 ?_
  refine ga_al0 Z.C eL_law_235 ?_
  refine ga_il3 Z.C eL_law_236 ?_
  refine ga_push Z.C eL_law_237 ?_
  refine ga_iadd Z.C eL_law_238 ?_
  refine z_sld Z eL_law_239 ⟨by omega, by omega⟩ hL ?_
  refine ga_al0 Z.C eL_law_240 ?_
  refine ga_il3 Z.C eL_law_241 ?_
  refine ga_push Z.C eL_law_242 ?_
  refine ga_iadd Z.C eL_law_243 ?_
  refine z_sld Z eL_law_244 ⟨by omega, by omega⟩ hL ?_
  refine ga_al0 Z.C eL_law_245 ?_
  refine ga_il3 Z.C eL_law_246 ?_
  refine ga_push Z.C eL_law_247 ?_
  refine ga_iadd Z.C eL_law_248 ?_
  refine z_sld Z eL_law_249 ⟨by omega, by omega⟩ hL ?_
  refine ga_al0 Z.C eL_law_250 ?_
  refine ga_il3 Z.C eL_law_251 ?_
  refine ga_push Z.C eL_law_252 ?_
  refine ga_iadd Z.C eL_law_253 ?_
  refine z_sld Z eL_law_254 ⟨by omega, by omega⟩ hL ?_
  refine ga_callV (ci := 6) (id := 100) (rest := [.inl r]) [.inl (sv xs (i + 1)), .inl (sv xs (i + 2)), .inl (sv xs (i + 3)), .inl (sv xs (i + 4))] Z.C Z.K eL_law_255 nRL_27 mX6_green vX6_green rfl (t_X6_green hj.1 h2) (by decide) rfl rfl (Nat.le_of_ble_eq_true rfl) ?_
  refine ga_icmp_eqS Z.C eL_law_258 ?_
  exact kk X n e cp c d Mm Z hj h3 (by omega) (by omega)
set_option maxRecDepth 20000 in
theorem lc_told (Z : ga_Z (lT b L xs) X cL_law RL 1000 nm c d (gk n e cp)) (hj : gj n e cp) (hI : Inv n M) (hi : 0 ≤ i ∧ i + 7 ≤ (L : Int)) (hL : L ≤ 3584) (kk : lK b L xs nm i c d) : ga_W X M 263 (lvL i) [] := by
  obtain ⟨r, Mm, h1, h2, h3⟩ := e_told (G := 5000) hI (sv_ok (xs := xs) (i := i + 1)) (sv_ok (xs := xs) (i := i + 2))
  refine ga_al1 Z.C eL_law_263 ?_
  refine ga_al0 Z.C eL_law_264 ?_
  refine ga_il3 Z.C eL_law_265 ?_
  refine ga_push Z.C eL_law_266 ?_
  refine ga_iadd Z.C eL_law_267 ?_
  refine z_sld Z eL_law_268 ⟨by omega, by omega⟩ hL ?_
  refine ga_al0 Z.C eL_law_269 ?_
  refine ga_il3 Z.C eL_law_270 ?_
  refine ga_push Z.C eL_law_271 ?_
  refine ga_iadd Z.C eL_law_272 ?_
  refine z_sld Z eL_law_273 ⟨by omega, by omega⟩ hL ?_
  refine ga_callV (ci := 5) (id := 0) (rest := []) [.inl (sv xs (i + 1)), .inl (sv xs (i + 2))] Z.C Z.K eL_law_274 nRL_28 mX5_told vX5_told rfl (t_X5_told hj.1 h1) (by decide) rfl rfl (Nat.le_of_ble_eq_true rfl) ?_
  refine ga_al2 Z.C eL_law_277 ?_
  refine ga_al0 Z.C eL_law_278 ?_
  refine ga_il3 Z.C eL_law_279 ?_
  refine ga_push Z.C eL_law_280 ?_
  refine ga_iadd Z.C eL_law_281 ?_
  refine z_sld Z eL_law_282 ⟨by omega, by omega⟩ hL ?_
  refine ga_al0 Z.C eL_law_283 ?_
  refine ga_il3 Z.C eL_law_284 ?_
  refine ga_push Z.C eL_law_285 ?_
  refine ga_iadd Z.C eL_law_286 ?_
  refine z_sld Z eL_law_287 ⟨by omega, by omega⟩ hL ?_
  refine ga_callV (ci := 6) (id := 100) (rest := [.inl r]) [.inl (sv xs (i + 1)), .inl (sv xs (i + 2))] Z.C Z.K eL_law_288 nRL_32 mX6_told vX6_told rfl (t_X6_told hj.1 h2) (by decide) rfl rfl (Nat.le_of_ble_eq_true rfl) ?_
  refine ga_icmp_eqS Z.C eL_law_291 ?_
  exact kk X n e cp c d Mm Z hj h3 (by omega) (by omega)
set_option maxRecDepth 20000 in
theorem lc_patience (Z : ga_Z (lT b L xs) X cL_law RL 1000 nm c d (gk n e cp)) (hj : gj n e cp) (hI : Inv n M) (hi : 0 ≤ i ∧ i + 7 ≤ (L : Int)) (hL : L ≤ 3584) (kk : lK b L xs nm i c d) : ga_W X M 296 (lvL i) [] := by
  obtain ⟨r, Mc, Mm, h1, h2, h3⟩ := e_patience (G := 5000) hI (sv_ok (xs := xs) (i := i + 1))
  refine ga_al1 Z.C eL_law_296 ?_
  refine ga_al0 Z.C eL_law_297 ?_
  refine ga_il3 Z.C eL_law_298 ?_
  refine ga_push Z.C eL_law_299 ?_
  refine ga_iadd Z.C eL_law_300 ?_
  refine z_sld Z eL_law_301 ⟨by omega, by omega⟩ hL ?_
  refine ga_callV (ci := 5) (id := 0) (rest := []) [.inl (sv xs (i + 1))] Z.C Z.K eL_law_302 nRL_33 mX5_patience vX5_patience rfl (t_X5_patience hj.1 h1) (by decide) rfl rfl (Nat.le_of_ble_eq_true rfl) ?_
  refine ga_al2 Z.C eL_law_305 ?_
  refine ga_al0 Z.C eL_law_306 ?_
  refine ga_il3 Z.C eL_law_307 ?_
  refine ga_push Z.C eL_law_308 ?_
  refine ga_iadd Z.C eL_law_309 ?_
  refine z_sld Z eL_law_310 ⟨by omega, by omega⟩ hL ?_
  refine ga_callV (ci := 6) (id := 100) (rest := [.inl r]) [.inl (sv xs (i + 1))] Z.C Z.K eL_law_311 nRL_37 mX6_patience vX6_patience rfl (t_X6_patience hj.1 h2) (by decide) rfl rfl (Nat.le_of_ble_eq_true rfl) ?_
  refine ga_icmp_eqS Z.C eL_law_314 ?_
  exact kk X n e cp c d Mm Z hj h3 (by omega) (by omega)
set_option maxRecDepth 20000 in
theorem lc_job (Z : ga_Z (lT b L xs) X cL_law RL 1000 nm c d (gk n e cp)) (hj : gj n e cp) (hI : Inv n M) (hi : 0 ≤ i ∧ i + 7 ≤ (L : Int)) (hL : L ≤ 3584) (hc : 2 ≤ c) (hd : 100 ≤ d) (kk : lK b L xs nm i c d) : ga_W X M 319 (lvL i) [] := by
  obtain ⟨t, h1, ht, hn0, h0⟩ := e_job (G := 5000) hI (sv_ok (xs := xs) (i := i + 1)) (sv_ok (xs := xs) (i := i + 2)) (sv_ok (xs := xs) (i := i + 3)) (sv_ok (xs := xs) (i := i + 4)) (sv_ok (xs := xs) (i := i + 5)) (sv_ok (xs := xs) (i := i + 6))
  refine ga_al1 Z.C eL_law_319 ?_
  refine ga_al0 Z.C eL_law_320 ?_
  refine ga_il3 Z.C eL_law_321 ?_
  refine ga_push Z.C eL_law_322 ?_
  refine ga_iadd Z.C eL_law_323 ?_
  refine z_sld Z eL_law_324 ⟨by omega, by omega⟩ hL ?_
  refine ga_al0 Z.C eL_law_325 ?_
  refine ga_il3 Z.C eL_law_326 ?_
  refine ga_push Z.C eL_law_327 ?_
  refine ga_iadd Z.C eL_law_328 ?_
  refine z_sld Z eL_law_329 ⟨by omega, by omega⟩ hL ?_
  refine ga_al0 Z.C eL_law_330 ?_
  refine ga_il3 Z.C eL_law_331 ?_
  refine ga_push Z.C eL_law_332 ?_
  refine ga_iadd Z.C eL_law_333 ?_
  refine z_sld Z eL_law_334 ⟨by omega, by omega⟩ hL ?_
  refine ga_al0 Z.C eL_law_335 ?_
  refine ga_il3 Z.C eL_law_336 ?_
  refine ga_push Z.C eL_law_337 ?_
  refine ga_iadd Z.C eL_law_338 ?_
  refine z_sld Z eL_law_339 ⟨by omega, by omega⟩ hL ?_
  refine ga_al0 Z.C eL_law_340 ?_
  refine ga_il3 Z.C eL_law_341 ?_
  refine ga_push Z.C eL_law_342 ?_
  refine ga_iadd Z.C eL_law_343 ?_
  refine z_sld Z eL_law_344 ⟨by omega, by omega⟩ hL ?_
  refine ga_al0 Z.C eL_law_345 ?_
  refine ga_il3 Z.C eL_law_346 ?_
  refine ga_push Z.C eL_law_347 ?_
  refine ga_iadd Z.C eL_law_349 ?_
  refine z_sld Z eL_law_350 ⟨by omega, by omega⟩ hL ?_
  by_cases hz : t = 0
  · obtain ⟨hn, hm⟩ := h0 hz
    rw [hz] at h1
    obtain ⟨e', cp', mc, ms, K1, c0, hj', hmc, hms, hdom, hin, hM⟩ := t_job hj hn h1 hI.1.2.2.2.1
    obtain ⟨Mm, h2, h3⟩ := hm c0
    refine z_callV (ci := 5) (id := 0) (c := c - mc) (d := d - ms) (mc := mc) (ms := ms) (rest := []) [.inl (sv xs (i + 1)), .inl (sv xs (i + 2)), .inl (sv xs (i + 3)), .inl (sv xs (i + 4)), .inl (sv xs (i + 5)), .inl (sv xs (i + 6))] (by rw [Nat.sub_add_cancel (by omega), Nat.sub_add_cancel (by omega)]; exact Z) eL_law_351 nRL_38 mX5_job vX5_job rfl hM (by decide) rfl rfl (Nat.le_of_ble_eq_true rfl) hdom ⟨.inr (by decide), .inl (fun q => by cases q), .inl (fun q => by cases q), trivial⟩ trivial (fun X Z => ?_)
    refine z_sub Z hin (fun X Z => ?_)
    refine ga_al2 Z.C eL_law_354 ?_
    refine ga_al0 Z.C eL_law_355 ?_
    refine ga_il3 Z.C eL_law_356 ?_
    refine ga_push Z.C eL_law_357 ?_
    refine ga_iadd Z.C eL_law_358 ?_
    refine z_sld Z eL_law_359 ⟨by omega, by omega⟩ hL ?_
    refine ga_al0 Z.C eL_law_360 ?_
    refine ga_il3 Z.C eL_law_361 ?_
    refine ga_push Z.C eL_law_362 ?_
    refine ga_iadd Z.C eL_law_363 ?_
    refine z_sld Z eL_law_364 ⟨by omega, by omega⟩ hL ?_
    refine ga_al0 Z.C eL_law_365 ?_
    refine ga_il3 Z.C eL_law_366 ?_
    refine ga_push Z.C eL_law_367 ?_
    refine ga_iadd Z.C eL_law_368 ?_
    refine z_sld Z eL_law_369 ⟨by omega, by omega⟩ hL ?_
    refine ga_al0 Z.C eL_law_370 ?_
    refine ga_il3 Z.C eL_law_371 ?_
    refine ga_push Z.C eL_law_372 ?_
    refine ga_iadd Z.C eL_law_373 ?_
    refine z_sld Z eL_law_374 ⟨by omega, by omega⟩ hL ?_
    refine ga_al0 Z.C eL_law_375 ?_
    refine ga_il3 Z.C eL_law_376 ?_
    refine ga_push Z.C eL_law_377 ?_
    refine ga_iadd Z.C eL_law_378 ?_
    refine z_sld Z eL_law_379 ⟨by omega, by omega⟩ hL ?_
    refine ga_al0 Z.C eL_law_380 ?_
    refine ga_il3 Z.C eL_law_381 ?_
    refine ga_push Z.C eL_law_382 ?_
    refine ga_iadd Z.C eL_law_384 ?_
    refine z_sld Z eL_law_385 ⟨by omega, by omega⟩ hL ?_
    refine ga_callV (ci := 6) (id := 100) (rest := [.inl (n : Int)]) [.inl (sv xs (i + 1)), .inl (sv xs (i + 2)), .inl (sv xs (i + 3)), .inl (sv xs (i + 4)), .inl (sv xs (i + 5)), .inl (sv xs (i + 6))] Z.C Z.K eL_law_386 nRL_42 mX6_job vX6_job rfl (t_X6_job hj'.1 h2) (by decide) rfl rfl (Nat.le_of_ble_eq_true rfl) ?_
    refine ga_icmp_eqS Z.C eL_law_389 ?_
    exact kk X (n + 1) e' cp' (c - mc) (d - ms) Mm Z hj' h3 (by omega) (by omega)
  · obtain ⟨Mm, h2, h3⟩ := hn0 hz
    refine z_callV (ci := 5) (id := 0) (c := c) (d := d) (mc := 0) (ms := 0) (rest := []) [.inl (sv xs (i + 1)), .inl (sv xs (i + 2)), .inl (sv xs (i + 3)), .inl (sv xs (i + 4)), .inl (sv xs (i + 5)), .inl (sv xs (i + 6))] Z eL_law_351 nRL_38 mX5_job vX5_job rfl (t_jobN hj.1 h1 hz ⟨by omega, by omega⟩) (by decide) rfl rfl (Nat.le_of_ble_eq_true rfl) (fun _ h => h) ⟨.inr (by decide), .inl (fun q => by cases q), .inl (fun q => by cases q), trivial⟩ trivial (fun X Z => ?_)
    refine ga_al2 Z.C eL_law_354 ?_
    refine ga_al0 Z.C eL_law_355 ?_
    refine ga_il3 Z.C eL_law_356 ?_
    refine ga_push Z.C eL_law_357 ?_
    refine ga_iadd Z.C eL_law_358 ?_
    refine z_sld Z eL_law_359 ⟨by omega, by omega⟩ hL ?_
    refine ga_al0 Z.C eL_law_360 ?_
    refine ga_il3 Z.C eL_law_361 ?_
    refine ga_push Z.C eL_law_362 ?_
    refine ga_iadd Z.C eL_law_363 ?_
    refine z_sld Z eL_law_364 ⟨by omega, by omega⟩ hL ?_
    refine ga_al0 Z.C eL_law_365 ?_
    refine ga_il3 Z.C eL_law_366 ?_
    refine ga_push Z.C eL_law_367 ?_
    refine ga_iadd Z.C eL_law_368 ?_
    refine z_sld Z eL_law_369 ⟨by omega, by omega⟩ hL ?_
    refine ga_al0 Z.C eL_law_370 ?_
    refine ga_il3 Z.C eL_law_371 ?_
    refine ga_push Z.C eL_law_372 ?_
    refine ga_iadd Z.C eL_law_373 ?_
    refine z_sld Z eL_law_374 ⟨by omega, by omega⟩ hL ?_
    refine ga_al0 Z.C eL_law_375 ?_
    refine ga_il3 Z.C eL_law_376 ?_
    refine ga_push Z.C eL_law_377 ?_
    refine ga_iadd Z.C eL_law_378 ?_
    refine z_sld Z eL_law_379 ⟨by omega, by omega⟩ hL ?_
    refine ga_al0 Z.C eL_law_380 ?_
    refine ga_il3 Z.C eL_law_381 ?_
    refine ga_push Z.C eL_law_382 ?_
    refine ga_iadd Z.C eL_law_384 ?_
    refine z_sld Z eL_law_385 ⟨by omega, by omega⟩ hL ?_
    refine ga_callV (ci := 6) (id := 100) (rest := [.inl (-1)]) [.inl (sv xs (i + 1)), .inl (sv xs (i + 2)), .inl (sv xs (i + 3)), .inl (sv xs (i + 4)), .inl (sv xs (i + 5)), .inl (sv xs (i + 6))] Z.C Z.K eL_law_386 nRL_42 mX6_job vX6_job rfl (t_X6_job hj.1 h2) (by decide) rfl rfl (Nat.le_of_ble_eq_true rfl) ?_
    refine ga_icmp_eqS Z.C eL_law_389 ?_
    exact kk X n e cp c d Mm Z hj h3 (by omega) (by omega)
set_option maxRecDepth 20000 in
theorem lc_drop (Z : ga_Z (lT b L xs) X cL_law RL 1000 nm c d (gk n e cp)) (hj : gj n e cp) (hI : Inv n M) (hi : 0 ≤ i ∧ i + 7 ≤ (L : Int)) (hL : L ≤ 3584) (kk : lK b L xs nm i c d) : ga_W X M 394 (lvL i) [] := by
  obtain ⟨r, Mc, Mm, h1, h2, h3⟩ := e_drop (G := 5000) hI (sv_ok (xs := xs) (i := i + 1))
  refine ga_al1 Z.C eL_law_394 ?_
  refine ga_al0 Z.C eL_law_395 ?_
  refine ga_il3 Z.C eL_law_396 ?_
  refine ga_push Z.C eL_law_397 ?_
  refine ga_iadd Z.C eL_law_398 ?_
  refine z_sld Z eL_law_399 ⟨by omega, by omega⟩ hL ?_
  refine ga_callV (ci := 5) (id := 0) (rest := []) [.inl (sv xs (i + 1))] Z.C Z.K eL_law_400 nRL_43 mX5_drop vX5_drop rfl (t_X5_drop hj.1 h1) (by decide) rfl rfl (Nat.le_of_ble_eq_true rfl) ?_
  refine ga_al2 Z.C eL_law_403 ?_
  refine ga_al0 Z.C eL_law_404 ?_
  refine ga_il3 Z.C eL_law_405 ?_
  refine ga_push Z.C eL_law_406 ?_
  refine ga_iadd Z.C eL_law_407 ?_
  refine z_sld Z eL_law_408 ⟨by omega, by omega⟩ hL ?_
  refine ga_callV (ci := 6) (id := 100) (rest := [.inl r]) [.inl (sv xs (i + 1))] Z.C Z.K eL_law_409 nRL_46 mX6_drop vX6_drop rfl (t_X6_drop hj.1 h2) (by decide) rfl rfl (Nat.le_of_ble_eq_true rfl) ?_
  refine ga_icmp_eqS Z.C eL_law_412 ?_
  exact kk X n e cp c d Mm Z hj h3 (by omega) (by omega)
set_option maxRecDepth 20000 in
theorem lc_about (Z : ga_Z (lT b L xs) X cL_law RL 1000 nm c d (gk n e cp)) (hj : gj n e cp) (hI : Inv n M) (hi : 0 ≤ i ∧ i + 7 ≤ (L : Int)) (hL : L ≤ 3584) (kk : lK b L xs nm i c d) : ga_W X M 417 (lvL i) [] := by
  obtain ⟨r, Mm, h1, h2, h3⟩ := e_about (G := 5000) hI (sv_ok (xs := xs) (i := i + 1)) (sv_ok (xs := xs) (i := i + 2))
  refine ga_al1 Z.C eL_law_417 ?_
  refine ga_al0 Z.C eL_law_418 ?_
  refine ga_il3 Z.C eL_law_419 ?_
  refine ga_push Z.C eL_law_420 ?_
  refine ga_iadd Z.C eL_law_421 ?_
  refine z_sld Z eL_law_422 ⟨by omega, by omega⟩ hL ?_
  refine ga_al0 Z.C eL_law_423 ?_
  refine ga_il3 Z.C eL_law_424 ?_
  refine ga_push Z.C eL_law_425 ?_
  refine ga_iadd Z.C eL_law_426 ?_
  refine z_sld Z eL_law_427 ⟨by omega, by omega⟩ hL ?_
  refine ga_callV (ci := 5) (id := 0) (rest := []) [.inl (sv xs (i + 1)), .inl (sv xs (i + 2))] Z.C Z.K eL_law_428 nRL_47 mX5_about vX5_about rfl (t_X5_about hj.1 h1) (by decide) rfl rfl (Nat.le_of_ble_eq_true rfl) ?_
  refine ga_al2 Z.C eL_law_431 ?_
  refine ga_al0 Z.C eL_law_432 ?_
  refine ga_il3 Z.C eL_law_433 ?_
  refine ga_push Z.C eL_law_434 ?_
  refine ga_iadd Z.C eL_law_435 ?_
  refine z_sld Z eL_law_436 ⟨by omega, by omega⟩ hL ?_
  refine ga_al0 Z.C eL_law_437 ?_
  refine ga_il3 Z.C eL_law_438 ?_
  refine ga_push Z.C eL_law_439 ?_
  refine ga_iadd Z.C eL_law_440 ?_
  refine z_sld Z eL_law_441 ⟨by omega, by omega⟩ hL ?_
  refine ga_callV (ci := 6) (id := 100) (rest := [.inl r]) [.inl (sv xs (i + 1)), .inl (sv xs (i + 2))] Z.C Z.K eL_law_442 nRL_50 mX6_about vX6_about rfl (t_X6_about hj.1 h2) (by decide) rfl rfl (Nat.le_of_ble_eq_true rfl) ?_
  refine ga_icmp_eqS Z.C eL_law_445 ?_
  exact kk X n e cp c d Mm Z hj h3 (by omega) (by omega)
set_option maxRecDepth 20000 in
theorem lc_lay (Z : ga_Z (lT b L xs) X cL_law RL 1000 nm c d (gk n e cp)) (hj : gj n e cp) (hI : Inv n M) (hi : 0 ≤ i ∧ i + 7 ≤ (L : Int)) (hL : L ≤ 3584) (kk : lK b L xs nm i c d) : ga_W X M 450 (lvL i) [] := by
  obtain ⟨r, Mc, Mm, h1, h2, h3⟩ := e_lay (G := 5000) (Nat.le_refl 5000) hI
  refine ga_al1 Z.C eL_law_450 ?_
  refine ga_callV (ci := 5) (id := 0) (rest := []) [] Z.C Z.K eL_law_451 nRL_51 mX5_lay vX5_lay rfl (t_X5_lay hj.1 h1) (by decide) rfl rfl (Nat.le_of_ble_eq_true rfl) ?_
  refine ga_al2 Z.C eL_law_454 ?_
  refine ga_callV (ci := 6) (id := 100) (rest := [.inl r]) [] Z.C Z.K eL_law_455 nRL_55 mX6_lay vX6_lay rfl (t_X6_lay hj.1 h2) (by decide) rfl rfl (Nat.le_of_ble_eq_true rfl) ?_
  refine ga_icmp_eqS Z.C eL_law_458 ?_
  exact kk X n e cp c d Mm Z hj h3 (by omega) (by omega)
set_option maxRecDepth 20000 in
theorem lc_laid (Z : ga_Z (lT b L xs) X cL_law RL 1000 nm c d (gk n e cp)) (hj : gj n e cp) (hI : Inv n M) (hi : 0 ≤ i ∧ i + 7 ≤ (L : Int)) (hL : L ≤ 3584) (kk : lK b L xs nm i c d) : ga_W X M 463 (lvL i) [] := by
  obtain ⟨r, Mm, h1, h2, h3⟩ := e_laid (G := 5000) hI (sv_ok (xs := xs) (i := i + 1)) (sv_ok (xs := xs) (i := i + 2))
  refine ga_al1 Z.C eL_law_463 ?_
  refine ga_al0 Z.C eL_law_464 ?_
  refine ga_il3 Z.C eL_law_465 ?_
  refine ga_push Z.C eL_law_466 ?_
  refine ga_iadd Z.C eL_law_467 ?_
  refine z_sld Z eL_law_468 ⟨by omega, by omega⟩ hL ?_
  refine ga_al0 Z.C eL_law_469 ?_
  refine ga_il3 Z.C eL_law_470 ?_
  refine ga_push Z.C eL_law_471 ?_
  refine ga_iadd Z.C eL_law_472 ?_
  refine z_sld Z eL_law_473 ⟨by omega, by omega⟩ hL ?_
  refine ga_callV (ci := 5) (id := 0) (rest := []) [.inl (sv xs (i + 1)), .inl (sv xs (i + 2))] Z.C Z.K eL_law_474 nRL_56 mX5_laid vX5_laid rfl (t_X5_laid hj.1 h1) (by decide) rfl rfl (Nat.le_of_ble_eq_true rfl) ?_
  refine ga_al2 Z.C eL_law_477 ?_
  refine ga_al0 Z.C eL_law_478 ?_
  refine ga_il3 Z.C eL_law_479 ?_
  refine ga_push Z.C eL_law_480 ?_
  refine ga_iadd Z.C eL_law_481 ?_
  refine z_sld Z eL_law_482 ⟨by omega, by omega⟩ hL ?_
  refine ga_al0 Z.C eL_law_483 ?_
  refine ga_il3 Z.C eL_law_484 ?_
  refine ga_push Z.C eL_law_485 ?_
  refine ga_iadd Z.C eL_law_486 ?_
  refine z_sld Z eL_law_487 ⟨by omega, by omega⟩ hL ?_
  refine ga_callV (ci := 6) (id := 100) (rest := [.inl r]) [.inl (sv xs (i + 1)), .inl (sv xs (i + 2))] Z.C Z.K eL_law_488 nRL_59 mX6_laid vX6_laid rfl (t_X6_laid hj.1 h2) (by decide) rfl rfl (Nat.le_of_ble_eq_true rfl) ?_
  refine ga_icmp_eqS Z.C eL_law_491 ?_
  exact kk X n e cp c d Mm Z hj h3 (by omega) (by omega)
set_option maxRecDepth 20000 in
theorem lc_cost (Z : ga_Z (lT b L xs) X cL_law RL 1000 nm c d (gk n e cp)) (hj : gj n e cp) (hI : Inv n M) (hi : 0 ≤ i ∧ i + 7 ≤ (L : Int)) (hL : L ≤ 3584) (kk : lK b L xs nm i c d) : ga_W X M 496 (lvL i) [] := by
  obtain ⟨r, Mm, h1, h2, h3⟩ := e_cost (G := 5000) (Nat.le_refl 5000) hI
  refine ga_al1 Z.C eL_law_496 ?_
  refine ga_callV (ci := 5) (id := 0) (rest := []) [] Z.C Z.K eL_law_497 nRL_60 mX5_cost vX5_cost rfl (t_X5_cost hj.1 h1) (by decide) rfl rfl (Nat.le_of_ble_eq_true rfl) ?_
  refine ga_al2 Z.C eL_law_500 ?_
  refine ga_callV (ci := 6) (id := 100) (rest := [.inl r]) [] Z.C Z.K eL_law_501 nRL_63 mX6_cost vX6_cost rfl (t_X6_cost hj.1 h2) (by decide) rfl rfl (Nat.le_of_ble_eq_true rfl) ?_
  refine ga_icmp_eqS Z.C eL_law_504 ?_
  exact kk X n e cp c d Mm Z hj h3 (by omega) (by omega)
set_option maxRecDepth 20000 in
theorem lc_best (Z : ga_Z (lT b L xs) X cL_law RL 1000 nm c d (gk n e cp)) (hj : gj n e cp) (hI : Inv n M) (hi : 0 ≤ i ∧ i + 7 ≤ (L : Int)) (hL : L ≤ 3584) (kk : lK b L xs nm i c d) : ga_W X M 509 (lvL i) [] := by
  obtain ⟨r, Mc, Mm, h1, h2, h3⟩ := e_best (G := 5000) (Nat.le_refl 5000) hI
  refine ga_al1 Z.C eL_law_509 ?_
  refine ga_callV (ci := 5) (id := 0) (rest := []) [] Z.C Z.K eL_law_510 nRL_64 mX5_best vX5_best rfl (t_X5_best hj.1 h1) (by decide) rfl rfl (Nat.le_of_ble_eq_true rfl) ?_
  refine ga_al2 Z.C eL_law_513 ?_
  refine ga_callV (ci := 6) (id := 100) (rest := [.inl r]) [] Z.C Z.K eL_law_514 nRL_67 mX6_best vX6_best rfl (t_X6_best hj.1 h2) (by decide) rfl rfl (Nat.le_of_ble_eq_true rfl) ?_
  refine ga_icmp_eqS Z.C eL_law_517 ?_
  exact kk X n e cp c d Mm Z hj h3 (by omega) (by omega)
set_option maxRecDepth 20000 in
theorem lc_free (Z : ga_Z (lT b L xs) X cL_law RL 1000 nm c d (gk n e cp)) (hj : gj n e cp) (hI : Inv n M) (hi : 0 ≤ i ∧ i + 7 ≤ (L : Int)) (hL : L ≤ 3584) (kk : lK b L xs nm i c d) : ga_W X M 522 (lvL i) [] := by
  obtain ⟨r, Mm, h1, h2, h3⟩ := e_free (G := 5000) (Nat.le_refl 5000) hI (sv_ok (xs := xs) (i := i + 1)) (sv_ok (xs := xs) (i := i + 2))
  refine ga_al1 Z.C eL_law_522 ?_
  refine ga_al0 Z.C eL_law_523 ?_
  refine ga_il3 Z.C eL_law_524 ?_
  refine ga_push Z.C eL_law_525 ?_
  refine ga_iadd Z.C eL_law_526 ?_
  refine z_sld Z eL_law_527 ⟨by omega, by omega⟩ hL ?_
  refine ga_al0 Z.C eL_law_528 ?_
  refine ga_il3 Z.C eL_law_529 ?_
  refine ga_push Z.C eL_law_530 ?_
  refine ga_iadd Z.C eL_law_531 ?_
  refine z_sld Z eL_law_532 ⟨by omega, by omega⟩ hL ?_
  refine ga_callV (ci := 5) (id := 0) (rest := []) [.inl (sv xs (i + 1)), .inl (sv xs (i + 2))] Z.C Z.K eL_law_533 nRL_68 mX5_free vX5_free rfl (t_X5_free hj.1 h1) (by decide) rfl rfl (Nat.le_of_ble_eq_true rfl) ?_
  refine ga_al2 Z.C eL_law_536 ?_
  refine ga_al0 Z.C eL_law_537 ?_
  refine ga_il3 Z.C eL_law_538 ?_
  refine ga_push Z.C eL_law_539 ?_
  refine ga_iadd Z.C eL_law_540 ?_
  refine z_sld Z eL_law_541 ⟨by omega, by omega⟩ hL ?_
  refine ga_al0 Z.C eL_law_542 ?_
  refine ga_il3 Z.C eL_law_543 ?_
  refine ga_push Z.C eL_law_544 ?_
  refine ga_iadd Z.C eL_law_545 ?_
  refine z_sld Z eL_law_546 ⟨by omega, by omega⟩ hL ?_
  refine ga_callV (ci := 6) (id := 100) (rest := [.inl r]) [.inl (sv xs (i + 1)), .inl (sv xs (i + 2))] Z.C Z.K eL_law_547 nRL_71 mX6_free vX6_free rfl (t_X6_free hj.1 h2) (by decide) rfl rfl (Nat.le_of_ble_eq_true rfl) ?_
  refine ga_icmp_eqS Z.C eL_law_550 ?_
  exact kk X n e cp c d Mm Z hj h3 (by omega) (by omega)
set_option maxRecDepth 20000 in
theorem lc_pass (Z : ga_Z (lT b L xs) X cL_law RL 1000 nm c d (gk n e cp)) (hj : gj n e cp) (hI : Inv n M) (hi : 0 ≤ i ∧ i + 7 ≤ (L : Int)) (hL : L ≤ 3584) (kk : lK b L xs nm i c d) : ga_W X M 555 (lvL i) [] := by
  obtain ⟨r, Mc, Mm, h1, h2, h3⟩ := e_pass (G := 5000) (Nat.le_refl 5000) hI (sv_ok (xs := xs) (i := i + 1))
  refine ga_al1 Z.C eL_law_555 ?_
  refine ga_al0 Z.C eL_law_556 ?_
  refine ga_il3 Z.C eL_law_557 ?_
  refine ga_push Z.C eL_law_558 ?_
  refine ga_iadd Z.C eL_law_559 ?_
  refine z_sld Z eL_law_560 ⟨by omega, by omega⟩ hL ?_
  refine ga_callV (ci := 5) (id := 0) (rest := []) [.inl (sv xs (i + 1))] Z.C Z.K eL_law_561 nRL_72 mX5_pass vX5_pass rfl (t_X5_pass hj.1 h1) (by decide) rfl rfl (Nat.le_of_ble_eq_true rfl) ?_
  refine ga_al2 Z.C eL_law_564 ?_
  refine ga_al0 Z.C eL_law_565 ?_
  refine ga_il3 Z.C eL_law_566 ?_
  refine ga_push Z.C eL_law_567 ?_
  refine ga_iadd Z.C eL_law_568 ?_
  refine z_sld Z eL_law_569 ⟨by omega, by omega⟩ hL ?_
  refine ga_callV (ci := 6) (id := 100) (rest := [.inl r]) [.inl (sv xs (i + 1))] Z.C Z.K eL_law_570 nRL_75 mX6_pass vX6_pass rfl (t_X6_pass hj.1 h2) (by decide) rfl rfl (Nat.le_of_ble_eq_true rfl) ?_
  refine ga_icmp_eqS Z.C eL_law_573 ?_
  exact kk X n e cp c d Mm Z hj h3 (by omega) (by omega)
set_option maxRecDepth 20000 in
theorem lc_delay (Z : ga_Z (lT b L xs) X cL_law RL 1000 nm c d (gk n e cp)) (hj : gj n e cp) (hI : Inv n M) (hi : 0 ≤ i ∧ i + 7 ≤ (L : Int)) (hL : L ≤ 3584) (kk : lK b L xs nm i c d) : ga_W X M 578 (lvL i) [] := by
  obtain ⟨r, Mm, h1, h2, h3⟩ := e_delay (G := 5000) (Nat.le_refl 5000) hI (sv_ok (xs := xs) (i := i + 1))
  refine ga_al1 Z.C eL_law_578 ?_
  refine ga_al0 Z.C eL_law_579 ?_
  refine ga_il3 Z.C eL_law_580 ?_
  refine ga_push Z.C eL_law_581 ?_
  refine ga_iadd Z.C eL_law_582 ?_
  refine z_sld Z eL_law_583 ⟨by omega, by omega⟩ hL ?_
  refine ga_callV (ci := 5) (id := 0) (rest := []) [.inl (sv xs (i + 1))] Z.C Z.K eL_law_584 nRL_76 mX5_delay vX5_delay rfl (t_X5_delay hj.1 h1) (by decide) rfl rfl (Nat.le_of_ble_eq_true rfl) ?_
  refine ga_al2 Z.C eL_law_587 ?_
  refine ga_al0 Z.C eL_law_588 ?_
  refine ga_il3 Z.C eL_law_589 ?_
  refine ga_push Z.C eL_law_590 ?_
  refine ga_iadd Z.C eL_law_591 ?_
  refine z_sld Z eL_law_592 ⟨by omega, by omega⟩ hL ?_
  refine ga_callV (ci := 6) (id := 100) (rest := [.inl r]) [.inl (sv xs (i + 1))] Z.C Z.K eL_law_593 nRL_79 mX6_delay vX6_delay rfl (t_X6_delay hj.1 h2) (by decide) rfl rfl (Nat.le_of_ble_eq_true rfl) ?_
  refine ga_icmp_eqS Z.C eL_law_596 ?_
  exact kk X n e cp c d Mm Z hj h3 (by omega) (by omega)
set_option maxRecDepth 20000 in
theorem lc_behind (Z : ga_Z (lT b L xs) X cL_law RL 1000 nm c d (gk n e cp)) (hj : gj n e cp) (hI : Inv n M) (hi : 0 ≤ i ∧ i + 7 ≤ (L : Int)) (hL : L ≤ 3584) (kk : lK b L xs nm i c d) : ga_W X M 601 (lvL i) [] := by
  obtain ⟨r, Mm, h1, h2, h3⟩ := e_behind (G := 5000) (Nat.le_refl 5000) hI (sv_ok (xs := xs) (i := i + 1))
  refine ga_al1 Z.C eL_law_601 ?_
  refine ga_al0 Z.C eL_law_602 ?_
  refine ga_il3 Z.C eL_law_603 ?_
  refine ga_push Z.C eL_law_604 ?_
  refine ga_iadd Z.C eL_law_605 ?_
  refine z_sld Z eL_law_606 ⟨by omega, by omega⟩ hL ?_
  refine ga_callV (ci := 5) (id := 0) (rest := []) [.inl (sv xs (i + 1))] Z.C Z.K eL_law_607 nRL_80 mX5_behind vX5_behind rfl (t_X5_behind hj.1 h1) (by decide) rfl rfl (Nat.le_of_ble_eq_true rfl) ?_
  refine ga_al2 Z.C eL_law_610 ?_
  refine ga_al0 Z.C eL_law_611 ?_
  refine ga_il3 Z.C eL_law_612 ?_
  refine ga_push Z.C eL_law_613 ?_
  refine ga_iadd Z.C eL_law_614 ?_
  refine z_sld Z eL_law_615 ⟨by omega, by omega⟩ hL ?_
  refine ga_callV (ci := 6) (id := 100) (rest := [.inl r]) [.inl (sv xs (i + 1))] Z.C Z.K eL_law_616 nRL_83 mX6_behind vX6_behind rfl (t_X6_behind hj.1 h2) (by decide) rfl rfl (Nat.le_of_ble_eq_true rfl) ?_
  refine ga_icmp_eqS Z.C eL_law_619 ?_
  exact kk X n e cp c d Mm Z hj h3 (by omega) (by omega)
set_option maxRecDepth 20000 in
theorem lc_paid (Z : ga_Z (lT b L xs) X cL_law RL 1000 nm c d (gk n e cp)) (hj : gj n e cp) (hI : Inv n M) (hi : 0 ≤ i ∧ i + 7 ≤ (L : Int)) (hL : L ≤ 3584) (kk : lK b L xs nm i c d) : ga_W X M 624 (lvL i) [] := by
  obtain ⟨r, Mm, h1, h2, h3⟩ := e_paid (G := 5000) (Nat.le_refl 5000) hI
  refine ga_al1 Z.C eL_law_624 ?_
  refine ga_callV (ci := 5) (id := 0) (rest := []) [] Z.C Z.K eL_law_625 nRL_84 mX5_paid vX5_paid rfl (t_X5_paid hj.1 h1) (by decide) rfl rfl (Nat.le_of_ble_eq_true rfl) ?_
  refine ga_al2 Z.C eL_law_628 ?_
  refine ga_callV (ci := 6) (id := 100) (rest := [.inl r]) [] Z.C Z.K eL_law_629 nRL_87 mX6_paid vX6_paid rfl (t_X6_paid hj.1 h2) (by decide) rfl rfl (Nat.le_of_ble_eq_true rfl) ?_
  refine ga_icmp_eqS Z.C eL_law_632 ?_
  exact kk X n e cp c d Mm Z hj h3 (by omega) (by omega)
set_option maxRecDepth 20000 in
theorem lc_atOnce (Z : ga_Z (lT b L xs) X cL_law RL 1000 nm c d (gk n e cp)) (hj : gj n e cp) (hI : Inv n M) (hi : 0 ≤ i ∧ i + 7 ≤ (L : Int)) (hL : L ≤ 3584) (kk : lK b L xs nm i c d) : ga_W X M 637 (lvL i) [] := by
  obtain ⟨r, Mm, h1, h2, h3⟩ := e_atOnce (G := 5000) (Nat.le_refl 5000) hI
  refine ga_al1 Z.C eL_law_637 ?_
  refine ga_callV (ci := 5) (id := 0) (rest := []) [] Z.C Z.K eL_law_638 nRL_88 mX5_atOnce vX5_atOnce rfl (t_X5_atOnce hj.1 h1) (by decide) rfl rfl (Nat.le_of_ble_eq_true rfl) ?_
  refine ga_al2 Z.C eL_law_641 ?_
  refine ga_callV (ci := 6) (id := 100) (rest := [.inl r]) [] Z.C Z.K eL_law_642 nRL_91 mX6_atOnce vX6_atOnce rfl (t_X6_atOnce hj.1 h2) (by decide) rfl rfl (Nat.le_of_ble_eq_true rfl) ?_
  refine ga_icmp_eqS Z.C eL_law_645 ?_
  exact kk X n e cp c d Mm Z hj h3 (by omega) (by omega)
set_option maxRecDepth 20000 in
theorem lc_saved (Z : ga_Z (lT b L xs) X cL_law RL 1000 nm c d (gk n e cp)) (hj : gj n e cp) (hI : Inv n M) (hi : 0 ≤ i ∧ i + 7 ≤ (L : Int)) (hL : L ≤ 3584) (kk : lK b L xs nm i c d) : ga_W X M 650 (lvL i) [] := by
  obtain ⟨r, Mm, h1, h2, h3⟩ := e_saved (G := 5000) (Nat.le_refl 5000) hI
  refine ga_al1 Z.C eL_law_650 ?_
  refine ga_callV (ci := 5) (id := 0) (rest := []) [] Z.C Z.K eL_law_651 nRL_92 mX5_saved vX5_saved rfl (t_X5_saved hj.1 h1) (by decide) rfl rfl (Nat.le_of_ble_eq_true rfl) ?_
  refine ga_al2 Z.C eL_law_654 ?_
  refine ga_callV (ci := 6) (id := 100) (rest := [.inl r]) [] Z.C Z.K eL_law_655 nRL_95 mX6_saved vX6_saved rfl (t_X6_saved hj.1 h2) (by decide) rfl rfl (Nat.le_of_ble_eq_true rfl) ?_
  refine ga_icmp_eqS Z.C eL_law_658 ?_
  exact kk X n e cp c d Mm Z hj h3 (by omega) (by omega)
set_option maxRecDepth 20000 in
theorem lc_regret (Z : ga_Z (lT b L xs) X cL_law RL 1000 nm c d (gk n e cp)) (hj : gj n e cp) (hI : Inv n M) (hi : 0 ≤ i ∧ i + 7 ≤ (L : Int)) (hL : L ≤ 3584) (kk : lK b L xs nm i c d) : ga_W X M 663 (lvL i) [] := by
  obtain ⟨r, Mc, Mm, h1, h2, h3⟩ := e_regret (G := 5000) (Nat.le_refl 5000) hI (sv_ok (xs := xs) (i := i + 1))
  refine ga_al1 Z.C eL_law_663 ?_
  refine ga_al0 Z.C eL_law_664 ?_
  refine ga_il3 Z.C eL_law_665 ?_
  refine ga_push Z.C eL_law_666 ?_
  refine ga_iadd Z.C eL_law_667 ?_
  refine z_sld Z eL_law_668 ⟨by omega, by omega⟩ hL ?_
  refine ga_callV (ci := 5) (id := 0) (rest := []) [.inl (sv xs (i + 1))] Z.C Z.K eL_law_669 nRL_96 mX5_regret vX5_regret rfl (t_X5_regret hj.1 h1) (by decide) rfl rfl (Nat.le_of_ble_eq_true rfl) ?_
  refine ga_al2 Z.C eL_law_672 ?_
  refine ga_al0 Z.C eL_law_673 ?_
  refine ga_il3 Z.C eL_law_674 ?_
  refine ga_push Z.C eL_law_675 ?_
  refine ga_iadd Z.C eL_law_676 ?_
  refine z_sld Z eL_law_677 ⟨by omega, by omega⟩ hL ?_
  refine ga_callV (ci := 6) (id := 100) (rest := [.inl r]) [.inl (sv xs (i + 1))] Z.C Z.K eL_law_678 nRL_99 mX6_regret vX6_regret rfl (t_X6_regret hj.1 h2) (by decide) rfl rfl (Nat.le_of_ble_eq_true rfl) ?_
  refine ga_icmp_eqS Z.C eL_law_681 ?_
  exact kk X n e cp c d Mm Z hj h3 (by omega) (by omega)
set_option maxRecDepth 20000 in
theorem lc_worst (Z : ga_Z (lT b L xs) X cL_law RL 1000 nm c d (gk n e cp)) (hj : gj n e cp) (hI : Inv n M) (hi : 0 ≤ i ∧ i + 7 ≤ (L : Int)) (hL : L ≤ 3584) (kk : lK b L xs nm i c d) : ga_W X M 686 (lvL i) [] := by
  obtain ⟨r, Mc, Mm, h1, h2, h3⟩ := e_worst (G := 5000) (Nat.le_refl 5000) hI
  refine ga_al1 Z.C eL_law_686 ?_
  refine ga_callV (ci := 5) (id := 0) (rest := []) [] Z.C Z.K eL_law_687 nRL_100 mX5_worst vX5_worst rfl (t_X5_worst hj.1 h1) (by decide) rfl rfl (Nat.le_of_ble_eq_true rfl) ?_
  refine ga_al2 Z.C eL_law_690 ?_
  refine ga_callV (ci := 6) (id := 100) (rest := [.inl r]) [] Z.C Z.K eL_law_691 nRL_103 mX6_worst vX6_worst rfl (t_X6_worst hj.1 h2) (by decide) rfl rfl (Nat.le_of_ble_eq_true rfl) ?_
  refine ga_icmp_eqS Z.C eL_law_694 ?_
  exact kk X n e cp c d Mm Z hj h3 (by omega) (by omega)
set_option maxRecDepth 20000 in
theorem lc_would (Z : ga_Z (lT b L xs) X cL_law RL 1000 nm c d (gk n e cp)) (hj : gj n e cp) (hI : Inv n M) (hi : 0 ≤ i ∧ i + 7 ≤ (L : Int)) (hL : L ≤ 3584) (kk : lK b L xs nm i c d) : ga_W X M 699 (lvL i) [] := by
  obtain ⟨r, Mc, Mm, h1, h2, h3⟩ := e_would (G := 5000) (Nat.le_refl 5000) hI (sv_ok (xs := xs) (i := i + 1)) (sv_ok (xs := xs) (i := i + 2)) (sv_ok (xs := xs) (i := i + 3))
  refine ga_al1 Z.C eL_law_699 ?_
  refine ga_al0 Z.C eL_law_700 ?_
  refine ga_il3 Z.C eL_law_701 ?_
  refine ga_push Z.C eL_law_702 ?_
  refine ga_iadd Z.C eL_law_703 ?_
  refine z_sld Z eL_law_704 ⟨by omega, by omega⟩ hL ?_
  refine ga_al0 Z.C eL_law_705 ?_
  refine ga_il3 Z.C eL_law_706 ?_
  refine ga_push Z.C eL_law_707 ?_
  refine ga_iadd Z.C eL_law_708 ?_
  refine z_sld Z eL_law_709 ⟨by omega, by omega⟩ hL ?_
  refine ga_al0 Z.C eL_law_710 ?_
  refine ga_il3 Z.C eL_law_711 ?_
  refine ga_push Z.C eL_law_712 ?_
  refine ga_iadd Z.C eL_law_713 ?_
  refine z_sld Z eL_law_714 ⟨by omega, by omega⟩ hL ?_
  refine ga_callV (ci := 5) (id := 0) (rest := []) [.inl (sv xs (i + 1)), .inl (sv xs (i + 2)), .inl (sv xs (i + 3))] Z.C Z.K eL_law_715 nRL_104 mX5_would vX5_would rfl (t_X5_would hj.1 h1) (by decide) rfl rfl (Nat.le_of_ble_eq_true rfl) ?_
  refine ga_al2 Z.C eL_law_718 ?_
  refine ga_al0 Z.C eL_law_719 ?_
  refine ga_il3 Z.C eL_law_720 ?_
  refine ga_push Z.C eL_law_721 ?_
  refine ga_iadd Z.C eL_law_722 ?_
  refine z_sld Z eL_law_723 ⟨by omega, by omega⟩ hL ?_
  refine ga_al0 Z.C eL_law_724 ?_
  refine ga_il3 Z.C eL_law_725 ?_
  refine ga_push Z.C eL_law_726 ?_
  refine ga_iadd Z.C eL_law_727 ?_
  refine z_sld Z eL_law_728 ⟨by omega, by omega⟩ hL ?_
  refine ga_al0 Z.C eL_law_729 ?_
  refine ga_il3 Z.C eL_law_730 ?_
  refine ga_push Z.C eL_law_731 ?_
  refine ga_iadd Z.C eL_law_732 ?_
  refine z_sld Z eL_law_733 ⟨by omega, by omega⟩ hL ?_
  refine ga_callV (ci := 6) (id := 100) (rest := [.inl r]) [.inl (sv xs (i + 1)), .inl (sv xs (i + 2)), .inl (sv xs (i + 3))] Z.C Z.K eL_law_734 nRL_108 mX6_would vX6_would rfl (t_X6_would hj.1 h2) (by decide) rfl rfl (Nat.le_of_ble_eq_true rfl) ?_
  refine ga_icmp_eqS Z.C eL_law_737 ?_
  exact kk X n e cp c d Mm Z hj h3 (by omega) (by omega)
set_option maxRecDepth 20000 in
theorem lc_count (Z : ga_Z (lT b L xs) X cL_law RL 1000 nm c d (gk n e cp)) (hj : gj n e cp) (hI : Inv n M) (hi : 0 ≤ i ∧ i + 7 ≤ (L : Int)) (hL : L ≤ 3584) (kk : lK b L xs nm i c d) : ga_W X M 742 (lvL i) [] := by
  obtain ⟨r, Mm, h1, h2, h3⟩ := e_count (G := 5000) (Nat.le_refl 5000) hI (sv_ok (xs := xs) (i := i + 1))
  refine ga_al1 Z.C eL_law_742 ?_
  refine ga_al0 Z.C eL_law_743 ?_
  refine ga_il3 Z.C eL_law_744 ?_
  refine ga_push Z.C eL_law_745 ?_
  refine ga_iadd Z.C eL_law_746 ?_
  refine z_sld Z eL_law_747 ⟨by omega, by omega⟩ hL ?_
  refine ga_callV (ci := 5) (id := 0) (rest := []) [.inl (sv xs (i + 1))] Z.C Z.K eL_law_748 nRL_109 mX5_count vX5_count rfl (t_X5_count hj.1 h1) (by decide) rfl rfl (Nat.le_of_ble_eq_true rfl) ?_
  refine ga_al2 Z.C eL_law_751 ?_
  refine ga_al0 Z.C eL_law_752 ?_
  refine ga_il3 Z.C eL_law_753 ?_
  refine ga_push Z.C eL_law_754 ?_
  refine ga_iadd Z.C eL_law_755 ?_
  refine z_sld Z eL_law_756 ⟨by omega, by omega⟩ hL ?_
  refine ga_callV (ci := 6) (id := 100) (rest := [.inl r]) [.inl (sv xs (i + 1))] Z.C Z.K eL_law_757 nRL_112 mX6_count vX6_count rfl (t_X6_count hj.1 h2) (by decide) rfl rfl (Nat.le_of_ble_eq_true rfl) ?_
  refine ga_icmp_eqS Z.C eL_law_760 ?_
  exact kk X n e cp c d Mm Z hj h3 (by omega) (by omega)
set_option maxRecDepth 20000 in
theorem lc_trouble (Z : ga_Z (lT b L xs) X cL_law RL 1000 nm c d (gk n e cp)) (hj : gj n e cp) (hI : Inv n M) (hi : 0 ≤ i ∧ i + 7 ≤ (L : Int)) (hL : L ≤ 3584) (kk : lK b L xs nm i c d) : ga_W X M 765 (lvL i) [] := by
  obtain ⟨r, Mm, h1, h2, h3⟩ := e_trouble (G := 5000) hI
  refine ga_al1 Z.C eL_law_765 ?_
  refine ga_callV (ci := 5) (id := 0) (rest := []) [] Z.C Z.K eL_law_766 nRL_113 mX5_trouble vX5_trouble rfl (t_X5_trouble hj.1 h1) (by decide) rfl rfl (Nat.le_of_ble_eq_true rfl) ?_
  refine ga_al2 Z.C eL_law_769 ?_
  refine ga_callV (ci := 6) (id := 100) (rest := [.inl r]) [] Z.C Z.K eL_law_770 nRL_116 mX6_trouble vX6_trouble rfl (t_X6_trouble hj.1 h2) (by decide) rfl rfl (Nat.le_of_ble_eq_true rfl) ?_
  refine ga_icmp_eqS Z.C eL_law_773 ?_
  exact kk X n e cp c d Mm Z hj h3 (by omega) (by omega)
end LC
set_option maxRecDepth 20000 in
theorem lc_all {b L : Nat} {xs : Nat → Int32} {X : gaX} {nm : String} {c d n e cp : Nat} {i v : Int} {M : gaM} (Z : ga_Z (lT b L xs) X cL_law RL 1000 nm c d (gk n e cp)) (hj : gj n e cp) (hI : Inv n M) (hi : 0 ≤ i ∧ i + 7 ≤ (L : Int)) (hL : L ≤ 3584) (hc : 2 ≤ c) (hd : 100 ≤ d) (hv0 : 0 ≤ v) (hv1 : v ≤ 31) (kk : lK b L xs nm i c d) : ga_W X M 33 (lvL i) [.inl v] := by
  by_cases hc0 : v = 0
  · refine ga_tabIn 0 Z.C eL_law_33 hc0 (by decide) (by decide) rfl (by decide) (tgt := 144) ?_
    exact lc_place Z hj hI hi hL kk
  by_cases hc1 : v = 1
  · refine ga_tabIn 1 Z.C eL_law_33 hc1 (by decide) (by decide) rfl (by decide) (tgt := 167) ?_
    exact lc_fare Z hj hI hi hL kk
  by_cases hc2 : v = 2
  · refine ga_tabIn 2 Z.C eL_law_33 hc2 (by decide) (by decide) rfl (by decide) (tgt := 210) ?_
    exact lc_green Z hj hI hi hL kk
  by_cases hc3 : v = 3
  · refine ga_tabIn 3 Z.C eL_law_33 hc3 (by decide) (by decide) rfl (by decide) (tgt := 263) ?_
    exact lc_told Z hj hI hi hL kk
  by_cases hc4 : v = 4
  · refine ga_tabIn 4 Z.C eL_law_33 hc4 (by decide) (by decide) rfl (by decide) (tgt := 296) ?_
    exact lc_patience Z hj hI hi hL kk
  by_cases hc5 : v = 5
  · refine ga_tabIn 5 Z.C eL_law_33 hc5 (by decide) (by decide) rfl (by decide) (tgt := 319) ?_
    exact lc_job Z hj hI hi hL hc hd kk
  by_cases hc6 : v = 6
  · refine ga_tabIn 6 Z.C eL_law_33 hc6 (by decide) (by decide) rfl (by decide) (tgt := 394) ?_
    exact lc_drop Z hj hI hi hL kk
  by_cases hc7 : v = 7
  · refine ga_tabIn 7 Z.C eL_law_33 hc7 (by decide) (by decide) rfl (by decide) (tgt := 417) ?_
    exact lc_about Z hj hI hi hL kk
  by_cases hc8 : v = 8
  · refine ga_tabIn 8 Z.C eL_law_33 hc8 (by decide) (by decide) rfl (by decide) (tgt := 450) ?_
    exact lc_lay Z hj hI hi hL kk
  by_cases hc9 : v = 9
  · refine ga_tabIn 9 Z.C eL_law_33 hc9 (by decide) (by decide) rfl (by decide) (tgt := 463) ?_
    exact lc_laid Z hj hI hi hL kk
  by_cases hc10 : v = 10
  · refine ga_tabIn 10 Z.C eL_law_33 hc10 (by decide) (by decide) rfl (by decide) (tgt := 496) ?_
    exact lc_cost Z hj hI hi hL kk
  by_cases hc11 : v = 11
  · refine ga_tabIn 11 Z.C eL_law_33 hc11 (by decide) (by decide) rfl (by decide) (tgt := 509) ?_
    exact lc_best Z hj hI hi hL kk
  by_cases hc12 : v = 12
  · refine ga_tabIn 12 Z.C eL_law_33 hc12 (by decide) (by decide) rfl (by decide) (tgt := 522) ?_
    exact lc_free Z hj hI hi hL kk
  by_cases hc13 : v = 13
  · refine ga_tabIn 13 Z.C eL_law_33 hc13 (by decide) (by decide) rfl (by decide) (tgt := 555) ?_
    exact lc_pass Z hj hI hi hL kk
  by_cases hc14 : v = 14
  · refine ga_tabIn 14 Z.C eL_law_33 hc14 (by decide) (by decide) rfl (by decide) (tgt := 578) ?_
    exact lc_delay Z hj hI hi hL kk
  by_cases hc15 : v = 15
  · refine ga_tabIn 15 Z.C eL_law_33 hc15 (by decide) (by decide) rfl (by decide) (tgt := 601) ?_
    exact lc_behind Z hj hI hi hL kk
  by_cases hc16 : v = 16
  · refine ga_tabIn 16 Z.C eL_law_33 hc16 (by decide) (by decide) rfl (by decide) (tgt := 624) ?_
    exact lc_paid Z hj hI hi hL kk
  by_cases hc17 : v = 17
  · refine ga_tabIn 17 Z.C eL_law_33 hc17 (by decide) (by decide) rfl (by decide) (tgt := 637) ?_
    exact lc_atOnce Z hj hI hi hL kk
  by_cases hc18 : v = 18
  · refine ga_tabIn 18 Z.C eL_law_33 hc18 (by decide) (by decide) rfl (by decide) (tgt := 650) ?_
    exact lc_saved Z hj hI hi hL kk
  by_cases hc19 : v = 19
  · refine ga_tabIn 19 Z.C eL_law_33 hc19 (by decide) (by decide) rfl (by decide) (tgt := 663) ?_
    exact lc_regret Z hj hI hi hL kk
  by_cases hc20 : v = 20
  · refine ga_tabIn 20 Z.C eL_law_33 hc20 (by decide) (by decide) rfl (by decide) (tgt := 686) ?_
    exact lc_worst Z hj hI hi hL kk
  by_cases hc21 : v = 21
  · refine ga_tabIn 21 Z.C eL_law_33 hc21 (by decide) (by decide) rfl (by decide) (tgt := 699) ?_
    exact lc_would Z hj hI hi hL kk
  by_cases hc22 : v = 22
  · refine ga_tabIn 22 Z.C eL_law_33 hc22 (by decide) (by decide) rfl (by decide) (tgt := 742) ?_
    exact lc_count Z hj hI hi hL kk
  by_cases hc23 : v = 23
  · refine ga_tabIn 23 Z.C eL_law_33 hc23 (by decide) (by decide) rfl (by decide) (tgt := 765) ?_
    exact lc_trouble Z hj hI hi hL kk
  refine ga_tabOut Z.C eL_law_33 ⟨by omega, by omega⟩ (by omega) (by decide) (tgt := 778) ?_
  exact kk X n e cp c d M Z hj hI (by omega) (by omega)
