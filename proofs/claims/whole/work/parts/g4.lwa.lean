/-! the law's cases that answer -/
section LWA
variable {G : GP} {q a : Nat → Nat} {na o i k kr nr : Nat} {S : Sg} {M : Wd} {Q : Option Value → Wd → Prop}
set_option maxRecDepth 20000 in
theorem lc_feed (h : LI q na a o S S k M) (hi : i + 8 ≤ gL G) (hL : gL G ≤ 4096) (hk : k < 100000) (K : LK G q a o i k kr nr Q) : Ev G mL_law 168 [some (.ref (gb G)), some (.ref (q 0)), some (.ref (a 0)), some (.ref o), some (.int (nI i)), none, none] [] M (kr + 573) (nr + 3438) Q := by
  refine Ev.ald1 dL_law_168 ?_
  refine Ev.ald0 dL_law_169 ?_
  refine Ev.ild4 dL_law_170 ?_
  refine Ev.iconst (v := 1) dL_law_172 (by decide) ?_
  refine Ev.iadd dL_law_173 ?_
  refine Ev.scl (n := i + 1) dL_law_174 (sx 1) (by omega) hL ?_
  refine Ev.ald0 dL_law_175 ?_
  refine Ev.ild4 dL_law_176 ?_
  refine Ev.iconst (v := 2) dL_law_178 (by decide) ?_
  refine Ev.iadd dL_law_179 ?_
  refine Ev.scl (n := i + 2) dL_law_180 (sx 2) (by omega) hL ?_
  refine Ev.ald0 dL_law_181 ?_
  refine Ev.ild4 dL_law_182 ?_
  refine Ev.iconst (v := 3) dL_law_184 (by decide) ?_
  refine Ev.iadd dL_law_185 ?_
  refine Ev.scl (n := i + 3) dL_law_186 (sx 3) (by omega) hL ?_
  refine Ev.ald0 dL_law_187 ?_
  refine Ev.ild4 dL_law_188 ?_
  refine Ev.iconst (v := 4) dL_law_190 (by decide) ?_
  refine Ev.iadd dL_law_191 ?_
  refine Ev.scl (n := i + 4) dL_law_192 (sx 4) (by omega) hL ?_
  refine Ev.ald0 dL_law_193 ?_
  refine Ev.ild4 dL_law_194 ?_
  refine Ev.iconst (v := 5) dL_law_196 (by decide) ?_
  refine Ev.iadd dL_law_197 ?_
  refine Ev.scl (n := i + 5) dL_law_198 (sx 5) (by omega) hL ?_
  refine Ev.cvI (Yc := mX5_feed) (n := 5) dL_law_199 lL_29 vX5_feed rfl (k_feed h.1 h.inv.1) ⟨_, h.1.2.1⟩ rfl rfl rfl rfl ?_
  rintro x M1 ⟨rfl, hK⟩
  obtain ⟨q1, n1, e1, h1⟩ := h.cls hK ((inv_feed h.inv).up)
  obtain ⟨v, L, X, hZ, hR⟩ := h1.mz
  refine Ev.ald2 dL_law_202 ?_
  refine Ev.ald0 dL_law_203 ?_
  refine Ev.ild4 dL_law_204 ?_
  refine Ev.iconst (v := 1) dL_law_206 (by decide) ?_
  refine Ev.iadd dL_law_207 ?_
  refine Ev.scl (n := i + 1) dL_law_208 (sx 1) (by omega) hL ?_
  refine Ev.ald0 dL_law_209 ?_
  refine Ev.ild4 dL_law_210 ?_
  refine Ev.iconst (v := 2) dL_law_212 (by decide) ?_
  refine Ev.iadd dL_law_213 ?_
  refine Ev.scl (n := i + 2) dL_law_214 (sx 2) (by omega) hL ?_
  refine Ev.ald0 dL_law_215 ?_
  refine Ev.ild4 dL_law_216 ?_
  refine Ev.iconst (v := 3) dL_law_218 (by decide) ?_
  refine Ev.iadd dL_law_219 ?_
  refine Ev.scl (n := i + 3) dL_law_220 (sx 3) (by omega) hL ?_
  refine Ev.ald0 dL_law_221 ?_
  refine Ev.ild4 dL_law_222 ?_
  refine Ev.iconst (v := 4) dL_law_224 (by decide) ?_
  refine Ev.iadd dL_law_225 ?_
  refine Ev.scl (n := i + 4) dL_law_226 (sx 4) (by omega) hL ?_
  refine Ev.ald0 dL_law_227 ?_
  refine Ev.ild4 dL_law_228 ?_
  refine Ev.iconst (v := 5) dL_law_230 (by decide) ?_
  refine Ev.iadd dL_law_231 ?_
  refine Ev.scl (n := i + 5) dL_law_232 (sx 5) (by omega) hL ?_
  refine Ev.cvI (Yc := mX6_feed) (n := 5) dL_law_233 lL_33 vX6_feed rfl (m_feed h.inv.1 hR hZ) ⟨_, hZ.2.1.1⟩ rfl rfl rfl rfl ?_
  rintro y M2 ⟨rfl, v', X', hZ', hR'⟩
  refine Ev.icmp_eq (tgt := 1226) dL_law_236 (by decide) (fun _ => ?_) (fun c => absurd rfl c)
  exact (K q1 n1 _ M2 e1 (h1.ref hZ' hR')).more (by omega) (by omega)
set_option maxRecDepth 20000 in
theorem lc_text (h : LI q na a o S S k M) (hi : i + 8 ≤ gL G) (hL : gL G ≤ 4096) (hk : k < 100000) (K : LK G q a o i k kr nr Q) : Ev G mL_law 241 [some (.ref (gb G)), some (.ref (q 0)), some (.ref (a 0)), some (.ref o), some (.int (nI i)), none, none] [] M (kr + 573) (nr + 3438) Q := by
  refine Ev.ald1 dL_law_241 ?_
  refine Ev.ald0 dL_law_242 ?_
  refine Ev.ild4 dL_law_243 ?_
  refine Ev.iconst (v := 1) dL_law_245 (by decide) ?_
  refine Ev.iadd dL_law_246 ?_
  refine Ev.scl (n := i + 1) dL_law_247 (sx 1) (by omega) hL ?_
  refine Ev.cvI (Yc := mX5_text) (n := 1) dL_law_248 lL_34 vX5_text rfl (k_text h.1 h.inv.1 h.inv.2.1) ⟨_, h.1.2.1⟩ rfl rfl rfl rfl ?_
  rintro x M1 ⟨rfl, hK⟩
  obtain ⟨q1, n1, e1, h1⟩ := h.cls hK ((inv_text h.inv).up)
  obtain ⟨v, L, X, hZ, hR⟩ := h1.mz
  refine Ev.ald2 dL_law_251 ?_
  refine Ev.ald0 dL_law_252 ?_
  refine Ev.ild4 dL_law_253 ?_
  refine Ev.iconst (v := 1) dL_law_255 (by decide) ?_
  refine Ev.iadd dL_law_256 ?_
  refine Ev.scl (n := i + 1) dL_law_257 (sx 1) (by omega) hL ?_
  refine Ev.cvIn (Yc := mX6_text) (n := 1) dL_law_258 lL_37 vX6_text rfl (m_text h.inv.1 h.inv.2.1 hR hZ) ⟨_, hZ.2.1.1⟩ rfl rfl rfl rfl (by omega) (by omega) ?_
  rintro y M2 ⟨rfl, v', L', X', hZ', hR'⟩
  refine Ev.icmp_eq (tgt := 1226) dL_law_261 (by decide) (fun _ => ?_) (fun c => absurd rfl c)
  exact (K q1 n1 _ M2 e1 (h1.ref hZ' hR')).more (by omega) (by omega)
set_option maxRecDepth 20000 in
theorem lc_told (h : LI q na a o S S k M) (hi : i + 8 ≤ gL G) (hL : gL G ≤ 4096) (hk : k < 100000) (K : LK G q a o i k kr nr Q) : Ev G mL_law 266 [some (.ref (gb G)), some (.ref (q 0)), some (.ref (a 0)), some (.ref o), some (.int (nI i)), none, none] [] M (kr + 573) (nr + 3438) Q := by
  refine Ev.ald1 dL_law_266 ?_
  refine Ev.ald0 dL_law_267 ?_
  refine Ev.ild4 dL_law_268 ?_
  refine Ev.iconst (v := 1) dL_law_270 (by decide) ?_
  refine Ev.iadd dL_law_271 ?_
  refine Ev.scl (n := i + 1) dL_law_272 (sx 1) (by omega) hL ?_
  refine Ev.ald0 dL_law_273 ?_
  refine Ev.ild4 dL_law_274 ?_
  refine Ev.iconst (v := 2) dL_law_276 (by decide) ?_
  refine Ev.iadd dL_law_277 ?_
  refine Ev.scl (n := i + 2) dL_law_278 (sx 2) (by omega) hL ?_
  refine Ev.ald0 dL_law_279 ?_
  refine Ev.ild4 dL_law_280 ?_
  refine Ev.iconst (v := 3) dL_law_282 (by decide) ?_
  refine Ev.iadd dL_law_283 ?_
  refine Ev.scl (n := i + 3) dL_law_284 (sx 3) (by omega) hL ?_
  refine Ev.ald0 dL_law_285 ?_
  refine Ev.ild4 dL_law_286 ?_
  refine Ev.iconst (v := 4) dL_law_288 (by decide) ?_
  refine Ev.iadd dL_law_289 ?_
  refine Ev.scl (n := i + 4) dL_law_290 (sx 4) (by omega) hL ?_
  refine Ev.ald0 dL_law_291 ?_
  refine Ev.ild4 dL_law_292 ?_
  refine Ev.iconst (v := 5) dL_law_294 (by decide) ?_
  refine Ev.iadd dL_law_295 ?_
  refine Ev.scl (n := i + 5) dL_law_296 (sx 5) (by omega) hL ?_
  refine Ev.ald0 dL_law_297 ?_
  refine Ev.ild4 dL_law_298 ?_
  refine Ev.bipush (v := 6) dL_law_300 (by decide) ?_
  refine Ev.iadd dL_law_302 ?_
  refine Ev.scl (n := i + 6) dL_law_303 (sx 6) (by omega) hL ?_
  refine Ev.ald0 dL_law_304 ?_
  refine Ev.ild4 dL_law_305 ?_
  refine Ev.bipush (v := 7) dL_law_307 (by decide) ?_
  refine Ev.iadd dL_law_309 ?_
  refine Ev.scl (n := i + 7) dL_law_310 (sx 7) (by omega) hL ?_
  refine Ev.cvI (Yc := mX5_told) (n := 7) dL_law_311 lL_38 vX5_told rfl (k_told h.1 h.inv.1) ⟨_, h.1.2.1⟩ rfl rfl rfl rfl ?_
  rintro x M1 ⟨rfl, hK⟩
  obtain ⟨q1, n1, e1, h1⟩ := h.cls hK ((inv_told h.inv).up)
  obtain ⟨v, L, X, hZ, hR⟩ := h1.mz
  refine Ev.ald2 dL_law_314 ?_
  refine Ev.ald0 dL_law_315 ?_
  refine Ev.ild4 dL_law_316 ?_
  refine Ev.iconst (v := 1) dL_law_318 (by decide) ?_
  refine Ev.iadd dL_law_319 ?_
  refine Ev.scl (n := i + 1) dL_law_320 (sx 1) (by omega) hL ?_
  refine Ev.ald0 dL_law_321 ?_
  refine Ev.ild4 dL_law_322 ?_
  refine Ev.iconst (v := 2) dL_law_324 (by decide) ?_
  refine Ev.iadd dL_law_325 ?_
  refine Ev.scl (n := i + 2) dL_law_326 (sx 2) (by omega) hL ?_
  refine Ev.ald0 dL_law_327 ?_
  refine Ev.ild4 dL_law_328 ?_
  refine Ev.iconst (v := 3) dL_law_330 (by decide) ?_
  refine Ev.iadd dL_law_331 ?_
  refine Ev.scl (n := i + 3) dL_law_332 (sx 3) (by omega) hL ?_
  refine Ev.ald0 dL_law_333 ?_
  refine Ev.ild4 dL_law_334 ?_
  refine Ev.iconst (v := 4) dL_law_336 (by decide) ?_
  refine Ev.iadd dL_law_337 ?_
  refine Ev.scl (n := i + 4) dL_law_338 (sx 4) (by omega) hL ?_
  refine Ev.ald0 dL_law_339 ?_
  refine Ev.ild4 dL_law_340 ?_
  refine Ev.iconst (v := 5) dL_law_342 (by decide) ?_
  refine Ev.iadd dL_law_343 ?_
  refine Ev.scl (n := i + 5) dL_law_344 (sx 5) (by omega) hL ?_
  refine Ev.ald0 dL_law_345 ?_
  refine Ev.ild4 dL_law_346 ?_
  refine Ev.bipush (v := 6) dL_law_348 (by decide) ?_
  refine Ev.iadd dL_law_350 ?_
  refine Ev.scl (n := i + 6) dL_law_351 (sx 6) (by omega) hL ?_
  refine Ev.ald0 dL_law_352 ?_
  refine Ev.ild4 dL_law_353 ?_
  refine Ev.bipush (v := 7) dL_law_355 (by decide) ?_
  refine Ev.iadd dL_law_357 ?_
  refine Ev.scl (n := i + 7) dL_law_358 (sx 7) (by omega) hL ?_
  refine Ev.cvI (Yc := mX6_told) (n := 7) dL_law_359 lL_42 vX6_told rfl (m_told h.inv.1 hR hZ) ⟨_, hZ.2.1.1⟩ rfl rfl rfl rfl ?_
  rintro y M2 ⟨rfl, v', X', hZ', hR'⟩
  refine Ev.icmp_eq (tgt := 1226) dL_law_362 (by decide) (fun _ => ?_) (fun c => absurd rfl c)
  exact (K q1 n1 _ M2 e1 (h1.ref hZ' hR')).more (by omega) (by omega)
set_option maxRecDepth 20000 in
theorem lc_gone (h : LI q na a o S S k M) (hi : i + 8 ≤ gL G) (hL : gL G ≤ 4096) (hk : k < 100000) (K : LK G q a o i k kr nr Q) : Ev G mL_law 367 [some (.ref (gb G)), some (.ref (q 0)), some (.ref (a 0)), some (.ref o), some (.int (nI i)), none, none] [] M (kr + 573) (nr + 3438) Q := by
  refine Ev.ald1 dL_law_367 ?_
  refine Ev.ald0 dL_law_368 ?_
  refine Ev.ild4 dL_law_369 ?_
  refine Ev.iconst (v := 1) dL_law_371 (by decide) ?_
  refine Ev.iadd dL_law_372 ?_
  refine Ev.scl (n := i + 1) dL_law_373 (sx 1) (by omega) hL ?_
  refine Ev.cvI (Yc := mX5_gone) (n := 1) dL_law_374 lL_43 vX5_gone rfl (k_gone h.1 h.inv.1) ⟨_, h.1.2.1⟩ rfl rfl rfl rfl ?_
  rintro x M1 ⟨rfl, hK⟩
  obtain ⟨q1, n1, e1, h1⟩ := h.cls hK ((inv_gone h.inv).up)
  obtain ⟨v, L, X, hZ, hR⟩ := h1.mz
  refine Ev.ald2 dL_law_377 ?_
  refine Ev.ald0 dL_law_378 ?_
  refine Ev.ild4 dL_law_379 ?_
  refine Ev.iconst (v := 1) dL_law_381 (by decide) ?_
  refine Ev.iadd dL_law_382 ?_
  refine Ev.scl (n := i + 1) dL_law_383 (sx 1) (by omega) hL ?_
  refine Ev.cvI (Yc := mX6_gone) (n := 1) dL_law_384 lL_46 vX6_gone rfl (m_gone h.inv.1 hR hZ) ⟨_, hZ.2.1.1⟩ rfl rfl rfl rfl ?_
  rintro y M2 ⟨rfl, v', X', hZ', hR'⟩
  refine Ev.icmp_eq (tgt := 1226) dL_law_387 (by decide) (fun _ => ?_) (fun c => absurd rfl c)
  exact (K q1 n1 _ M2 e1 (h1.ref hZ' hR')).more (by omega) (by omega)
set_option maxRecDepth 20000 in
theorem lc_less (h : LI q na a o S S k M) (hi : i + 8 ≤ gL G) (hL : gL G ≤ 4096) (hk : k < 100000) (K : LK G q a o i k kr nr Q) : Ev G mL_law 392 [some (.ref (gb G)), some (.ref (q 0)), some (.ref (a 0)), some (.ref o), some (.int (nI i)), none, none] [] M (kr + 573) (nr + 3438) Q := by
  refine Ev.ald1 dL_law_392 ?_
  refine Ev.ald0 dL_law_393 ?_
  refine Ev.ild4 dL_law_394 ?_
  refine Ev.iconst (v := 1) dL_law_396 (by decide) ?_
  refine Ev.iadd dL_law_397 ?_
  refine Ev.scl (n := i + 1) dL_law_398 (sx 1) (by omega) hL ?_
  refine Ev.ald0 dL_law_399 ?_
  refine Ev.ild4 dL_law_400 ?_
  refine Ev.iconst (v := 2) dL_law_402 (by decide) ?_
  refine Ev.iadd dL_law_403 ?_
  refine Ev.scl (n := i + 2) dL_law_404 (sx 2) (by omega) hL ?_
  refine Ev.cvI (Yc := mX5_less) (n := 2) dL_law_405 lL_47 vX5_less rfl (k_less h.1 h.inv.1) ⟨_, h.1.2.1⟩ rfl rfl rfl rfl ?_
  rintro x M1 ⟨rfl, hK⟩
  obtain ⟨q1, n1, e1, h1⟩ := h.cls hK ((inv_less h.inv).up)
  obtain ⟨v, L, X, hZ, hR⟩ := h1.mz
  refine Ev.ald2 dL_law_408 ?_
  refine Ev.ald0 dL_law_409 ?_
  refine Ev.ild4 dL_law_410 ?_
  refine Ev.iconst (v := 1) dL_law_412 (by decide) ?_
  refine Ev.iadd dL_law_413 ?_
  refine Ev.scl (n := i + 1) dL_law_414 (sx 1) (by omega) hL ?_
  refine Ev.ald0 dL_law_415 ?_
  refine Ev.ild4 dL_law_416 ?_
  refine Ev.iconst (v := 2) dL_law_418 (by decide) ?_
  refine Ev.iadd dL_law_419 ?_
  refine Ev.scl (n := i + 2) dL_law_420 (sx 2) (by omega) hL ?_
  refine Ev.cvI (Yc := mX6_less) (n := 2) dL_law_421 lL_50 vX6_less rfl (m_less h.inv.1 hR hZ) ⟨_, hZ.2.1.1⟩ rfl rfl rfl rfl ?_
  rintro y M2 ⟨rfl, v', X', hZ', hR'⟩
  refine Ev.icmp_eq (tgt := 1226) dL_law_424 (by decide) (fun _ => ?_) (fun c => absurd rfl c)
  exact (K q1 n1 _ M2 e1 (h1.ref hZ' hR')).more (by omega) (by omega)
set_option maxRecDepth 20000 in
theorem lc_freeze (h : LI q na a o S S k M) (hi : i + 8 ≤ gL G) (hL : gL G ≤ 4096) (hk : k < 100000) (K : LK G q a o i k kr nr Q) : Ev G mL_law 429 [some (.ref (gb G)), some (.ref (q 0)), some (.ref (a 0)), some (.ref o), some (.int (nI i)), none, none] [] M (kr + 573) (nr + 3438) Q := by
  refine Ev.ald1 dL_law_429 ?_
  refine Ev.cvI (Yc := mX5_freeze) (n := 0) dL_law_430 lL_51 vX5_freeze rfl (k_freeze h.1 h.inv.1) ⟨_, h.1.2.1⟩ rfl rfl rfl rfl ?_
  rintro x M1 ⟨rfl, hK⟩
  obtain ⟨q1, n1, e1, h1⟩ := h.cls hK ((inv_freeze h.inv).up)
  obtain ⟨v, L, X, hZ, hR⟩ := h1.mz
  refine Ev.ald2 dL_law_433 ?_
  refine Ev.cvI (Yc := mX6_freeze) (n := 0) dL_law_434 lL_55 vX6_freeze rfl (m_freeze h.inv.1 hR hZ) ⟨_, hZ.2.1.1⟩ rfl rfl rfl rfl ?_
  rintro y M2 ⟨rfl, v', X', hZ', hR'⟩
  refine Ev.icmp_eq (tgt := 1226) dL_law_437 (by decide) (fun _ => ?_) (fun c => absurd rfl c)
  exact (K q1 n1 _ M2 e1 (h1.ref hZ' hR')).more (by omega) (by omega)
set_option maxRecDepth 20000 in
theorem lc_cross (h : LI q na a o S S k M) (hi : i + 8 ≤ gL G) (hL : gL G ≤ 4096) (hk : k < 100000) (K : LK G q a o i k kr nr Q) : Ev G mL_law 442 [some (.ref (gb G)), some (.ref (q 0)), some (.ref (a 0)), some (.ref o), some (.int (nI i)), none, none] [] M (kr + 573) (nr + 3438) Q := by
  refine Ev.ald1 dL_law_442 ?_
  refine Ev.cvI (Yc := mX5_cross) (n := 0) dL_law_443 lL_56 vX5_cross rfl (k_cross h.1 h.inv.1) ⟨_, h.1.2.1⟩ rfl rfl rfl rfl ?_
  rintro x M1 ⟨rfl, hK⟩
  obtain ⟨q1, n1, e1, h1⟩ := h.cls hK ((inv_cross h.inv))
  obtain ⟨v, L, X, hZ, hR⟩ := h1.mz
  refine Ev.ald2 dL_law_446 ?_
  refine Ev.cvI (Yc := mX6_cross) (n := 0) dL_law_447 lL_60 vX6_cross rfl (m_crossP h.inv.1 (by have := h.inv.2.2.2; omega) hR hZ) ⟨_, hZ.2.1.1⟩ rfl rfl rfl rfl ?_
  rintro y M2 ⟨rfl, v', X', hZ', hR'⟩
  refine Ev.icmp_eq (tgt := 1226) dL_law_450 (by decide) (fun _ => ?_) (fun c => absurd rfl c)
  exact (K q1 n1 _ M2 e1 (h1.ref hZ' hR')).more (by omega) (by omega)
set_option maxRecDepth 20000 in
theorem lc_open (h : LI q na a o S S k M) (hi : i + 8 ≤ gL G) (hL : gL G ≤ 4096) (hk : k < 100000) (K : LK G q a o i k kr nr Q) : Ev G mL_law 455 [some (.ref (gb G)), some (.ref (q 0)), some (.ref (a 0)), some (.ref o), some (.int (nI i)), none, none] [] M (kr + 573) (nr + 3438) Q := by
  refine Ev.ald1 dL_law_455 ?_
  refine Ev.cvI (Yc := mX5_open) (n := 0) dL_law_456 lL_61 vX5_open rfl (k_open h.1 h.inv.1) ⟨_, h.1.2.1⟩ rfl rfl rfl rfl ?_
  rintro x M1 ⟨rfl, hK⟩
  obtain ⟨q1, n1, e1, h1⟩ := h.cls hK ((inv_open h.inv).up)
  obtain ⟨v, L, X, hZ, hR⟩ := h1.mz
  refine Ev.ald2 dL_law_459 ?_
  refine Ev.cvI (Yc := mX6_open) (n := 0) dL_law_460 lL_64 vX6_open rfl (m_open h.inv.1 hR hZ) ⟨_, hZ.2.1.1⟩ rfl rfl rfl rfl ?_
  rintro y M2 ⟨rfl, v', X', hZ', hR'⟩
  refine Ev.icmp_eq (tgt := 1226) dL_law_463 (by decide) (fun _ => ?_) (fun c => absurd rfl c)
  exact (K q1 n1 _ M2 e1 (h1.ref hZ' hR')).more (by omega) (by omega)
set_option maxRecDepth 20000 in
theorem lc_reference (h : LI q na a o S S k M) (hi : i + 8 ≤ gL G) (hL : gL G ≤ 4096) (hk : k < 100000) (K : LK G q a o i k kr nr Q) : Ev G mL_law 468 [some (.ref (gb G)), some (.ref (q 0)), some (.ref (a 0)), some (.ref o), some (.int (nI i)), none, none] [] M (kr + 573) (nr + 3438) Q := by
  refine Ev.ald1 dL_law_468 ?_
  refine Ev.ald0 dL_law_469 ?_
  refine Ev.ild4 dL_law_470 ?_
  refine Ev.iconst (v := 1) dL_law_472 (by decide) ?_
  refine Ev.iadd dL_law_473 ?_
  refine Ev.scl (n := i + 1) dL_law_474 (sx 1) (by omega) hL ?_
  refine Ev.cvI (Yc := mX5_reference) (n := 1) dL_law_475 lL_65 vX5_reference rfl (k_reference h.1 h.inv.1) ⟨_, h.1.2.1⟩ rfl rfl rfl rfl ?_
  rintro x M1 ⟨rfl, hK⟩
  obtain ⟨q1, n1, e1, h1⟩ := h.cls hK ((inv_reference h.inv).up)
  obtain ⟨v, L, X, hZ, hR⟩ := h1.mz
  refine Ev.ald2 dL_law_478 ?_
  refine Ev.ald0 dL_law_479 ?_
  refine Ev.ild4 dL_law_480 ?_
  refine Ev.iconst (v := 1) dL_law_482 (by decide) ?_
  refine Ev.iadd dL_law_483 ?_
  refine Ev.scl (n := i + 1) dL_law_484 (sx 1) (by omega) hL ?_
  refine Ev.cvI (Yc := mX6_reference_) (n := 1) dL_law_485 lL_68 vX6_reference_ rfl (m_reference h.inv.1 hR hZ) ⟨_, hZ.2.1.1⟩ rfl rfl rfl rfl ?_
  rintro y M2 ⟨rfl, v', X', hZ', hR'⟩
  refine Ev.icmp_eq (tgt := 1226) dL_law_488 (by decide) (fun _ => ?_) (fun c => absurd rfl c)
  exact (K q1 n1 _ M2 e1 (h1.ref hZ' hR')).more (by omega) (by omega)
set_option maxRecDepth 20000 in
theorem lc_collar (h : LI q na a o S S k M) (hi : i + 8 ≤ gL G) (hL : gL G ≤ 4096) (hk : k < 100000) (K : LK G q a o i k kr nr Q) : Ev G mL_law 493 [some (.ref (gb G)), some (.ref (q 0)), some (.ref (a 0)), some (.ref o), some (.int (nI i)), none, none] [] M (kr + 573) (nr + 3438) Q := by
  refine Ev.ald1 dL_law_493 ?_
  refine Ev.ald0 dL_law_494 ?_
  refine Ev.ild4 dL_law_495 ?_
  refine Ev.iconst (v := 1) dL_law_497 (by decide) ?_
  refine Ev.iadd dL_law_498 ?_
  refine Ev.scl (n := i + 1) dL_law_499 (sx 1) (by omega) hL ?_
  refine Ev.ald0 dL_law_500 ?_
  refine Ev.ild4 dL_law_501 ?_
  refine Ev.iconst (v := 2) dL_law_503 (by decide) ?_
  refine Ev.iadd dL_law_504 ?_
  refine Ev.scl (n := i + 2) dL_law_505 (sx 2) (by omega) hL ?_
  refine Ev.cvI (Yc := mX5_collar) (n := 2) dL_law_506 lL_69 vX5_collar rfl (k_collar h.1 h.inv.1) ⟨_, h.1.2.1⟩ rfl rfl rfl rfl ?_
  rintro x M1 ⟨rfl, hK⟩
  obtain ⟨q1, n1, e1, h1⟩ := h.cls hK ((inv_collar h.inv).up)
  obtain ⟨v, L, X, hZ, hR⟩ := h1.mz
  refine Ev.ald2 dL_law_509 ?_
  refine Ev.ald0 dL_law_510 ?_
  refine Ev.ild4 dL_law_511 ?_
  refine Ev.iconst (v := 1) dL_law_513 (by decide) ?_
  refine Ev.iadd dL_law_514 ?_
  refine Ev.scl (n := i + 1) dL_law_515 (sx 1) (by omega) hL ?_
  refine Ev.ald0 dL_law_516 ?_
  refine Ev.ild4 dL_law_517 ?_
  refine Ev.iconst (v := 2) dL_law_519 (by decide) ?_
  refine Ev.iadd dL_law_520 ?_
  refine Ev.scl (n := i + 2) dL_law_521 (sx 2) (by omega) hL ?_
  refine Ev.cvI (Yc := mX6_collar) (n := 2) dL_law_522 lL_73 vX6_collar rfl (m_collar h.inv.1 hR hZ) ⟨_, hZ.2.1.1⟩ rfl rfl rfl rfl ?_
  rintro y M2 ⟨rfl, v', X', hZ', hR'⟩
  refine Ev.icmp_eq (tgt := 1226) dL_law_525 (by decide) (fun _ => ?_) (fun c => absurd rfl c)
  exact (K q1 n1 _ M2 e1 (h1.ref hZ' hR')).more (by omega) (by omega)
set_option maxRecDepth 20000 in
theorem lc_back (h : LI q na a o S S k M) (hi : i + 8 ≤ gL G) (hL : gL G ≤ 4096) (hk : k < 100000) (K : LK G q a o i k kr nr Q) : Ev G mL_law 530 [some (.ref (gb G)), some (.ref (q 0)), some (.ref (a 0)), some (.ref o), some (.int (nI i)), none, none] [] M (kr + 573) (nr + 3438) Q := by
  refine Ev.ald1 dL_law_530 ?_
  refine Ev.cvI (Yc := mX5_back) (n := 0) dL_law_531 lL_74 vX5_back rfl (k_back h.1 h.inv.1) ⟨_, h.1.2.1⟩ rfl rfl rfl rfl ?_
  rintro x M1 ⟨rfl, hK⟩
  obtain ⟨q1, n1, e1, h1⟩ := h.cls hK ((inv_back h.inv).up)
  obtain ⟨v, L, X, hZ, hR⟩ := h1.mz
  refine Ev.ald2 dL_law_534 ?_
  refine Ev.cvI (Yc := mX6_back) (n := 0) dL_law_535 lL_77 vX6_back rfl (m_back h.inv.1 hR hZ) ⟨_, hZ.2.1.1⟩ rfl rfl rfl rfl ?_
  rintro y M2 ⟨rfl, v', X', hZ', hR'⟩
  refine Ev.icmp_eq (tgt := 1226) dL_law_538 (by decide) (fun _ => ?_) (fun c => absurd rfl c)
  exact (K q1 n1 _ M2 e1 (h1.ref hZ' hR')).more (by omega) (by omega)
set_option maxRecDepth 20000 in
theorem lc_order (h : LI q na a o S S k M) (hi : i + 8 ≤ gL G) (hL : gL G ≤ 4096) (hk : k < 100000) (K : LK G q a o i k kr nr Q) : Ev G mL_law 543 [some (.ref (gb G)), some (.ref (q 0)), some (.ref (a 0)), some (.ref o), some (.int (nI i)), none, none] [] M (kr + 573) (nr + 3438) Q := by
  refine Ev.ald1 dL_law_543 ?_
  refine Ev.ald0 dL_law_544 ?_
  refine Ev.ild4 dL_law_545 ?_
  refine Ev.iconst (v := 1) dL_law_547 (by decide) ?_
  refine Ev.iadd dL_law_548 ?_
  refine Ev.scl (n := i + 1) dL_law_549 (sx 1) (by omega) hL ?_
  refine Ev.ald0 dL_law_550 ?_
  refine Ev.ild4 dL_law_551 ?_
  refine Ev.iconst (v := 2) dL_law_553 (by decide) ?_
  refine Ev.iadd dL_law_554 ?_
  refine Ev.scl (n := i + 2) dL_law_555 (sx 2) (by omega) hL ?_
  refine Ev.cvI (Yc := mX5_order) (n := 2) dL_law_556 lL_78 vX5_order rfl (k_order h.1 h.inv.1) ⟨_, h.1.2.1⟩ rfl rfl rfl rfl ?_
  rintro x M1 ⟨rfl, hK⟩
  obtain ⟨q1, n1, e1, h1⟩ := h.cls hK (h.inv.up)
  obtain ⟨v, L, X, hZ, hR⟩ := h1.mz
  refine Ev.ald2 dL_law_559 ?_
  refine Ev.ald0 dL_law_560 ?_
  refine Ev.ild4 dL_law_561 ?_
  refine Ev.iconst (v := 1) dL_law_563 (by decide) ?_
  refine Ev.iadd dL_law_564 ?_
  refine Ev.scl (n := i + 1) dL_law_565 (sx 1) (by omega) hL ?_
  refine Ev.ald0 dL_law_566 ?_
  refine Ev.ild4 dL_law_567 ?_
  refine Ev.iconst (v := 2) dL_law_569 (by decide) ?_
  refine Ev.iadd dL_law_570 ?_
  refine Ev.scl (n := i + 2) dL_law_571 (sx 2) (by omega) hL ?_
  refine Ev.cvI (Yc := mX6_order) (n := 2) dL_law_572 lL_81 vX6_order rfl (m_order h.inv.1 hR hZ) ⟨_, hZ.2.1.1⟩ rfl rfl rfl rfl ?_
  rintro y M2 ⟨rfl, v', X', hZ', hR'⟩
  refine Ev.icmp_eq (tgt := 1226) dL_law_575 (by decide) (fun _ => ?_) (fun c => absurd rfl c)
  exact (K q1 n1 _ M2 e1 (h1.ref hZ' hR')).more (by omega) (by omega)
set_option maxRecDepth 20000 in
theorem lc_fill (h : LI q na a o S S k M) (hi : i + 8 ≤ gL G) (hL : gL G ≤ 4096) (hk : k < 100000) (K : LK G q a o i k kr nr Q) : Ev G mL_law 704 [some (.ref (gb G)), some (.ref (q 0)), some (.ref (a 0)), some (.ref o), some (.int (nI i)), none, none] [] M (kr + 573) (nr + 3438) Q := by
  refine Ev.ald1 dL_law_704 ?_
  refine Ev.ald0 dL_law_705 ?_
  refine Ev.ild4 dL_law_706 ?_
  refine Ev.iconst (v := 1) dL_law_708 (by decide) ?_
  refine Ev.iadd dL_law_709 ?_
  refine Ev.scl (n := i + 1) dL_law_710 (sx 1) (by omega) hL ?_
  refine Ev.cvI (Yc := mX5_fill) (n := 1) dL_law_711 lL_95 vX5_fill rfl (k_fill h.1 h.inv.1) ⟨_, h.1.2.1⟩ rfl rfl rfl rfl ?_
  rintro x M1 ⟨rfl, hK⟩
  obtain ⟨q1, n1, e1, h1⟩ := h.cls hK (h.inv.up)
  obtain ⟨v, L, X, hZ, hR⟩ := h1.mz
  refine Ev.ald2 dL_law_714 ?_
  refine Ev.ald0 dL_law_715 ?_
  refine Ev.ild4 dL_law_716 ?_
  refine Ev.iconst (v := 1) dL_law_718 (by decide) ?_
  refine Ev.iadd dL_law_719 ?_
  refine Ev.scl (n := i + 1) dL_law_720 (sx 1) (by omega) hL ?_
  refine Ev.cvI (Yc := mX6_fill) (n := 1) dL_law_721 lL_98 vX6_fill rfl (m_fill h.inv.1 hR hZ) ⟨_, hZ.2.1.1⟩ rfl rfl rfl rfl ?_
  rintro y M2 ⟨rfl, v', X', hZ', hR'⟩
  refine Ev.icmp_eq (tgt := 1226) dL_law_724 (by decide) (fun _ => ?_) (fun c => absurd rfl c)
  exact (K q1 n1 _ M2 e1 (h1.ref hZ' hR')).more (by omega) (by omega)
set_option maxRecDepth 20000 in
theorem lc_slice (h : LI q na a o S S k M) (hi : i + 8 ≤ gL G) (hL : gL G ≤ 4096) (hk : k < 100000) (K : LK G q a o i k kr nr Q) : Ev G mL_law 729 [some (.ref (gb G)), some (.ref (q 0)), some (.ref (a 0)), some (.ref o), some (.int (nI i)), none, none] [] M (kr + 573) (nr + 3438) Q := by
  refine Ev.ald1 dL_law_729 ?_
  refine Ev.ald0 dL_law_730 ?_
  refine Ev.ild4 dL_law_731 ?_
  refine Ev.iconst (v := 1) dL_law_733 (by decide) ?_
  refine Ev.iadd dL_law_734 ?_
  refine Ev.scl (n := i + 1) dL_law_735 (sx 1) (by omega) hL ?_
  refine Ev.ald0 dL_law_736 ?_
  refine Ev.ild4 dL_law_737 ?_
  refine Ev.iconst (v := 2) dL_law_739 (by decide) ?_
  refine Ev.iadd dL_law_740 ?_
  refine Ev.scl (n := i + 2) dL_law_741 (sx 2) (by omega) hL ?_
  refine Ev.ald0 dL_law_742 ?_
  refine Ev.ild4 dL_law_743 ?_
  refine Ev.iconst (v := 3) dL_law_745 (by decide) ?_
  refine Ev.iadd dL_law_746 ?_
  refine Ev.scl (n := i + 3) dL_law_747 (sx 3) (by omega) hL ?_
  refine Ev.ald0 dL_law_748 ?_
  refine Ev.ild4 dL_law_749 ?_
  refine Ev.iconst (v := 4) dL_law_751 (by decide) ?_
  refine Ev.iadd dL_law_752 ?_
  refine Ev.scl (n := i + 4) dL_law_753 (sx 4) (by omega) hL ?_
  refine Ev.cvI (Yc := mX5_slice) (n := 4) dL_law_754 lL_99 vX5_slice rfl (k_slice h.1 h.inv.1) ⟨_, h.1.2.1⟩ rfl rfl rfl rfl ?_
  rintro x M1 ⟨rfl, hK⟩
  obtain ⟨q1, n1, e1, h1⟩ := h.cls hK (h.inv.up)
  obtain ⟨v, L, X, hZ, hR⟩ := h1.mz
  refine Ev.ald2 dL_law_757 ?_
  refine Ev.ald0 dL_law_758 ?_
  refine Ev.ild4 dL_law_759 ?_
  refine Ev.iconst (v := 1) dL_law_761 (by decide) ?_
  refine Ev.iadd dL_law_762 ?_
  refine Ev.scl (n := i + 1) dL_law_763 (sx 1) (by omega) hL ?_
  refine Ev.ald0 dL_law_764 ?_
  refine Ev.ild4 dL_law_765 ?_
  refine Ev.iconst (v := 2) dL_law_767 (by decide) ?_
  refine Ev.iadd dL_law_768 ?_
  refine Ev.scl (n := i + 2) dL_law_769 (sx 2) (by omega) hL ?_
  refine Ev.ald0 dL_law_770 ?_
  refine Ev.ild4 dL_law_771 ?_
  refine Ev.iconst (v := 3) dL_law_773 (by decide) ?_
  refine Ev.iadd dL_law_774 ?_
  refine Ev.scl (n := i + 3) dL_law_775 (sx 3) (by omega) hL ?_
  refine Ev.ald0 dL_law_776 ?_
  refine Ev.ild4 dL_law_777 ?_
  refine Ev.iconst (v := 4) dL_law_779 (by decide) ?_
  refine Ev.iadd dL_law_780 ?_
  refine Ev.scl (n := i + 4) dL_law_781 (sx 4) (by omega) hL ?_
  refine Ev.cvI (Yc := mX6_slice) (n := 4) dL_law_782 lL_103 vX6_slice rfl (m_slice h.inv.1 hR hZ) ⟨_, hZ.2.1.1⟩ rfl rfl rfl rfl ?_
  rintro y M2 ⟨rfl, v', X', hZ', hR'⟩
  refine Ev.icmp_eq (tgt := 1226) dL_law_785 (by decide) (fun _ => ?_) (fun c => absurd rfl c)
  exact (K q1 n1 _ M2 e1 (h1.ref hZ' hR')).more (by omega) (by omega)
set_option maxRecDepth 20000 in
theorem lc_trade (h : LI q na a o S S k M) (hi : i + 8 ≤ gL G) (hL : gL G ≤ 4096) (hk : k < 100000) (K : LK G q a o i k kr nr Q) : Ev G mL_law 790 [some (.ref (gb G)), some (.ref (q 0)), some (.ref (a 0)), some (.ref o), some (.int (nI i)), none, none] [] M (kr + 573) (nr + 3438) Q := by
  refine Ev.ald1 dL_law_790 ?_
  refine Ev.ald0 dL_law_791 ?_
  refine Ev.ild4 dL_law_792 ?_
  refine Ev.iconst (v := 1) dL_law_794 (by decide) ?_
  refine Ev.iadd dL_law_795 ?_
  refine Ev.scl (n := i + 1) dL_law_796 (sx 1) (by omega) hL ?_
  refine Ev.ald0 dL_law_797 ?_
  refine Ev.ild4 dL_law_798 ?_
  refine Ev.iconst (v := 2) dL_law_800 (by decide) ?_
  refine Ev.iadd dL_law_801 ?_
  refine Ev.scl (n := i + 2) dL_law_802 (sx 2) (by omega) hL ?_
  refine Ev.cvI (Yc := mX5_trade) (n := 2) dL_law_803 lL_104 vX5_trade rfl (k_trade h.1 h.inv.1) ⟨_, h.1.2.1⟩ rfl rfl rfl rfl ?_
  rintro x M1 ⟨rfl, hK⟩
  obtain ⟨q1, n1, e1, h1⟩ := h.cls hK (h.inv.up)
  obtain ⟨v, L, X, hZ, hR⟩ := h1.mz
  refine Ev.ald2 dL_law_806 ?_
  refine Ev.ald0 dL_law_807 ?_
  refine Ev.ild4 dL_law_808 ?_
  refine Ev.iconst (v := 1) dL_law_810 (by decide) ?_
  refine Ev.iadd dL_law_811 ?_
  refine Ev.scl (n := i + 1) dL_law_812 (sx 1) (by omega) hL ?_
  refine Ev.ald0 dL_law_813 ?_
  refine Ev.ild4 dL_law_814 ?_
  refine Ev.iconst (v := 2) dL_law_816 (by decide) ?_
  refine Ev.iadd dL_law_817 ?_
  refine Ev.scl (n := i + 2) dL_law_818 (sx 2) (by omega) hL ?_
  refine Ev.cvI (Yc := mX6_trade) (n := 2) dL_law_819 lL_107 vX6_trade rfl (m_trade h.inv.1 hR hZ) ⟨_, hZ.2.1.1⟩ rfl rfl rfl rfl ?_
  rintro y M2 ⟨rfl, v', X', hZ', hR'⟩
  refine Ev.icmp_eq (tgt := 1226) dL_law_822 (by decide) (fun _ => ?_) (fun c => absurd rfl c)
  exact (K q1 n1 _ M2 e1 (h1.ref hZ' hR')).more (by omega) (by omega)
set_option maxRecDepth 20000 in
theorem lc_without (h : LI q na a o S S k M) (hi : i + 8 ≤ gL G) (hL : gL G ≤ 4096) (hk : k < 100000) (K : LK G q a o i k kr nr Q) : Ev G mL_law 883 [some (.ref (gb G)), some (.ref (q 0)), some (.ref (a 0)), some (.ref o), some (.int (nI i)), none, none] [] M (kr + 573) (nr + 3438) Q := by
  refine Ev.ald1 dL_law_883 ?_
  refine Ev.ald0 dL_law_884 ?_
  refine Ev.ild4 dL_law_885 ?_
  refine Ev.iconst (v := 1) dL_law_887 (by decide) ?_
  refine Ev.iadd dL_law_888 ?_
  refine Ev.scl (n := i + 1) dL_law_889 (sx 1) (by omega) hL ?_
  refine Ev.cvI (Yc := mX5_without) (n := 1) dL_law_890 lL_111 vX5_without rfl (k_without h.1 h.inv.1) ⟨_, h.1.2.1⟩ rfl rfl rfl rfl ?_
  rintro x M1 ⟨rfl, hK⟩
  obtain ⟨q1, n1, e1, h1⟩ := h.cls hK (h.inv.up)
  obtain ⟨v, L, X, hZ, hR⟩ := h1.mz
  refine Ev.ald2 dL_law_893 ?_
  refine Ev.ald0 dL_law_894 ?_
  refine Ev.ild4 dL_law_895 ?_
  refine Ev.iconst (v := 1) dL_law_897 (by decide) ?_
  refine Ev.iadd dL_law_898 ?_
  refine Ev.scl (n := i + 1) dL_law_899 (sx 1) (by omega) hL ?_
  refine Ev.cvI (Yc := mX6_without) (n := 1) dL_law_900 lL_114 vX6_without rfl (m_without h.inv.1 hR hZ) ⟨_, hZ.2.1.1⟩ rfl rfl rfl rfl ?_
  rintro y M2 ⟨rfl, v', X', hZ', hR'⟩
  refine Ev.icmp_eq (tgt := 1226) dL_law_903 (by decide) (fun _ => ?_) (fun c => absurd rfl c)
  exact (K q1 n1 _ M2 e1 (h1.ref hZ' hR')).more (by omega) (by omega)
set_option maxRecDepth 20000 in
theorem lc_with (h : LI q na a o S S k M) (hi : i + 8 ≤ gL G) (hL : gL G ≤ 4096) (hk : k < 100000) (K : LK G q a o i k kr nr Q) : Ev G mL_law 908 [some (.ref (gb G)), some (.ref (q 0)), some (.ref (a 0)), some (.ref o), some (.int (nI i)), none, none] [] M (kr + 573) (nr + 3438) Q := by
  refine Ev.ald1 dL_law_908 ?_
  refine Ev.ald0 dL_law_909 ?_
  refine Ev.ild4 dL_law_910 ?_
  refine Ev.iconst (v := 1) dL_law_912 (by decide) ?_
  refine Ev.iadd dL_law_913 ?_
  refine Ev.scl (n := i + 1) dL_law_914 (sx 1) (by omega) hL ?_
  refine Ev.ald0 dL_law_915 ?_
  refine Ev.ild4 dL_law_916 ?_
  refine Ev.iconst (v := 2) dL_law_918 (by decide) ?_
  refine Ev.iadd dL_law_919 ?_
  refine Ev.scl (n := i + 2) dL_law_920 (sx 2) (by omega) hL ?_
  refine Ev.ald0 dL_law_921 ?_
  refine Ev.ild4 dL_law_922 ?_
  refine Ev.iconst (v := 3) dL_law_924 (by decide) ?_
  refine Ev.iadd dL_law_925 ?_
  refine Ev.scl (n := i + 3) dL_law_926 (sx 3) (by omega) hL ?_
  refine Ev.ald0 dL_law_927 ?_
  refine Ev.ild4 dL_law_928 ?_
  refine Ev.iconst (v := 4) dL_law_930 (by decide) ?_
  refine Ev.iadd dL_law_931 ?_
  refine Ev.scl (n := i + 4) dL_law_932 (sx 4) (by omega) hL ?_
  refine Ev.cvI (Yc := mX5_with) (n := 4) dL_law_933 lL_115 vX5_with rfl (k_with h.1 h.inv.1) ⟨_, h.1.2.1⟩ rfl rfl rfl rfl ?_
  rintro x M1 ⟨rfl, hK⟩
  obtain ⟨q1, n1, e1, h1⟩ := h.cls hK (h.inv.up)
  obtain ⟨v, L, X, hZ, hR⟩ := h1.mz
  refine Ev.ald2 dL_law_936 ?_
  refine Ev.ald0 dL_law_937 ?_
  refine Ev.ild4 dL_law_938 ?_
  refine Ev.iconst (v := 1) dL_law_940 (by decide) ?_
  refine Ev.iadd dL_law_941 ?_
  refine Ev.scl (n := i + 1) dL_law_942 (sx 1) (by omega) hL ?_
  refine Ev.ald0 dL_law_943 ?_
  refine Ev.ild4 dL_law_944 ?_
  refine Ev.iconst (v := 2) dL_law_946 (by decide) ?_
  refine Ev.iadd dL_law_947 ?_
  refine Ev.scl (n := i + 2) dL_law_948 (sx 2) (by omega) hL ?_
  refine Ev.ald0 dL_law_949 ?_
  refine Ev.ild4 dL_law_950 ?_
  refine Ev.iconst (v := 3) dL_law_952 (by decide) ?_
  refine Ev.iadd dL_law_953 ?_
  refine Ev.scl (n := i + 3) dL_law_954 (sx 3) (by omega) hL ?_
  refine Ev.ald0 dL_law_955 ?_
  refine Ev.ild4 dL_law_956 ?_
  refine Ev.iconst (v := 4) dL_law_958 (by decide) ?_
  refine Ev.iadd dL_law_959 ?_
  refine Ev.scl (n := i + 4) dL_law_960 (sx 4) (by omega) hL ?_
  refine Ev.cvI (Yc := mX6_with) (n := 4) dL_law_961 lL_118 vX6_with rfl (m_with h.inv.1 hR hZ) ⟨_, hZ.2.1.1⟩ rfl rfl rfl rfl ?_
  rintro y M2 ⟨rfl, v', X', hZ', hR'⟩
  refine Ev.icmp_eq (tgt := 1226) dL_law_964 (by decide) (fun _ => ?_) (fun c => absurd rfl c)
  exact (K q1 n1 _ M2 e1 (h1.ref hZ' hR')).more (by omega) (by omega)
set_option maxRecDepth 20000 in
theorem lc_moves (h : LI q na a o S S k M) (hi : i + 8 ≤ gL G) (hL : gL G ≤ 4096) (hk : k < 100000) (K : LK G q a o i k kr nr Q) : Ev G mL_law 969 [some (.ref (gb G)), some (.ref (q 0)), some (.ref (a 0)), some (.ref o), some (.int (nI i)), none, none] [] M (kr + 573) (nr + 3438) Q := by
  refine Ev.ald1 dL_law_969 ?_
  refine Ev.ald0 dL_law_970 ?_
  refine Ev.ild4 dL_law_971 ?_
  refine Ev.iconst (v := 1) dL_law_973 (by decide) ?_
  refine Ev.iadd dL_law_974 ?_
  refine Ev.scl (n := i + 1) dL_law_975 (sx 1) (by omega) hL ?_
  refine Ev.ald0 dL_law_976 ?_
  refine Ev.ild4 dL_law_977 ?_
  refine Ev.iconst (v := 2) dL_law_979 (by decide) ?_
  refine Ev.iadd dL_law_980 ?_
  refine Ev.scl (n := i + 2) dL_law_981 (sx 2) (by omega) hL ?_
  refine Ev.cvI (Yc := mX5_moves) (n := 2) dL_law_982 lL_119 vX5_moves rfl (k_moves h.1 h.inv.1) ⟨_, h.1.2.1⟩ rfl rfl rfl rfl ?_
  rintro x M1 ⟨rfl, hK⟩
  obtain ⟨q1, n1, e1, h1⟩ := h.cls hK (h.inv.up)
  obtain ⟨v, L, X, hZ, hR⟩ := h1.mz
  refine Ev.ald2 dL_law_985 ?_
  refine Ev.ald0 dL_law_986 ?_
  refine Ev.ild4 dL_law_987 ?_
  refine Ev.iconst (v := 1) dL_law_989 (by decide) ?_
  refine Ev.iadd dL_law_990 ?_
  refine Ev.scl (n := i + 1) dL_law_991 (sx 1) (by omega) hL ?_
  refine Ev.ald0 dL_law_992 ?_
  refine Ev.ild4 dL_law_993 ?_
  refine Ev.iconst (v := 2) dL_law_995 (by decide) ?_
  refine Ev.iadd dL_law_996 ?_
  refine Ev.scl (n := i + 2) dL_law_997 (sx 2) (by omega) hL ?_
  refine Ev.cvI (Yc := mX6_moves) (n := 2) dL_law_998 lL_122 vX6_moves rfl (m_moves h.inv.1 hR hZ) ⟨_, hZ.2.1.1⟩ rfl rfl rfl rfl ?_
  rintro y M2 ⟨rfl, v', X', hZ', hR'⟩
  refine Ev.icmp_eq (tgt := 1226) dL_law_1001 (by decide) (fun _ => ?_) (fun c => absurd rfl c)
  exact (K q1 n1 _ M2 e1 (h1.ref hZ' hR')).more (by omega) (by omega)
set_option maxRecDepth 20000 in
theorem lc_swings (h : LI q na a o S S k M) (hi : i + 8 ≤ gL G) (hL : gL G ≤ 4096) (hk : k < 100000) (K : LK G q a o i k kr nr Q) : Ev G mL_law 1006 [some (.ref (gb G)), some (.ref (q 0)), some (.ref (a 0)), some (.ref o), some (.int (nI i)), none, none] [] M (kr + 573) (nr + 3438) Q := by
  refine Ev.ald1 dL_law_1006 ?_
  refine Ev.cvL (Yc := mX5_swings) (n := 0) dL_law_1007 lL_123 vX5_swings rfl (k_swings h.1 h.inv.1) ⟨_, h.1.2.1⟩ rfl rfl rfl rfl ?_
  rintro x M1 ⟨rfl, hK⟩
  obtain ⟨q1, n1, e1, h1⟩ := h.cls hK (h.inv.up)
  obtain ⟨v, L, X, hZ, hR⟩ := h1.mz
  refine Ev.ald2 dL_law_1010 ?_
  refine Ev.cvL (Yc := mX6_swings) (n := 0) dL_law_1011 lL_127 vX6_swings rfl (m_swings h.inv.1 hR hZ) ⟨_, hZ.2.1.1⟩ rfl rfl rfl rfl ?_
  rintro y M2 ⟨rfl, v', X', hZ', hR'⟩
  refine Ev.lcmp dL_law_1014 ?_
  refine Ev.if_eq (tgt := 1226) dL_law_1015 (by decide) (fun _ => ?_) (fun c => absurd lc_0 c)
  exact (K q1 n1 _ M2 e1 (h1.ref hZ' hR')).more (by omega) (by omega)
set_option maxRecDepth 20000 in
theorem lc_level (h : LI q na a o S S k M) (hi : i + 8 ≤ gL G) (hL : gL G ≤ 4096) (hk : k < 100000) (K : LK G q a o i k kr nr Q) : Ev G mL_law 1020 [some (.ref (gb G)), some (.ref (q 0)), some (.ref (a 0)), some (.ref o), some (.int (nI i)), none, none] [] M (kr + 573) (nr + 3438) Q := by
  refine Ev.ald1 dL_law_1020 ?_
  refine Ev.ald0 dL_law_1021 ?_
  refine Ev.ild4 dL_law_1022 ?_
  refine Ev.iconst (v := 1) dL_law_1024 (by decide) ?_
  refine Ev.iadd dL_law_1025 ?_
  refine Ev.scl (n := i + 1) dL_law_1026 (sx 1) (by omega) hL ?_
  refine Ev.ald0 dL_law_1027 ?_
  refine Ev.ild4 dL_law_1028 ?_
  refine Ev.iconst (v := 2) dL_law_1030 (by decide) ?_
  refine Ev.iadd dL_law_1031 ?_
  refine Ev.scl (n := i + 2) dL_law_1032 (sx 2) (by omega) hL ?_
  refine Ev.ald0 dL_law_1033 ?_
  refine Ev.ild4 dL_law_1034 ?_
  refine Ev.iconst (v := 3) dL_law_1036 (by decide) ?_
  refine Ev.iadd dL_law_1037 ?_
  refine Ev.scl (n := i + 3) dL_law_1038 (sx 3) (by omega) hL ?_
  refine Ev.cvI (Yc := mX5_level) (n := 3) dL_law_1039 lL_128 vX5_level rfl (k_level h.1 h.inv.1) ⟨_, h.1.2.1⟩ rfl rfl rfl rfl ?_
  rintro x M1 ⟨rfl, hK⟩
  obtain ⟨q1, n1, e1, h1⟩ := h.cls hK (h.inv.up)
  obtain ⟨v, L, X, hZ, hR⟩ := h1.mz
  refine Ev.ald2 dL_law_1042 ?_
  refine Ev.ald0 dL_law_1043 ?_
  refine Ev.ild4 dL_law_1044 ?_
  refine Ev.iconst (v := 1) dL_law_1046 (by decide) ?_
  refine Ev.iadd dL_law_1047 ?_
  refine Ev.scl (n := i + 1) dL_law_1048 (sx 1) (by omega) hL ?_
  refine Ev.ald0 dL_law_1049 ?_
  refine Ev.ild4 dL_law_1050 ?_
  refine Ev.iconst (v := 2) dL_law_1052 (by decide) ?_
  refine Ev.iadd dL_law_1053 ?_
  refine Ev.scl (n := i + 2) dL_law_1054 (sx 2) (by omega) hL ?_
  refine Ev.ald0 dL_law_1055 ?_
  refine Ev.ild4 dL_law_1056 ?_
  refine Ev.iconst (v := 3) dL_law_1058 (by decide) ?_
  refine Ev.iadd dL_law_1059 ?_
  refine Ev.scl (n := i + 3) dL_law_1060 (sx 3) (by omega) hL ?_
  refine Ev.cvI (Yc := mX6_level) (n := 3) dL_law_1061 lL_132 vX6_level rfl (m_level h.inv.1 hR hZ) ⟨_, hZ.2.1.1⟩ rfl rfl rfl rfl ?_
  rintro y M2 ⟨rfl, v', X', hZ', hR'⟩
  refine Ev.icmp_eq (tgt := 1226) dL_law_1064 (by decide) (fun _ => ?_) (fun c => absurd rfl c)
  exact (K q1 n1 _ M2 e1 (h1.ref hZ' hR')).more (by omega) (by omega)
set_option maxRecDepth 20000 in
theorem lc_owner (h : LI q na a o S S k M) (hi : i + 8 ≤ gL G) (hL : gL G ≤ 4096) (hk : k < 100000) (K : LK G q a o i k kr nr Q) : Ev G mL_law 1137 [some (.ref (gb G)), some (.ref (q 0)), some (.ref (a 0)), some (.ref o), some (.int (nI i)), none, none] [] M (kr + 573) (nr + 3438) Q := by
  refine Ev.ald1 dL_law_1137 ?_
  refine Ev.ald0 dL_law_1138 ?_
  refine Ev.ild4 dL_law_1139 ?_
  refine Ev.iconst (v := 1) dL_law_1141 (by decide) ?_
  refine Ev.iadd dL_law_1142 ?_
  refine Ev.scl (n := i + 1) dL_law_1143 (sx 1) (by omega) hL ?_
  refine Ev.ald0 dL_law_1144 ?_
  refine Ev.ild4 dL_law_1145 ?_
  refine Ev.iconst (v := 2) dL_law_1147 (by decide) ?_
  refine Ev.iadd dL_law_1148 ?_
  refine Ev.scl (n := i + 2) dL_law_1149 (sx 2) (by omega) hL ?_
  refine Ev.cvI (Yc := mX5_owner) (n := 2) dL_law_1150 lL_136 vX5_owner rfl (k_owner h.1 h.inv.1 h.inv.2.2.1.1) ⟨_, h.1.2.1⟩ rfl rfl rfl rfl ?_
  rintro x M1 ⟨rfl, hK⟩
  obtain ⟨q1, n1, e1, h1⟩ := h.cls hK (h.inv.up)
  obtain ⟨v, L, X, hZ, hR⟩ := h1.mz
  refine Ev.ald2 dL_law_1153 ?_
  refine Ev.ald0 dL_law_1154 ?_
  refine Ev.ild4 dL_law_1155 ?_
  refine Ev.iconst (v := 1) dL_law_1157 (by decide) ?_
  refine Ev.iadd dL_law_1158 ?_
  refine Ev.scl (n := i + 1) dL_law_1159 (sx 1) (by omega) hL ?_
  refine Ev.ald0 dL_law_1160 ?_
  refine Ev.ild4 dL_law_1161 ?_
  refine Ev.iconst (v := 2) dL_law_1163 (by decide) ?_
  refine Ev.iadd dL_law_1164 ?_
  refine Ev.scl (n := i + 2) dL_law_1165 (sx 2) (by omega) hL ?_
  refine Ev.cvI (Yc := mX6_owner) (n := 2) dL_law_1166 lL_139 vX6_owner rfl (m_owner h.inv.1 hR hZ) ⟨_, hZ.2.1.1⟩ rfl rfl rfl rfl ?_
  rintro y M2 ⟨rfl, v', X', hZ', hR'⟩
  refine Ev.icmp_eq (tgt := 1226) dL_law_1169 (by decide) (fun _ => ?_) (fun c => absurd rfl c)
  exact (K q1 n1 _ M2 e1 (h1.ref hZ' hR')).more (by omega) (by omega)
set_option maxRecDepth 20000 in
theorem lc_gain (h : LI q na a o S S k M) (hi : i + 8 ≤ gL G) (hL : gL G ≤ 4096) (hk : k < 100000) (K : LK G q a o i k kr nr Q) : Ev G mL_law 1174 [some (.ref (gb G)), some (.ref (q 0)), some (.ref (a 0)), some (.ref o), some (.int (nI i)), none, none] [] M (kr + 573) (nr + 3438) Q := by
  refine Ev.ald1 dL_law_1174 ?_
  refine Ev.cvL (Yc := mX5_gain) (n := 0) dL_law_1175 lL_140 vX5_gain rfl (k_gain h.1 h.inv.1) ⟨_, h.1.2.1⟩ rfl rfl rfl rfl ?_
  rintro x M1 ⟨rfl, hK⟩
  obtain ⟨q1, n1, e1, h1⟩ := h.cls hK (h.inv.up)
  obtain ⟨v, L, X, hZ, hR⟩ := h1.mz
  refine Ev.ald2 dL_law_1178 ?_
  refine Ev.cvL (Yc := mX6_gain) (n := 0) dL_law_1179 lL_143 vX6_gain rfl (m_gain h.inv.1 hR hZ) ⟨_, hZ.2.1.1⟩ rfl rfl rfl rfl ?_
  rintro y M2 ⟨rfl, v', X', hZ', hR'⟩
  refine Ev.lcmp dL_law_1182 ?_
  refine Ev.if_eq (tgt := 1226) dL_law_1183 (by decide) (fun _ => ?_) (fun c => absurd lc_0 c)
  exact (K q1 n1 _ M2 e1 (h1.ref hZ' hR')).more (by omega) (by omega)
set_option maxRecDepth 20000 in
theorem lc_left (h : LI q na a o S S k M) (hi : i + 8 ≤ gL G) (hL : gL G ≤ 4096) (hk : k < 100000) (K : LK G q a o i k kr nr Q) : Ev G mL_law 1188 [some (.ref (gb G)), some (.ref (q 0)), some (.ref (a 0)), some (.ref o), some (.int (nI i)), none, none] [] M (kr + 573) (nr + 3438) Q := by
  refine Ev.ald1 dL_law_1188 ?_
  refine Ev.cvI (Yc := mX5_left) (n := 0) dL_law_1189 lL_144 vX5_left rfl (k_left h.1 h.inv.1) ⟨_, h.1.2.1⟩ rfl rfl rfl rfl ?_
  rintro x M1 ⟨rfl, hK⟩
  obtain ⟨q1, n1, e1, h1⟩ := h.cls hK (h.inv.up)
  obtain ⟨v, L, X, hZ, hR⟩ := h1.mz
  refine Ev.ald2 dL_law_1192 ?_
  refine Ev.cvI (Yc := mX6_left) (n := 0) dL_law_1193 lL_147 vX6_left rfl (m_left h.inv.1 hR hZ) ⟨_, hZ.2.1.1⟩ rfl rfl rfl rfl ?_
  rintro y M2 ⟨rfl, v', X', hZ', hR'⟩
  refine Ev.icmp_eq (tgt := 1226) dL_law_1196 (by decide) (fun _ => ?_) (fun c => absurd rfl c)
  exact (K q1 n1 _ M2 e1 (h1.ref hZ' hR')).more (by omega) (by omega)
set_option maxRecDepth 20000 in
theorem lc_count (h : LI q na a o S S k M) (hi : i + 8 ≤ gL G) (hL : gL G ≤ 4096) (hk : k < 100000) (K : LK G q a o i k kr nr Q) : Ev G mL_law 1201 [some (.ref (gb G)), some (.ref (q 0)), some (.ref (a 0)), some (.ref o), some (.int (nI i)), none, none] [] M (kr + 573) (nr + 3438) Q := by
  refine Ev.ald1 dL_law_1201 ?_
  refine Ev.ald0 dL_law_1202 ?_
  refine Ev.ild4 dL_law_1203 ?_
  refine Ev.iconst (v := 1) dL_law_1205 (by decide) ?_
  refine Ev.iadd dL_law_1206 ?_
  refine Ev.scl (n := i + 1) dL_law_1207 (sx 1) (by omega) hL ?_
  refine Ev.cvI (Yc := mX5_count) (n := 1) dL_law_1208 lL_148 vX5_count rfl (k_count h.1 h.inv.1) ⟨_, h.1.2.1⟩ rfl rfl rfl rfl ?_
  rintro x M1 ⟨rfl, hK⟩
  obtain ⟨q1, n1, e1, h1⟩ := h.cls hK (h.inv.up)
  obtain ⟨v, L, X, hZ, hR⟩ := h1.mz
  refine Ev.ald2 dL_law_1211 ?_
  refine Ev.ald0 dL_law_1212 ?_
  refine Ev.ild4 dL_law_1213 ?_
  refine Ev.iconst (v := 1) dL_law_1215 (by decide) ?_
  refine Ev.iadd dL_law_1216 ?_
  refine Ev.scl (n := i + 1) dL_law_1217 (sx 1) (by omega) hL ?_
  refine Ev.cvI (Yc := mX6_count) (n := 1) dL_law_1218 lL_151 vX6_count rfl (m_count h.inv.1 hR hZ) ⟨_, hZ.2.1.1⟩ rfl rfl rfl rfl ?_
  rintro y M2 ⟨rfl, v', X', hZ', hR'⟩
  refine Ev.icmp_eq (tgt := 1226) dL_law_1221 (by decide) (fun _ => ?_) (fun c => absurd rfl c)
  exact (K q1 n1 _ M2 e1 (h1.ref hZ' hR')).more (by omega) (by omega)
end LWA
