abbrev mL_law : Meth := (yL_law, cL_law, 4, some .boolean, 10)
theorem g_same {K : Nat} {M : Meth} {pc : Nat} {ls : List (Option AV)} {st : List AV} {σ : Mem} {Q : Option AV → Mem → Prop} {x off : Int} {tgt : Nat} (hd : decode (mC M) pc = .ok (.if_icmp .eq off, 3)) (ht : (pc : Int) + off = (tgt : Int)) (kt : Go K M tgt ls st σ Q) : Go K M pc ls (aI x :: aI x :: st) σ Q := by
  intro ad D cs A p l e R s m args below meth c cells slots Z C hret H locs lsC hH hS hL
  exact lv_icmp_eq C.1 C.2.1 hd ht (fun h => kt ad D cs A p l e R s m args below meth c cells slots Z C hret H locs lsC hH hS hL) (fun h => absurd rfl h)
/-- the script: its length, its numbers -/
def SC (σ : Mem) (L : Int) : Prop := σ 204 0 = L ∧ ∀ j, i32 (σ 104 j)
theorem SC.kX {σ τ : Mem} {L : Int} (h : SC σ L) (k : keepX σ τ) : SC τ L := ⟨by rw [k 204 (by decide)]; exact h.1, fun j => by rw [k 104 (by decide)]; exact h.2 j⟩
theorem SC.kM {σ τ : Mem} {L : Int} (h : SC σ L) (k : keepM σ τ) : SC τ L := ⟨by rw [k 204 (by decide)]; exact h.1, fun j => by rw [k 104 (by decide)]; exact h.2 j⟩

theorem law_c0 {b : Int} {V σ : Mem} {L i : Int} {Q : Option AV → Mem → Prop} (hi : Inv b V) (hb1 : 100000000 ≤ b) (hb : b + 400000 ≤ 500000000) (hx : RX V σ) (hm : RM V σ) (hs : SC σ L) (i0 : 0 ≤ i) (i1 : i + 5 ≤ L) (kk : ∀ V' τ, Inv (b + 200000) V' → RX V' τ → RM V' τ → SC τ L → Go 41 mL_law 1105 [some (aR 104), some (aR 0), some (aR 30), some (aI i)] [] τ Q) : Go 41 mL_law 172 [some (aR 104), some (aR 0), some (aR 30), some (aI i)] [] σ Q := by
  have hL := hs.1
  refine g_aload_n dL_law_172 rfl ?_
  refine g_aload_n dL_law_173 rfl ?_
  refine g_iload_n dL_law_174 rfl ?_
  refine g_iconst dL_law_175 ?_
  refine g_iadd dL_law_176 ?_
  refine g_roload dL_law_177 (by decide) (by decide) (by omega) (by rw [hL]; omega) ?_
  refine g_eV1 dL_law_178 qL_13 rfl (by decide) (by decide) (Nat.le_of_ble_eq_true rfl) (y_wheel hi hx _ (hs.2 _)) ?_
  intro τ hq
  obtain ⟨hx1, hk1⟩ := hq
  have hm1 : RM V τ := hm.keep hk1
  have hs1 : SC τ L := hs.kX hk1
  refine g_aload_n dL_law_181 rfl ?_
  refine g_aload_n dL_law_182 rfl ?_
  refine g_iload_n dL_law_183 rfl ?_
  refine g_iconst dL_law_184 ?_
  refine g_iadd dL_law_185 ?_
  refine g_roload dL_law_186 (by decide) (by decide) (by omega) (by rw [hs1.1]; omega) ?_
  rw [hk1 104 (by decide)]
  refine g_eV1 dL_law_187 qL_17 rfl (by decide) (by decide) (Nat.le_of_ble_eq_true rfl) (k_wheel hi hm1 _ (hs.2 _)) ?_
  intro τ2 hq2
  obtain ⟨hm2, hk2⟩ := hq2
  exact g_same (tgt := 1105) dL_law_190 (by decide) (kk _ τ2 (i_wheel hi hb1 (by omega) _) (hx1.keep hk2) hm2 (hs1.kM hk2))

theorem law_c1 {b : Int} {V σ : Mem} {L i : Int} {Q : Option AV → Mem → Prop} (hi : Inv b V) (hb1 : 100000000 ≤ b) (hb : b + 400000 ≤ 500000000) (hx : RX V σ) (hm : RM V σ) (hs : SC σ L) (i0 : 0 ≤ i) (i1 : i + 5 ≤ L) (kk : ∀ V' τ, Inv (b + 200000) V' → RX V' τ → RM V' τ → SC τ L → Go 41 mL_law 1105 [some (aR 104), some (aR 0), some (aR 30), some (aI i)] [] τ Q) : Go 41 mL_law 195 [some (aR 104), some (aR 0), some (aR 30), some (aI i)] [] σ Q := by
  have hL := hs.1
  refine g_aload_n dL_law_195 rfl ?_
  refine g_aload_n dL_law_196 rfl ?_
  refine g_iload_n dL_law_197 rfl ?_
  refine g_iconst dL_law_198 ?_
  refine g_iadd dL_law_199 ?_
  refine g_roload dL_law_200 (by decide) (by decide) (by omega) (by rw [hL]; omega) ?_
  refine g_aload_n dL_law_201 rfl ?_
  refine g_iload_n dL_law_202 rfl ?_
  refine g_iconst dL_law_203 ?_
  refine g_iadd dL_law_204 ?_
  refine g_roload dL_law_205 (by decide) (by decide) (by omega) (by rw [hL]; omega) ?_
  refine g_eV2 dL_law_206 qL_18 rfl (by decide) (by decide) (Nat.le_of_ble_eq_true rfl) (y_kind hi hx _ _ (hs.2 _) (hs.2 _)) ?_
  intro τ hq
  obtain ⟨hx1, hk1⟩ := hq
  have hm1 : RM V τ := hm.keep hk1
  have hs1 : SC τ L := hs.kX hk1
  refine g_aload_n dL_law_209 rfl ?_
  refine g_aload_n dL_law_210 rfl ?_
  refine g_iload_n dL_law_211 rfl ?_
  refine g_iconst dL_law_212 ?_
  refine g_iadd dL_law_213 ?_
  refine g_roload dL_law_214 (by decide) (by decide) (by omega) (by rw [hs1.1]; omega) ?_
  rw [hk1 104 (by decide)]
  refine g_aload_n dL_law_215 rfl ?_
  refine g_iload_n dL_law_216 rfl ?_
  refine g_iconst dL_law_217 ?_
  refine g_iadd dL_law_218 ?_
  refine g_roload dL_law_219 (by decide) (by decide) (by omega) (by rw [hs1.1]; omega) ?_
  rw [hk1 104 (by decide)]
  refine g_eV2 dL_law_220 qL_22 rfl (by decide) (by decide) (Nat.le_of_ble_eq_true rfl) (k_kind hi hm1 _ _ (hs.2 _) (hs.2 _)) ?_
  intro τ2 hq2
  obtain ⟨hm2, hk2⟩ := hq2
  exact g_same (tgt := 1105) dL_law_223 (by decide) (kk _ τ2 (i_kind hi hb1 (by omega) _ _) (hx1.keep hk2) hm2 (hs1.kM hk2))

theorem law_c2 {b : Int} {V σ : Mem} {L i : Int} {Q : Option AV → Mem → Prop} (hi : Inv b V) (hb1 : 100000000 ≤ b) (hb : b + 400000 ≤ 500000000) (hx : RX V σ) (hm : RM V σ) (hs : SC σ L) (i0 : 0 ≤ i) (i1 : i + 5 ≤ L) (kk : ∀ V' τ, Inv (b + 200000) V' → RX V' τ → RM V' τ → SC τ L → Go 41 mL_law 1105 [some (aR 104), some (aR 0), some (aR 30), some (aI i)] [] τ Q) : Go 41 mL_law 228 [some (aR 104), some (aR 0), some (aR 30), some (aI i)] [] σ Q := by
  have hL := hs.1
  refine g_aload_n dL_law_228 rfl ?_
  refine g_aload_n dL_law_229 rfl ?_
  refine g_iload_n dL_law_230 rfl ?_
  refine g_iconst dL_law_231 ?_
  refine g_iadd dL_law_232 ?_
  refine g_roload dL_law_233 (by decide) (by decide) (by omega) (by rw [hL]; omega) ?_
  refine g_aload_n dL_law_234 rfl ?_
  refine g_iload_n dL_law_235 rfl ?_
  refine g_iconst dL_law_236 ?_
  refine g_iadd dL_law_237 ?_
  refine g_roload dL_law_238 (by decide) (by decide) (by omega) (by rw [hL]; omega) ?_
  refine g_eV2 dL_law_239 qL_23 rfl (by decide) (by decide) (Nat.le_of_ble_eq_true rfl) (y_table hi hx _ _ (hs.2 _) (hs.2 _)) ?_
  intro τ hq
  obtain ⟨hx1, hk1⟩ := hq
  have hm1 : RM V τ := hm.keep hk1
  have hs1 : SC τ L := hs.kX hk1
  refine g_aload_n dL_law_242 rfl ?_
  refine g_aload_n dL_law_243 rfl ?_
  refine g_iload_n dL_law_244 rfl ?_
  refine g_iconst dL_law_245 ?_
  refine g_iadd dL_law_246 ?_
  refine g_roload dL_law_247 (by decide) (by decide) (by omega) (by rw [hs1.1]; omega) ?_
  rw [hk1 104 (by decide)]
  refine g_aload_n dL_law_248 rfl ?_
  refine g_iload_n dL_law_249 rfl ?_
  refine g_iconst dL_law_250 ?_
  refine g_iadd dL_law_251 ?_
  refine g_roload dL_law_252 (by decide) (by decide) (by omega) (by rw [hs1.1]; omega) ?_
  rw [hk1 104 (by decide)]
  refine g_eV2 dL_law_253 qL_26 rfl (by decide) (by decide) (Nat.le_of_ble_eq_true rfl) (k_table hi hm1 _ _ (hs.2 _) (hs.2 _)) ?_
  intro τ2 hq2
  obtain ⟨hm2, hk2⟩ := hq2
  exact g_same (tgt := 1105) dL_law_256 (by decide) (kk _ τ2 (i_table hi hb1 (by omega) _ _) (hx1.keep hk2) hm2 (hs1.kM hk2))

theorem law_c3 {b : Int} {V σ : Mem} {L i : Int} {Q : Option AV → Mem → Prop} (hi : Inv b V) (hb1 : 100000000 ≤ b) (hb : b + 400000 ≤ 500000000) (hx : RX V σ) (hm : RM V σ) (hs : SC σ L) (i0 : 0 ≤ i) (i1 : i + 5 ≤ L) (kk : ∀ V' τ, Inv (b + 200000) V' → RX V' τ → RM V' τ → SC τ L → Go 41 mL_law 1105 [some (aR 104), some (aR 0), some (aR 30), some (aI i)] [] τ Q) : Go 41 mL_law 261 [some (aR 104), some (aR 0), some (aR 30), some (aI i)] [] σ Q := by
  have hL := hs.1
  refine g_aload_n dL_law_261 rfl ?_
  refine g_aload_n dL_law_262 rfl ?_
  refine g_iload_n dL_law_263 rfl ?_
  refine g_iconst dL_law_264 ?_
  refine g_iadd dL_law_265 ?_
  refine g_roload dL_law_266 (by decide) (by decide) (by omega) (by rw [hL]; omega) ?_
  refine g_aload_n dL_law_267 rfl ?_
  refine g_iload_n dL_law_268 rfl ?_
  refine g_iconst dL_law_269 ?_
  refine g_iadd dL_law_270 ?_
  refine g_roload dL_law_271 (by decide) (by decide) (by omega) (by rw [hL]; omega) ?_
  refine g_aload_n dL_law_272 rfl ?_
  refine g_iload_n dL_law_273 rfl ?_
  refine g_iconst dL_law_274 ?_
  refine g_iadd dL_law_275 ?_
  refine g_roload dL_law_276 (by decide) (by decide) (by omega) (by rw [hL]; omega) ?_
  refine g_eV3 dL_law_277 qL_27 rfl (by decide) (by decide) (Nat.le_of_ble_eq_true rfl) (y_enter hi hx _ _ _ (hs.2 _) (hs.2 _) (hs.2 _)) ?_
  intro τ hq
  obtain ⟨hx1, hk1⟩ := hq
  have hm1 : RM V τ := hm.keep hk1
  have hs1 : SC τ L := hs.kX hk1
  refine g_aload_n dL_law_280 rfl ?_
  refine g_aload_n dL_law_281 rfl ?_
  refine g_iload_n dL_law_282 rfl ?_
  refine g_iconst dL_law_283 ?_
  refine g_iadd dL_law_284 ?_
  refine g_roload dL_law_285 (by decide) (by decide) (by omega) (by rw [hs1.1]; omega) ?_
  rw [hk1 104 (by decide)]
  refine g_aload_n dL_law_286 rfl ?_
  refine g_iload_n dL_law_287 rfl ?_
  refine g_iconst dL_law_288 ?_
  refine g_iadd dL_law_289 ?_
  refine g_roload dL_law_290 (by decide) (by decide) (by omega) (by rw [hs1.1]; omega) ?_
  rw [hk1 104 (by decide)]
  refine g_aload_n dL_law_291 rfl ?_
  refine g_iload_n dL_law_292 rfl ?_
  refine g_iconst dL_law_293 ?_
  refine g_iadd dL_law_294 ?_
  refine g_roload dL_law_295 (by decide) (by decide) (by omega) (by rw [hs1.1]; omega) ?_
  rw [hk1 104 (by decide)]
  refine g_eV3 dL_law_296 qL_31 rfl (by decide) (by decide) (Nat.le_of_ble_eq_true rfl) (k_enter hi hm1 _ _ _ (hs.2 _) (hs.2 _) (hs.2 _)) ?_
  intro τ2 hq2
  obtain ⟨hm2, hk2⟩ := hq2
  exact g_same (tgt := 1105) dL_law_299 (by decide) (kk _ τ2 (i_enter hi hb1 (by omega) _ _ _) (hx1.keep hk2) hm2 (hs1.kM hk2))

theorem law_c4 {b : Int} {V σ : Mem} {L i : Int} {Q : Option AV → Mem → Prop} (hi : Inv b V) (hb1 : 100000000 ≤ b) (hb : b + 400000 ≤ 500000000) (hx : RX V σ) (hm : RM V σ) (hs : SC σ L) (i0 : 0 ≤ i) (i1 : i + 5 ≤ L) (kk : ∀ V' τ, Inv (b + 200000) V' → RX V' τ → RM V' τ → SC τ L → Go 41 mL_law 1105 [some (aR 104), some (aR 0), some (aR 30), some (aI i)] [] τ Q) : Go 41 mL_law 304 [some (aR 104), some (aR 0), some (aR 30), some (aI i)] [] σ Q := by
  have hL := hs.1
  refine g_aload_n dL_law_304 rfl ?_
  refine g_aload_n dL_law_305 rfl ?_
  refine g_iload_n dL_law_306 rfl ?_
  refine g_iconst dL_law_307 ?_
  refine g_iadd dL_law_308 ?_
  refine g_roload dL_law_309 (by decide) (by decide) (by omega) (by rw [hL]; omega) ?_
  refine g_aload_n dL_law_310 rfl ?_
  refine g_iload_n dL_law_311 rfl ?_
  refine g_iconst dL_law_312 ?_
  refine g_iadd dL_law_313 ?_
  refine g_roload dL_law_314 (by decide) (by decide) (by omega) (by rw [hL]; omega) ?_
  refine g_aload_n dL_law_315 rfl ?_
  refine g_iload_n dL_law_316 rfl ?_
  refine g_iconst dL_law_317 ?_
  refine g_iadd dL_law_318 ?_
  refine g_roload dL_law_319 (by decide) (by decide) (by omega) (by rw [hL]; omega) ?_
  refine g_eV3 dL_law_320 qL_32 rfl (by decide) (by decide) (Nat.le_of_ble_eq_true rfl) (y_copy hi hx _ _ _ (hs.2 _) (hs.2 _) (hs.2 _)) ?_
  intro τ hq
  obtain ⟨hx1, hk1⟩ := hq
  have hm1 : RM V τ := hm.keep hk1
  have hs1 : SC τ L := hs.kX hk1
  refine g_aload_n dL_law_323 rfl ?_
  refine g_aload_n dL_law_324 rfl ?_
  refine g_iload_n dL_law_325 rfl ?_
  refine g_iconst dL_law_326 ?_
  refine g_iadd dL_law_327 ?_
  refine g_roload dL_law_328 (by decide) (by decide) (by omega) (by rw [hs1.1]; omega) ?_
  rw [hk1 104 (by decide)]
  refine g_aload_n dL_law_329 rfl ?_
  refine g_iload_n dL_law_330 rfl ?_
  refine g_iconst dL_law_331 ?_
  refine g_iadd dL_law_332 ?_
  refine g_roload dL_law_333 (by decide) (by decide) (by omega) (by rw [hs1.1]; omega) ?_
  rw [hk1 104 (by decide)]
  refine g_aload_n dL_law_334 rfl ?_
  refine g_iload_n dL_law_335 rfl ?_
  refine g_iconst dL_law_336 ?_
  refine g_iadd dL_law_337 ?_
  refine g_roload dL_law_338 (by decide) (by decide) (by omega) (by rw [hs1.1]; omega) ?_
  rw [hk1 104 (by decide)]
  refine g_eV3 dL_law_339 qL_35 rfl (by decide) (by decide) (Nat.le_of_ble_eq_true rfl) (k_copy hi hm1 _ _ _ (hs.2 _) (hs.2 _) (hs.2 _)) ?_
  intro τ2 hq2
  obtain ⟨hm2, hk2⟩ := hq2
  exact g_same (tgt := 1105) dL_law_342 (by decide) (kk _ τ2 (i_copy hi hb1 (by omega) _ _ _) (hx1.keep hk2) hm2 (hs1.kM hk2))

theorem law_c5 {b : Int} {V σ : Mem} {L i : Int} {Q : Option AV → Mem → Prop} (hi : Inv b V) (hb1 : 100000000 ≤ b) (hb : b + 400000 ≤ 500000000) (hx : RX V σ) (hm : RM V σ) (hs : SC σ L) (i0 : 0 ≤ i) (i1 : i + 5 ≤ L) (kk : ∀ V' τ, Inv (b + 200000) V' → RX V' τ → RM V' τ → SC τ L → Go 41 mL_law 1105 [some (aR 104), some (aR 0), some (aR 30), some (aI i)] [] τ Q) : Go 41 mL_law 347 [some (aR 104), some (aR 0), some (aR 30), some (aI i)] [] σ Q := by
  have hL := hs.1
  refine g_aload_n dL_law_347 rfl ?_
  refine g_aload_n dL_law_348 rfl ?_
  refine g_iload_n dL_law_349 rfl ?_
  refine g_iconst dL_law_350 ?_
  refine g_iadd dL_law_351 ?_
  refine g_roload dL_law_352 (by decide) (by decide) (by omega) (by rw [hL]; omega) ?_
  refine g_aload_n dL_law_353 rfl ?_
  refine g_iload_n dL_law_354 rfl ?_
  refine g_iconst dL_law_355 ?_
  refine g_iadd dL_law_356 ?_
  refine g_roload dL_law_357 (by decide) (by decide) (by omega) (by rw [hL]; omega) ?_
  refine g_aload_n dL_law_358 rfl ?_
  refine g_iload_n dL_law_359 rfl ?_
  refine g_iconst dL_law_360 ?_
  refine g_iadd dL_law_361 ?_
  refine g_roload dL_law_362 (by decide) (by decide) (by omega) (by rw [hL]; omega) ?_
  refine g_eV3 dL_law_363 qL_36 rfl (by decide) (by decide) (Nat.le_of_ble_eq_true rfl) (y_read hi hx _ _ _ (hs.2 _) (hs.2 _) (hs.2 _)) ?_
  intro τ hq
  obtain ⟨hx1, hk1⟩ := hq
  have hm1 : RM V τ := hm.keep hk1
  have hs1 : SC τ L := hs.kX hk1
  refine g_aload_n dL_law_366 rfl ?_
  refine g_aload_n dL_law_367 rfl ?_
  refine g_iload_n dL_law_368 rfl ?_
  refine g_iconst dL_law_369 ?_
  refine g_iadd dL_law_370 ?_
  refine g_roload dL_law_371 (by decide) (by decide) (by omega) (by rw [hs1.1]; omega) ?_
  rw [hk1 104 (by decide)]
  refine g_aload_n dL_law_372 rfl ?_
  refine g_iload_n dL_law_373 rfl ?_
  refine g_iconst dL_law_374 ?_
  refine g_iadd dL_law_375 ?_
  refine g_roload dL_law_376 (by decide) (by decide) (by omega) (by rw [hs1.1]; omega) ?_
  rw [hk1 104 (by decide)]
  refine g_aload_n dL_law_377 rfl ?_
  refine g_iload_n dL_law_378 rfl ?_
  refine g_iconst dL_law_379 ?_
  refine g_iadd dL_law_380 ?_
  refine g_roload dL_law_381 (by decide) (by decide) (by omega) (by rw [hs1.1]; omega) ?_
  rw [hk1 104 (by decide)]
  refine g_eV3 dL_law_382 qL_39 rfl (by decide) (by decide) (Nat.le_of_ble_eq_true rfl) (k_read hi hm1 _ _ _ (hs.2 _) (hs.2 _) (hs.2 _)) ?_
  intro τ2 hq2
  obtain ⟨hm2, hk2⟩ := hq2
  exact g_same (tgt := 1105) dL_law_385 (by decide) (kk _ τ2 (i_read hi hb1 (by omega) _ _ _) (hx1.keep hk2) hm2 (hs1.kM hk2))

theorem law_c6 {b : Int} {V σ : Mem} {L i : Int} {Q : Option AV → Mem → Prop} (hi : Inv b V) (hb1 : 100000000 ≤ b) (hb : b + 400000 ≤ 500000000) (hx : RX V σ) (hm : RM V σ) (hs : SC σ L) (i0 : 0 ≤ i) (i1 : i + 5 ≤ L) (kk : ∀ V' τ, Inv (b + 200000) V' → RX V' τ → RM V' τ → SC τ L → Go 41 mL_law 1105 [some (aR 104), some (aR 0), some (aR 30), some (aI i)] [] τ Q) : Go 41 mL_law 390 [some (aR 104), some (aR 0), some (aR 30), some (aI i)] [] σ Q := by
  have hL := hs.1
  refine g_aload_n dL_law_390 rfl ?_
  refine g_aload_n dL_law_391 rfl ?_
  refine g_iload_n dL_law_392 rfl ?_
  refine g_iconst dL_law_393 ?_
  refine g_iadd dL_law_394 ?_
  refine g_roload dL_law_395 (by decide) (by decide) (by omega) (by rw [hL]; omega) ?_
  refine g_aload_n dL_law_396 rfl ?_
  refine g_iload_n dL_law_397 rfl ?_
  refine g_iconst dL_law_398 ?_
  refine g_iadd dL_law_399 ?_
  refine g_roload dL_law_400 (by decide) (by decide) (by omega) (by rw [hL]; omega) ?_
  refine g_eV2 dL_law_401 qL_40 rfl (by decide) (by decide) (Nat.le_of_ble_eq_true rfl) (y_limit hi hx _ _ (hs.2 _) (hs.2 _)) ?_
  intro τ hq
  obtain ⟨hx1, hk1⟩ := hq
  have hm1 : RM V τ := hm.keep hk1
  have hs1 : SC τ L := hs.kX hk1
  refine g_aload_n dL_law_404 rfl ?_
  refine g_aload_n dL_law_405 rfl ?_
  refine g_iload_n dL_law_406 rfl ?_
  refine g_iconst dL_law_407 ?_
  refine g_iadd dL_law_408 ?_
  refine g_roload dL_law_409 (by decide) (by decide) (by omega) (by rw [hs1.1]; omega) ?_
  rw [hk1 104 (by decide)]
  refine g_aload_n dL_law_410 rfl ?_
  refine g_iload_n dL_law_411 rfl ?_
  refine g_iconst dL_law_412 ?_
  refine g_iadd dL_law_413 ?_
  refine g_roload dL_law_414 (by decide) (by decide) (by omega) (by rw [hs1.1]; omega) ?_
  rw [hk1 104 (by decide)]
  refine g_eV2 dL_law_415 qL_43 rfl (by decide) (by decide) (Nat.le_of_ble_eq_true rfl) (k_limit hi hm1 _ _ (hs.2 _) (hs.2 _)) ?_
  intro τ2 hq2
  obtain ⟨hm2, hk2⟩ := hq2
  exact g_same (tgt := 1105) dL_law_418 (by decide) (kk _ τ2 (i_limit hi hb1 (by omega) _ _) (hx1.keep hk2) hm2 (hs1.kM hk2))

theorem law_c7 {b : Int} {V σ : Mem} {L i : Int} {Q : Option AV → Mem → Prop} (hi : Inv b V) (hb1 : 100000000 ≤ b) (hb : b + 400000 ≤ 500000000) (hx : RX V σ) (hm : RM V σ) (hs : SC σ L) (i0 : 0 ≤ i) (i1 : i + 5 ≤ L) (kk : ∀ V' τ, Inv (b + 200000) V' → RX V' τ → RM V' τ → SC τ L → Go 41 mL_law 1105 [some (aR 104), some (aR 0), some (aR 30), some (aI i)] [] τ Q) : Go 41 mL_law 423 [some (aR 104), some (aR 0), some (aR 30), some (aI i)] [] σ Q := by
  have hL := hs.1
  refine g_aload_n dL_law_423 rfl ?_
  refine g_aload_n dL_law_424 rfl ?_
  refine g_iload_n dL_law_425 rfl ?_
  refine g_iconst dL_law_426 ?_
  refine g_iadd dL_law_427 ?_
  refine g_roload dL_law_428 (by decide) (by decide) (by omega) (by rw [hL]; omega) ?_
  refine g_aload_n dL_law_429 rfl ?_
  refine g_iload_n dL_law_430 rfl ?_
  refine g_iconst dL_law_431 ?_
  refine g_iadd dL_law_432 ?_
  refine g_roload dL_law_433 (by decide) (by decide) (by omega) (by rw [hL]; omega) ?_
  refine g_eV2 dL_law_434 qL_44 rfl (by decide) (by decide) (Nat.le_of_ble_eq_true rfl) (y_tune hi hx _ _ (hs.2 _) (hs.2 _)) ?_
  intro τ hq
  obtain ⟨hx1, hk1⟩ := hq
  have hm1 : RM V τ := hm.keep hk1
  have hs1 : SC τ L := hs.kX hk1
  refine g_aload_n dL_law_437 rfl ?_
  refine g_aload_n dL_law_438 rfl ?_
  refine g_iload_n dL_law_439 rfl ?_
  refine g_iconst dL_law_440 ?_
  refine g_iadd dL_law_441 ?_
  refine g_roload dL_law_442 (by decide) (by decide) (by omega) (by rw [hs1.1]; omega) ?_
  rw [hk1 104 (by decide)]
  refine g_aload_n dL_law_443 rfl ?_
  refine g_iload_n dL_law_444 rfl ?_
  refine g_iconst dL_law_445 ?_
  refine g_iadd dL_law_446 ?_
  refine g_roload dL_law_447 (by decide) (by decide) (by omega) (by rw [hs1.1]; omega) ?_
  rw [hk1 104 (by decide)]
  refine g_eV2 dL_law_448 qL_47 rfl (by decide) (by decide) (Nat.le_of_ble_eq_true rfl) (k_tune hi hm1 _ _ (hs.2 _) (hs.2 _)) ?_
  intro τ2 hq2
  obtain ⟨hm2, hk2⟩ := hq2
  exact g_same (tgt := 1105) dL_law_451 (by decide) (kk _ τ2 (i_tune hi hb1 (by omega) _ _) (hx1.keep hk2) hm2 (hs1.kM hk2))

theorem law_c8 {b : Int} {V σ : Mem} {L i : Int} {Q : Option AV → Mem → Prop} (hi : Inv b V) (hb1 : 100000000 ≤ b) (hb : b + 400000 ≤ 500000000) (hx : RX V σ) (hm : RM V σ) (hs : SC σ L) (i0 : 0 ≤ i) (i1 : i + 5 ≤ L) (kk : ∀ V' τ, Inv (b + 200000) V' → RX V' τ → RM V' τ → SC τ L → Go 41 mL_law 1105 [some (aR 104), some (aR 0), some (aR 30), some (aI i)] [] τ Q) : Go 41 mL_law 456 [some (aR 104), some (aR 0), some (aR 30), some (aI i)] [] σ Q := by
  have hL := hs.1
  refine g_aload_n dL_law_456 rfl ?_
  refine g_aload_n dL_law_457 rfl ?_
  refine g_iload_n dL_law_458 rfl ?_
  refine g_iconst dL_law_459 ?_
  refine g_iadd dL_law_460 ?_
  refine g_roload dL_law_461 (by decide) (by decide) (by omega) (by rw [hL]; omega) ?_
  refine g_aload_n dL_law_462 rfl ?_
  refine g_iload_n dL_law_463 rfl ?_
  refine g_iconst dL_law_464 ?_
  refine g_iadd dL_law_465 ?_
  refine g_roload dL_law_466 (by decide) (by decide) (by omega) (by rw [hL]; omega) ?_
  refine g_eV2 dL_law_467 qL_48 rfl (by decide) (by decide) (Nat.le_of_ble_eq_true rfl) (y_about hi hx _ _ (hs.2 _) (hs.2 _)) ?_
  intro τ hq
  obtain ⟨hx1, hk1⟩ := hq
  have hm1 : RM V τ := hm.keep hk1
  have hs1 : SC τ L := hs.kX hk1
  refine g_aload_n dL_law_470 rfl ?_
  refine g_aload_n dL_law_471 rfl ?_
  refine g_iload_n dL_law_472 rfl ?_
  refine g_iconst dL_law_473 ?_
  refine g_iadd dL_law_474 ?_
  refine g_roload dL_law_475 (by decide) (by decide) (by omega) (by rw [hs1.1]; omega) ?_
  rw [hk1 104 (by decide)]
  refine g_aload_n dL_law_476 rfl ?_
  refine g_iload_n dL_law_477 rfl ?_
  refine g_iconst dL_law_478 ?_
  refine g_iadd dL_law_479 ?_
  refine g_roload dL_law_480 (by decide) (by decide) (by omega) (by rw [hs1.1]; omega) ?_
  rw [hk1 104 (by decide)]
  refine g_eV2 dL_law_481 qL_51 rfl (by decide) (by decide) (Nat.le_of_ble_eq_true rfl) (k_about hi hm1 _ _ (hs.2 _) (hs.2 _)) ?_
  intro τ2 hq2
  obtain ⟨hm2, hk2⟩ := hq2
  exact g_same (tgt := 1105) dL_law_484 (by decide) (kk _ τ2 (i_about hi hb1 (by omega) _ _) (hx1.keep hk2) hm2 (hs1.kM hk2))

theorem law_c9 {b : Int} {V σ : Mem} {L i : Int} {Q : Option AV → Mem → Prop} (hi : Inv b V) (hb1 : 100000000 ≤ b) (hb : b + 400000 ≤ 500000000) (hx : RX V σ) (hm : RM V σ) (hs : SC σ L) (i0 : 0 ≤ i) (i1 : i + 5 ≤ L) (kk : ∀ V' τ, Inv (b + 200000) V' → RX V' τ → RM V' τ → SC τ L → Go 41 mL_law 1105 [some (aR 104), some (aR 0), some (aR 30), some (aI i)] [] τ Q) : Go 41 mL_law 489 [some (aR 104), some (aR 0), some (aR 30), some (aI i)] [] σ Q := by
  have hL := hs.1
  refine g_aload_n dL_law_489 rfl ?_
  refine g_aload_n dL_law_490 rfl ?_
  refine g_iload_n dL_law_491 rfl ?_
  refine g_iconst dL_law_492 ?_
  refine g_iadd dL_law_493 ?_
  refine g_roload dL_law_494 (by decide) (by decide) (by omega) (by rw [hL]; omega) ?_
  refine g_aload_n dL_law_495 rfl ?_
  refine g_iload_n dL_law_496 rfl ?_
  refine g_iconst dL_law_497 ?_
  refine g_iadd dL_law_498 ?_
  refine g_roload dL_law_499 (by decide) (by decide) (by omega) (by rw [hL]; omega) ?_
  refine g_eV2 dL_law_500 qL_52 rfl (by decide) (by decide) (Nat.le_of_ble_eq_true rfl) (y_isOf hi hx _ _ (hs.2 _) (hs.2 _)) ?_
  intro τ hq
  obtain ⟨hx1, hk1⟩ := hq
  have hm1 : RM V τ := hm.keep hk1
  have hs1 : SC τ L := hs.kX hk1
  refine g_aload_n dL_law_503 rfl ?_
  refine g_aload_n dL_law_504 rfl ?_
  refine g_iload_n dL_law_505 rfl ?_
  refine g_iconst dL_law_506 ?_
  refine g_iadd dL_law_507 ?_
  refine g_roload dL_law_508 (by decide) (by decide) (by omega) (by rw [hs1.1]; omega) ?_
  rw [hk1 104 (by decide)]
  refine g_aload_n dL_law_509 rfl ?_
  refine g_iload_n dL_law_510 rfl ?_
  refine g_iconst dL_law_511 ?_
  refine g_iadd dL_law_512 ?_
  refine g_roload dL_law_513 (by decide) (by decide) (by omega) (by rw [hs1.1]; omega) ?_
  rw [hk1 104 (by decide)]
  refine g_eV2 dL_law_514 qL_55 rfl (by decide) (by decide) (Nat.le_of_ble_eq_true rfl) (k_isOf hi hm1 _ _ (hs.2 _) (hs.2 _)) ?_
  intro τ2 hq2
  obtain ⟨hm2, hk2⟩ := hq2
  exact g_same (tgt := 1105) dL_law_517 (by decide) (kk _ τ2 (i_isOf hi hb1 (by omega) _ _) (hx1.keep hk2) hm2 (hs1.kM hk2))

theorem law_c10 {b : Int} {V σ : Mem} {L i : Int} {Q : Option AV → Mem → Prop} (hi : Inv b V) (hb1 : 100000000 ≤ b) (hb : b + 400000 ≤ 500000000) (hx : RX V σ) (hm : RM V σ) (hs : SC σ L) (i0 : 0 ≤ i) (i1 : i + 5 ≤ L) (kk : ∀ V' τ, Inv (b + 200000) V' → RX V' τ → RM V' τ → SC τ L → Go 41 mL_law 1105 [some (aR 104), some (aR 0), some (aR 30), some (aI i)] [] τ Q) : Go 41 mL_law 522 [some (aR 104), some (aR 0), some (aR 30), some (aI i)] [] σ Q := by
  have hL := hs.1
  refine g_aload_n dL_law_522 rfl ?_
  refine g_aload_n dL_law_523 rfl ?_
  refine g_iload_n dL_law_524 rfl ?_
  refine g_iconst dL_law_525 ?_
  refine g_iadd dL_law_526 ?_
  refine g_roload dL_law_527 (by decide) (by decide) (by omega) (by rw [hL]; omega) ?_
  refine g_aload_n dL_law_528 rfl ?_
  refine g_iload_n dL_law_529 rfl ?_
  refine g_iconst dL_law_530 ?_
  refine g_iadd dL_law_531 ?_
  refine g_roload dL_law_532 (by decide) (by decide) (by omega) (by rw [hL]; omega) ?_
  refine g_eV2 dL_law_533 qL_56 rfl (by decide) (by decide) (Nat.le_of_ble_eq_true rfl) (y_tells hi hx _ _ (hs.2 _) (hs.2 _)) ?_
  intro τ hq
  obtain ⟨hx1, hk1⟩ := hq
  have hm1 : RM V τ := hm.keep hk1
  have hs1 : SC τ L := hs.kX hk1
  refine g_aload_n dL_law_536 rfl ?_
  refine g_aload_n dL_law_537 rfl ?_
  refine g_iload_n dL_law_538 rfl ?_
  refine g_iconst dL_law_539 ?_
  refine g_iadd dL_law_540 ?_
  refine g_roload dL_law_541 (by decide) (by decide) (by omega) (by rw [hs1.1]; omega) ?_
  rw [hk1 104 (by decide)]
  refine g_aload_n dL_law_542 rfl ?_
  refine g_iload_n dL_law_543 rfl ?_
  refine g_iconst dL_law_544 ?_
  refine g_iadd dL_law_545 ?_
  refine g_roload dL_law_546 (by decide) (by decide) (by omega) (by rw [hs1.1]; omega) ?_
  rw [hk1 104 (by decide)]
  refine g_eV2 dL_law_547 qL_59 rfl (by decide) (by decide) (Nat.le_of_ble_eq_true rfl) (k_tells hi hm1 _ _ (hs.2 _) (hs.2 _)) ?_
  intro τ2 hq2
  obtain ⟨hm2, hk2⟩ := hq2
  exact g_same (tgt := 1105) dL_law_550 (by decide) (kk _ τ2 (i_tells hi hb1 (by omega) _ _) (hx1.keep hk2) hm2 (hs1.kM hk2))

theorem law_c11 {b : Int} {V σ : Mem} {L i : Int} {Q : Option AV → Mem → Prop} (hi : Inv b V) (hb1 : 100000000 ≤ b) (hb : b + 400000 ≤ 500000000) (hx : RX V σ) (hm : RM V σ) (hs : SC σ L) (i0 : 0 ≤ i) (i1 : i + 5 ≤ L) (kk : ∀ V' τ, Inv (b + 200000) V' → RX V' τ → RM V' τ → SC τ L → Go 41 mL_law 1105 [some (aR 104), some (aR 0), some (aR 30), some (aI i)] [] τ Q) : Go 41 mL_law 555 [some (aR 104), some (aR 0), some (aR 30), some (aI i)] [] σ Q := by
  have hL := hs.1
  refine g_aload_n dL_law_555 rfl ?_
  refine g_aload_n dL_law_556 rfl ?_
  refine g_iload_n dL_law_557 rfl ?_
  refine g_iconst dL_law_558 ?_
  refine g_iadd dL_law_559 ?_
  refine g_roload dL_law_560 (by decide) (by decide) (by omega) (by rw [hL]; omega) ?_
  refine g_aload_n dL_law_561 rfl ?_
  refine g_iload_n dL_law_562 rfl ?_
  refine g_iconst dL_law_563 ?_
  refine g_iadd dL_law_564 ?_
  refine g_roload dL_law_565 (by decide) (by decide) (by omega) (by rw [hL]; omega) ?_
  refine g_eV2 dL_law_566 qL_60 rfl (by decide) (by decide) (Nat.le_of_ble_eq_true rfl) (y_unbent hi hx _ _ (hs.2 _) (hs.2 _)) ?_
  intro τ hq
  obtain ⟨hx1, hk1⟩ := hq
  have hm1 : RM V τ := hm.keep hk1
  have hs1 : SC τ L := hs.kX hk1
  refine g_aload_n dL_law_569 rfl ?_
  refine g_aload_n dL_law_570 rfl ?_
  refine g_iload_n dL_law_571 rfl ?_
  refine g_iconst dL_law_572 ?_
  refine g_iadd dL_law_573 ?_
  refine g_roload dL_law_574 (by decide) (by decide) (by omega) (by rw [hs1.1]; omega) ?_
  rw [hk1 104 (by decide)]
  refine g_aload_n dL_law_575 rfl ?_
  refine g_iload_n dL_law_576 rfl ?_
  refine g_iconst dL_law_577 ?_
  refine g_iadd dL_law_578 ?_
  refine g_roload dL_law_579 (by decide) (by decide) (by omega) (by rw [hs1.1]; omega) ?_
  rw [hk1 104 (by decide)]
  refine g_eV2 dL_law_580 qL_63 rfl (by decide) (by decide) (Nat.le_of_ble_eq_true rfl) (k_unbent hi hm1 _ _ (hs.2 _) (hs.2 _)) ?_
  intro τ2 hq2
  obtain ⟨hm2, hk2⟩ := hq2
  exact g_same (tgt := 1105) dL_law_583 (by decide) (kk _ τ2 (i_unbent hi hb1 (by omega) _ _) (hx1.keep hk2) hm2 (hs1.kM hk2))

theorem law_c12 {b : Int} {V σ : Mem} {L i : Int} {Q : Option AV → Mem → Prop} (hi : Inv b V) (hb1 : 100000000 ≤ b) (hb : b + 400000 ≤ 500000000) (hx : RX V σ) (hm : RM V σ) (hs : SC σ L) (i0 : 0 ≤ i) (i1 : i + 5 ≤ L) (kk : ∀ V' τ, Inv (b + 200000) V' → RX V' τ → RM V' τ → SC τ L → Go 41 mL_law 1105 [some (aR 104), some (aR 0), some (aR 30), some (aI i)] [] τ Q) : Go 41 mL_law 588 [some (aR 104), some (aR 0), some (aR 30), some (aI i)] [] σ Q := by
  have hL := hs.1
  refine g_aload_n dL_law_588 rfl ?_
  refine g_aload_n dL_law_589 rfl ?_
  refine g_iload_n dL_law_590 rfl ?_
  refine g_iconst dL_law_591 ?_
  refine g_iadd dL_law_592 ?_
  refine g_roload dL_law_593 (by decide) (by decide) (by omega) (by rw [hL]; omega) ?_
  refine g_aload_n dL_law_594 rfl ?_
  refine g_iload_n dL_law_595 rfl ?_
  refine g_iconst dL_law_596 ?_
  refine g_iadd dL_law_597 ?_
  refine g_roload dL_law_598 (by decide) (by decide) (by omega) (by rw [hL]; omega) ?_
  refine g_eV2 dL_law_599 qL_64 rfl (by decide) (by decide) (Nat.le_of_ble_eq_true rfl) (y_reading hi hx _ _ (hs.2 _) (hs.2 _)) ?_
  intro τ hq
  obtain ⟨hx1, hk1⟩ := hq
  have hm1 : RM V τ := hm.keep hk1
  have hs1 : SC τ L := hs.kX hk1
  refine g_aload_n dL_law_602 rfl ?_
  refine g_aload_n dL_law_603 rfl ?_
  refine g_iload_n dL_law_604 rfl ?_
  refine g_iconst dL_law_605 ?_
  refine g_iadd dL_law_606 ?_
  refine g_roload dL_law_607 (by decide) (by decide) (by omega) (by rw [hs1.1]; omega) ?_
  rw [hk1 104 (by decide)]
  refine g_aload_n dL_law_608 rfl ?_
  refine g_iload_n dL_law_609 rfl ?_
  refine g_iconst dL_law_610 ?_
  refine g_iadd dL_law_611 ?_
  refine g_roload dL_law_612 (by decide) (by decide) (by omega) (by rw [hs1.1]; omega) ?_
  rw [hk1 104 (by decide)]
  refine g_eV2 dL_law_613 qL_67 rfl (by decide) (by decide) (Nat.le_of_ble_eq_true rfl) (k_reading hi hm1 _ _ (hs.2 _) (hs.2 _)) ?_
  intro τ2 hq2
  obtain ⟨hm2, hk2⟩ := hq2
  exact g_same (tgt := 1105) dL_law_616 (by decide) (kk _ τ2 (i_reading hi hb1 (by omega) _ _) (hx1.keep hk2) hm2 (hs1.kM hk2))

theorem law_c13 {b : Int} {V σ : Mem} {L i : Int} {Q : Option AV → Mem → Prop} (hi : Inv b V) (hb1 : 100000000 ≤ b) (hb : b + 400000 ≤ 500000000) (hx : RX V σ) (hm : RM V σ) (hs : SC σ L) (i0 : 0 ≤ i) (i1 : i + 5 ≤ L) (kk : ∀ V' τ, Inv (b + 200000) V' → RX V' τ → RM V' τ → SC τ L → Go 41 mL_law 1105 [some (aR 104), some (aR 0), some (aR 30), some (aI i)] [] τ Q) : Go 41 mL_law 621 [some (aR 104), some (aR 0), some (aR 30), some (aI i)] [] σ Q := by
  have hL := hs.1
  refine g_aload_n dL_law_621 rfl ?_
  refine g_aload_n dL_law_622 rfl ?_
  refine g_iload_n dL_law_623 rfl ?_
  refine g_iconst dL_law_624 ?_
  refine g_iadd dL_law_625 ?_
  refine g_roload dL_law_626 (by decide) (by decide) (by omega) (by rw [hL]; omega) ?_
  refine g_eV1 dL_law_627 qL_68 rfl (by decide) (by decide) (Nat.le_of_ble_eq_true rfl) (y_state hi hx _ (hs.2 _)) ?_
  intro τ hq
  obtain ⟨hx1, hk1⟩ := hq
  have hm1 : RM V τ := hm.keep hk1
  have hs1 : SC τ L := hs.kX hk1
  refine g_aload_n dL_law_630 rfl ?_
  refine g_aload_n dL_law_631 rfl ?_
  refine g_iload_n dL_law_632 rfl ?_
  refine g_iconst dL_law_633 ?_
  refine g_iadd dL_law_634 ?_
  refine g_roload dL_law_635 (by decide) (by decide) (by omega) (by rw [hs1.1]; omega) ?_
  rw [hk1 104 (by decide)]
  refine g_eV1 dL_law_636 qL_71 rfl (by decide) (by decide) (Nat.le_of_ble_eq_true rfl) (k_state hi hm1 _ (hs.2 _)) ?_
  intro τ2 hq2
  obtain ⟨hm2, hk2⟩ := hq2
  exact g_same (tgt := 1105) dL_law_639 (by decide) (kk _ τ2 (i_state hi hb1 (by omega) _) (hx1.keep hk2) hm2 (hs1.kM hk2))

theorem law_c14 {b : Int} {V σ : Mem} {L i : Int} {Q : Option AV → Mem → Prop} (hi : Inv b V) (hb1 : 100000000 ≤ b) (hb : b + 400000 ≤ 500000000) (hx : RX V σ) (hm : RM V σ) (hs : SC σ L) (i0 : 0 ≤ i) (i1 : i + 5 ≤ L) (kk : ∀ V' τ, Inv (b + 200000) V' → RX V' τ → RM V' τ → SC τ L → Go 41 mL_law 1105 [some (aR 104), some (aR 0), some (aR 30), some (aI i)] [] τ Q) : Go 41 mL_law 644 [some (aR 104), some (aR 0), some (aR 30), some (aI i)] [] σ Q := by
  have hL := hs.1
  refine g_aload_n dL_law_644 rfl ?_
  refine g_eV0 dL_law_645 qL_72 rfl (by decide) (by decide) (Nat.le_of_ble_eq_true rfl) (y_why hi hx) ?_
  intro τ hq
  obtain ⟨hx1, hk1⟩ := hq
  have hm1 : RM V τ := hm.keep hk1
  have hs1 : SC τ L := hs.kX hk1
  refine g_aload_n dL_law_648 rfl ?_
  refine g_eV0 dL_law_649 qL_76 rfl (by decide) (by decide) (Nat.le_of_ble_eq_true rfl) (k_why hi hm1) ?_
  intro τ2 hq2
  obtain ⟨hm2, hk2⟩ := hq2
  exact g_same (tgt := 1105) dL_law_652 (by decide) (kk _ τ2 (i_why hi hb1 (by omega)) (hx1.keep hk2) hm2 (hs1.kM hk2))

theorem law_c15 {b : Int} {V σ : Mem} {L i : Int} {Q : Option AV → Mem → Prop} (hi : Inv b V) (hb1 : 100000000 ≤ b) (hb : b + 400000 ≤ 500000000) (hx : RX V σ) (hm : RM V σ) (hs : SC σ L) (i0 : 0 ≤ i) (i1 : i + 5 ≤ L) (kk : ∀ V' τ, Inv (b + 200000) V' → RX V' τ → RM V' τ → SC τ L → Go 41 mL_law 1105 [some (aR 104), some (aR 0), some (aR 30), some (aI i)] [] τ Q) : Go 41 mL_law 657 [some (aR 104), some (aR 0), some (aR 30), some (aI i)] [] σ Q := by
  have hL := hs.1
  refine g_aload_n dL_law_657 rfl ?_
  refine g_aload_n dL_law_658 rfl ?_
  refine g_iload_n dL_law_659 rfl ?_
  refine g_iconst dL_law_660 ?_
  refine g_iadd dL_law_661 ?_
  refine g_roload dL_law_662 (by decide) (by decide) (by omega) (by rw [hL]; omega) ?_
  refine g_aload_n dL_law_663 rfl ?_
  refine g_iload_n dL_law_664 rfl ?_
  refine g_iconst dL_law_665 ?_
  refine g_iadd dL_law_666 ?_
  refine g_roload dL_law_667 (by decide) (by decide) (by omega) (by rw [hL]; omega) ?_
  refine g_eV2 dL_law_668 qL_77 rfl (by decide) (by decide) (Nat.le_of_ble_eq_true rfl) (y_turn hi hx _ _ (hs.2 _) (hs.2 _) (by omega)) ?_
  intro τ hq
  obtain ⟨hx1, hk1⟩ := hq
  have hm1 : RM V τ := hm.keep hk1
  have hs1 : SC τ L := hs.kX hk1
  refine g_aload_n dL_law_671 rfl ?_
  refine g_aload_n dL_law_672 rfl ?_
  refine g_iload_n dL_law_673 rfl ?_
  refine g_iconst dL_law_674 ?_
  refine g_iadd dL_law_675 ?_
  refine g_roload dL_law_676 (by decide) (by decide) (by omega) (by rw [hs1.1]; omega) ?_
  rw [hk1 104 (by decide)]
  refine g_aload_n dL_law_677 rfl ?_
  refine g_iload_n dL_law_678 rfl ?_
  refine g_iconst dL_law_679 ?_
  refine g_iadd dL_law_680 ?_
  refine g_roload dL_law_681 (by decide) (by decide) (by omega) (by rw [hs1.1]; omega) ?_
  rw [hk1 104 (by decide)]
  refine g_eV2 dL_law_682 qL_80 rfl (by decide) (by decide) (Nat.le_of_ble_eq_true rfl) (k_turn hi hm1 _ _ (hs.2 _) (hs.2 _) (by omega)) ?_
  intro τ2 hq2
  obtain ⟨hm2, hk2⟩ := hq2
  exact g_same (tgt := 1105) dL_law_685 (by decide) (kk _ τ2 (i_turn hi hb1 (by omega) _ _) (hx1.keep hk2) hm2 (hs1.kM hk2))

theorem law_c16 {b : Int} {V σ : Mem} {L i : Int} {Q : Option AV → Mem → Prop} (hi : Inv b V) (hb1 : 100000000 ≤ b) (hb : b + 400000 ≤ 500000000) (hx : RX V σ) (hm : RM V σ) (hs : SC σ L) (i0 : 0 ≤ i) (i1 : i + 5 ≤ L) (kk : ∀ V' τ, Inv (b + 200000) V' → RX V' τ → RM V' τ → SC τ L → Go 41 mL_law 1105 [some (aR 104), some (aR 0), some (aR 30), some (aI i)] [] τ Q) : Go 41 mL_law 690 [some (aR 104), some (aR 0), some (aR 30), some (aI i)] [] σ Q := by
  have hL := hs.1
  refine g_aload_n dL_law_690 rfl ?_
  refine g_eV0 dL_law_691 qL_81 rfl (by decide) (by decide) (Nat.le_of_ble_eq_true rfl) (y_next hi hx (by omega)) ?_
  intro τ hq
  obtain ⟨hx1, hk1⟩ := hq
  have hm1 : RM V τ := hm.keep hk1
  have hs1 : SC τ L := hs.kX hk1
  refine g_aload_n dL_law_694 rfl ?_
  refine g_eV0 dL_law_695 qL_84 rfl (by decide) (by decide) (Nat.le_of_ble_eq_true rfl) (k_next hi hm1 (by omega)) ?_
  intro τ2 hq2
  obtain ⟨hm2, hk2⟩ := hq2
  exact g_same (tgt := 1105) dL_law_698 (by decide) (kk _ τ2 (i_next hi hb1 (by omega)) (hx1.keep hk2) hm2 (hs1.kM hk2))

theorem law_c17 {b : Int} {V σ : Mem} {L i : Int} {Q : Option AV → Mem → Prop} (hi : Inv b V) (hb1 : 100000000 ≤ b) (hb : b + 400000 ≤ 500000000) (hx : RX V σ) (hm : RM V σ) (hs : SC σ L) (i0 : 0 ≤ i) (i1 : i + 5 ≤ L) (kk : ∀ V' τ, Inv (b + 200000) V' → RX V' τ → RM V' τ → SC τ L → Go 41 mL_law 1105 [some (aR 104), some (aR 0), some (aR 30), some (aI i)] [] τ Q) : Go 41 mL_law 703 [some (aR 104), some (aR 0), some (aR 30), some (aI i)] [] σ Q := by
  have hL := hs.1
  refine g_aload_n dL_law_703 rfl ?_
  refine g_aload_n dL_law_704 rfl ?_
  refine g_iload_n dL_law_705 rfl ?_
  refine g_iconst dL_law_706 ?_
  refine g_iadd dL_law_707 ?_
  refine g_roload dL_law_708 (by decide) (by decide) (by omega) (by rw [hL]; omega) ?_
  refine g_eV1 dL_law_709 qL_85 rfl (by decide) (by decide) (Nat.le_of_ble_eq_true rfl) (y_plan hi hx _ (hs.2 _) (by omega)) ?_
  intro τ hq
  obtain ⟨hx1, hk1⟩ := hq
  have hm1 : RM V τ := hm.keep hk1
  have hs1 : SC τ L := hs.kX hk1
  refine g_aload_n dL_law_712 rfl ?_
  refine g_aload_n dL_law_713 rfl ?_
  refine g_iload_n dL_law_714 rfl ?_
  refine g_iconst dL_law_715 ?_
  refine g_iadd dL_law_716 ?_
  refine g_roload dL_law_717 (by decide) (by decide) (by omega) (by rw [hs1.1]; omega) ?_
  rw [hk1 104 (by decide)]
  refine g_eV1 dL_law_718 qL_88 rfl (by decide) (by decide) (Nat.le_of_ble_eq_true rfl) (k_plan hi hm1 _ (hs.2 _) (by omega)) ?_
  intro τ2 hq2
  obtain ⟨hm2, hk2⟩ := hq2
  exact g_same (tgt := 1105) dL_law_721 (by decide) (kk _ τ2 (i_plan hi hb1 (by omega) _) (hx1.keep hk2) hm2 (hs1.kM hk2))

theorem law_c18 {b : Int} {V σ : Mem} {L i : Int} {Q : Option AV → Mem → Prop} (hi : Inv b V) (hb1 : 100000000 ≤ b) (hb : b + 400000 ≤ 500000000) (hx : RX V σ) (hm : RM V σ) (hs : SC σ L) (i0 : 0 ≤ i) (i1 : i + 5 ≤ L) (kk : ∀ V' τ, Inv (b + 200000) V' → RX V' τ → RM V' τ → SC τ L → Go 41 mL_law 1105 [some (aR 104), some (aR 0), some (aR 30), some (aI i)] [] τ Q) : Go 41 mL_law 726 [some (aR 104), some (aR 0), some (aR 30), some (aI i)] [] σ Q := by
  have hL := hs.1
  refine g_aload_n dL_law_726 rfl ?_
  refine g_aload_n dL_law_727 rfl ?_
  refine g_iload_n dL_law_728 rfl ?_
  refine g_iconst dL_law_729 ?_
  refine g_iadd dL_law_730 ?_
  refine g_roload dL_law_731 (by decide) (by decide) (by omega) (by rw [hL]; omega) ?_
  refine g_eV1 dL_law_732 qL_89 rfl (by decide) (by decide) (Nat.le_of_ble_eq_true rfl) (y_fewest hi hx _ (hs.2 _) (by omega)) ?_
  intro τ hq
  obtain ⟨hx1, hk1⟩ := hq
  have hm1 : RM V τ := hm.keep hk1
  have hs1 : SC τ L := hs.kX hk1
  refine g_aload_n dL_law_735 rfl ?_
  refine g_aload_n dL_law_736 rfl ?_
  refine g_iload_n dL_law_737 rfl ?_
  refine g_iconst dL_law_738 ?_
  refine g_iadd dL_law_739 ?_
  refine g_roload dL_law_740 (by decide) (by decide) (by omega) (by rw [hs1.1]; omega) ?_
  rw [hk1 104 (by decide)]
  refine g_eV1 dL_law_741 qL_92 rfl (by decide) (by decide) (Nat.le_of_ble_eq_true rfl) (k_fewest hi hm1 _ (hs.2 _) (by omega)) ?_
  intro τ2 hq2
  obtain ⟨hm2, hk2⟩ := hq2
  exact g_same (tgt := 1105) dL_law_744 (by decide) (kk _ τ2 (i_fewest hi hb1 (by omega) _) (hx1.keep hk2) hm2 (hs1.kM hk2))

theorem law_c19 {b : Int} {V σ : Mem} {L i : Int} {Q : Option AV → Mem → Prop} (hi : Inv b V) (hb1 : 100000000 ≤ b) (hb : b + 400000 ≤ 500000000) (hx : RX V σ) (hm : RM V σ) (hs : SC σ L) (i0 : 0 ≤ i) (i1 : i + 5 ≤ L) (kk : ∀ V' τ, Inv (b + 200000) V' → RX V' τ → RM V' τ → SC τ L → Go 41 mL_law 1105 [some (aR 104), some (aR 0), some (aR 30), some (aI i)] [] τ Q) : Go 41 mL_law 749 [some (aR 104), some (aR 0), some (aR 30), some (aI i)] [] σ Q := by
  have hL := hs.1
  refine g_aload_n dL_law_749 rfl ?_
  refine g_aload_n dL_law_750 rfl ?_
  refine g_iload_n dL_law_751 rfl ?_
  refine g_iconst dL_law_752 ?_
  refine g_iadd dL_law_753 ?_
  refine g_roload dL_law_754 (by decide) (by decide) (by omega) (by rw [hL]; omega) ?_
  refine g_aload_n dL_law_755 rfl ?_
  refine g_iload_n dL_law_756 rfl ?_
  refine g_iconst dL_law_757 ?_
  refine g_iadd dL_law_758 ?_
  refine g_roload dL_law_759 (by decide) (by decide) (by omega) (by rw [hL]; omega) ?_
  refine g_eV2 dL_law_760 qL_93 rfl (by decide) (by decide) (Nat.le_of_ble_eq_true rfl) (y_log hi hx _ _ (hs.2 _) (hs.2 _)) ?_
  intro τ hq
  obtain ⟨hx1, hk1⟩ := hq
  have hm1 : RM V τ := hm.keep hk1
  have hs1 : SC τ L := hs.kX hk1
  refine g_aload_n dL_law_763 rfl ?_
  refine g_aload_n dL_law_764 rfl ?_
  refine g_iload_n dL_law_765 rfl ?_
  refine g_iconst dL_law_766 ?_
  refine g_iadd dL_law_767 ?_
  refine g_roload dL_law_768 (by decide) (by decide) (by omega) (by rw [hs1.1]; omega) ?_
  rw [hk1 104 (by decide)]
  refine g_aload_n dL_law_769 rfl ?_
  refine g_iload_n dL_law_770 rfl ?_
  refine g_iconst dL_law_771 ?_
  refine g_iadd dL_law_772 ?_
  refine g_roload dL_law_773 (by decide) (by decide) (by omega) (by rw [hs1.1]; omega) ?_
  rw [hk1 104 (by decide)]
  refine g_eV2 dL_law_774 qL_96 rfl (by decide) (by decide) (Nat.le_of_ble_eq_true rfl) (k_log hi hm1 _ _ (hs.2 _) (hs.2 _)) ?_
  intro τ2 hq2
  obtain ⟨hm2, hk2⟩ := hq2
  exact g_same (tgt := 1105) dL_law_777 (by decide) (kk _ τ2 (i_log hi hb1 (by omega) _ _) (hx1.keep hk2) hm2 (hs1.kM hk2))

theorem law_c20 {b : Int} {V σ : Mem} {L i : Int} {Q : Option AV → Mem → Prop} (hi : Inv b V) (hb1 : 100000000 ≤ b) (hb : b + 400000 ≤ 500000000) (hx : RX V σ) (hm : RM V σ) (hs : SC σ L) (i0 : 0 ≤ i) (i1 : i + 5 ≤ L) (kk : ∀ V' τ, Inv (b + 200000) V' → RX V' τ → RM V' τ → SC τ L → Go 41 mL_law 1105 [some (aR 104), some (aR 0), some (aR 30), some (aI i)] [] τ Q) : Go 41 mL_law 782 [some (aR 104), some (aR 0), some (aR 30), some (aI i)] [] σ Q := by
  have hL := hs.1
  refine g_aload_n dL_law_782 rfl ?_
  refine g_eV0 dL_law_783 qL_97 rfl (by decide) (by decide) (Nat.le_of_ble_eq_true rfl) (y_undo hi hx (by omega)) ?_
  intro τ hq
  obtain ⟨hx1, hk1⟩ := hq
  have hm1 : RM V τ := hm.keep hk1
  have hs1 : SC τ L := hs.kX hk1
  refine g_aload_n dL_law_786 rfl ?_
  refine g_eV0 dL_law_787 qL_100 rfl (by decide) (by decide) (Nat.le_of_ble_eq_true rfl) (k_undo hi hm1) ?_
  intro τ2 hq2
  obtain ⟨hm2, hk2⟩ := hq2
  exact g_same (tgt := 1105) dL_law_790 (by decide) (kk _ τ2 (i_undo hi hb1 (by omega)) (hx1.keep hk2) hm2 (hs1.kM hk2))

theorem law_c21 {b : Int} {V σ : Mem} {L i : Int} {Q : Option AV → Mem → Prop} (hi : Inv b V) (hb1 : 100000000 ≤ b) (hb : b + 400000 ≤ 500000000) (hx : RX V σ) (hm : RM V σ) (hs : SC σ L) (i0 : 0 ≤ i) (i1 : i + 5 ≤ L) (kk : ∀ V' τ, Inv (b + 200000) V' → RX V' τ → RM V' τ → SC τ L → Go 41 mL_law 1105 [some (aR 104), some (aR 0), some (aR 30), some (aI i)] [] τ Q) : Go 41 mL_law 795 [some (aR 104), some (aR 0), some (aR 30), some (aI i)] [] σ Q := by
  have hL := hs.1
  refine g_aload_n dL_law_795 rfl ?_
  refine g_aload_n dL_law_796 rfl ?_
  refine g_iload_n dL_law_797 rfl ?_
  refine g_iconst dL_law_798 ?_
  refine g_iadd dL_law_799 ?_
  refine g_roload dL_law_800 (by decide) (by decide) (by omega) (by rw [hL]; omega) ?_
  refine g_eV1 dL_law_801 qL_101 rfl (by decide) (by decide) (Nat.le_of_ble_eq_true rfl) (y_snap hi hx _ (hs.2 _)) ?_
  intro τ hq
  obtain ⟨hx1, hk1⟩ := hq
  have hm1 : RM V τ := hm.keep hk1
  have hs1 : SC τ L := hs.kX hk1
  refine g_aload_n dL_law_804 rfl ?_
  refine g_aload_n dL_law_805 rfl ?_
  refine g_iload_n dL_law_806 rfl ?_
  refine g_iconst dL_law_807 ?_
  refine g_iadd dL_law_808 ?_
  refine g_roload dL_law_809 (by decide) (by decide) (by omega) (by rw [hs1.1]; omega) ?_
  rw [hk1 104 (by decide)]
  refine g_eV1 dL_law_810 qL_104 rfl (by decide) (by decide) (Nat.le_of_ble_eq_true rfl) (k_snap hi hm1 _ (hs.2 _)) ?_
  intro τ2 hq2
  obtain ⟨hm2, hk2⟩ := hq2
  exact g_same (tgt := 1105) dL_law_813 (by decide) (kk _ τ2 (i_snap hi hb1 (by omega) _) (hx1.keep hk2) hm2 (hs1.kM hk2))

theorem law_c22 {b : Int} {V σ : Mem} {L i : Int} {Q : Option AV → Mem → Prop} (hi : Inv b V) (hb1 : 100000000 ≤ b) (hb : b + 400000 ≤ 500000000) (hx : RX V σ) (hm : RM V σ) (hs : SC σ L) (i0 : 0 ≤ i) (i1 : i + 5 ≤ L) (kk : ∀ V' τ, Inv (b + 200000) V' → RX V' τ → RM V' τ → SC τ L → Go 41 mL_law 1105 [some (aR 104), some (aR 0), some (aR 30), some (aI i)] [] τ Q) : Go 41 mL_law 818 [some (aR 104), some (aR 0), some (aR 30), some (aI i)] [] σ Q := by
  have hL := hs.1
  refine g_aload_n dL_law_818 rfl ?_
  refine g_aload_n dL_law_819 rfl ?_
  refine g_iload_n dL_law_820 rfl ?_
  refine g_iconst dL_law_821 ?_
  refine g_iadd dL_law_822 ?_
  refine g_roload dL_law_823 (by decide) (by decide) (by omega) (by rw [hL]; omega) ?_
  refine g_aload_n dL_law_824 rfl ?_
  refine g_iload_n dL_law_825 rfl ?_
  refine g_iconst dL_law_826 ?_
  refine g_iadd dL_law_827 ?_
  refine g_roload dL_law_828 (by decide) (by decide) (by omega) (by rw [hL]; omega) ?_
  refine g_aload_n dL_law_829 rfl ?_
  refine g_iload_n dL_law_830 rfl ?_
  refine g_iconst dL_law_831 ?_
  refine g_iadd dL_law_832 ?_
  refine g_roload dL_law_833 (by decide) (by decide) (by omega) (by rw [hL]; omega) ?_
  refine g_eV3 dL_law_834 qL_105 rfl (by decide) (by decide) (Nat.le_of_ble_eq_true rfl) (y_anew hi hx _ _ _ (hs.2 _) (hs.2 _) (hs.2 _)) ?_
  intro τ hq
  obtain ⟨hx1, hk1⟩ := hq
  have hm1 : RM V τ := hm.keep hk1
  have hs1 : SC τ L := hs.kX hk1
  refine g_aload_n dL_law_837 rfl ?_
  refine g_aload_n dL_law_838 rfl ?_
  refine g_iload_n dL_law_839 rfl ?_
  refine g_iconst dL_law_840 ?_
  refine g_iadd dL_law_841 ?_
  refine g_roload dL_law_842 (by decide) (by decide) (by omega) (by rw [hs1.1]; omega) ?_
  rw [hk1 104 (by decide)]
  refine g_aload_n dL_law_843 rfl ?_
  refine g_iload_n dL_law_844 rfl ?_
  refine g_iconst dL_law_845 ?_
  refine g_iadd dL_law_846 ?_
  refine g_roload dL_law_847 (by decide) (by decide) (by omega) (by rw [hs1.1]; omega) ?_
  rw [hk1 104 (by decide)]
  refine g_aload_n dL_law_848 rfl ?_
  refine g_iload_n dL_law_849 rfl ?_
  refine g_iconst dL_law_850 ?_
  refine g_iadd dL_law_851 ?_
  refine g_roload dL_law_852 (by decide) (by decide) (by omega) (by rw [hs1.1]; omega) ?_
  rw [hk1 104 (by decide)]
  refine g_eV3 dL_law_853 qL_108 rfl (by decide) (by decide) (Nat.le_of_ble_eq_true rfl) (k_anew hi hm1 _ _ _ (hs.2 _) (hs.2 _) (hs.2 _)) ?_
  intro τ2 hq2
  obtain ⟨hm2, hk2⟩ := hq2
  exact g_same (tgt := 1105) dL_law_856 (by decide) (kk _ τ2 (i_anew hi hb1 (by omega) _ _ _) (hx1.keep hk2) hm2 (hs1.kM hk2))

theorem law_c23 {b : Int} {V σ : Mem} {L i : Int} {Q : Option AV → Mem → Prop} (hi : Inv b V) (hb1 : 100000000 ≤ b) (hb : b + 400000 ≤ 500000000) (hx : RX V σ) (hm : RM V σ) (hs : SC σ L) (i0 : 0 ≤ i) (i1 : i + 5 ≤ L) (kk : ∀ V' τ, Inv (b + 200000) V' → RX V' τ → RM V' τ → SC τ L → Go 41 mL_law 1105 [some (aR 104), some (aR 0), some (aR 30), some (aI i)] [] τ Q) : Go 41 mL_law 861 [some (aR 104), some (aR 0), some (aR 30), some (aI i)] [] σ Q := by
  have hL := hs.1
  refine g_aload_n dL_law_861 rfl ?_
  refine g_aload_n dL_law_862 rfl ?_
  refine g_iload_n dL_law_863 rfl ?_
  refine g_iconst dL_law_864 ?_
  refine g_iadd dL_law_865 ?_
  refine g_roload dL_law_866 (by decide) (by decide) (by omega) (by rw [hL]; omega) ?_
  refine g_aload_n dL_law_867 rfl ?_
  refine g_iload_n dL_law_868 rfl ?_
  refine g_iconst dL_law_869 ?_
  refine g_iadd dL_law_870 ?_
  refine g_roload dL_law_871 (by decide) (by decide) (by omega) (by rw [hL]; omega) ?_
  refine g_aload_n dL_law_872 rfl ?_
  refine g_iload_n dL_law_873 rfl ?_
  refine g_iconst dL_law_874 ?_
  refine g_iadd dL_law_875 ?_
  refine g_roload dL_law_876 (by decide) (by decide) (by omega) (by rw [hL]; omega) ?_
  refine g_eV3 dL_law_877 qL_109 rfl (by decide) (by decide) (Nat.le_of_ble_eq_true rfl) (y_loaded hi hx _ _ _ (hs.2 _) (hs.2 _) (hs.2 _)) ?_
  intro τ hq
  obtain ⟨hx1, hk1⟩ := hq
  have hm1 : RM V τ := hm.keep hk1
  have hs1 : SC τ L := hs.kX hk1
  refine g_aload_n dL_law_880 rfl ?_
  refine g_aload_n dL_law_881 rfl ?_
  refine g_iload_n dL_law_882 rfl ?_
  refine g_iconst dL_law_883 ?_
  refine g_iadd dL_law_884 ?_
  refine g_roload dL_law_885 (by decide) (by decide) (by omega) (by rw [hs1.1]; omega) ?_
  rw [hk1 104 (by decide)]
  refine g_aload_n dL_law_886 rfl ?_
  refine g_iload_n dL_law_887 rfl ?_
  refine g_iconst dL_law_888 ?_
  refine g_iadd dL_law_889 ?_
  refine g_roload dL_law_890 (by decide) (by decide) (by omega) (by rw [hs1.1]; omega) ?_
  rw [hk1 104 (by decide)]
  refine g_aload_n dL_law_891 rfl ?_
  refine g_iload_n dL_law_892 rfl ?_
  refine g_iconst dL_law_893 ?_
  refine g_iadd dL_law_894 ?_
  refine g_roload dL_law_895 (by decide) (by decide) (by omega) (by rw [hs1.1]; omega) ?_
  rw [hk1 104 (by decide)]
  refine g_eV3 dL_law_896 qL_112 rfl (by decide) (by decide) (Nat.le_of_ble_eq_true rfl) (k_loaded hi hm1 _ _ _ (hs.2 _) (hs.2 _) (hs.2 _)) ?_
  intro τ2 hq2
  obtain ⟨hm2, hk2⟩ := hq2
  exact g_same (tgt := 1105) dL_law_899 (by decide) (kk _ τ2 (i_loaded hi hb1 (by omega) _ _ _) (hx1.keep hk2) hm2 (hs1.kM hk2))

theorem law_c24 {b : Int} {V σ : Mem} {L i : Int} {Q : Option AV → Mem → Prop} (hi : Inv b V) (hb1 : 100000000 ≤ b) (hb : b + 400000 ≤ 500000000) (hx : RX V σ) (hm : RM V σ) (hs : SC σ L) (i0 : 0 ≤ i) (i1 : i + 5 ≤ L) (kk : ∀ V' τ, Inv (b + 200000) V' → RX V' τ → RM V' τ → SC τ L → Go 41 mL_law 1105 [some (aR 104), some (aR 0), some (aR 30), some (aI i)] [] τ Q) : Go 41 mL_law 904 [some (aR 104), some (aR 0), some (aR 30), some (aI i)] [] σ Q := by
  have hL := hs.1
  refine g_aload_n dL_law_904 rfl ?_
  refine g_aload_n dL_law_905 rfl ?_
  refine g_iload_n dL_law_906 rfl ?_
  refine g_iconst dL_law_907 ?_
  refine g_iadd dL_law_908 ?_
  refine g_roload dL_law_909 (by decide) (by decide) (by omega) (by rw [hL]; omega) ?_
  refine g_eV1 dL_law_910 qL_113 rfl (by decide) (by decide) (Nat.le_of_ble_eq_true rfl) (y_worstAt hi hx _ (hs.2 _)) ?_
  intro τ hq
  obtain ⟨hx1, hk1⟩ := hq
  have hm1 : RM V τ := hm.keep hk1
  have hs1 : SC τ L := hs.kX hk1
  refine g_aload_n dL_law_913 rfl ?_
  refine g_aload_n dL_law_914 rfl ?_
  refine g_iload_n dL_law_915 rfl ?_
  refine g_iconst dL_law_916 ?_
  refine g_iadd dL_law_917 ?_
  refine g_roload dL_law_918 (by decide) (by decide) (by omega) (by rw [hs1.1]; omega) ?_
  rw [hk1 104 (by decide)]
  refine g_eV1 dL_law_919 qL_116 rfl (by decide) (by decide) (Nat.le_of_ble_eq_true rfl) (k_worstAt hi hm1 _ (hs.2 _)) ?_
  intro τ2 hq2
  obtain ⟨hm2, hk2⟩ := hq2
  exact g_same (tgt := 1105) dL_law_922 (by decide) (kk _ τ2 (i_worstAt hi hb1 (by omega) _) (hx1.keep hk2) hm2 (hs1.kM hk2))

theorem law_c25 {b : Int} {V σ : Mem} {L i : Int} {Q : Option AV → Mem → Prop} (hi : Inv b V) (hb1 : 100000000 ≤ b) (hb : b + 400000 ≤ 500000000) (hx : RX V σ) (hm : RM V σ) (hs : SC σ L) (i0 : 0 ≤ i) (i1 : i + 5 ≤ L) (kk : ∀ V' τ, Inv (b + 200000) V' → RX V' τ → RM V' τ → SC τ L → Go 41 mL_law 1105 [some (aR 104), some (aR 0), some (aR 30), some (aI i)] [] τ Q) : Go 41 mL_law 927 [some (aR 104), some (aR 0), some (aR 30), some (aI i)] [] σ Q := by
  have hL := hs.1
  refine g_aload_n dL_law_927 rfl ?_
  refine g_aload_n dL_law_928 rfl ?_
  refine g_iload_n dL_law_929 rfl ?_
  refine g_iconst dL_law_930 ?_
  refine g_iadd dL_law_931 ?_
  refine g_roload dL_law_932 (by decide) (by decide) (by omega) (by rw [hL]; omega) ?_
  refine g_aload_n dL_law_933 rfl ?_
  refine g_iload_n dL_law_934 rfl ?_
  refine g_iconst dL_law_935 ?_
  refine g_iadd dL_law_936 ?_
  refine g_roload dL_law_937 (by decide) (by decide) (by omega) (by rw [hL]; omega) ?_
  refine g_aload_n dL_law_938 rfl ?_
  refine g_iload_n dL_law_939 rfl ?_
  refine g_iconst dL_law_940 ?_
  refine g_iadd dL_law_941 ?_
  refine g_roload dL_law_942 (by decide) (by decide) (by omega) (by rw [hL]; omega) ?_
  refine g_aload_n dL_law_943 rfl ?_
  refine g_iload_n dL_law_944 rfl ?_
  refine g_iconst dL_law_945 ?_
  refine g_iadd dL_law_946 ?_
  refine g_roload dL_law_947 (by decide) (by decide) (by omega) (by rw [hL]; omega) ?_
  refine g_eV4 dL_law_948 qL_117 rfl (by decide) (by decide) (Nat.le_of_ble_eq_true rfl) (y_lace hi hx _ _ _ _ (hs.2 _) (hs.2 _) (hs.2 _) (hs.2 _)) ?_
  intro τ hq
  obtain ⟨hx1, hk1⟩ := hq
  have hm1 : RM V τ := hm.keep hk1
  have hs1 : SC τ L := hs.kX hk1
  refine g_aload_n dL_law_951 rfl ?_
  refine g_aload_n dL_law_952 rfl ?_
  refine g_iload_n dL_law_953 rfl ?_
  refine g_iconst dL_law_954 ?_
  refine g_iadd dL_law_955 ?_
  refine g_roload dL_law_956 (by decide) (by decide) (by omega) (by rw [hs1.1]; omega) ?_
  rw [hk1 104 (by decide)]
  refine g_aload_n dL_law_957 rfl ?_
  refine g_iload_n dL_law_958 rfl ?_
  refine g_iconst dL_law_959 ?_
  refine g_iadd dL_law_960 ?_
  refine g_roload dL_law_961 (by decide) (by decide) (by omega) (by rw [hs1.1]; omega) ?_
  rw [hk1 104 (by decide)]
  refine g_aload_n dL_law_962 rfl ?_
  refine g_iload_n dL_law_963 rfl ?_
  refine g_iconst dL_law_964 ?_
  refine g_iadd dL_law_965 ?_
  refine g_roload dL_law_966 (by decide) (by decide) (by omega) (by rw [hs1.1]; omega) ?_
  rw [hk1 104 (by decide)]
  refine g_aload_n dL_law_967 rfl ?_
  refine g_iload_n dL_law_968 rfl ?_
  refine g_iconst dL_law_969 ?_
  refine g_iadd dL_law_970 ?_
  refine g_roload dL_law_971 (by decide) (by decide) (by omega) (by rw [hs1.1]; omega) ?_
  rw [hk1 104 (by decide)]
  refine g_eV4 dL_law_972 qL_121 rfl (by decide) (by decide) (Nat.le_of_ble_eq_true rfl) (k_lace hi hm1 _ _ _ _ (hs.2 _) (hs.2 _) (hs.2 _) (hs.2 _)) ?_
  intro τ2 hq2
  obtain ⟨hm2, hk2⟩ := hq2
  exact g_same (tgt := 1105) dL_law_975 (by decide) (kk _ τ2 (i_lace hi hb1 (by omega) _ _ _ _) (hx1.keep hk2) hm2 (hs1.kM hk2))

theorem law_c26 {b : Int} {V σ : Mem} {L i : Int} {Q : Option AV → Mem → Prop} (hi : Inv b V) (hb1 : 100000000 ≤ b) (hb : b + 400000 ≤ 500000000) (hx : RX V σ) (hm : RM V σ) (hs : SC σ L) (i0 : 0 ≤ i) (i1 : i + 5 ≤ L) (kk : ∀ V' τ, Inv (b + 200000) V' → RX V' τ → RM V' τ → SC τ L → Go 41 mL_law 1105 [some (aR 104), some (aR 0), some (aR 30), some (aI i)] [] τ Q) : Go 41 mL_law 980 [some (aR 104), some (aR 0), some (aR 30), some (aI i)] [] σ Q := by
  have hL := hs.1
  refine g_aload_n dL_law_980 rfl ?_
  refine g_aload_n dL_law_981 rfl ?_
  refine g_iload_n dL_law_982 rfl ?_
  refine g_iconst dL_law_983 ?_
  refine g_iadd dL_law_984 ?_
  refine g_roload dL_law_985 (by decide) (by decide) (by omega) (by rw [hL]; omega) ?_
  refine g_eV1 dL_law_986 qL_122 rfl (by decide) (by decide) (Nat.le_of_ble_eq_true rfl) (y_length hi hx _ (hs.2 _)) ?_
  intro τ hq
  obtain ⟨hx1, hk1⟩ := hq
  have hm1 : RM V τ := hm.keep hk1
  have hs1 : SC τ L := hs.kX hk1
  refine g_aload_n dL_law_989 rfl ?_
  refine g_aload_n dL_law_990 rfl ?_
  refine g_iload_n dL_law_991 rfl ?_
  refine g_iconst dL_law_992 ?_
  refine g_iadd dL_law_993 ?_
  refine g_roload dL_law_994 (by decide) (by decide) (by omega) (by rw [hs1.1]; omega) ?_
  rw [hk1 104 (by decide)]
  refine g_eV1 dL_law_995 qL_125 rfl (by decide) (by decide) (Nat.le_of_ble_eq_true rfl) (k_length hi hm1 _ (hs.2 _)) ?_
  intro τ2 hq2
  obtain ⟨hm2, hk2⟩ := hq2
  exact g_same (tgt := 1105) dL_law_998 (by decide) (kk _ τ2 (i_length hi hb1 (by omega) _) (hx1.keep hk2) hm2 (hs1.kM hk2))

theorem law_c27 {b : Int} {V σ : Mem} {L i : Int} {Q : Option AV → Mem → Prop} (hi : Inv b V) (hb1 : 100000000 ≤ b) (hb : b + 400000 ≤ 500000000) (hx : RX V σ) (hm : RM V σ) (hs : SC σ L) (i0 : 0 ≤ i) (i1 : i + 5 ≤ L) (kk : ∀ V' τ, Inv (b + 200000) V' → RX V' τ → RM V' τ → SC τ L → Go 41 mL_law 1105 [some (aR 104), some (aR 0), some (aR 30), some (aI i)] [] τ Q) : Go 41 mL_law 1003 [some (aR 104), some (aR 0), some (aR 30), some (aI i)] [] σ Q := by
  have hL := hs.1
  refine g_aload_n dL_law_1003 rfl ?_
  refine g_aload_n dL_law_1004 rfl ?_
  refine g_iload_n dL_law_1005 rfl ?_
  refine g_iconst dL_law_1006 ?_
  refine g_iadd dL_law_1007 ?_
  refine g_roload dL_law_1008 (by decide) (by decide) (by omega) (by rw [hL]; omega) ?_
  refine g_eV1 dL_law_1009 qL_126 rfl (by decide) (by decide) (Nat.le_of_ble_eq_true rfl) (y_hub hi hx _ (hs.2 _)) ?_
  intro τ hq
  obtain ⟨hx1, hk1⟩ := hq
  have hm1 : RM V τ := hm.keep hk1
  have hs1 : SC τ L := hs.kX hk1
  refine g_aload_n dL_law_1012 rfl ?_
  refine g_aload_n dL_law_1013 rfl ?_
  refine g_iload_n dL_law_1014 rfl ?_
  refine g_iconst dL_law_1015 ?_
  refine g_iadd dL_law_1016 ?_
  refine g_roload dL_law_1017 (by decide) (by decide) (by omega) (by rw [hs1.1]; omega) ?_
  rw [hk1 104 (by decide)]
  refine g_eV1 dL_law_1018 qL_129 rfl (by decide) (by decide) (Nat.le_of_ble_eq_true rfl) (k_hub hi hm1 _ (hs.2 _)) ?_
  intro τ2 hq2
  obtain ⟨hm2, hk2⟩ := hq2
  exact g_same (tgt := 1105) dL_law_1021 (by decide) (kk _ τ2 (i_hub hi hb1 (by omega) _) (hx1.keep hk2) hm2 (hs1.kM hk2))

theorem law_c28 {b : Int} {V σ : Mem} {L i : Int} {Q : Option AV → Mem → Prop} (hi : Inv b V) (hb1 : 100000000 ≤ b) (hb : b + 400000 ≤ 500000000) (hx : RX V σ) (hm : RM V σ) (hs : SC σ L) (i0 : 0 ≤ i) (i1 : i + 5 ≤ L) (kk : ∀ V' τ, Inv (b + 200000) V' → RX V' τ → RM V' τ → SC τ L → Go 41 mL_law 1105 [some (aR 104), some (aR 0), some (aR 30), some (aI i)] [] τ Q) : Go 41 mL_law 1026 [some (aR 104), some (aR 0), some (aR 30), some (aI i)] [] σ Q := by
  have hL := hs.1
  refine g_aload_n dL_law_1026 rfl ?_
  refine g_aload_n dL_law_1027 rfl ?_
  refine g_iload_n dL_law_1028 rfl ?_
  refine g_iconst dL_law_1029 ?_
  refine g_iadd dL_law_1030 ?_
  refine g_roload dL_law_1031 (by decide) (by decide) (by omega) (by rw [hL]; omega) ?_
  refine g_aload_n dL_law_1032 rfl ?_
  refine g_iload_n dL_law_1033 rfl ?_
  refine g_iconst dL_law_1034 ?_
  refine g_iadd dL_law_1035 ?_
  refine g_roload dL_law_1036 (by decide) (by decide) (by omega) (by rw [hL]; omega) ?_
  refine g_eV2 dL_law_1037 qL_130 rfl (by decide) (by decide) (Nat.le_of_ble_eq_true rfl) (y_crosses hi hx _ _ (hs.2 _) (hs.2 _)) ?_
  intro τ hq
  obtain ⟨hx1, hk1⟩ := hq
  have hm1 : RM V τ := hm.keep hk1
  have hs1 : SC τ L := hs.kX hk1
  refine g_aload_n dL_law_1040 rfl ?_
  refine g_aload_n dL_law_1041 rfl ?_
  refine g_iload_n dL_law_1042 rfl ?_
  refine g_iconst dL_law_1043 ?_
  refine g_iadd dL_law_1044 ?_
  refine g_roload dL_law_1045 (by decide) (by decide) (by omega) (by rw [hs1.1]; omega) ?_
  rw [hk1 104 (by decide)]
  refine g_aload_n dL_law_1046 rfl ?_
  refine g_iload_n dL_law_1047 rfl ?_
  refine g_iconst dL_law_1048 ?_
  refine g_iadd dL_law_1049 ?_
  refine g_roload dL_law_1050 (by decide) (by decide) (by omega) (by rw [hs1.1]; omega) ?_
  rw [hk1 104 (by decide)]
  refine g_eV2 dL_law_1051 qL_133 rfl (by decide) (by decide) (Nat.le_of_ble_eq_true rfl) (k_crosses hi hm1 _ _ (hs.2 _) (hs.2 _)) ?_
  intro τ2 hq2
  obtain ⟨hm2, hk2⟩ := hq2
  exact g_same (tgt := 1105) dL_law_1054 (by decide) (kk _ τ2 (i_crosses hi hb1 (by omega) _ _) (hx1.keep hk2) hm2 (hs1.kM hk2))

theorem law_c29 {b : Int} {V σ : Mem} {L i : Int} {Q : Option AV → Mem → Prop} (hi : Inv b V) (hb1 : 100000000 ≤ b) (hb : b + 400000 ≤ 500000000) (hx : RX V σ) (hm : RM V σ) (hs : SC σ L) (i0 : 0 ≤ i) (i1 : i + 5 ≤ L) (kk : ∀ V' τ, Inv (b + 200000) V' → RX V' τ → RM V' τ → SC τ L → Go 41 mL_law 1105 [some (aR 104), some (aR 0), some (aR 30), some (aI i)] [] τ Q) : Go 41 mL_law 1059 [some (aR 104), some (aR 0), some (aR 30), some (aI i)] [] σ Q := by
  have hL := hs.1
  refine g_aload_n dL_law_1059 rfl ?_
  refine g_aload_n dL_law_1060 rfl ?_
  refine g_iload_n dL_law_1061 rfl ?_
  refine g_iconst dL_law_1062 ?_
  refine g_iadd dL_law_1063 ?_
  refine g_roload dL_law_1064 (by decide) (by decide) (by omega) (by rw [hL]; omega) ?_
  refine g_eV1 dL_law_1065 qL_134 rfl (by decide) (by decide) (Nat.le_of_ble_eq_true rfl) (y_crossings hi hx _ (hs.2 _)) ?_
  intro τ hq
  obtain ⟨hx1, hk1⟩ := hq
  have hm1 : RM V τ := hm.keep hk1
  have hs1 : SC τ L := hs.kX hk1
  refine g_aload_n dL_law_1068 rfl ?_
  refine g_aload_n dL_law_1069 rfl ?_
  refine g_iload_n dL_law_1070 rfl ?_
  refine g_iconst dL_law_1071 ?_
  refine g_iadd dL_law_1072 ?_
  refine g_roload dL_law_1073 (by decide) (by decide) (by omega) (by rw [hs1.1]; omega) ?_
  rw [hk1 104 (by decide)]
  refine g_eV1 dL_law_1074 qL_137 rfl (by decide) (by decide) (Nat.le_of_ble_eq_true rfl) (k_crossings hi hm1 _ (hs.2 _)) ?_
  intro τ2 hq2
  obtain ⟨hm2, hk2⟩ := hq2
  exact g_same (tgt := 1105) dL_law_1077 (by decide) (kk _ τ2 (i_crossings hi hb1 (by omega) _) (hx1.keep hk2) hm2 (hs1.kM hk2))

theorem law_c30 {b : Int} {V σ : Mem} {L i : Int} {Q : Option AV → Mem → Prop} (hi : Inv b V) (hb1 : 100000000 ≤ b) (hb : b + 400000 ≤ 500000000) (hx : RX V σ) (hm : RM V σ) (hs : SC σ L) (i0 : 0 ≤ i) (i1 : i + 5 ≤ L) (kk : ∀ V' τ, Inv (b + 200000) V' → RX V' τ → RM V' τ → SC τ L → Go 41 mL_law 1105 [some (aR 104), some (aR 0), some (aR 30), some (aI i)] [] τ Q) : Go 41 mL_law 1082 [some (aR 104), some (aR 0), some (aR 30), some (aI i)] [] σ Q := by
  have hL := hs.1
  refine g_aload_n dL_law_1082 rfl ?_
  refine g_aload_n dL_law_1083 rfl ?_
  refine g_iload_n dL_law_1084 rfl ?_
  refine g_iconst dL_law_1085 ?_
  refine g_iadd dL_law_1086 ?_
  refine g_roload dL_law_1087 (by decide) (by decide) (by omega) (by rw [hL]; omega) ?_
  refine g_eV1 dL_law_1088 qL_138 rfl (by decide) (by decide) (Nat.le_of_ble_eq_true rfl) (y_count hi hx _ (hs.2 _)) ?_
  intro τ hq
  obtain ⟨hx1, hk1⟩ := hq
  have hm1 : RM V τ := hm.keep hk1
  have hs1 : SC τ L := hs.kX hk1
  refine g_aload_n dL_law_1091 rfl ?_
  refine g_aload_n dL_law_1092 rfl ?_
  refine g_iload_n dL_law_1093 rfl ?_
  refine g_iconst dL_law_1094 ?_
  refine g_iadd dL_law_1095 ?_
  refine g_roload dL_law_1096 (by decide) (by decide) (by omega) (by rw [hs1.1]; omega) ?_
  rw [hk1 104 (by decide)]
  refine g_eV1 dL_law_1097 qL_141 rfl (by decide) (by decide) (Nat.le_of_ble_eq_true rfl) (k_count hi hm1 _ (hs.2 _)) ?_
  intro τ2 hq2
  obtain ⟨hm2, hk2⟩ := hq2
  exact g_same (tgt := 1105) dL_law_1100 (by decide) (kk _ τ2 (i_count hi hb1 (by omega) _) (hx1.keep hk2) hm2 (hs1.kM hk2))

theorem law_lp {L : Int} (hL0 : 0 ≤ L) (hL1 : L ≤ 2560) : ∀ (fu : Nat) (i b : Int) (V σ : Mem), 0 ≤ i → i ≤ L → L - i < fu → Inv b V → 100000000 ≤ b → b ≤ 100000000 + 40000 * i → RX V σ → RM V σ → SC σ L → Go 41 mL_law 18 [some (aR 104), some (aR 0), some (aR 30), some (aI i)] [] σ (fun o _ => o = some (aI 1)) := by
  intro fu
  induction fu with
  | zero => intros; omega
  | succ fu ih =>
    intro i b V σ i0 i1 ifu hi hb1 hb2 hx hm hs
    have hi32 := hs.2 i
    have cont : i + 5 ≤ L → ∀ V' τ, Inv (b + 200000) V' → RX V' τ → RM V' τ → SC τ L → Go 41 mL_law 1105 [some (aR 104), some (aR 0), some (aR 30), some (aI i)] [] τ (fun o _ => o = some (aI 1)) := fun h5 V' τ a1 a2 a3 a4 =>
      g_iinc dL_law_1105 rfl (by decide) (g_goto (tgt := 18) dL_law_1108 (by decide) (ih (i + 5) (b + 200000) V' τ (by omega) (by omega) (by omega) a1 (by omega) (by omega) a2 a3 a4))
    refine g_iload_n dL_law_18 rfl ?_
    refine g_aload_n dL_law_19 rfl ?_
    refine g_rolen dL_law_20 (by decide) (by decide) ?_
    rw [hs.1]
    refine g_iconst dL_law_21 ?_
    refine g_isub dL_law_22 ?_
    refine g_icmp_gt (tgt := 1111) dL_law_23 (by decide) (by omega) (by omega) (fun h23 => ?_) (fun h23 => ?_)
    · refine g_iconst dL_law_1111 ?_
      exact g_iret dL_law_1112 (Or.inr rfl) rfl
    · refine g_aload_n dL_law_26 rfl ?_
      refine g_iload_n dL_law_27 rfl ?_
      refine g_roload dL_law_28 (by decide) (by decide) (by omega) (by rw [hs.1]; omega) ?_
      refine g_bipush (v := 31) dL_law_29 (by decide) ?_
      refine g_iand31 dL_law_31 ?_
      rcases (show σ 104 i % 32 = 0 ∨ σ 104 i % 32 = 1 ∨ σ 104 i % 32 = 2 ∨ σ 104 i % 32 = 3 ∨ σ 104 i % 32 = 4 ∨ σ 104 i % 32 = 5 ∨ σ 104 i % 32 = 6 ∨ σ 104 i % 32 = 7 ∨ σ 104 i % 32 = 8 ∨ σ 104 i % 32 = 9 ∨ σ 104 i % 32 = 10 ∨ σ 104 i % 32 = 11 ∨ σ 104 i % 32 = 12 ∨ σ 104 i % 32 = 13 ∨ σ 104 i % 32 = 14 ∨ σ 104 i % 32 = 15 ∨ σ 104 i % 32 = 16 ∨ σ 104 i % 32 = 17 ∨ σ 104 i % 32 = 18 ∨ σ 104 i % 32 = 19 ∨ σ 104 i % 32 = 20 ∨ σ 104 i % 32 = 21 ∨ σ 104 i % 32 = 22 ∨ σ 104 i % 32 = 23 ∨ σ 104 i % 32 = 24 ∨ σ 104 i % 32 = 25 ∨ σ 104 i % 32 = 26 ∨ σ 104 i % 32 = 27 ∨ σ 104 i % 32 = 28 ∨ σ 104 i % 32 = 29 ∨ σ 104 i % 32 = 30 ∨ σ 104 i % 32 = 31 by omega) with hv | hv | hv | hv | hv | hv | hv | hv | hv | hv | hv | hv | hv | hv | hv | hv | hv | hv | hv | hv | hv | hv | hv | hv | hv | hv | hv | hv | hv | hv | hv | hv
      · rw [hv]
        refine g_tabIn (off := 140) (tgt := 172) dL_law_32 (by decide) (by decide) (by decide) rfl (by decide) ?_
        exact law_c0 hi hb1 (by omega) hx hm hs i0 (by omega) (cont (by omega))
      · rw [hv]
        refine g_tabIn (off := 163) (tgt := 195) dL_law_32 (by decide) (by decide) (by decide) rfl (by decide) ?_
        exact law_c1 hi hb1 (by omega) hx hm hs i0 (by omega) (cont (by omega))
      · rw [hv]
        refine g_tabIn (off := 196) (tgt := 228) dL_law_32 (by decide) (by decide) (by decide) rfl (by decide) ?_
        exact law_c2 hi hb1 (by omega) hx hm hs i0 (by omega) (cont (by omega))
      · rw [hv]
        refine g_tabIn (off := 229) (tgt := 261) dL_law_32 (by decide) (by decide) (by decide) rfl (by decide) ?_
        exact law_c3 hi hb1 (by omega) hx hm hs i0 (by omega) (cont (by omega))
      · rw [hv]
        refine g_tabIn (off := 272) (tgt := 304) dL_law_32 (by decide) (by decide) (by decide) rfl (by decide) ?_
        exact law_c4 hi hb1 (by omega) hx hm hs i0 (by omega) (cont (by omega))
      · rw [hv]
        refine g_tabIn (off := 315) (tgt := 347) dL_law_32 (by decide) (by decide) (by decide) rfl (by decide) ?_
        exact law_c5 hi hb1 (by omega) hx hm hs i0 (by omega) (cont (by omega))
      · rw [hv]
        refine g_tabIn (off := 358) (tgt := 390) dL_law_32 (by decide) (by decide) (by decide) rfl (by decide) ?_
        exact law_c6 hi hb1 (by omega) hx hm hs i0 (by omega) (cont (by omega))
      · rw [hv]
        refine g_tabIn (off := 391) (tgt := 423) dL_law_32 (by decide) (by decide) (by decide) rfl (by decide) ?_
        exact law_c7 hi hb1 (by omega) hx hm hs i0 (by omega) (cont (by omega))
      · rw [hv]
        refine g_tabIn (off := 424) (tgt := 456) dL_law_32 (by decide) (by decide) (by decide) rfl (by decide) ?_
        exact law_c8 hi hb1 (by omega) hx hm hs i0 (by omega) (cont (by omega))
      · rw [hv]
        refine g_tabIn (off := 457) (tgt := 489) dL_law_32 (by decide) (by decide) (by decide) rfl (by decide) ?_
        exact law_c9 hi hb1 (by omega) hx hm hs i0 (by omega) (cont (by omega))
      · rw [hv]
        refine g_tabIn (off := 490) (tgt := 522) dL_law_32 (by decide) (by decide) (by decide) rfl (by decide) ?_
        exact law_c10 hi hb1 (by omega) hx hm hs i0 (by omega) (cont (by omega))
      · rw [hv]
        refine g_tabIn (off := 523) (tgt := 555) dL_law_32 (by decide) (by decide) (by decide) rfl (by decide) ?_
        exact law_c11 hi hb1 (by omega) hx hm hs i0 (by omega) (cont (by omega))
      · rw [hv]
        refine g_tabIn (off := 556) (tgt := 588) dL_law_32 (by decide) (by decide) (by decide) rfl (by decide) ?_
        exact law_c12 hi hb1 (by omega) hx hm hs i0 (by omega) (cont (by omega))
      · rw [hv]
        refine g_tabIn (off := 589) (tgt := 621) dL_law_32 (by decide) (by decide) (by decide) rfl (by decide) ?_
        exact law_c13 hi hb1 (by omega) hx hm hs i0 (by omega) (cont (by omega))
      · rw [hv]
        refine g_tabIn (off := 612) (tgt := 644) dL_law_32 (by decide) (by decide) (by decide) rfl (by decide) ?_
        exact law_c14 hi hb1 (by omega) hx hm hs i0 (by omega) (cont (by omega))
      · rw [hv]
        refine g_tabIn (off := 625) (tgt := 657) dL_law_32 (by decide) (by decide) (by decide) rfl (by decide) ?_
        exact law_c15 hi hb1 (by omega) hx hm hs i0 (by omega) (cont (by omega))
      · rw [hv]
        refine g_tabIn (off := 658) (tgt := 690) dL_law_32 (by decide) (by decide) (by decide) rfl (by decide) ?_
        exact law_c16 hi hb1 (by omega) hx hm hs i0 (by omega) (cont (by omega))
      · rw [hv]
        refine g_tabIn (off := 671) (tgt := 703) dL_law_32 (by decide) (by decide) (by decide) rfl (by decide) ?_
        exact law_c17 hi hb1 (by omega) hx hm hs i0 (by omega) (cont (by omega))
      · rw [hv]
        refine g_tabIn (off := 694) (tgt := 726) dL_law_32 (by decide) (by decide) (by decide) rfl (by decide) ?_
        exact law_c18 hi hb1 (by omega) hx hm hs i0 (by omega) (cont (by omega))
      · rw [hv]
        refine g_tabIn (off := 717) (tgt := 749) dL_law_32 (by decide) (by decide) (by decide) rfl (by decide) ?_
        exact law_c19 hi hb1 (by omega) hx hm hs i0 (by omega) (cont (by omega))
      · rw [hv]
        refine g_tabIn (off := 750) (tgt := 782) dL_law_32 (by decide) (by decide) (by decide) rfl (by decide) ?_
        exact law_c20 hi hb1 (by omega) hx hm hs i0 (by omega) (cont (by omega))
      · rw [hv]
        refine g_tabIn (off := 763) (tgt := 795) dL_law_32 (by decide) (by decide) (by decide) rfl (by decide) ?_
        exact law_c21 hi hb1 (by omega) hx hm hs i0 (by omega) (cont (by omega))
      · rw [hv]
        refine g_tabIn (off := 786) (tgt := 818) dL_law_32 (by decide) (by decide) (by decide) rfl (by decide) ?_
        exact law_c22 hi hb1 (by omega) hx hm hs i0 (by omega) (cont (by omega))
      · rw [hv]
        refine g_tabIn (off := 829) (tgt := 861) dL_law_32 (by decide) (by decide) (by decide) rfl (by decide) ?_
        exact law_c23 hi hb1 (by omega) hx hm hs i0 (by omega) (cont (by omega))
      · rw [hv]
        refine g_tabIn (off := 872) (tgt := 904) dL_law_32 (by decide) (by decide) (by decide) rfl (by decide) ?_
        exact law_c24 hi hb1 (by omega) hx hm hs i0 (by omega) (cont (by omega))
      · rw [hv]
        refine g_tabIn (off := 895) (tgt := 927) dL_law_32 (by decide) (by decide) (by decide) rfl (by decide) ?_
        exact law_c25 hi hb1 (by omega) hx hm hs i0 (by omega) (cont (by omega))
      · rw [hv]
        refine g_tabIn (off := 948) (tgt := 980) dL_law_32 (by decide) (by decide) (by decide) rfl (by decide) ?_
        exact law_c26 hi hb1 (by omega) hx hm hs i0 (by omega) (cont (by omega))
      · rw [hv]
        refine g_tabIn (off := 971) (tgt := 1003) dL_law_32 (by decide) (by decide) (by decide) rfl (by decide) ?_
        exact law_c27 hi hb1 (by omega) hx hm hs i0 (by omega) (cont (by omega))
      · rw [hv]
        refine g_tabIn (off := 994) (tgt := 1026) dL_law_32 (by decide) (by decide) (by decide) rfl (by decide) ?_
        exact law_c28 hi hb1 (by omega) hx hm hs i0 (by omega) (cont (by omega))
      · rw [hv]
        refine g_tabIn (off := 1027) (tgt := 1059) dL_law_32 (by decide) (by decide) (by decide) rfl (by decide) ?_
        exact law_c29 hi hb1 (by omega) hx hm hs i0 (by omega) (cont (by omega))
      · rw [hv]
        refine g_tabIn (off := 1050) (tgt := 1082) dL_law_32 (by decide) (by decide) (by decide) rfl (by decide) ?_
        exact law_c30 hi hb1 (by omega) hx hm hs i0 (by omega) (cont (by omega))
      · rw [hv]
        refine g_tabOut (tgt := 1105) dL_law_32 (by decide) (by decide) (by decide) ?_
        exact cont (by omega) V σ (hi.upb (by omega) (by omega)) hx hm hs
