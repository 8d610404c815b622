-- the law over a fresh object: every script of at most six ints
theorem FrR.sm {τ τ2 : Mm} (h : FrR τ) (hs : Sm30 τ τ2) : FrR τ2 := ⟨fun j a b => (hs 31 0 j (by decide)).trans (h.1 j a b), fun j a b => (hs 35 0 j (by decide)).trans (h.2.1 j a b), fun j a b => (hs 39 0 j (by decide)).trans (h.2.2.1 j a b), fun j a b => (hs 45 0 j (by decide)).trans (h.2.2.2 j a b)⟩
theorem iand63 (a : Int) : 0 ≤ iand a 63 ∧ iand a 63 ≤ 63 := by
  unfold iand
  have h : (i3 a &&& i3 63).toBitVec = (i3 a).toBitVec &&& 63#32 := rfl
  have h2 : ((i3 a).toBitVec &&& 63#32).toNat ≤ 63 := by
    rw [BitVec.toNat_and]
    exact Nat.and_le_right
  have h3 : (i3 a &&& i3 63).toInt = (((i3 a).toBitVec &&& 63#32).toNat : Int) := by
    show ((i3 a &&& i3 63).toBitVec).toInt = _
    rw [h, BitVec.toInt_eq_toNat_of_lt (by omega)]
  omega
theorem law_out {K : Nat → Lc → List Vl → Mm → Prop} {d : Nat} {Lz : Int} {Sx : Int → Int} (hM : StpM cL_law RL (WP (d + 6)) K) (hEnd : ∀ (pc : Nat) (ls : Lc) (μ : Mm), decode cL_law pc = .ok (.ireturn, 1) → K pc ls [vI 1] μ) (hScr : ∀ {pc : Nat} {ls : Lc} {st : List Vl} {μ : Mm}, ((μ 0 0 (-1) = Lz) ∧ (∀ j : Int, 0 ≤ j → j < Lz → μ 0 0 j = Sx j) → K pc ls st μ) → K pc ls st μ) (hL : 0 ≤ Lz ∧ Lz ≤ 6) {μ : Mm} {i : Int} (hi : i = 6 ∨ (i = 0 ∧ Lz < 6)) {a b c : Option Vl} : K 18 [some (vR 0 0), b, c, some (vI i)] [] μ := by
  have hC := hM.1
  refine hScr (fun hz => ?_)
  have hz1 := hz.1
  refine r_iload_n hC dL_law_18 rfl ?_
  refine r_aload_n hC dL_law_19 rfl ?_
  refine m_slen hM dL_law_20 ?_
  refine r_bipush hC dL_law_21 rfl ?_
  refine r_isubS hC dL_law_23 (by unfold inR; omega) ?_
  refine r_icmp_gt (tgt := 2221) hC dL_law_24 rfl (fun h => ?_) (fun h => by omega)
  refine r_iconst hC dL_law_2221 rfl ?_
  exact hEnd _ _ _ dL_law_2222
theorem law_case0 {K : Nat → Lc → List Vl → Mm → Prop} {d : Nat} {Lz : Int} {Sx : Int → Int} (hM : StpM cL_law RL (WP (d + 6)) K) (hEnd : ∀ (pc : Nat) (ls : Lc) (μ : Mm), decode cL_law pc = .ok (.ireturn, 1) → K pc ls [vI 1] μ) (hScr : ∀ {pc : Nat} {ls : Lc} {st : List Vl} {μ : Mm}, ((μ 0 0 (-1) = Lz) ∧ (∀ j : Int, 0 ≤ j → j < Lz → μ 0 0 j = Sx j) → K pc ls st μ) → K pc ls st μ) (hL : 0 ≤ Lz ∧ Lz ≤ 6) (h6 : Lz = 6) {τ : Mm} (hF : FrC τ) (hR : FrR τ) : K 252 [some (vR 0 0), some (vR 2 0), some (vR 30 0), some (vI 0)] [] τ := by
  have hC := hM.1
  refine hScr (fun hz => ?_)
  have hz1 := hz.1
  refine r_aload_n hC dL_law_252 rfl ?_
  refine r_aload_n hC dL_law_253 rfl ?_
  refine r_iload_n hC dL_law_254 rfl ?_
  refine r_iconst hC dL_law_255 rfl ?_
  refine r_iaddE hC (1) dL_law_256 rfl (inR_lit rfl) ?_
  refine m_sald hM dL_law_257 (by omega) (by omega) ?_
  refine r_aload_n hC dL_law_258 rfl ?_
  refine r_iload_n hC dL_law_259 rfl ?_
  refine r_iconst hC dL_law_260 rfl ?_
  refine r_iaddE hC (2) dL_law_261 rfl (inR_lit rfl) ?_
  refine m_sald hM dL_law_262 (by omega) (by omega) ?_
  refine m_inv2 hM dL_law_263 vl_RL_13 rfl rfl rfl (Nat.le_of_ble_eq_true rfl) (Nat.le_of_ble_eq_true rfl) ?_
  refine c0_table hF (fun r1 τ2 hr1 hs1 => hScr (fun hz2 => ?_))
  have hR2 := FrR.sm hR hs1
  have a1 := hz.2 1 (by omega) (by omega)
  have b1 := hz2.2 1 (by omega) (by omega)
  have a2 := hz.2 2 (by omega) (by omega)
  have b2 := hz2.2 2 (by omega) (by omega)
  refine r_aload_n hC dL_law_266 rfl ?_
  refine r_aload_n hC dL_law_267 rfl ?_
  refine r_iload_n hC dL_law_268 rfl ?_
  refine r_iconst hC dL_law_269 rfl ?_
  refine r_iaddE hC (1) dL_law_270 rfl (inR_lit rfl) ?_
  refine m_sald hM dL_law_271 (by omega) (by omega) ?_
  refine r_aload_n hC dL_law_272 rfl ?_
  refine r_iload_n hC dL_law_273 rfl ?_
  refine r_iconst hC dL_law_274 rfl ?_
  refine r_iaddE hC (2) dL_law_275 rfl (inR_lit rfl) ?_
  refine m_sald hM dL_law_276 (by omega) (by omega) ?_
  refine m_inv2 hM dL_law_277 vl_RL_17 rfl rfl rfl (Nat.le_of_ble_eq_true rfl) (Nat.le_of_ble_eq_true rfl) ?_
  refine d0_table hR2 (fun r2 τ3 hr2 => ?_)
  refine r_icmp_eq (tgt := 2215) hC dL_law_280 rfl (fun h3 => ?_) (fun h3 => by omega)
  refine r_iincE hC (6) dL_law_2215 rfl rfl rfl (inR_lit rfl) ?_
  refine r_goto (tgt := 18) hC dL_law_2218 rfl ?_
  exact law_out hM hEnd hScr hL (Or.inl rfl) (a := none)
theorem law_case1 {K : Nat → Lc → List Vl → Mm → Prop} {d : Nat} {Lz : Int} {Sx : Int → Int} (hM : StpM cL_law RL (WP (d + 6)) K) (hEnd : ∀ (pc : Nat) (ls : Lc) (μ : Mm), decode cL_law pc = .ok (.ireturn, 1) → K pc ls [vI 1] μ) (hScr : ∀ {pc : Nat} {ls : Lc} {st : List Vl} {μ : Mm}, ((μ 0 0 (-1) = Lz) ∧ (∀ j : Int, 0 ≤ j → j < Lz → μ 0 0 j = Sx j) → K pc ls st μ) → K pc ls st μ) (hL : 0 ≤ Lz ∧ Lz ≤ 6) (h6 : Lz = 6) {τ : Mm} (hF : FrC τ) (hR : FrR τ) : K 285 [some (vR 0 0), some (vR 2 0), some (vR 30 0), some (vI 0)] [] τ := by
  have hC := hM.1
  refine hScr (fun hz => ?_)
  have hz1 := hz.1
  refine r_aload_n hC dL_law_285 rfl ?_
  refine r_aload_n hC dL_law_286 rfl ?_
  refine r_iload_n hC dL_law_287 rfl ?_
  refine r_iconst hC dL_law_288 rfl ?_
  refine r_iaddE hC (1) dL_law_289 rfl (inR_lit rfl) ?_
  refine m_sald hM dL_law_290 (by omega) (by omega) ?_
  refine r_aload_n hC dL_law_291 rfl ?_
  refine r_iload_n hC dL_law_292 rfl ?_
  refine r_iconst hC dL_law_293 rfl ?_
  refine r_iaddE hC (2) dL_law_294 rfl (inR_lit rfl) ?_
  refine m_sald hM dL_law_295 (by omega) (by omega) ?_
  refine m_inv2 hM dL_law_296 vl_RL_18 rfl rfl rfl (Nat.le_of_ble_eq_true rfl) (Nat.le_of_ble_eq_true rfl) ?_
  refine c0_letter hF (fun r1 τ2 hr1 hs1 => hScr (fun hz2 => ?_))
  have hR2 := FrR.sm hR hs1
  have a1 := hz.2 1 (by omega) (by omega)
  have b1 := hz2.2 1 (by omega) (by omega)
  have a2 := hz.2 2 (by omega) (by omega)
  have b2 := hz2.2 2 (by omega) (by omega)
  refine r_aload_n hC dL_law_299 rfl ?_
  refine r_aload_n hC dL_law_300 rfl ?_
  refine r_iload_n hC dL_law_301 rfl ?_
  refine r_iconst hC dL_law_302 rfl ?_
  refine r_iaddE hC (1) dL_law_303 rfl (inR_lit rfl) ?_
  refine m_sald hM dL_law_304 (by omega) (by omega) ?_
  refine r_aload_n hC dL_law_305 rfl ?_
  refine r_iload_n hC dL_law_306 rfl ?_
  refine r_iconst hC dL_law_307 rfl ?_
  refine r_iaddE hC (2) dL_law_308 rfl (inR_lit rfl) ?_
  refine m_sald hM dL_law_309 (by omega) (by omega) ?_
  refine m_inv2 hM dL_law_310 vl_RL_21 rfl rfl rfl (Nat.le_of_ble_eq_true rfl) (Nat.le_of_ble_eq_true rfl) ?_
  refine d0_letter hR2 (fun r2 τ3 hr2 => ?_)
  refine r_icmp_eq (tgt := 2215) hC dL_law_313 rfl (fun h3 => ?_) (fun h3 => by omega)
  refine r_iincE hC (6) dL_law_2215 rfl rfl rfl (inR_lit rfl) ?_
  refine r_goto (tgt := 18) hC dL_law_2218 rfl ?_
  exact law_out hM hEnd hScr hL (Or.inl rfl) (a := none)
theorem law_case2 {K : Nat → Lc → List Vl → Mm → Prop} {d : Nat} {Lz : Int} {Sx : Int → Int} (hM : StpM cL_law RL (WP (d + 6)) K) (hEnd : ∀ (pc : Nat) (ls : Lc) (μ : Mm), decode cL_law pc = .ok (.ireturn, 1) → K pc ls [vI 1] μ) (hScr : ∀ {pc : Nat} {ls : Lc} {st : List Vl} {μ : Mm}, ((μ 0 0 (-1) = Lz) ∧ (∀ j : Int, 0 ≤ j → j < Lz → μ 0 0 j = Sx j) → K pc ls st μ) → K pc ls st μ) (hL : 0 ≤ Lz ∧ Lz ≤ 6) (h6 : Lz = 6) {τ : Mm} (hF : FrC τ) (hR : FrR τ) : K 318 [some (vR 0 0), some (vR 2 0), some (vR 30 0), some (vI 0)] [] τ := by
  have hC := hM.1
  refine hScr (fun hz => ?_)
  have hz1 := hz.1
  refine r_aload_n hC dL_law_318 rfl ?_
  refine r_aload_n hC dL_law_319 rfl ?_
  refine r_iload_n hC dL_law_320 rfl ?_
  refine r_iconst hC dL_law_321 rfl ?_
  refine r_iaddE hC (1) dL_law_322 rfl (inR_lit rfl) ?_
  refine m_sald hM dL_law_323 (by omega) (by omega) ?_
  refine m_inv1 hM dL_law_324 vl_RL_22 rfl rfl rfl (Nat.le_of_ble_eq_true rfl) (Nat.le_of_ble_eq_true rfl) ?_
  refine c0_triple hF (fun rh1 h1 => ?_)
  refine r_aload_n hC dL_law_327 rfl ?_
  refine r_aload_n hC dL_law_328 rfl ?_
  refine r_iload_n hC dL_law_329 rfl ?_
  refine r_iconst hC dL_law_330 rfl ?_
  refine r_iaddE hC (1) dL_law_331 rfl (inR_lit rfl) ?_
  refine m_sald hM dL_law_332 (by omega) (by omega) ?_
  refine m_inv1 hM dL_law_333 vl_RL_26 rfl rfl rfl (Nat.le_of_ble_eq_true rfl) (Nat.le_of_ble_eq_true rfl) ?_
  refine d0_triple hR (fun rh2 h2 => ?_)
  refine r_icmp_eq (tgt := 2215) hC dL_law_336 rfl (fun h3 => ?_) (fun h3 => by omega)
  refine r_iincE hC (6) dL_law_2215 rfl rfl rfl (inR_lit rfl) ?_
  refine r_goto (tgt := 18) hC dL_law_2218 rfl ?_
  exact law_out hM hEnd hScr hL (Or.inl rfl) (a := none)
theorem law_case3 {K : Nat → Lc → List Vl → Mm → Prop} {d : Nat} {Lz : Int} {Sx : Int → Int} (hM : StpM cL_law RL (WP (d + 6)) K) (hEnd : ∀ (pc : Nat) (ls : Lc) (μ : Mm), decode cL_law pc = .ok (.ireturn, 1) → K pc ls [vI 1] μ) (hScr : ∀ {pc : Nat} {ls : Lc} {st : List Vl} {μ : Mm}, ((μ 0 0 (-1) = Lz) ∧ (∀ j : Int, 0 ≤ j → j < Lz → μ 0 0 j = Sx j) → K pc ls st μ) → K pc ls st μ) (hL : 0 ≤ Lz ∧ Lz ≤ 6) (h6 : Lz = 6) {τ : Mm} (hF : FrC τ) (hR : FrR τ) : K 341 [some (vR 0 0), some (vR 2 0), some (vR 30 0), some (vI 0)] [] τ := by
  have hC := hM.1
  refine hScr (fun hz => ?_)
  have hz1 := hz.1
  refine r_aload_n hC dL_law_341 rfl ?_
  refine r_aload_n hC dL_law_342 rfl ?_
  refine r_iload_n hC dL_law_343 rfl ?_
  refine r_iconst hC dL_law_344 rfl ?_
  refine r_iaddE hC (1) dL_law_345 rfl (inR_lit rfl) ?_
  refine m_sald hM dL_law_346 (by omega) (by omega) ?_
  refine m_inv1 hM dL_law_347 vl_RL_27 rfl rfl rfl (Nat.le_of_ble_eq_true rfl) (Nat.le_of_ble_eq_true rfl) ?_
  refine c0_element hF (fun rh1 h1 => ?_)
  refine r_aload_n hC dL_law_350 rfl ?_
  refine r_aload_n hC dL_law_351 rfl ?_
  refine r_iload_n hC dL_law_352 rfl ?_
  refine r_iconst hC dL_law_353 rfl ?_
  refine r_iaddE hC (1) dL_law_354 rfl (inR_lit rfl) ?_
  refine m_sald hM dL_law_355 (by omega) (by omega) ?_
  refine m_inv1 hM dL_law_356 vl_RL_30 rfl rfl rfl (Nat.le_of_ble_eq_true rfl) (Nat.le_of_ble_eq_true rfl) ?_
  refine d0_element hR (fun rh2 h2 => ?_)
  refine r_icmp_eq (tgt := 2215) hC dL_law_359 rfl (fun h3 => ?_) (fun h3 => by omega)
  refine r_iincE hC (6) dL_law_2215 rfl rfl rfl (inR_lit rfl) ?_
  refine r_goto (tgt := 18) hC dL_law_2218 rfl ?_
  exact law_out hM hEnd hScr hL (Or.inl rfl) (a := none)
theorem law_case4 {K : Nat → Lc → List Vl → Mm → Prop} {d : Nat} {Lz : Int} {Sx : Int → Int} (hM : StpM cL_law RL (WP (d + 6)) K) (hEnd : ∀ (pc : Nat) (ls : Lc) (μ : Mm), decode cL_law pc = .ok (.ireturn, 1) → K pc ls [vI 1] μ) (hScr : ∀ {pc : Nat} {ls : Lc} {st : List Vl} {μ : Mm}, ((μ 0 0 (-1) = Lz) ∧ (∀ j : Int, 0 ≤ j → j < Lz → μ 0 0 j = Sx j) → K pc ls st μ) → K pc ls st μ) (hL : 0 ≤ Lz ∧ Lz ≤ 6) (h6 : Lz = 6) {τ : Mm} (hF : FrC τ) (hR : FrR τ) : K 364 [some (vR 0 0), some (vR 2 0), some (vR 30 0), some (vI 0)] [] τ := by
  have hC := hM.1
  refine hScr (fun hz => ?_)
  have hz1 := hz.1
  refine r_aload_n hC dL_law_364 rfl ?_
  refine r_aload_n hC dL_law_365 rfl ?_
  refine r_iload_n hC dL_law_366 rfl ?_
  refine r_iconst hC dL_law_367 rfl ?_
  refine r_iaddE hC (1) dL_law_368 rfl (inR_lit rfl) ?_
  refine m_sald hM dL_law_369 (by omega) (by omega) ?_
  refine r_aload_n hC dL_law_370 rfl ?_
  refine r_iload_n hC dL_law_371 rfl ?_
  refine r_iconst hC dL_law_372 rfl ?_
  refine r_iaddE hC (2) dL_law_373 rfl (inR_lit rfl) ?_
  refine m_sald hM dL_law_374 (by omega) (by omega) ?_
  refine r_aload_n hC dL_law_375 rfl ?_
  refine r_iload_n hC dL_law_376 rfl ?_
  refine r_iconst hC dL_law_377 rfl ?_
  refine r_iaddE hC (3) dL_law_378 rfl (inR_lit rfl) ?_
  refine m_sald hM dL_law_379 (by omega) (by omega) ?_
  refine r_aload_n hC dL_law_380 rfl ?_
  refine r_iload_n hC dL_law_381 rfl ?_
  refine r_iconst hC dL_law_382 rfl ?_
  refine r_iaddE hC (4) dL_law_383 rfl (inR_lit rfl) ?_
  refine m_sald hM dL_law_384 (by omega) (by omega) ?_
  refine r_aload_n hC dL_law_385 rfl ?_
  refine r_iload_n hC dL_law_386 rfl ?_
  refine r_iconst hC dL_law_387 rfl ?_
  refine r_iaddE hC (5) dL_law_388 rfl (inR_lit rfl) ?_
  refine m_sald hM dL_law_389 (by omega) (by omega) ?_
  refine m_inv5 hM dL_law_390 vl_RL_31 rfl rfl rfl (Nat.le_of_ble_eq_true rfl) (Nat.le_of_ble_eq_true rfl) ?_
  refine c0_open hF (fun r1 τ2 hr1 hs1 => hScr (fun hz2 => ?_))
  have hR2 := FrR.sm hR hs1
  have a1 := hz.2 1 (by omega) (by omega)
  have b1 := hz2.2 1 (by omega) (by omega)
  have a2 := hz.2 2 (by omega) (by omega)
  have b2 := hz2.2 2 (by omega) (by omega)
  have a3 := hz.2 3 (by omega) (by omega)
  have b3 := hz2.2 3 (by omega) (by omega)
  have a4 := hz.2 4 (by omega) (by omega)
  have b4 := hz2.2 4 (by omega) (by omega)
  have a5 := hz.2 5 (by omega) (by omega)
  have b5 := hz2.2 5 (by omega) (by omega)
  refine r_aload_n hC dL_law_393 rfl ?_
  refine r_aload_n hC dL_law_394 rfl ?_
  refine r_iload_n hC dL_law_395 rfl ?_
  refine r_iconst hC dL_law_396 rfl ?_
  refine r_iaddE hC (1) dL_law_397 rfl (inR_lit rfl) ?_
  refine m_sald hM dL_law_398 (by omega) (by omega) ?_
  refine r_aload_n hC dL_law_399 rfl ?_
  refine r_iload_n hC dL_law_400 rfl ?_
  refine r_iconst hC dL_law_401 rfl ?_
  refine r_iaddE hC (2) dL_law_402 rfl (inR_lit rfl) ?_
  refine m_sald hM dL_law_403 (by omega) (by omega) ?_
  refine r_aload_n hC dL_law_404 rfl ?_
  refine r_iload_n hC dL_law_405 rfl ?_
  refine r_iconst hC dL_law_406 rfl ?_
  refine r_iaddE hC (3) dL_law_407 rfl (inR_lit rfl) ?_
  refine m_sald hM dL_law_408 (by omega) (by omega) ?_
  refine r_aload_n hC dL_law_409 rfl ?_
  refine r_iload_n hC dL_law_410 rfl ?_
  refine r_iconst hC dL_law_411 rfl ?_
  refine r_iaddE hC (4) dL_law_412 rfl (inR_lit rfl) ?_
  refine m_sald hM dL_law_413 (by omega) (by omega) ?_
  refine r_aload_n hC dL_law_414 rfl ?_
  refine r_iload_n hC dL_law_415 rfl ?_
  refine r_iconst hC dL_law_416 rfl ?_
  refine r_iaddE hC (5) dL_law_417 rfl (inR_lit rfl) ?_
  refine m_sald hM dL_law_418 (by omega) (by omega) ?_
  refine m_inv5 hM dL_law_419 vl_RL_35 rfl rfl rfl (Nat.le_of_ble_eq_true rfl) (Nat.le_of_ble_eq_true rfl) ?_
  refine d0_open hR2 (fun r2 τ3 hr2 => ?_)
  refine r_icmp_eq (tgt := 2215) hC dL_law_422 rfl (fun h3 => ?_) (fun h3 => by omega)
  refine r_iincE hC (6) dL_law_2215 rfl rfl rfl (inR_lit rfl) ?_
  refine r_goto (tgt := 18) hC dL_law_2218 rfl ?_
  exact law_out hM hEnd hScr hL (Or.inl rfl) (a := none)
theorem law_case5 {K : Nat → Lc → List Vl → Mm → Prop} {d : Nat} {Lz : Int} {Sx : Int → Int} (hM : StpM cL_law RL (WP (d + 6)) K) (hEnd : ∀ (pc : Nat) (ls : Lc) (μ : Mm), decode cL_law pc = .ok (.ireturn, 1) → K pc ls [vI 1] μ) (hScr : ∀ {pc : Nat} {ls : Lc} {st : List Vl} {μ : Mm}, ((μ 0 0 (-1) = Lz) ∧ (∀ j : Int, 0 ≤ j → j < Lz → μ 0 0 j = Sx j) → K pc ls st μ) → K pc ls st μ) (hL : 0 ≤ Lz ∧ Lz ≤ 6) (h6 : Lz = 6) {τ : Mm} (hF : FrC τ) (hR : FrR τ) : K 427 [some (vR 0 0), some (vR 2 0), some (vR 30 0), some (vI 0)] [] τ := by
  have hC := hM.1
  refine hScr (fun hz => ?_)
  have hz1 := hz.1
  refine r_aload_n hC dL_law_427 rfl ?_
  refine r_aload_n hC dL_law_428 rfl ?_
  refine r_iload_n hC dL_law_429 rfl ?_
  refine r_iconst hC dL_law_430 rfl ?_
  refine r_iaddE hC (1) dL_law_431 rfl (inR_lit rfl) ?_
  refine m_sald hM dL_law_432 (by omega) (by omega) ?_
  refine m_inv1 hM dL_law_433 vl_RL_36 rfl rfl rfl (Nat.le_of_ble_eq_true rfl) (Nat.le_of_ble_eq_true rfl) ?_
  refine c0_shut hF ?_
  refine r_aload_n hC dL_law_436 rfl ?_
  refine r_aload_n hC dL_law_437 rfl ?_
  refine r_iload_n hC dL_law_438 rfl ?_
  refine r_iconst hC dL_law_439 rfl ?_
  refine r_iaddE hC (1) dL_law_440 rfl (inR_lit rfl) ?_
  refine m_sald hM dL_law_441 (by omega) (by omega) ?_
  refine m_inv1 hM dL_law_442 vl_RL_40 rfl rfl rfl (Nat.le_of_ble_eq_true rfl) (Nat.le_of_ble_eq_true rfl) ?_
  refine d0_shut hR ?_
  refine r_icmp_eq (tgt := 2215) hC dL_law_445 rfl (fun h3 => ?_) (fun h3 => by omega)
  refine r_iincE hC (6) dL_law_2215 rfl rfl rfl (inR_lit rfl) ?_
  refine r_goto (tgt := 18) hC dL_law_2218 rfl ?_
  exact law_out hM hEnd hScr hL (Or.inl rfl) (a := none)
theorem law_case6 {K : Nat → Lc → List Vl → Mm → Prop} {d : Nat} {Lz : Int} {Sx : Int → Int} (hM : StpM cL_law RL (WP (d + 6)) K) (hEnd : ∀ (pc : Nat) (ls : Lc) (μ : Mm), decode cL_law pc = .ok (.ireturn, 1) → K pc ls [vI 1] μ) (hScr : ∀ {pc : Nat} {ls : Lc} {st : List Vl} {μ : Mm}, ((μ 0 0 (-1) = Lz) ∧ (∀ j : Int, 0 ≤ j → j < Lz → μ 0 0 j = Sx j) → K pc ls st μ) → K pc ls st μ) (hL : 0 ≤ Lz ∧ Lz ≤ 6) (h6 : Lz = 6) {τ : Mm} (hF : FrC τ) (hR : FrR τ) : K 450 [some (vR 0 0), some (vR 2 0), some (vR 30 0), some (vI 0)] [] τ := by
  have hC := hM.1
  refine hScr (fun hz => ?_)
  have hz1 := hz.1
  refine r_aload_n hC dL_law_450 rfl ?_
  refine r_aload_n hC dL_law_451 rfl ?_
  refine r_iload_n hC dL_law_452 rfl ?_
  refine r_iconst hC dL_law_453 rfl ?_
  refine r_iaddE hC (1) dL_law_454 rfl (inR_lit rfl) ?_
  refine m_sald hM dL_law_455 (by omega) (by omega) ?_
  refine r_aload_n hC dL_law_456 rfl ?_
  refine r_iload_n hC dL_law_457 rfl ?_
  refine r_iconst hC dL_law_458 rfl ?_
  refine r_iaddE hC (2) dL_law_459 rfl (inR_lit rfl) ?_
  refine m_sald hM dL_law_460 (by omega) (by omega) ?_
  refine r_aload_n hC dL_law_461 rfl ?_
  refine r_iload_n hC dL_law_462 rfl ?_
  refine r_iconst hC dL_law_463 rfl ?_
  refine r_iaddE hC (3) dL_law_464 rfl (inR_lit rfl) ?_
  refine m_sald hM dL_law_465 (by omega) (by omega) ?_
  refine m_inv3 hM dL_law_466 vl_RL_41 rfl rfl rfl (Nat.le_of_ble_eq_true rfl) (Nat.le_of_ble_eq_true rfl) ?_
  refine c0_come hF ?_
  refine r_aload_n hC dL_law_469 rfl ?_
  refine r_aload_n hC dL_law_470 rfl ?_
  refine r_iload_n hC dL_law_471 rfl ?_
  refine r_iconst hC dL_law_472 rfl ?_
  refine r_iaddE hC (1) dL_law_473 rfl (inR_lit rfl) ?_
  refine m_sald hM dL_law_474 (by omega) (by omega) ?_
  refine r_aload_n hC dL_law_475 rfl ?_
  refine r_iload_n hC dL_law_476 rfl ?_
  refine r_iconst hC dL_law_477 rfl ?_
  refine r_iaddE hC (2) dL_law_478 rfl (inR_lit rfl) ?_
  refine m_sald hM dL_law_479 (by omega) (by omega) ?_
  refine r_aload_n hC dL_law_480 rfl ?_
  refine r_iload_n hC dL_law_481 rfl ?_
  refine r_iconst hC dL_law_482 rfl ?_
  refine r_iaddE hC (3) dL_law_483 rfl (inR_lit rfl) ?_
  refine m_sald hM dL_law_484 (by omega) (by omega) ?_
  refine m_inv3 hM dL_law_485 vl_RL_45 rfl rfl rfl (Nat.le_of_ble_eq_true rfl) (Nat.le_of_ble_eq_true rfl) ?_
  refine d0_come hR ?_
  refine r_icmp_eq (tgt := 2215) hC dL_law_488 rfl (fun h3 => ?_) (fun h3 => by omega)
  refine r_iincE hC (6) dL_law_2215 rfl rfl rfl (inR_lit rfl) ?_
  refine r_goto (tgt := 18) hC dL_law_2218 rfl ?_
  exact law_out hM hEnd hScr hL (Or.inl rfl) (a := none)
theorem law_case7 {K : Nat → Lc → List Vl → Mm → Prop} {d : Nat} {Lz : Int} {Sx : Int → Int} (hM : StpM cL_law RL (WP (d + 6)) K) (hEnd : ∀ (pc : Nat) (ls : Lc) (μ : Mm), decode cL_law pc = .ok (.ireturn, 1) → K pc ls [vI 1] μ) (hScr : ∀ {pc : Nat} {ls : Lc} {st : List Vl} {μ : Mm}, ((μ 0 0 (-1) = Lz) ∧ (∀ j : Int, 0 ≤ j → j < Lz → μ 0 0 j = Sx j) → K pc ls st μ) → K pc ls st μ) (hL : 0 ≤ Lz ∧ Lz ≤ 6) (h6 : Lz = 6) {τ : Mm} (hF : FrC τ) (hR : FrR τ) : K 493 [some (vR 0 0), some (vR 2 0), some (vR 30 0), some (vI 0)] [] τ := by
  have hC := hM.1
  refine hScr (fun hz => ?_)
  have hz1 := hz.1
  refine r_aload_n hC dL_law_493 rfl ?_
  refine r_aload_n hC dL_law_494 rfl ?_
  refine r_iload_n hC dL_law_495 rfl ?_
  refine r_iconst hC dL_law_496 rfl ?_
  refine r_iaddE hC (1) dL_law_497 rfl (inR_lit rfl) ?_
  refine m_sald hM dL_law_498 (by omega) (by omega) ?_
  refine r_aload_n hC dL_law_499 rfl ?_
  refine r_iload_n hC dL_law_500 rfl ?_
  refine r_iconst hC dL_law_501 rfl ?_
  refine r_iaddE hC (2) dL_law_502 rfl (inR_lit rfl) ?_
  refine m_sald hM dL_law_503 (by omega) (by omega) ?_
  refine r_aload_n hC dL_law_504 rfl ?_
  refine r_iload_n hC dL_law_505 rfl ?_
  refine r_iconst hC dL_law_506 rfl ?_
  refine r_iaddE hC (3) dL_law_507 rfl (inR_lit rfl) ?_
  refine m_sald hM dL_law_508 (by omega) (by omega) ?_
  refine r_aload_n hC dL_law_509 rfl ?_
  refine r_iload_n hC dL_law_510 rfl ?_
  refine r_iconst hC dL_law_511 rfl ?_
  refine r_iaddE hC (4) dL_law_512 rfl (inR_lit rfl) ?_
  refine m_sald hM dL_law_513 (by omega) (by omega) ?_
  refine m_inv4 hM dL_law_514 vl_RL_46 rfl rfl rfl (Nat.le_of_ble_eq_true rfl) (Nat.le_of_ble_eq_true rfl) ?_
  refine c0_burst hF ?_
  refine r_aload_n hC dL_law_517 rfl ?_
  refine r_aload_n hC dL_law_518 rfl ?_
  refine r_iload_n hC dL_law_519 rfl ?_
  refine r_iconst hC dL_law_520 rfl ?_
  refine r_iaddE hC (1) dL_law_521 rfl (inR_lit rfl) ?_
  refine m_sald hM dL_law_522 (by omega) (by omega) ?_
  refine r_aload_n hC dL_law_523 rfl ?_
  refine r_iload_n hC dL_law_524 rfl ?_
  refine r_iconst hC dL_law_525 rfl ?_
  refine r_iaddE hC (2) dL_law_526 rfl (inR_lit rfl) ?_
  refine m_sald hM dL_law_527 (by omega) (by omega) ?_
  refine r_aload_n hC dL_law_528 rfl ?_
  refine r_iload_n hC dL_law_529 rfl ?_
  refine r_iconst hC dL_law_530 rfl ?_
  refine r_iaddE hC (3) dL_law_531 rfl (inR_lit rfl) ?_
  refine m_sald hM dL_law_532 (by omega) (by omega) ?_
  refine r_aload_n hC dL_law_533 rfl ?_
  refine r_iload_n hC dL_law_534 rfl ?_
  refine r_iconst hC dL_law_535 rfl ?_
  refine r_iaddE hC (4) dL_law_536 rfl (inR_lit rfl) ?_
  refine m_sald hM dL_law_537 (by omega) (by omega) ?_
  refine m_inv4 hM dL_law_538 vl_RL_50 rfl rfl rfl (Nat.le_of_ble_eq_true rfl) (Nat.le_of_ble_eq_true rfl) ?_
  refine d0_burst hR ?_
  refine r_icmp_eq (tgt := 2215) hC dL_law_541 rfl (fun h3 => ?_) (fun h3 => by omega)
  refine r_iincE hC (6) dL_law_2215 rfl rfl rfl (inR_lit rfl) ?_
  refine r_goto (tgt := 18) hC dL_law_2218 rfl ?_
  exact law_out hM hEnd hScr hL (Or.inl rfl) (a := none)
theorem law_case8 {K : Nat → Lc → List Vl → Mm → Prop} {d : Nat} {Lz : Int} {Sx : Int → Int} (hM : StpM cL_law RL (WP (d + 6)) K) (hEnd : ∀ (pc : Nat) (ls : Lc) (μ : Mm), decode cL_law pc = .ok (.ireturn, 1) → K pc ls [vI 1] μ) (hScr : ∀ {pc : Nat} {ls : Lc} {st : List Vl} {μ : Mm}, ((μ 0 0 (-1) = Lz) ∧ (∀ j : Int, 0 ≤ j → j < Lz → μ 0 0 j = Sx j) → K pc ls st μ) → K pc ls st μ) (hL : 0 ≤ Lz ∧ Lz ≤ 6) (h6 : Lz = 6) {τ : Mm} (hF : FrC τ) (hR : FrR τ) : K 546 [some (vR 0 0), some (vR 2 0), some (vR 30 0), some (vI 0)] [] τ := by
  have hC := hM.1
  refine hScr (fun hz => ?_)
  have hz1 := hz.1
  refine r_aload_n hC dL_law_546 rfl ?_
  refine r_aload_n hC dL_law_547 rfl ?_
  refine r_iload_n hC dL_law_548 rfl ?_
  refine r_iconst hC dL_law_549 rfl ?_
  refine r_iaddE hC (1) dL_law_550 rfl (inR_lit rfl) ?_
  refine m_sald hM dL_law_551 (by omega) (by omega) ?_
  refine r_aload_n hC dL_law_552 rfl ?_
  refine r_iload_n hC dL_law_553 rfl ?_
  refine r_iconst hC dL_law_554 rfl ?_
  refine r_iaddE hC (2) dL_law_555 rfl (inR_lit rfl) ?_
  refine m_sald hM dL_law_556 (by omega) (by omega) ?_
  refine m_inv2 hM dL_law_557 vl_RL_51 rfl rfl rfl (Nat.le_of_ble_eq_true rfl) (Nat.le_of_ble_eq_true rfl) ?_
  refine c0_leave hF ?_
  refine r_aload_n hC dL_law_560 rfl ?_
  refine r_aload_n hC dL_law_561 rfl ?_
  refine r_iload_n hC dL_law_562 rfl ?_
  refine r_iconst hC dL_law_563 rfl ?_
  refine r_iaddE hC (1) dL_law_564 rfl (inR_lit rfl) ?_
  refine m_sald hM dL_law_565 (by omega) (by omega) ?_
  refine r_aload_n hC dL_law_566 rfl ?_
  refine r_iload_n hC dL_law_567 rfl ?_
  refine r_iconst hC dL_law_568 rfl ?_
  refine r_iaddE hC (2) dL_law_569 rfl (inR_lit rfl) ?_
  refine m_sald hM dL_law_570 (by omega) (by omega) ?_
  refine m_inv2 hM dL_law_571 vl_RL_55 rfl rfl rfl (Nat.le_of_ble_eq_true rfl) (Nat.le_of_ble_eq_true rfl) ?_
  refine d0_leave hR ?_
  refine r_icmp_eq (tgt := 2215) hC dL_law_574 rfl (fun h3 => ?_) (fun h3 => by omega)
  refine r_iincE hC (6) dL_law_2215 rfl rfl rfl (inR_lit rfl) ?_
  refine r_goto (tgt := 18) hC dL_law_2218 rfl ?_
  exact law_out hM hEnd hScr hL (Or.inl rfl) (a := none)
theorem law_case9 {K : Nat → Lc → List Vl → Mm → Prop} {d : Nat} {Lz : Int} {Sx : Int → Int} (hM : StpM cL_law RL (WP (d + 6)) K) (hEnd : ∀ (pc : Nat) (ls : Lc) (μ : Mm), decode cL_law pc = .ok (.ireturn, 1) → K pc ls [vI 1] μ) (hScr : ∀ {pc : Nat} {ls : Lc} {st : List Vl} {μ : Mm}, ((μ 0 0 (-1) = Lz) ∧ (∀ j : Int, 0 ≤ j → j < Lz → μ 0 0 j = Sx j) → K pc ls st μ) → K pc ls st μ) (hL : 0 ≤ Lz ∧ Lz ≤ 6) (h6 : Lz = 6) {τ : Mm} (hF : FrC τ) (hR : FrR τ) : K 579 [some (vR 0 0), some (vR 2 0), some (vR 30 0), some (vI 0)] [] τ := by
  have hC := hM.1
  refine hScr (fun hz => ?_)
  have hz1 := hz.1
  refine r_aload_n hC dL_law_579 rfl ?_
  refine r_aload_n hC dL_law_580 rfl ?_
  refine r_iload_n hC dL_law_581 rfl ?_
  refine r_iconst hC dL_law_582 rfl ?_
  refine r_iaddE hC (1) dL_law_583 rfl (inR_lit rfl) ?_
  refine m_sald hM dL_law_584 (by omega) (by omega) ?_
  refine r_aload_n hC dL_law_585 rfl ?_
  refine r_iload_n hC dL_law_586 rfl ?_
  refine r_iconst hC dL_law_587 rfl ?_
  refine r_iaddE hC (2) dL_law_588 rfl (inR_lit rfl) ?_
  refine m_sald hM dL_law_589 (by omega) (by omega) ?_
  refine m_inv2 hM dL_law_590 vl_RL_56 rfl rfl rfl (Nat.le_of_ble_eq_true rfl) (Nat.le_of_ble_eq_true rfl) ?_
  refine c0_until hF ?_
  refine r_aload_n hC dL_law_593 rfl ?_
  refine r_aload_n hC dL_law_594 rfl ?_
  refine r_iload_n hC dL_law_595 rfl ?_
  refine r_iconst hC dL_law_596 rfl ?_
  refine r_iaddE hC (1) dL_law_597 rfl (inR_lit rfl) ?_
  refine m_sald hM dL_law_598 (by omega) (by omega) ?_
  refine r_aload_n hC dL_law_599 rfl ?_
  refine r_iload_n hC dL_law_600 rfl ?_
  refine r_iconst hC dL_law_601 rfl ?_
  refine r_iaddE hC (2) dL_law_602 rfl (inR_lit rfl) ?_
  refine m_sald hM dL_law_603 (by omega) (by omega) ?_
  refine m_inv2 hM dL_law_604 vl_RL_59 rfl rfl rfl (Nat.le_of_ble_eq_true rfl) (Nat.le_of_ble_eq_true rfl) ?_
  refine d0_until hR ?_
  refine r_icmp_eq (tgt := 2215) hC dL_law_607 rfl (fun h3 => ?_) (fun h3 => by omega)
  refine r_iincE hC (6) dL_law_2215 rfl rfl rfl (inR_lit rfl) ?_
  refine r_goto (tgt := 18) hC dL_law_2218 rfl ?_
  exact law_out hM hEnd hScr hL (Or.inl rfl) (a := none)
theorem law_case10 {K : Nat → Lc → List Vl → Mm → Prop} {d : Nat} {Lz : Int} {Sx : Int → Int} (hM : StpM cL_law RL (WP (d + 6)) K) (hEnd : ∀ (pc : Nat) (ls : Lc) (μ : Mm), decode cL_law pc = .ok (.ireturn, 1) → K pc ls [vI 1] μ) (hScr : ∀ {pc : Nat} {ls : Lc} {st : List Vl} {μ : Mm}, ((μ 0 0 (-1) = Lz) ∧ (∀ j : Int, 0 ≤ j → j < Lz → μ 0 0 j = Sx j) → K pc ls st μ) → K pc ls st μ) (hL : 0 ≤ Lz ∧ Lz ≤ 6) (h6 : Lz = 6) {τ : Mm} (hF : FrC τ) (hR : FrR τ) : K 612 [some (vR 0 0), some (vR 2 0), some (vR 30 0), some (vI 0)] [] τ := by
  have hC := hM.1
  refine hScr (fun hz => ?_)
  have hz1 := hz.1
  refine r_aload_n hC dL_law_612 rfl ?_
  refine r_aload_n hC dL_law_613 rfl ?_
  refine r_iload_n hC dL_law_614 rfl ?_
  refine r_iconst hC dL_law_615 rfl ?_
  refine r_iaddE hC (1) dL_law_616 rfl (inR_lit rfl) ?_
  refine m_sald hM dL_law_617 (by omega) (by omega) ?_
  refine r_aload_n hC dL_law_618 rfl ?_
  refine r_iload_n hC dL_law_619 rfl ?_
  refine r_iconst hC dL_law_620 rfl ?_
  refine r_iaddE hC (2) dL_law_621 rfl (inR_lit rfl) ?_
  refine m_sald hM dL_law_622 (by omega) (by omega) ?_
  refine m_inv2 hM dL_law_623 vl_RL_60 rfl rfl rfl (Nat.le_of_ble_eq_true rfl) (Nat.le_of_ble_eq_true rfl) ?_
  refine c0_take hF ?_
  refine r_aload_n hC dL_law_626 rfl ?_
  refine r_aload_n hC dL_law_627 rfl ?_
  refine r_iload_n hC dL_law_628 rfl ?_
  refine r_iconst hC dL_law_629 rfl ?_
  refine r_iaddE hC (1) dL_law_630 rfl (inR_lit rfl) ?_
  refine m_sald hM dL_law_631 (by omega) (by omega) ?_
  refine r_aload_n hC dL_law_632 rfl ?_
  refine r_iload_n hC dL_law_633 rfl ?_
  refine r_iconst hC dL_law_634 rfl ?_
  refine r_iaddE hC (2) dL_law_635 rfl (inR_lit rfl) ?_
  refine m_sald hM dL_law_636 (by omega) (by omega) ?_
  refine m_inv2 hM dL_law_637 vl_RL_63 rfl rfl rfl (Nat.le_of_ble_eq_true rfl) (Nat.le_of_ble_eq_true rfl) ?_
  refine d0_take hR ?_
  refine r_icmp_eq (tgt := 2215) hC dL_law_640 rfl (fun h3 => ?_) (fun h3 => by omega)
  refine r_iincE hC (6) dL_law_2215 rfl rfl rfl (inR_lit rfl) ?_
  refine r_goto (tgt := 18) hC dL_law_2218 rfl ?_
  exact law_out hM hEnd hScr hL (Or.inl rfl) (a := none)
theorem law_case11 {K : Nat → Lc → List Vl → Mm → Prop} {d : Nat} {Lz : Int} {Sx : Int → Int} (hM : StpM cL_law RL (WP (d + 6)) K) (hEnd : ∀ (pc : Nat) (ls : Lc) (μ : Mm), decode cL_law pc = .ok (.ireturn, 1) → K pc ls [vI 1] μ) (hScr : ∀ {pc : Nat} {ls : Lc} {st : List Vl} {μ : Mm}, ((μ 0 0 (-1) = Lz) ∧ (∀ j : Int, 0 ≤ j → j < Lz → μ 0 0 j = Sx j) → K pc ls st μ) → K pc ls st μ) (hL : 0 ≤ Lz ∧ Lz ≤ 6) (h6 : Lz = 6) {τ : Mm} (hF : FrC τ) (hR : FrR τ) : K 645 [some (vR 0 0), some (vR 2 0), some (vR 30 0), some (vI 0)] [] τ := by
  have hC := hM.1
  refine hScr (fun hz => ?_)
  have hz1 := hz.1
  refine r_aload_n hC dL_law_645 rfl ?_
  refine r_aload_n hC dL_law_646 rfl ?_
  refine r_iload_n hC dL_law_647 rfl ?_
  refine r_iconst hC dL_law_648 rfl ?_
  refine r_iaddE hC (1) dL_law_649 rfl (inR_lit rfl) ?_
  refine m_sald hM dL_law_650 (by omega) (by omega) ?_
  refine r_aload_n hC dL_law_651 rfl ?_
  refine r_iload_n hC dL_law_652 rfl ?_
  refine r_iconst hC dL_law_653 rfl ?_
  refine r_iaddE hC (2) dL_law_654 rfl (inR_lit rfl) ?_
  refine m_sald hM dL_law_655 (by omega) (by omega) ?_
  refine r_aload_n hC dL_law_656 rfl ?_
  refine r_iload_n hC dL_law_657 rfl ?_
  refine r_iconst hC dL_law_658 rfl ?_
  refine r_iaddE hC (3) dL_law_659 rfl (inR_lit rfl) ?_
  refine m_sald hM dL_law_660 (by omega) (by omega) ?_
  refine m_inv3 hM dL_law_661 vl_RL_64 rfl rfl rfl (Nat.le_of_ble_eq_true rfl) (Nat.le_of_ble_eq_true rfl) ?_
  refine c0_alter hF ?_
  refine r_aload_n hC dL_law_664 rfl ?_
  refine r_aload_n hC dL_law_665 rfl ?_
  refine r_iload_n hC dL_law_666 rfl ?_
  refine r_iconst hC dL_law_667 rfl ?_
  refine r_iaddE hC (1) dL_law_668 rfl (inR_lit rfl) ?_
  refine m_sald hM dL_law_669 (by omega) (by omega) ?_
  refine r_aload_n hC dL_law_670 rfl ?_
  refine r_iload_n hC dL_law_671 rfl ?_
  refine r_iconst hC dL_law_672 rfl ?_
  refine r_iaddE hC (2) dL_law_673 rfl (inR_lit rfl) ?_
  refine m_sald hM dL_law_674 (by omega) (by omega) ?_
  refine r_aload_n hC dL_law_675 rfl ?_
  refine r_iload_n hC dL_law_676 rfl ?_
  refine r_iconst hC dL_law_677 rfl ?_
  refine r_iaddE hC (3) dL_law_678 rfl (inR_lit rfl) ?_
  refine m_sald hM dL_law_679 (by omega) (by omega) ?_
  refine m_inv3 hM dL_law_680 vl_RL_68 rfl rfl rfl (Nat.le_of_ble_eq_true rfl) (Nat.le_of_ble_eq_true rfl) ?_
  refine d0_alter hR ?_
  refine r_icmp_eq (tgt := 2215) hC dL_law_683 rfl (fun h3 => ?_) (fun h3 => by omega)
  refine r_iincE hC (6) dL_law_2215 rfl rfl rfl (inR_lit rfl) ?_
  refine r_goto (tgt := 18) hC dL_law_2218 rfl ?_
  exact law_out hM hEnd hScr hL (Or.inl rfl) (a := none)
theorem law_case12 {K : Nat → Lc → List Vl → Mm → Prop} {d : Nat} {Lz : Int} {Sx : Int → Int} (hM : StpM cL_law RL (WP (d + 6)) K) (hEnd : ∀ (pc : Nat) (ls : Lc) (μ : Mm), decode cL_law pc = .ok (.ireturn, 1) → K pc ls [vI 1] μ) (hScr : ∀ {pc : Nat} {ls : Lc} {st : List Vl} {μ : Mm}, ((μ 0 0 (-1) = Lz) ∧ (∀ j : Int, 0 ≤ j → j < Lz → μ 0 0 j = Sx j) → K pc ls st μ) → K pc ls st μ) (hL : 0 ≤ Lz ∧ Lz ≤ 6) (h6 : Lz = 6) {τ : Mm} (hF : FrC τ) (hR : FrR τ) : K 688 [some (vR 0 0), some (vR 2 0), some (vR 30 0), some (vI 0)] [] τ := by
  have hC := hM.1
  refine hScr (fun hz => ?_)
  have hz1 := hz.1
  refine r_aload_n hC dL_law_688 rfl ?_
  refine r_aload_n hC dL_law_689 rfl ?_
  refine r_iload_n hC dL_law_690 rfl ?_
  refine r_iconst hC dL_law_691 rfl ?_
  refine r_iaddE hC (1) dL_law_692 rfl (inR_lit rfl) ?_
  refine m_sald hM dL_law_693 (by omega) (by omega) ?_
  refine r_aload_n hC dL_law_694 rfl ?_
  refine r_iload_n hC dL_law_695 rfl ?_
  refine r_iconst hC dL_law_696 rfl ?_
  refine r_iaddE hC (2) dL_law_697 rfl (inR_lit rfl) ?_
  refine m_sald hM dL_law_698 (by omega) (by omega) ?_
  refine r_aload_n hC dL_law_699 rfl ?_
  refine r_iload_n hC dL_law_700 rfl ?_
  refine r_iconst hC dL_law_701 rfl ?_
  refine r_iaddE hC (3) dL_law_702 rfl (inR_lit rfl) ?_
  refine m_sald hM dL_law_703 (by omega) (by omega) ?_
  refine m_inv3 hM dL_law_704 vl_RL_69 rfl rfl rfl (Nat.le_of_ble_eq_true rfl) (Nat.le_of_ble_eq_true rfl) ?_
  refine c0_event hF ?_
  refine r_aload_n hC dL_law_707 rfl ?_
  refine r_aload_n hC dL_law_708 rfl ?_
  refine r_iload_n hC dL_law_709 rfl ?_
  refine r_iconst hC dL_law_710 rfl ?_
  refine r_iaddE hC (1) dL_law_711 rfl (inR_lit rfl) ?_
  refine m_sald hM dL_law_712 (by omega) (by omega) ?_
  refine r_aload_n hC dL_law_713 rfl ?_
  refine r_iload_n hC dL_law_714 rfl ?_
  refine r_iconst hC dL_law_715 rfl ?_
  refine r_iaddE hC (2) dL_law_716 rfl (inR_lit rfl) ?_
  refine m_sald hM dL_law_717 (by omega) (by omega) ?_
  refine r_aload_n hC dL_law_718 rfl ?_
  refine r_iload_n hC dL_law_719 rfl ?_
  refine r_iconst hC dL_law_720 rfl ?_
  refine r_iaddE hC (3) dL_law_721 rfl (inR_lit rfl) ?_
  refine m_sald hM dL_law_722 (by omega) (by omega) ?_
  refine m_inv3 hM dL_law_723 vl_RL_72 rfl rfl rfl (Nat.le_of_ble_eq_true rfl) (Nat.le_of_ble_eq_true rfl) ?_
  refine d0_event hR ?_
  refine r_icmp_eq (tgt := 2215) hC dL_law_726 rfl (fun h3 => ?_) (fun h3 => by omega)
  refine r_iincE hC (6) dL_law_2215 rfl rfl rfl (inR_lit rfl) ?_
  refine r_goto (tgt := 18) hC dL_law_2218 rfl ?_
  exact law_out hM hEnd hScr hL (Or.inl rfl) (a := none)
theorem law_case13 {K : Nat → Lc → List Vl → Mm → Prop} {d : Nat} {Lz : Int} {Sx : Int → Int} (hM : StpM cL_law RL (WP (d + 6)) K) (hEnd : ∀ (pc : Nat) (ls : Lc) (μ : Mm), decode cL_law pc = .ok (.ireturn, 1) → K pc ls [vI 1] μ) (hScr : ∀ {pc : Nat} {ls : Lc} {st : List Vl} {μ : Mm}, ((μ 0 0 (-1) = Lz) ∧ (∀ j : Int, 0 ≤ j → j < Lz → μ 0 0 j = Sx j) → K pc ls st μ) → K pc ls st μ) (hL : 0 ≤ Lz ∧ Lz ≤ 6) (h6 : Lz = 6) {τ : Mm} (hF : FrC τ) (hR : FrR τ) : K 731 [some (vR 0 0), some (vR 2 0), some (vR 30 0), some (vI 0)] [] τ := by
  have hC := hM.1
  refine hScr (fun hz => ?_)
  have hz1 := hz.1
  refine r_aload_n hC dL_law_731 rfl ?_
  refine r_aload_n hC dL_law_732 rfl ?_
  refine r_iload_n hC dL_law_733 rfl ?_
  refine r_iconst hC dL_law_734 rfl ?_
  refine r_iaddE hC (1) dL_law_735 rfl (inR_lit rfl) ?_
  refine m_sald hM dL_law_736 (by omega) (by omega) ?_
  refine r_aload_n hC dL_law_737 rfl ?_
  refine r_iload_n hC dL_law_738 rfl ?_
  refine r_iconst hC dL_law_739 rfl ?_
  refine r_iaddE hC (2) dL_law_740 rfl (inR_lit rfl) ?_
  refine m_sald hM dL_law_741 (by omega) (by omega) ?_
  refine m_inv2 hM dL_law_742 vl_RL_73 rfl rfl rfl (Nat.le_of_ble_eq_true rfl) (Nat.le_of_ble_eq_true rfl) ?_
  refine c0_total hF ?_
  refine r_aload_n hC dL_law_745 rfl ?_
  refine r_aload_n hC dL_law_746 rfl ?_
  refine r_iload_n hC dL_law_747 rfl ?_
  refine r_iconst hC dL_law_748 rfl ?_
  refine r_iaddE hC (1) dL_law_749 rfl (inR_lit rfl) ?_
  refine m_sald hM dL_law_750 (by omega) (by omega) ?_
  refine r_aload_n hC dL_law_751 rfl ?_
  refine r_iload_n hC dL_law_752 rfl ?_
  refine r_iconst hC dL_law_753 rfl ?_
  refine r_iaddE hC (2) dL_law_754 rfl (inR_lit rfl) ?_
  refine m_sald hM dL_law_755 (by omega) (by omega) ?_
  refine m_inv2 hM dL_law_756 vl_RL_76 rfl rfl rfl (Nat.le_of_ble_eq_true rfl) (Nat.le_of_ble_eq_true rfl) ?_
  refine d0_total hR ?_
  refine r_icmp_eq (tgt := 2215) hC dL_law_759 rfl (fun h3 => ?_) (fun h3 => by omega)
  refine r_iincE hC (6) dL_law_2215 rfl rfl rfl (inR_lit rfl) ?_
  refine r_goto (tgt := 18) hC dL_law_2218 rfl ?_
  exact law_out hM hEnd hScr hL (Or.inl rfl) (a := none)
theorem law_case14 {K : Nat → Lc → List Vl → Mm → Prop} {d : Nat} {Lz : Int} {Sx : Int → Int} (hM : StpM cL_law RL (WP (d + 6)) K) (hEnd : ∀ (pc : Nat) (ls : Lc) (μ : Mm), decode cL_law pc = .ok (.ireturn, 1) → K pc ls [vI 1] μ) (hScr : ∀ {pc : Nat} {ls : Lc} {st : List Vl} {μ : Mm}, ((μ 0 0 (-1) = Lz) ∧ (∀ j : Int, 0 ≤ j → j < Lz → μ 0 0 j = Sx j) → K pc ls st μ) → K pc ls st μ) (hL : 0 ≤ Lz ∧ Lz ≤ 6) (h6 : Lz = 6) {τ : Mm} (hF : FrC τ) (hR : FrR τ) : K 764 [some (vR 0 0), some (vR 2 0), some (vR 30 0), some (vI 0)] [] τ := by
  have hC := hM.1
  refine hScr (fun hz => ?_)
  have hz1 := hz.1
  refine r_aload_n hC dL_law_764 rfl ?_
  refine r_aload_n hC dL_law_765 rfl ?_
  refine r_iload_n hC dL_law_766 rfl ?_
  refine r_iconst hC dL_law_767 rfl ?_
  refine r_iaddE hC (1) dL_law_768 rfl (inR_lit rfl) ?_
  refine m_sald hM dL_law_769 (by omega) (by omega) ?_
  refine r_aload_n hC dL_law_770 rfl ?_
  refine r_iload_n hC dL_law_771 rfl ?_
  refine r_iconst hC dL_law_772 rfl ?_
  refine r_iaddE hC (2) dL_law_773 rfl (inR_lit rfl) ?_
  refine m_sald hM dL_law_774 (by omega) (by omega) ?_
  refine r_aload_n hC dL_law_775 rfl ?_
  refine r_iload_n hC dL_law_776 rfl ?_
  refine r_iconst hC dL_law_777 rfl ?_
  refine r_iaddE hC (3) dL_law_778 rfl (inR_lit rfl) ?_
  refine m_sald hM dL_law_779 (by omega) (by omega) ?_
  refine r_aload_n hC dL_law_780 rfl ?_
  refine r_iload_n hC dL_law_781 rfl ?_
  refine r_iconst hC dL_law_782 rfl ?_
  refine r_iaddE hC (4) dL_law_783 rfl (inR_lit rfl) ?_
  refine m_sald hM dL_law_784 (by omega) (by omega) ?_
  refine m_inv4 hM dL_law_785 vl_RL_77 rfl rfl rfl (Nat.le_of_ble_eq_true rfl) (Nat.le_of_ble_eq_true rfl) ?_
  refine c0_part hF ?_
  refine r_aload_n hC dL_law_788 rfl ?_
  refine r_aload_n hC dL_law_789 rfl ?_
  refine r_iload_n hC dL_law_790 rfl ?_
  refine r_iconst hC dL_law_791 rfl ?_
  refine r_iaddE hC (1) dL_law_792 rfl (inR_lit rfl) ?_
  refine m_sald hM dL_law_793 (by omega) (by omega) ?_
  refine r_aload_n hC dL_law_794 rfl ?_
  refine r_iload_n hC dL_law_795 rfl ?_
  refine r_iconst hC dL_law_796 rfl ?_
  refine r_iaddE hC (2) dL_law_797 rfl (inR_lit rfl) ?_
  refine m_sald hM dL_law_798 (by omega) (by omega) ?_
  refine r_aload_n hC dL_law_799 rfl ?_
  refine r_iload_n hC dL_law_800 rfl ?_
  refine r_iconst hC dL_law_801 rfl ?_
  refine r_iaddE hC (3) dL_law_802 rfl (inR_lit rfl) ?_
  refine m_sald hM dL_law_803 (by omega) (by omega) ?_
  refine r_aload_n hC dL_law_804 rfl ?_
  refine r_iload_n hC dL_law_805 rfl ?_
  refine r_iconst hC dL_law_806 rfl ?_
  refine r_iaddE hC (4) dL_law_807 rfl (inR_lit rfl) ?_
  refine m_sald hM dL_law_808 (by omega) (by omega) ?_
  refine m_inv4 hM dL_law_809 vl_RL_80 rfl rfl rfl (Nat.le_of_ble_eq_true rfl) (Nat.le_of_ble_eq_true rfl) ?_
  refine d0_part hR ?_
  refine r_icmp_eq (tgt := 2215) hC dL_law_812 rfl (fun h3 => ?_) (fun h3 => by omega)
  refine r_iincE hC (6) dL_law_2215 rfl rfl rfl (inR_lit rfl) ?_
  refine r_goto (tgt := 18) hC dL_law_2218 rfl ?_
  exact law_out hM hEnd hScr hL (Or.inl rfl) (a := none)
theorem law_case15 {K : Nat → Lc → List Vl → Mm → Prop} {d : Nat} {Lz : Int} {Sx : Int → Int} (hM : StpM cL_law RL (WP (d + 6)) K) (hEnd : ∀ (pc : Nat) (ls : Lc) (μ : Mm), decode cL_law pc = .ok (.ireturn, 1) → K pc ls [vI 1] μ) (hScr : ∀ {pc : Nat} {ls : Lc} {st : List Vl} {μ : Mm}, ((μ 0 0 (-1) = Lz) ∧ (∀ j : Int, 0 ≤ j → j < Lz → μ 0 0 j = Sx j) → K pc ls st μ) → K pc ls st μ) (hL : 0 ≤ Lz ∧ Lz ≤ 6) (h6 : Lz = 6) {τ : Mm} (hF : FrC τ) (hR : FrR τ) : K 817 [some (vR 0 0), some (vR 2 0), some (vR 30 0), some (vI 0)] [] τ := by
  have hC := hM.1
  refine hScr (fun hz => ?_)
  have hz1 := hz.1
  refine r_aload_n hC dL_law_817 rfl ?_
  refine r_aload_n hC dL_law_818 rfl ?_
  refine r_iload_n hC dL_law_819 rfl ?_
  refine r_iconst hC dL_law_820 rfl ?_
  refine r_iaddE hC (1) dL_law_821 rfl (inR_lit rfl) ?_
  refine m_sald hM dL_law_822 (by omega) (by omega) ?_
  refine r_aload_n hC dL_law_823 rfl ?_
  refine r_iload_n hC dL_law_824 rfl ?_
  refine r_iconst hC dL_law_825 rfl ?_
  refine r_iaddE hC (2) dL_law_826 rfl (inR_lit rfl) ?_
  refine m_sald hM dL_law_827 (by omega) (by omega) ?_
  refine r_aload_n hC dL_law_828 rfl ?_
  refine r_iload_n hC dL_law_829 rfl ?_
  refine r_iconst hC dL_law_830 rfl ?_
  refine r_iaddE hC (3) dL_law_831 rfl (inR_lit rfl) ?_
  refine m_sald hM dL_law_832 (by omega) (by omega) ?_
  refine r_aload_n hC dL_law_833 rfl ?_
  refine r_iload_n hC dL_law_834 rfl ?_
  refine r_iconst hC dL_law_835 rfl ?_
  refine r_iaddE hC (4) dL_law_836 rfl (inR_lit rfl) ?_
  refine m_sald hM dL_law_837 (by omega) (by omega) ?_
  refine m_inv4 hM dL_law_838 vl_RL_81 rfl rfl rfl (Nat.le_of_ble_eq_true rfl) (Nat.le_of_ble_eq_true rfl) ?_
  refine c0_during hF ?_
  refine r_aload_n hC dL_law_841 rfl ?_
  refine r_aload_n hC dL_law_842 rfl ?_
  refine r_iload_n hC dL_law_843 rfl ?_
  refine r_iconst hC dL_law_844 rfl ?_
  refine r_iaddE hC (1) dL_law_845 rfl (inR_lit rfl) ?_
  refine m_sald hM dL_law_846 (by omega) (by omega) ?_
  refine r_aload_n hC dL_law_847 rfl ?_
  refine r_iload_n hC dL_law_848 rfl ?_
  refine r_iconst hC dL_law_849 rfl ?_
  refine r_iaddE hC (2) dL_law_850 rfl (inR_lit rfl) ?_
  refine m_sald hM dL_law_851 (by omega) (by omega) ?_
  refine r_aload_n hC dL_law_852 rfl ?_
  refine r_iload_n hC dL_law_853 rfl ?_
  refine r_iconst hC dL_law_854 rfl ?_
  refine r_iaddE hC (3) dL_law_855 rfl (inR_lit rfl) ?_
  refine m_sald hM dL_law_856 (by omega) (by omega) ?_
  refine r_aload_n hC dL_law_857 rfl ?_
  refine r_iload_n hC dL_law_858 rfl ?_
  refine r_iconst hC dL_law_859 rfl ?_
  refine r_iaddE hC (4) dL_law_860 rfl (inR_lit rfl) ?_
  refine m_sald hM dL_law_861 (by omega) (by omega) ?_
  refine m_inv4 hM dL_law_862 vl_RL_84 rfl rfl rfl (Nat.le_of_ble_eq_true rfl) (Nat.le_of_ble_eq_true rfl) ?_
  refine d0_during hR ?_
  refine r_icmp_eq (tgt := 2215) hC dL_law_865 rfl (fun h3 => ?_) (fun h3 => by omega)
  refine r_iincE hC (6) dL_law_2215 rfl rfl rfl (inR_lit rfl) ?_
  refine r_goto (tgt := 18) hC dL_law_2218 rfl ?_
  exact law_out hM hEnd hScr hL (Or.inl rfl) (a := none)
theorem law_case16 {K : Nat → Lc → List Vl → Mm → Prop} {d : Nat} {Lz : Int} {Sx : Int → Int} (hM : StpM cL_law RL (WP (d + 6)) K) (hEnd : ∀ (pc : Nat) (ls : Lc) (μ : Mm), decode cL_law pc = .ok (.ireturn, 1) → K pc ls [vI 1] μ) (hScr : ∀ {pc : Nat} {ls : Lc} {st : List Vl} {μ : Mm}, ((μ 0 0 (-1) = Lz) ∧ (∀ j : Int, 0 ≤ j → j < Lz → μ 0 0 j = Sx j) → K pc ls st μ) → K pc ls st μ) (hL : 0 ≤ Lz ∧ Lz ≤ 6) (h6 : Lz = 6) {τ : Mm} (hF : FrC τ) (hR : FrR τ) : K 870 [some (vR 0 0), some (vR 2 0), some (vR 30 0), some (vI 0)] [] τ := by
  have hC := hM.1
  refine hScr (fun hz => ?_)
  have hz1 := hz.1
  refine r_aload_n hC dL_law_870 rfl ?_
  refine r_aload_n hC dL_law_871 rfl ?_
  refine r_iload_n hC dL_law_872 rfl ?_
  refine r_iconst hC dL_law_873 rfl ?_
  refine r_iaddE hC (1) dL_law_874 rfl (inR_lit rfl) ?_
  refine m_sald hM dL_law_875 (by omega) (by omega) ?_
  refine r_aload_n hC dL_law_876 rfl ?_
  refine r_iload_n hC dL_law_877 rfl ?_
  refine r_iconst hC dL_law_878 rfl ?_
  refine r_iaddE hC (2) dL_law_879 rfl (inR_lit rfl) ?_
  refine m_sald hM dL_law_880 (by omega) (by omega) ?_
  refine r_aload_n hC dL_law_881 rfl ?_
  refine r_iload_n hC dL_law_882 rfl ?_
  refine r_iconst hC dL_law_883 rfl ?_
  refine r_iaddE hC (3) dL_law_884 rfl (inR_lit rfl) ?_
  refine m_sald hM dL_law_885 (by omega) (by omega) ?_
  refine m_inv3 hM dL_law_886 vl_RL_85 rfl rfl rfl (Nat.le_of_ble_eq_true rfl) (Nat.le_of_ble_eq_true rfl) ?_
  refine c0_many hF ?_
  refine r_aload_n hC dL_law_889 rfl ?_
  refine r_aload_n hC dL_law_890 rfl ?_
  refine r_iload_n hC dL_law_891 rfl ?_
  refine r_iconst hC dL_law_892 rfl ?_
  refine r_iaddE hC (1) dL_law_893 rfl (inR_lit rfl) ?_
  refine m_sald hM dL_law_894 (by omega) (by omega) ?_
  refine r_aload_n hC dL_law_895 rfl ?_
  refine r_iload_n hC dL_law_896 rfl ?_
  refine r_iconst hC dL_law_897 rfl ?_
  refine r_iaddE hC (2) dL_law_898 rfl (inR_lit rfl) ?_
  refine m_sald hM dL_law_899 (by omega) (by omega) ?_
  refine r_aload_n hC dL_law_900 rfl ?_
  refine r_iload_n hC dL_law_901 rfl ?_
  refine r_iconst hC dL_law_902 rfl ?_
  refine r_iaddE hC (3) dL_law_903 rfl (inR_lit rfl) ?_
  refine m_sald hM dL_law_904 (by omega) (by omega) ?_
  refine m_inv3 hM dL_law_905 vl_RL_88 rfl rfl rfl (Nat.le_of_ble_eq_true rfl) (Nat.le_of_ble_eq_true rfl) ?_
  refine d0_many hR ?_
  refine r_icmp_eq (tgt := 2215) hC dL_law_908 rfl (fun h3 => ?_) (fun h3 => by omega)
  refine r_iincE hC (6) dL_law_2215 rfl rfl rfl (inR_lit rfl) ?_
  refine r_goto (tgt := 18) hC dL_law_2218 rfl ?_
  exact law_out hM hEnd hScr hL (Or.inl rfl) (a := none)
theorem law_case17 {K : Nat → Lc → List Vl → Mm → Prop} {d : Nat} {Lz : Int} {Sx : Int → Int} (hM : StpM cL_law RL (WP (d + 6)) K) (hEnd : ∀ (pc : Nat) (ls : Lc) (μ : Mm), decode cL_law pc = .ok (.ireturn, 1) → K pc ls [vI 1] μ) (hScr : ∀ {pc : Nat} {ls : Lc} {st : List Vl} {μ : Mm}, ((μ 0 0 (-1) = Lz) ∧ (∀ j : Int, 0 ≤ j → j < Lz → μ 0 0 j = Sx j) → K pc ls st μ) → K pc ls st μ) (hL : 0 ≤ Lz ∧ Lz ≤ 6) (h6 : Lz = 6) {τ : Mm} (hF : FrC τ) (hR : FrR τ) : K 913 [some (vR 0 0), some (vR 2 0), some (vR 30 0), some (vI 0)] [] τ := by
  have hC := hM.1
  refine hScr (fun hz => ?_)
  have hz1 := hz.1
  refine r_aload_n hC dL_law_913 rfl ?_
  refine r_aload_n hC dL_law_914 rfl ?_
  refine r_iload_n hC dL_law_915 rfl ?_
  refine r_iconst hC dL_law_916 rfl ?_
  refine r_iaddE hC (1) dL_law_917 rfl (inR_lit rfl) ?_
  refine m_sald hM dL_law_918 (by omega) (by omega) ?_
  refine r_aload_n hC dL_law_919 rfl ?_
  refine r_iload_n hC dL_law_920 rfl ?_
  refine r_iconst hC dL_law_921 rfl ?_
  refine r_iaddE hC (2) dL_law_922 rfl (inR_lit rfl) ?_
  refine m_sald hM dL_law_923 (by omega) (by omega) ?_
  refine r_aload_n hC dL_law_924 rfl ?_
  refine r_iload_n hC dL_law_925 rfl ?_
  refine r_iconst hC dL_law_926 rfl ?_
  refine r_iaddE hC (3) dL_law_927 rfl (inR_lit rfl) ?_
  refine m_sald hM dL_law_928 (by omega) (by omega) ?_
  refine m_inv3 hM dL_law_929 vl_RL_89 rfl rfl rfl (Nat.le_of_ble_eq_true rfl) (Nat.le_of_ble_eq_true rfl) ?_
  refine c0_reach hF ?_
  refine r_aload_n hC dL_law_932 rfl ?_
  refine r_aload_n hC dL_law_933 rfl ?_
  refine r_iload_n hC dL_law_934 rfl ?_
  refine r_iconst hC dL_law_935 rfl ?_
  refine r_iaddE hC (1) dL_law_936 rfl (inR_lit rfl) ?_
  refine m_sald hM dL_law_937 (by omega) (by omega) ?_
  refine r_aload_n hC dL_law_938 rfl ?_
  refine r_iload_n hC dL_law_939 rfl ?_
  refine r_iconst hC dL_law_940 rfl ?_
  refine r_iaddE hC (2) dL_law_941 rfl (inR_lit rfl) ?_
  refine m_sald hM dL_law_942 (by omega) (by omega) ?_
  refine r_aload_n hC dL_law_943 rfl ?_
  refine r_iload_n hC dL_law_944 rfl ?_
  refine r_iconst hC dL_law_945 rfl ?_
  refine r_iaddE hC (3) dL_law_946 rfl (inR_lit rfl) ?_
  refine m_sald hM dL_law_947 (by omega) (by omega) ?_
  refine m_inv3 hM dL_law_948 vl_RL_92 rfl rfl rfl (Nat.le_of_ble_eq_true rfl) (Nat.le_of_ble_eq_true rfl) ?_
  refine d0_reach hR ?_
  refine r_icmp_eq (tgt := 2215) hC dL_law_951 rfl (fun h3 => ?_) (fun h3 => by omega)
  refine r_iincE hC (6) dL_law_2215 rfl rfl rfl (inR_lit rfl) ?_
  refine r_goto (tgt := 18) hC dL_law_2218 rfl ?_
  exact law_out hM hEnd hScr hL (Or.inl rfl) (a := none)
theorem law_case18 {K : Nat → Lc → List Vl → Mm → Prop} {d : Nat} {Lz : Int} {Sx : Int → Int} (hM : StpM cL_law RL (WP (d + 6)) K) (hEnd : ∀ (pc : Nat) (ls : Lc) (μ : Mm), decode cL_law pc = .ok (.ireturn, 1) → K pc ls [vI 1] μ) (hScr : ∀ {pc : Nat} {ls : Lc} {st : List Vl} {μ : Mm}, ((μ 0 0 (-1) = Lz) ∧ (∀ j : Int, 0 ≤ j → j < Lz → μ 0 0 j = Sx j) → K pc ls st μ) → K pc ls st μ) (hL : 0 ≤ Lz ∧ Lz ≤ 6) (h6 : Lz = 6) {τ : Mm} (hF : FrC τ) (hR : FrR τ) : K 956 [some (vR 0 0), some (vR 2 0), some (vR 30 0), some (vI 0)] [] τ := by
  have hC := hM.1
  refine hScr (fun hz => ?_)
  have hz1 := hz.1
  refine r_aload_n hC dL_law_956 rfl ?_
  refine r_aload_n hC dL_law_957 rfl ?_
  refine r_iload_n hC dL_law_958 rfl ?_
  refine r_iconst hC dL_law_959 rfl ?_
  refine r_iaddE hC (1) dL_law_960 rfl (inR_lit rfl) ?_
  refine m_sald hM dL_law_961 (by omega) (by omega) ?_
  refine r_aload_n hC dL_law_962 rfl ?_
  refine r_iload_n hC dL_law_963 rfl ?_
  refine r_iconst hC dL_law_964 rfl ?_
  refine r_iaddE hC (2) dL_law_965 rfl (inR_lit rfl) ?_
  refine m_sald hM dL_law_966 (by omega) (by omega) ?_
  refine r_aload_n hC dL_law_967 rfl ?_
  refine r_iload_n hC dL_law_968 rfl ?_
  refine r_iconst hC dL_law_969 rfl ?_
  refine r_iaddE hC (3) dL_law_970 rfl (inR_lit rfl) ?_
  refine m_sald hM dL_law_971 (by omega) (by omega) ?_
  refine m_inv3 hM dL_law_972 vl_RL_93 rfl rfl rfl (Nat.le_of_ble_eq_true rfl) (Nat.le_of_ble_eq_true rfl) ?_
  refine c0_reachBack hF ?_
  refine r_aload_n hC dL_law_975 rfl ?_
  refine r_aload_n hC dL_law_976 rfl ?_
  refine r_iload_n hC dL_law_977 rfl ?_
  refine r_iconst hC dL_law_978 rfl ?_
  refine r_iaddE hC (1) dL_law_979 rfl (inR_lit rfl) ?_
  refine m_sald hM dL_law_980 (by omega) (by omega) ?_
  refine r_aload_n hC dL_law_981 rfl ?_
  refine r_iload_n hC dL_law_982 rfl ?_
  refine r_iconst hC dL_law_983 rfl ?_
  refine r_iaddE hC (2) dL_law_984 rfl (inR_lit rfl) ?_
  refine m_sald hM dL_law_985 (by omega) (by omega) ?_
  refine r_aload_n hC dL_law_986 rfl ?_
  refine r_iload_n hC dL_law_987 rfl ?_
  refine r_iconst hC dL_law_988 rfl ?_
  refine r_iaddE hC (3) dL_law_989 rfl (inR_lit rfl) ?_
  refine m_sald hM dL_law_990 (by omega) (by omega) ?_
  refine m_inv3 hM dL_law_991 vl_RL_96 rfl rfl rfl (Nat.le_of_ble_eq_true rfl) (Nat.le_of_ble_eq_true rfl) ?_
  refine d0_reachBack hR ?_
  refine r_icmp_eq (tgt := 2215) hC dL_law_994 rfl (fun h3 => ?_) (fun h3 => by omega)
  refine r_iincE hC (6) dL_law_2215 rfl rfl rfl (inR_lit rfl) ?_
  refine r_goto (tgt := 18) hC dL_law_2218 rfl ?_
  exact law_out hM hEnd hScr hL (Or.inl rfl) (a := none)
theorem law_case19 {K : Nat → Lc → List Vl → Mm → Prop} {d : Nat} {Lz : Int} {Sx : Int → Int} (hM : StpM cL_law RL (WP (d + 6)) K) (hEnd : ∀ (pc : Nat) (ls : Lc) (μ : Mm), decode cL_law pc = .ok (.ireturn, 1) → K pc ls [vI 1] μ) (hScr : ∀ {pc : Nat} {ls : Lc} {st : List Vl} {μ : Mm}, ((μ 0 0 (-1) = Lz) ∧ (∀ j : Int, 0 ≤ j → j < Lz → μ 0 0 j = Sx j) → K pc ls st μ) → K pc ls st μ) (hL : 0 ≤ Lz ∧ Lz ≤ 6) (h6 : Lz = 6) {τ : Mm} (hF : FrC τ) (hR : FrR τ) : K 999 [some (vR 0 0), some (vR 2 0), some (vR 30 0), some (vI 0)] [] τ := by
  have hC := hM.1
  refine hScr (fun hz => ?_)
  have hz1 := hz.1
  refine r_aload_n hC dL_law_999 rfl ?_
  refine r_aload_n hC dL_law_1000 rfl ?_
  refine r_iload_n hC dL_law_1001 rfl ?_
  refine r_iconst hC dL_law_1002 rfl ?_
  refine r_iaddE hC (1) dL_law_1003 rfl (inR_lit rfl) ?_
  refine m_sald hM dL_law_1004 (by omega) (by omega) ?_
  refine r_aload_n hC dL_law_1005 rfl ?_
  refine r_iload_n hC dL_law_1006 rfl ?_
  refine r_iconst hC dL_law_1007 rfl ?_
  refine r_iaddE hC (2) dL_law_1008 rfl (inR_lit rfl) ?_
  refine m_sald hM dL_law_1009 (by omega) (by omega) ?_
  refine r_aload_n hC dL_law_1010 rfl ?_
  refine r_iload_n hC dL_law_1011 rfl ?_
  refine r_iconst hC dL_law_1012 rfl ?_
  refine r_iaddE hC (3) dL_law_1013 rfl (inR_lit rfl) ?_
  refine m_sald hM dL_law_1014 (by omega) (by omega) ?_
  refine m_inv3 hM dL_law_1015 vl_RL_97 rfl rfl rfl (Nat.le_of_ble_eq_true rfl) (Nat.le_of_ble_eq_true rfl) ?_
  refine c0_peak hF ?_
  refine r_aload_n hC dL_law_1018 rfl ?_
  refine r_aload_n hC dL_law_1019 rfl ?_
  refine r_iload_n hC dL_law_1020 rfl ?_
  refine r_iconst hC dL_law_1021 rfl ?_
  refine r_iaddE hC (1) dL_law_1022 rfl (inR_lit rfl) ?_
  refine m_sald hM dL_law_1023 (by omega) (by omega) ?_
  refine r_aload_n hC dL_law_1024 rfl ?_
  refine r_iload_n hC dL_law_1025 rfl ?_
  refine r_iconst hC dL_law_1026 rfl ?_
  refine r_iaddE hC (2) dL_law_1027 rfl (inR_lit rfl) ?_
  refine m_sald hM dL_law_1028 (by omega) (by omega) ?_
  refine r_aload_n hC dL_law_1029 rfl ?_
  refine r_iload_n hC dL_law_1030 rfl ?_
  refine r_iconst hC dL_law_1031 rfl ?_
  refine r_iaddE hC (3) dL_law_1032 rfl (inR_lit rfl) ?_
  refine m_sald hM dL_law_1033 (by omega) (by omega) ?_
  refine m_inv3 hM dL_law_1034 vl_RL_100 rfl rfl rfl (Nat.le_of_ble_eq_true rfl) (Nat.le_of_ble_eq_true rfl) ?_
  refine d0_peak hR ?_
  refine r_icmp_eq (tgt := 2215) hC dL_law_1037 rfl (fun h3 => ?_) (fun h3 => by omega)
  refine r_iincE hC (6) dL_law_2215 rfl rfl rfl (inR_lit rfl) ?_
  refine r_goto (tgt := 18) hC dL_law_2218 rfl ?_
  exact law_out hM hEnd hScr hL (Or.inl rfl) (a := none)
theorem law_case20 {K : Nat → Lc → List Vl → Mm → Prop} {d : Nat} {Lz : Int} {Sx : Int → Int} (hM : StpM cL_law RL (WP (d + 6)) K) (hEnd : ∀ (pc : Nat) (ls : Lc) (μ : Mm), decode cL_law pc = .ok (.ireturn, 1) → K pc ls [vI 1] μ) (hScr : ∀ {pc : Nat} {ls : Lc} {st : List Vl} {μ : Mm}, ((μ 0 0 (-1) = Lz) ∧ (∀ j : Int, 0 ≤ j → j < Lz → μ 0 0 j = Sx j) → K pc ls st μ) → K pc ls st μ) (hL : 0 ≤ Lz ∧ Lz ≤ 6) (h6 : Lz = 6) {τ : Mm} (hF : FrC τ) (hR : FrR τ) : K 1042 [some (vR 0 0), some (vR 2 0), some (vR 30 0), some (vI 0)] [] τ := by
  have hC := hM.1
  refine hScr (fun hz => ?_)
  have hz1 := hz.1
  refine r_aload_n hC dL_law_1042 rfl ?_
  refine r_aload_n hC dL_law_1043 rfl ?_
  refine r_iload_n hC dL_law_1044 rfl ?_
  refine r_iconst hC dL_law_1045 rfl ?_
  refine r_iaddE hC (1) dL_law_1046 rfl (inR_lit rfl) ?_
  refine m_sald hM dL_law_1047 (by omega) (by omega) ?_
  refine r_aload_n hC dL_law_1048 rfl ?_
  refine r_iload_n hC dL_law_1049 rfl ?_
  refine r_iconst hC dL_law_1050 rfl ?_
  refine r_iaddE hC (2) dL_law_1051 rfl (inR_lit rfl) ?_
  refine m_sald hM dL_law_1052 (by omega) (by omega) ?_
  refine r_aload_n hC dL_law_1053 rfl ?_
  refine r_iload_n hC dL_law_1054 rfl ?_
  refine r_iconst hC dL_law_1055 rfl ?_
  refine r_iaddE hC (3) dL_law_1056 rfl (inR_lit rfl) ?_
  refine m_sald hM dL_law_1057 (by omega) (by omega) ?_
  refine m_inv3 hM dL_law_1058 vl_RL_101 rfl rfl rfl (Nat.le_of_ble_eq_true rfl) (Nat.le_of_ble_eq_true rfl) ?_
  refine c0_peakAt hF ?_
  refine r_aload_n hC dL_law_1061 rfl ?_
  refine r_aload_n hC dL_law_1062 rfl ?_
  refine r_iload_n hC dL_law_1063 rfl ?_
  refine r_iconst hC dL_law_1064 rfl ?_
  refine r_iaddE hC (1) dL_law_1065 rfl (inR_lit rfl) ?_
  refine m_sald hM dL_law_1066 (by omega) (by omega) ?_
  refine r_aload_n hC dL_law_1067 rfl ?_
  refine r_iload_n hC dL_law_1068 rfl ?_
  refine r_iconst hC dL_law_1069 rfl ?_
  refine r_iaddE hC (2) dL_law_1070 rfl (inR_lit rfl) ?_
  refine m_sald hM dL_law_1071 (by omega) (by omega) ?_
  refine r_aload_n hC dL_law_1072 rfl ?_
  refine r_iload_n hC dL_law_1073 rfl ?_
  refine r_iconst hC dL_law_1074 rfl ?_
  refine r_iaddE hC (3) dL_law_1075 rfl (inR_lit rfl) ?_
  refine m_sald hM dL_law_1076 (by omega) (by omega) ?_
  refine m_inv3 hM dL_law_1077 vl_RL_104 rfl rfl rfl (Nat.le_of_ble_eq_true rfl) (Nat.le_of_ble_eq_true rfl) ?_
  refine d0_peakAt hR ?_
  refine r_icmp_eq (tgt := 2215) hC dL_law_1080 rfl (fun h3 => ?_) (fun h3 => by omega)
  refine r_iincE hC (6) dL_law_2215 rfl rfl rfl (inR_lit rfl) ?_
  refine r_goto (tgt := 18) hC dL_law_2218 rfl ?_
  exact law_out hM hEnd hScr hL (Or.inl rfl) (a := none)
theorem law_case21 {K : Nat → Lc → List Vl → Mm → Prop} {d : Nat} {Lz : Int} {Sx : Int → Int} (hM : StpM cL_law RL (WP (d + 6)) K) (hEnd : ∀ (pc : Nat) (ls : Lc) (μ : Mm), decode cL_law pc = .ok (.ireturn, 1) → K pc ls [vI 1] μ) (hScr : ∀ {pc : Nat} {ls : Lc} {st : List Vl} {μ : Mm}, ((μ 0 0 (-1) = Lz) ∧ (∀ j : Int, 0 ≤ j → j < Lz → μ 0 0 j = Sx j) → K pc ls st μ) → K pc ls st μ) (hL : 0 ≤ Lz ∧ Lz ≤ 6) (h6 : Lz = 6) {τ : Mm} (hF : FrC τ) (hR : FrR τ) : K 1085 [some (vR 0 0), some (vR 2 0), some (vR 30 0), some (vI 0)] [] τ := by
  have hC := hM.1
  refine hScr (fun hz => ?_)
  have hz1 := hz.1
  refine r_aload_n hC dL_law_1085 rfl ?_
  refine r_aload_n hC dL_law_1086 rfl ?_
  refine r_iload_n hC dL_law_1087 rfl ?_
  refine r_iconst hC dL_law_1088 rfl ?_
  refine r_iaddE hC (1) dL_law_1089 rfl (inR_lit rfl) ?_
  refine m_sald hM dL_law_1090 (by omega) (by omega) ?_
  refine r_aload_n hC dL_law_1091 rfl ?_
  refine r_iload_n hC dL_law_1092 rfl ?_
  refine r_iconst hC dL_law_1093 rfl ?_
  refine r_iaddE hC (2) dL_law_1094 rfl (inR_lit rfl) ?_
  refine m_sald hM dL_law_1095 (by omega) (by omega) ?_
  refine r_aload_n hC dL_law_1096 rfl ?_
  refine r_iload_n hC dL_law_1097 rfl ?_
  refine r_iconst hC dL_law_1098 rfl ?_
  refine r_iaddE hC (3) dL_law_1099 rfl (inR_lit rfl) ?_
  refine m_sald hM dL_law_1100 (by omega) (by omega) ?_
  refine m_inv3 hM dL_law_1101 vl_RL_105 rfl rfl rfl (Nat.le_of_ble_eq_true rfl) (Nat.le_of_ble_eq_true rfl) ?_
  refine c0_without hF ?_
  refine r_aload_n hC dL_law_1104 rfl ?_
  refine r_aload_n hC dL_law_1105 rfl ?_
  refine r_iload_n hC dL_law_1106 rfl ?_
  refine r_iconst hC dL_law_1107 rfl ?_
  refine r_iaddE hC (1) dL_law_1108 rfl (inR_lit rfl) ?_
  refine m_sald hM dL_law_1109 (by omega) (by omega) ?_
  refine r_aload_n hC dL_law_1110 rfl ?_
  refine r_iload_n hC dL_law_1111 rfl ?_
  refine r_iconst hC dL_law_1112 rfl ?_
  refine r_iaddE hC (2) dL_law_1113 rfl (inR_lit rfl) ?_
  refine m_sald hM dL_law_1114 (by omega) (by omega) ?_
  refine r_aload_n hC dL_law_1115 rfl ?_
  refine r_iload_n hC dL_law_1116 rfl ?_
  refine r_iconst hC dL_law_1117 rfl ?_
  refine r_iaddE hC (3) dL_law_1118 rfl (inR_lit rfl) ?_
  refine m_sald hM dL_law_1119 (by omega) (by omega) ?_
  refine m_inv3 hM dL_law_1120 vl_RL_108 rfl rfl rfl (Nat.le_of_ble_eq_true rfl) (Nat.le_of_ble_eq_true rfl) ?_
  refine d0_without hR ?_
  refine r_icmp_eq (tgt := 2215) hC dL_law_1123 rfl (fun h3 => ?_) (fun h3 => by omega)
  refine r_iincE hC (6) dL_law_2215 rfl rfl rfl (inR_lit rfl) ?_
  refine r_goto (tgt := 18) hC dL_law_2218 rfl ?_
  exact law_out hM hEnd hScr hL (Or.inl rfl) (a := none)
theorem law_case22 {K : Nat → Lc → List Vl → Mm → Prop} {d : Nat} {Lz : Int} {Sx : Int → Int} (hM : StpM cL_law RL (WP (d + 6)) K) (hEnd : ∀ (pc : Nat) (ls : Lc) (μ : Mm), decode cL_law pc = .ok (.ireturn, 1) → K pc ls [vI 1] μ) (hScr : ∀ {pc : Nat} {ls : Lc} {st : List Vl} {μ : Mm}, ((μ 0 0 (-1) = Lz) ∧ (∀ j : Int, 0 ≤ j → j < Lz → μ 0 0 j = Sx j) → K pc ls st μ) → K pc ls st μ) (hL : 0 ≤ Lz ∧ Lz ≤ 6) (h6 : Lz = 6) {τ : Mm} (hF : FrC τ) (hR : FrR τ) : K 1128 [some (vR 0 0), some (vR 2 0), some (vR 30 0), some (vI 0)] [] τ := by
  have hC := hM.1
  refine hScr (fun hz => ?_)
  have hz1 := hz.1
  refine r_aload_n hC dL_law_1128 rfl ?_
  refine r_aload_n hC dL_law_1129 rfl ?_
  refine r_iload_n hC dL_law_1130 rfl ?_
  refine r_iconst hC dL_law_1131 rfl ?_
  refine r_iaddE hC (1) dL_law_1132 rfl (inR_lit rfl) ?_
  refine m_sald hM dL_law_1133 (by omega) (by omega) ?_
  refine r_aload_n hC dL_law_1134 rfl ?_
  refine r_iload_n hC dL_law_1135 rfl ?_
  refine r_iconst hC dL_law_1136 rfl ?_
  refine r_iaddE hC (2) dL_law_1137 rfl (inR_lit rfl) ?_
  refine m_sald hM dL_law_1138 (by omega) (by omega) ?_
  refine m_inv2 hM dL_law_1139 vl_RL_109 rfl rfl rfl (Nat.le_of_ble_eq_true rfl) (Nat.le_of_ble_eq_true rfl) ?_
  refine c0_spare hF ?_
  refine r_aload_n hC dL_law_1142 rfl ?_
  refine r_aload_n hC dL_law_1143 rfl ?_
  refine r_iload_n hC dL_law_1144 rfl ?_
  refine r_iconst hC dL_law_1145 rfl ?_
  refine r_iaddE hC (1) dL_law_1146 rfl (inR_lit rfl) ?_
  refine m_sald hM dL_law_1147 (by omega) (by omega) ?_
  refine r_aload_n hC dL_law_1148 rfl ?_
  refine r_iload_n hC dL_law_1149 rfl ?_
  refine r_iconst hC dL_law_1150 rfl ?_
  refine r_iaddE hC (2) dL_law_1151 rfl (inR_lit rfl) ?_
  refine m_sald hM dL_law_1152 (by omega) (by omega) ?_
  refine m_inv2 hM dL_law_1153 vl_RL_112 rfl rfl rfl (Nat.le_of_ble_eq_true rfl) (Nat.le_of_ble_eq_true rfl) ?_
  refine d0_spare hR ?_
  refine r_icmp_eq (tgt := 2215) hC dL_law_1156 rfl (fun h3 => ?_) (fun h3 => by omega)
  refine r_iincE hC (6) dL_law_2215 rfl rfl rfl (inR_lit rfl) ?_
  refine r_goto (tgt := 18) hC dL_law_2218 rfl ?_
  exact law_out hM hEnd hScr hL (Or.inl rfl) (a := none)
theorem law_case23 {K : Nat → Lc → List Vl → Mm → Prop} {d : Nat} {Lz : Int} {Sx : Int → Int} (hM : StpM cL_law RL (WP (d + 6)) K) (hEnd : ∀ (pc : Nat) (ls : Lc) (μ : Mm), decode cL_law pc = .ok (.ireturn, 1) → K pc ls [vI 1] μ) (hScr : ∀ {pc : Nat} {ls : Lc} {st : List Vl} {μ : Mm}, ((μ 0 0 (-1) = Lz) ∧ (∀ j : Int, 0 ≤ j → j < Lz → μ 0 0 j = Sx j) → K pc ls st μ) → K pc ls st μ) (hL : 0 ≤ Lz ∧ Lz ≤ 6) (h6 : Lz = 6) {τ : Mm} (hF : FrC τ) (hR : FrR τ) : K 1161 [some (vR 0 0), some (vR 2 0), some (vR 30 0), some (vI 0)] [] τ := by
  have hC := hM.1
  refine hScr (fun hz => ?_)
  have hz1 := hz.1
  refine r_aload_n hC dL_law_1161 rfl ?_
  refine r_aload_n hC dL_law_1162 rfl ?_
  refine r_iload_n hC dL_law_1163 rfl ?_
  refine r_iconst hC dL_law_1164 rfl ?_
  refine r_iaddE hC (1) dL_law_1165 rfl (inR_lit rfl) ?_
  refine m_sald hM dL_law_1166 (by omega) (by omega) ?_
  refine r_aload_n hC dL_law_1167 rfl ?_
  refine r_iload_n hC dL_law_1168 rfl ?_
  refine r_iconst hC dL_law_1169 rfl ?_
  refine r_iaddE hC (2) dL_law_1170 rfl (inR_lit rfl) ?_
  refine m_sald hM dL_law_1171 (by omega) (by omega) ?_
  refine m_inv2 hM dL_law_1172 vl_RL_113 rfl rfl rfl (Nat.le_of_ble_eq_true rfl) (Nat.le_of_ble_eq_true rfl) ?_
  refine c0_turned hF ?_
  refine r_aload_n hC dL_law_1175 rfl ?_
  refine r_aload_n hC dL_law_1176 rfl ?_
  refine r_iload_n hC dL_law_1177 rfl ?_
  refine r_iconst hC dL_law_1178 rfl ?_
  refine r_iaddE hC (1) dL_law_1179 rfl (inR_lit rfl) ?_
  refine m_sald hM dL_law_1180 (by omega) (by omega) ?_
  refine r_aload_n hC dL_law_1181 rfl ?_
  refine r_iload_n hC dL_law_1182 rfl ?_
  refine r_iconst hC dL_law_1183 rfl ?_
  refine r_iaddE hC (2) dL_law_1184 rfl (inR_lit rfl) ?_
  refine m_sald hM dL_law_1185 (by omega) (by omega) ?_
  refine m_inv2 hM dL_law_1186 vl_RL_116 rfl rfl rfl (Nat.le_of_ble_eq_true rfl) (Nat.le_of_ble_eq_true rfl) ?_
  refine d0_turned hR ?_
  refine r_icmp_eq (tgt := 2215) hC dL_law_1189 rfl (fun h3 => ?_) (fun h3 => by omega)
  refine r_iincE hC (6) dL_law_2215 rfl rfl rfl (inR_lit rfl) ?_
  refine r_goto (tgt := 18) hC dL_law_2218 rfl ?_
  exact law_out hM hEnd hScr hL (Or.inl rfl) (a := none)
theorem law_case24 {K : Nat → Lc → List Vl → Mm → Prop} {d : Nat} {Lz : Int} {Sx : Int → Int} (hM : StpM cL_law RL (WP (d + 6)) K) (hEnd : ∀ (pc : Nat) (ls : Lc) (μ : Mm), decode cL_law pc = .ok (.ireturn, 1) → K pc ls [vI 1] μ) (hScr : ∀ {pc : Nat} {ls : Lc} {st : List Vl} {μ : Mm}, ((μ 0 0 (-1) = Lz) ∧ (∀ j : Int, 0 ≤ j → j < Lz → μ 0 0 j = Sx j) → K pc ls st μ) → K pc ls st μ) (hL : 0 ≤ Lz ∧ Lz ≤ 6) (h6 : Lz = 6) {τ : Mm} (hF : FrC τ) (hR : FrR τ) : K 1194 [some (vR 0 0), some (vR 2 0), some (vR 30 0), some (vI 0)] [] τ := by
  have hC := hM.1
  refine hScr (fun hz => ?_)
  have hz1 := hz.1
  refine r_aload_n hC dL_law_1194 rfl ?_
  refine r_aload_n hC dL_law_1195 rfl ?_
  refine r_iload_n hC dL_law_1196 rfl ?_
  refine r_iconst hC dL_law_1197 rfl ?_
  refine r_iaddE hC (1) dL_law_1198 rfl (inR_lit rfl) ?_
  refine m_sald hM dL_law_1199 (by omega) (by omega) ?_
  refine r_aload_n hC dL_law_1200 rfl ?_
  refine r_iload_n hC dL_law_1201 rfl ?_
  refine r_iconst hC dL_law_1202 rfl ?_
  refine r_iaddE hC (2) dL_law_1203 rfl (inR_lit rfl) ?_
  refine m_sald hM dL_law_1204 (by omega) (by omega) ?_
  refine m_inv2 hM dL_law_1205 vl_RL_117 rfl rfl rfl (Nat.le_of_ble_eq_true rfl) (Nat.le_of_ble_eq_true rfl) ?_
  refine c0_commutes hF ?_
  refine r_aload_n hC dL_law_1208 rfl ?_
  refine r_aload_n hC dL_law_1209 rfl ?_
  refine r_iload_n hC dL_law_1210 rfl ?_
  refine r_iconst hC dL_law_1211 rfl ?_
  refine r_iaddE hC (1) dL_law_1212 rfl (inR_lit rfl) ?_
  refine m_sald hM dL_law_1213 (by omega) (by omega) ?_
  refine r_aload_n hC dL_law_1214 rfl ?_
  refine r_iload_n hC dL_law_1215 rfl ?_
  refine r_iconst hC dL_law_1216 rfl ?_
  refine r_iaddE hC (2) dL_law_1217 rfl (inR_lit rfl) ?_
  refine m_sald hM dL_law_1218 (by omega) (by omega) ?_
  refine m_inv2 hM dL_law_1219 vl_RL_120 rfl rfl rfl (Nat.le_of_ble_eq_true rfl) (Nat.le_of_ble_eq_true rfl) ?_
  refine d0_commutes hR ?_
  refine r_icmp_eq (tgt := 2215) hC dL_law_1222 rfl (fun h3 => ?_) (fun h3 => by omega)
  refine r_iincE hC (6) dL_law_2215 rfl rfl rfl (inR_lit rfl) ?_
  refine r_goto (tgt := 18) hC dL_law_2218 rfl ?_
  exact law_out hM hEnd hScr hL (Or.inl rfl) (a := none)
theorem law_case25 {K : Nat → Lc → List Vl → Mm → Prop} {d : Nat} {Lz : Int} {Sx : Int → Int} (hM : StpM cL_law RL (WP (d + 6)) K) (hEnd : ∀ (pc : Nat) (ls : Lc) (μ : Mm), decode cL_law pc = .ok (.ireturn, 1) → K pc ls [vI 1] μ) (hScr : ∀ {pc : Nat} {ls : Lc} {st : List Vl} {μ : Mm}, ((μ 0 0 (-1) = Lz) ∧ (∀ j : Int, 0 ≤ j → j < Lz → μ 0 0 j = Sx j) → K pc ls st μ) → K pc ls st μ) (hL : 0 ≤ Lz ∧ Lz ≤ 6) (h6 : Lz = 6) {τ : Mm} (hF : FrC τ) (hR : FrR τ) : K 1227 [some (vR 0 0), some (vR 2 0), some (vR 30 0), some (vI 0)] [] τ := by
  have hC := hM.1
  refine hScr (fun hz => ?_)
  have hz1 := hz.1
  refine r_aload_n hC dL_law_1227 rfl ?_
  refine r_aload_n hC dL_law_1228 rfl ?_
  refine r_iload_n hC dL_law_1229 rfl ?_
  refine r_iconst hC dL_law_1230 rfl ?_
  refine r_iaddE hC (1) dL_law_1231 rfl (inR_lit rfl) ?_
  refine m_sald hM dL_law_1232 (by omega) (by omega) ?_
  refine r_aload_n hC dL_law_1233 rfl ?_
  refine r_iload_n hC dL_law_1234 rfl ?_
  refine r_iconst hC dL_law_1235 rfl ?_
  refine r_iaddE hC (2) dL_law_1236 rfl (inR_lit rfl) ?_
  refine m_sald hM dL_law_1237 (by omega) (by omega) ?_
  refine r_aload_n hC dL_law_1238 rfl ?_
  refine r_iload_n hC dL_law_1239 rfl ?_
  refine r_iconst hC dL_law_1240 rfl ?_
  refine r_iaddE hC (3) dL_law_1241 rfl (inR_lit rfl) ?_
  refine m_sald hM dL_law_1242 (by omega) (by omega) ?_
  refine m_inv3 hM dL_law_1243 vl_RL_121 rfl rfl rfl (Nat.le_of_ble_eq_true rfl) (Nat.le_of_ble_eq_true rfl) ?_
  refine c0_joined hF ?_
  refine r_aload_n hC dL_law_1246 rfl ?_
  refine r_aload_n hC dL_law_1247 rfl ?_
  refine r_iload_n hC dL_law_1248 rfl ?_
  refine r_iconst hC dL_law_1249 rfl ?_
  refine r_iaddE hC (1) dL_law_1250 rfl (inR_lit rfl) ?_
  refine m_sald hM dL_law_1251 (by omega) (by omega) ?_
  refine r_aload_n hC dL_law_1252 rfl ?_
  refine r_iload_n hC dL_law_1253 rfl ?_
  refine r_iconst hC dL_law_1254 rfl ?_
  refine r_iaddE hC (2) dL_law_1255 rfl (inR_lit rfl) ?_
  refine m_sald hM dL_law_1256 (by omega) (by omega) ?_
  refine r_aload_n hC dL_law_1257 rfl ?_
  refine r_iload_n hC dL_law_1258 rfl ?_
  refine r_iconst hC dL_law_1259 rfl ?_
  refine r_iaddE hC (3) dL_law_1260 rfl (inR_lit rfl) ?_
  refine m_sald hM dL_law_1261 (by omega) (by omega) ?_
  refine m_inv3 hM dL_law_1262 vl_RL_124 rfl rfl rfl (Nat.le_of_ble_eq_true rfl) (Nat.le_of_ble_eq_true rfl) ?_
  refine d0_joined hR ?_
  refine r_icmp_eq (tgt := 2215) hC dL_law_1265 rfl (fun h3 => ?_) (fun h3 => by omega)
  refine r_iincE hC (6) dL_law_2215 rfl rfl rfl (inR_lit rfl) ?_
  refine r_goto (tgt := 18) hC dL_law_2218 rfl ?_
  exact law_out hM hEnd hScr hL (Or.inl rfl) (a := none)
theorem law_case26 {K : Nat → Lc → List Vl → Mm → Prop} {d : Nat} {Lz : Int} {Sx : Int → Int} (hM : StpM cL_law RL (WP (d + 6)) K) (hEnd : ∀ (pc : Nat) (ls : Lc) (μ : Mm), decode cL_law pc = .ok (.ireturn, 1) → K pc ls [vI 1] μ) (hScr : ∀ {pc : Nat} {ls : Lc} {st : List Vl} {μ : Mm}, ((μ 0 0 (-1) = Lz) ∧ (∀ j : Int, 0 ≤ j → j < Lz → μ 0 0 j = Sx j) → K pc ls st μ) → K pc ls st μ) (hL : 0 ≤ Lz ∧ Lz ≤ 6) (h6 : Lz = 6) {τ : Mm} (hF : FrC τ) (hR : FrR τ) : K 1270 [some (vR 0 0), some (vR 2 0), some (vR 30 0), some (vI 0)] [] τ := by
  have hC := hM.1
  refine hScr (fun hz => ?_)
  have hz1 := hz.1
  refine r_aload_n hC dL_law_1270 rfl ?_
  refine r_aload_n hC dL_law_1271 rfl ?_
  refine r_iload_n hC dL_law_1272 rfl ?_
  refine r_iconst hC dL_law_1273 rfl ?_
  refine r_iaddE hC (1) dL_law_1274 rfl (inR_lit rfl) ?_
  refine m_sald hM dL_law_1275 (by omega) (by omega) ?_
  refine r_aload_n hC dL_law_1276 rfl ?_
  refine r_iload_n hC dL_law_1277 rfl ?_
  refine r_iconst hC dL_law_1278 rfl ?_
  refine r_iaddE hC (2) dL_law_1279 rfl (inR_lit rfl) ?_
  refine m_sald hM dL_law_1280 (by omega) (by omega) ?_
  refine r_aload_n hC dL_law_1281 rfl ?_
  refine r_iload_n hC dL_law_1282 rfl ?_
  refine r_iconst hC dL_law_1283 rfl ?_
  refine r_iaddE hC (3) dL_law_1284 rfl (inR_lit rfl) ?_
  refine m_sald hM dL_law_1285 (by omega) (by omega) ?_
  refine m_inv3 hM dL_law_1286 vl_RL_125 rfl rfl rfl (Nat.le_of_ble_eq_true rfl) (Nat.le_of_ble_eq_true rfl) ?_
  refine c0_woven hF ?_
  refine r_aload_n hC dL_law_1289 rfl ?_
  refine r_aload_n hC dL_law_1290 rfl ?_
  refine r_iload_n hC dL_law_1291 rfl ?_
  refine r_iconst hC dL_law_1292 rfl ?_
  refine r_iaddE hC (1) dL_law_1293 rfl (inR_lit rfl) ?_
  refine m_sald hM dL_law_1294 (by omega) (by omega) ?_
  refine r_aload_n hC dL_law_1295 rfl ?_
  refine r_iload_n hC dL_law_1296 rfl ?_
  refine r_iconst hC dL_law_1297 rfl ?_
  refine r_iaddE hC (2) dL_law_1298 rfl (inR_lit rfl) ?_
  refine m_sald hM dL_law_1299 (by omega) (by omega) ?_
  refine r_aload_n hC dL_law_1300 rfl ?_
  refine r_iload_n hC dL_law_1301 rfl ?_
  refine r_iconst hC dL_law_1302 rfl ?_
  refine r_iaddE hC (3) dL_law_1303 rfl (inR_lit rfl) ?_
  refine m_sald hM dL_law_1304 (by omega) (by omega) ?_
  refine m_inv3 hM dL_law_1305 vl_RL_128 rfl rfl rfl (Nat.le_of_ble_eq_true rfl) (Nat.le_of_ble_eq_true rfl) ?_
  refine d0_woven hR ?_
  refine r_icmp_eq (tgt := 2215) hC dL_law_1308 rfl (fun h3 => ?_) (fun h3 => by omega)
  refine r_iincE hC (6) dL_law_2215 rfl rfl rfl (inR_lit rfl) ?_
  refine r_goto (tgt := 18) hC dL_law_2218 rfl ?_
  exact law_out hM hEnd hScr hL (Or.inl rfl) (a := none)
theorem law_case27 {K : Nat → Lc → List Vl → Mm → Prop} {d : Nat} {Lz : Int} {Sx : Int → Int} (hM : StpM cL_law RL (WP (d + 6)) K) (hEnd : ∀ (pc : Nat) (ls : Lc) (μ : Mm), decode cL_law pc = .ok (.ireturn, 1) → K pc ls [vI 1] μ) (hScr : ∀ {pc : Nat} {ls : Lc} {st : List Vl} {μ : Mm}, ((μ 0 0 (-1) = Lz) ∧ (∀ j : Int, 0 ≤ j → j < Lz → μ 0 0 j = Sx j) → K pc ls st μ) → K pc ls st μ) (hL : 0 ≤ Lz ∧ Lz ≤ 6) (h6 : Lz = 6) {τ : Mm} (hF : FrC τ) (hR : FrR τ) : K 1313 [some (vR 0 0), some (vR 2 0), some (vR 30 0), some (vI 0)] [] τ := by
  have hC := hM.1
  refine hScr (fun hz => ?_)
  have hz1 := hz.1
  refine r_aload_n hC dL_law_1313 rfl ?_
  refine r_aload_n hC dL_law_1314 rfl ?_
  refine r_iload_n hC dL_law_1315 rfl ?_
  refine r_iconst hC dL_law_1316 rfl ?_
  refine r_iaddE hC (1) dL_law_1317 rfl (inR_lit rfl) ?_
  refine m_sald hM dL_law_1318 (by omega) (by omega) ?_
  refine r_aload_n hC dL_law_1319 rfl ?_
  refine r_iload_n hC dL_law_1320 rfl ?_
  refine r_iconst hC dL_law_1321 rfl ?_
  refine r_iaddE hC (2) dL_law_1322 rfl (inR_lit rfl) ?_
  refine m_sald hM dL_law_1323 (by omega) (by omega) ?_
  refine m_inv2 hM dL_law_1324 vl_RL_129 rfl rfl rfl (Nat.le_of_ble_eq_true rfl) (Nat.le_of_ble_eq_true rfl) ?_
  refine c0_same hF ?_
  refine r_aload_n hC dL_law_1327 rfl ?_
  refine r_aload_n hC dL_law_1328 rfl ?_
  refine r_iload_n hC dL_law_1329 rfl ?_
  refine r_iconst hC dL_law_1330 rfl ?_
  refine r_iaddE hC (1) dL_law_1331 rfl (inR_lit rfl) ?_
  refine m_sald hM dL_law_1332 (by omega) (by omega) ?_
  refine r_aload_n hC dL_law_1333 rfl ?_
  refine r_iload_n hC dL_law_1334 rfl ?_
  refine r_iconst hC dL_law_1335 rfl ?_
  refine r_iaddE hC (2) dL_law_1336 rfl (inR_lit rfl) ?_
  refine m_sald hM dL_law_1337 (by omega) (by omega) ?_
  refine m_inv2 hM dL_law_1338 vl_RL_132 rfl rfl rfl (Nat.le_of_ble_eq_true rfl) (Nat.le_of_ble_eq_true rfl) ?_
  refine d0_same hR ?_
  refine r_icmp_eq (tgt := 2215) hC dL_law_1341 rfl (fun h3 => ?_) (fun h3 => by omega)
  refine r_iincE hC (6) dL_law_2215 rfl rfl rfl (inR_lit rfl) ?_
  refine r_goto (tgt := 18) hC dL_law_2218 rfl ?_
  exact law_out hM hEnd hScr hL (Or.inl rfl) (a := none)
theorem law_case28 {K : Nat → Lc → List Vl → Mm → Prop} {d : Nat} {Lz : Int} {Sx : Int → Int} (hM : StpM cL_law RL (WP (d + 6)) K) (hEnd : ∀ (pc : Nat) (ls : Lc) (μ : Mm), decode cL_law pc = .ok (.ireturn, 1) → K pc ls [vI 1] μ) (hScr : ∀ {pc : Nat} {ls : Lc} {st : List Vl} {μ : Mm}, ((μ 0 0 (-1) = Lz) ∧ (∀ j : Int, 0 ≤ j → j < Lz → μ 0 0 j = Sx j) → K pc ls st μ) → K pc ls st μ) (hL : 0 ≤ Lz ∧ Lz ≤ 6) (h6 : Lz = 6) {τ : Mm} (hF : FrC τ) (hR : FrR τ) : K 1346 [some (vR 0 0), some (vR 2 0), some (vR 30 0), some (vI 0)] [] τ := by
  have hC := hM.1
  refine hScr (fun hz => ?_)
  have hz1 := hz.1
  refine r_aload_n hC dL_law_1346 rfl ?_
  refine r_aload_n hC dL_law_1347 rfl ?_
  refine r_iload_n hC dL_law_1348 rfl ?_
  refine r_iconst hC dL_law_1349 rfl ?_
  refine r_iaddE hC (1) dL_law_1350 rfl (inR_lit rfl) ?_
  refine m_sald hM dL_law_1351 (by omega) (by omega) ?_
  refine r_aload_n hC dL_law_1352 rfl ?_
  refine r_iload_n hC dL_law_1353 rfl ?_
  refine r_iconst hC dL_law_1354 rfl ?_
  refine r_iaddE hC (2) dL_law_1355 rfl (inR_lit rfl) ?_
  refine m_sald hM dL_law_1356 (by omega) (by omega) ?_
  refine m_inv2 hM dL_law_1357 vl_RL_133 rfl rfl rfl (Nat.le_of_ble_eq_true rfl) (Nat.le_of_ble_eq_true rfl) ?_
  refine c0_panes hF ?_
  refine r_aload_n hC dL_law_1360 rfl ?_
  refine r_aload_n hC dL_law_1361 rfl ?_
  refine r_iload_n hC dL_law_1362 rfl ?_
  refine r_iconst hC dL_law_1363 rfl ?_
  refine r_iaddE hC (1) dL_law_1364 rfl (inR_lit rfl) ?_
  refine m_sald hM dL_law_1365 (by omega) (by omega) ?_
  refine r_aload_n hC dL_law_1366 rfl ?_
  refine r_iload_n hC dL_law_1367 rfl ?_
  refine r_iconst hC dL_law_1368 rfl ?_
  refine r_iaddE hC (2) dL_law_1369 rfl (inR_lit rfl) ?_
  refine m_sald hM dL_law_1370 (by omega) (by omega) ?_
  refine m_inv2 hM dL_law_1371 vl_RL_136 rfl rfl rfl (Nat.le_of_ble_eq_true rfl) (Nat.le_of_ble_eq_true rfl) ?_
  refine d0_panes hR ?_
  refine r_icmp_eq (tgt := 2215) hC dL_law_1374 rfl (fun h3 => ?_) (fun h3 => by omega)
  refine r_iincE hC (6) dL_law_2215 rfl rfl rfl (inR_lit rfl) ?_
  refine r_goto (tgt := 18) hC dL_law_2218 rfl ?_
  exact law_out hM hEnd hScr hL (Or.inl rfl) (a := none)
theorem law_case29 {K : Nat → Lc → List Vl → Mm → Prop} {d : Nat} {Lz : Int} {Sx : Int → Int} (hM : StpM cL_law RL (WP (d + 6)) K) (hEnd : ∀ (pc : Nat) (ls : Lc) (μ : Mm), decode cL_law pc = .ok (.ireturn, 1) → K pc ls [vI 1] μ) (hScr : ∀ {pc : Nat} {ls : Lc} {st : List Vl} {μ : Mm}, ((μ 0 0 (-1) = Lz) ∧ (∀ j : Int, 0 ≤ j → j < Lz → μ 0 0 j = Sx j) → K pc ls st μ) → K pc ls st μ) (hL : 0 ≤ Lz ∧ Lz ≤ 6) (h6 : Lz = 6) {τ : Mm} (hF : FrC τ) (hR : FrR τ) : K 1379 [some (vR 0 0), some (vR 2 0), some (vR 30 0), some (vI 0)] [] τ := by
  have hC := hM.1
  refine hScr (fun hz => ?_)
  have hz1 := hz.1
  refine r_aload_n hC dL_law_1379 rfl ?_
  refine r_aload_n hC dL_law_1380 rfl ?_
  refine r_iload_n hC dL_law_1381 rfl ?_
  refine r_iconst hC dL_law_1382 rfl ?_
  refine r_iaddE hC (1) dL_law_1383 rfl (inR_lit rfl) ?_
  refine m_sald hM dL_law_1384 (by omega) (by omega) ?_
  refine r_aload_n hC dL_law_1385 rfl ?_
  refine r_iload_n hC dL_law_1386 rfl ?_
  refine r_iconst hC dL_law_1387 rfl ?_
  refine r_iaddE hC (2) dL_law_1388 rfl (inR_lit rfl) ?_
  refine m_sald hM dL_law_1389 (by omega) (by omega) ?_
  refine m_inv2 hM dL_law_1390 vl_RL_137 rfl rfl rfl (Nat.le_of_ble_eq_true rfl) (Nat.le_of_ble_eq_true rfl) ?_
  refine c0_fullest hF ?_
  refine r_aload_n hC dL_law_1393 rfl ?_
  refine r_aload_n hC dL_law_1394 rfl ?_
  refine r_iload_n hC dL_law_1395 rfl ?_
  refine r_iconst hC dL_law_1396 rfl ?_
  refine r_iaddE hC (1) dL_law_1397 rfl (inR_lit rfl) ?_
  refine m_sald hM dL_law_1398 (by omega) (by omega) ?_
  refine r_aload_n hC dL_law_1399 rfl ?_
  refine r_iload_n hC dL_law_1400 rfl ?_
  refine r_iconst hC dL_law_1401 rfl ?_
  refine r_iaddE hC (2) dL_law_1402 rfl (inR_lit rfl) ?_
  refine m_sald hM dL_law_1403 (by omega) (by omega) ?_
  refine m_inv2 hM dL_law_1404 vl_RL_140 rfl rfl rfl (Nat.le_of_ble_eq_true rfl) (Nat.le_of_ble_eq_true rfl) ?_
  refine d0_fullest hR ?_
  refine r_icmp_eq (tgt := 2215) hC dL_law_1407 rfl (fun h3 => ?_) (fun h3 => by omega)
  refine r_iincE hC (6) dL_law_2215 rfl rfl rfl (inR_lit rfl) ?_
  refine r_goto (tgt := 18) hC dL_law_2218 rfl ?_
  exact law_out hM hEnd hScr hL (Or.inl rfl) (a := none)
theorem law_case30 {K : Nat → Lc → List Vl → Mm → Prop} {d : Nat} {Lz : Int} {Sx : Int → Int} (hM : StpM cL_law RL (WP (d + 6)) K) (hEnd : ∀ (pc : Nat) (ls : Lc) (μ : Mm), decode cL_law pc = .ok (.ireturn, 1) → K pc ls [vI 1] μ) (hScr : ∀ {pc : Nat} {ls : Lc} {st : List Vl} {μ : Mm}, ((μ 0 0 (-1) = Lz) ∧ (∀ j : Int, 0 ≤ j → j < Lz → μ 0 0 j = Sx j) → K pc ls st μ) → K pc ls st μ) (hL : 0 ≤ Lz ∧ Lz ≤ 6) (h6 : Lz = 6) {τ : Mm} (hF : FrC τ) (hR : FrR τ) : K 1412 [some (vR 0 0), some (vR 2 0), some (vR 30 0), some (vI 0)] [] τ := by
  have hC := hM.1
  refine hScr (fun hz => ?_)
  have hz1 := hz.1
  refine r_aload_n hC dL_law_1412 rfl ?_
  refine r_aload_n hC dL_law_1413 rfl ?_
  refine r_iload_n hC dL_law_1414 rfl ?_
  refine r_iconst hC dL_law_1415 rfl ?_
  refine r_iaddE hC (1) dL_law_1416 rfl (inR_lit rfl) ?_
  refine m_sald hM dL_law_1417 (by omega) (by omega) ?_
  refine r_aload_n hC dL_law_1418 rfl ?_
  refine r_iload_n hC dL_law_1419 rfl ?_
  refine r_iconst hC dL_law_1420 rfl ?_
  refine r_iaddE hC (2) dL_law_1421 rfl (inR_lit rfl) ?_
  refine m_sald hM dL_law_1422 (by omega) (by omega) ?_
  refine m_inv2 hM dL_law_1423 vl_RL_141 rfl rfl rfl (Nat.le_of_ble_eq_true rfl) (Nat.le_of_ble_eq_true rfl) ?_
  refine c0_sessions hF ?_
  refine r_aload_n hC dL_law_1426 rfl ?_
  refine r_aload_n hC dL_law_1427 rfl ?_
  refine r_iload_n hC dL_law_1428 rfl ?_
  refine r_iconst hC dL_law_1429 rfl ?_
  refine r_iaddE hC (1) dL_law_1430 rfl (inR_lit rfl) ?_
  refine m_sald hM dL_law_1431 (by omega) (by omega) ?_
  refine r_aload_n hC dL_law_1432 rfl ?_
  refine r_iload_n hC dL_law_1433 rfl ?_
  refine r_iconst hC dL_law_1434 rfl ?_
  refine r_iaddE hC (2) dL_law_1435 rfl (inR_lit rfl) ?_
  refine m_sald hM dL_law_1436 (by omega) (by omega) ?_
  refine m_inv2 hM dL_law_1437 vl_RL_144 rfl rfl rfl (Nat.le_of_ble_eq_true rfl) (Nat.le_of_ble_eq_true rfl) ?_
  refine d0_sessions hR ?_
  refine r_icmp_eq (tgt := 2215) hC dL_law_1440 rfl (fun h3 => ?_) (fun h3 => by omega)
  refine r_iincE hC (6) dL_law_2215 rfl rfl rfl (inR_lit rfl) ?_
  refine r_goto (tgt := 18) hC dL_law_2218 rfl ?_
  exact law_out hM hEnd hScr hL (Or.inl rfl) (a := none)
theorem law_case31 {K : Nat → Lc → List Vl → Mm → Prop} {d : Nat} {Lz : Int} {Sx : Int → Int} (hM : StpM cL_law RL (WP (d + 6)) K) (hEnd : ∀ (pc : Nat) (ls : Lc) (μ : Mm), decode cL_law pc = .ok (.ireturn, 1) → K pc ls [vI 1] μ) (hScr : ∀ {pc : Nat} {ls : Lc} {st : List Vl} {μ : Mm}, ((μ 0 0 (-1) = Lz) ∧ (∀ j : Int, 0 ≤ j → j < Lz → μ 0 0 j = Sx j) → K pc ls st μ) → K pc ls st μ) (hL : 0 ≤ Lz ∧ Lz ≤ 6) (h6 : Lz = 6) {τ : Mm} (hF : FrC τ) (hR : FrR τ) : K 1445 [some (vR 0 0), some (vR 2 0), some (vR 30 0), some (vI 0)] [] τ := by
  have hC := hM.1
  refine hScr (fun hz => ?_)
  have hz1 := hz.1
  refine r_aload_n hC dL_law_1445 rfl ?_
  refine r_aload_n hC dL_law_1446 rfl ?_
  refine r_iload_n hC dL_law_1447 rfl ?_
  refine r_iconst hC dL_law_1448 rfl ?_
  refine r_iaddE hC (1) dL_law_1449 rfl (inR_lit rfl) ?_
  refine m_sald hM dL_law_1450 (by omega) (by omega) ?_
  refine r_aload_n hC dL_law_1451 rfl ?_
  refine r_iload_n hC dL_law_1452 rfl ?_
  refine r_iconst hC dL_law_1453 rfl ?_
  refine r_iaddE hC (2) dL_law_1454 rfl (inR_lit rfl) ?_
  refine m_sald hM dL_law_1455 (by omega) (by omega) ?_
  refine r_aload_n hC dL_law_1456 rfl ?_
  refine r_iload_n hC dL_law_1457 rfl ?_
  refine r_iconst hC dL_law_1458 rfl ?_
  refine r_iaddE hC (3) dL_law_1459 rfl (inR_lit rfl) ?_
  refine m_sald hM dL_law_1460 (by omega) (by omega) ?_
  refine r_aload_n hC dL_law_1461 rfl ?_
  refine r_iload_n hC dL_law_1462 rfl ?_
  refine r_iconst hC dL_law_1463 rfl ?_
  refine r_iaddE hC (4) dL_law_1464 rfl (inR_lit rfl) ?_
  refine m_sald hM dL_law_1465 (by omega) (by omega) ?_
  refine m_inv4 hM dL_law_1466 vl_RL_145 rfl rfl rfl (Nat.le_of_ble_eq_true rfl) (Nat.le_of_ble_eq_true rfl) ?_
  refine c0_session hF ?_
  refine r_aload_n hC dL_law_1469 rfl ?_
  refine r_aload_n hC dL_law_1470 rfl ?_
  refine r_iload_n hC dL_law_1471 rfl ?_
  refine r_iconst hC dL_law_1472 rfl ?_
  refine r_iaddE hC (1) dL_law_1473 rfl (inR_lit rfl) ?_
  refine m_sald hM dL_law_1474 (by omega) (by omega) ?_
  refine r_aload_n hC dL_law_1475 rfl ?_
  refine r_iload_n hC dL_law_1476 rfl ?_
  refine r_iconst hC dL_law_1477 rfl ?_
  refine r_iaddE hC (2) dL_law_1478 rfl (inR_lit rfl) ?_
  refine m_sald hM dL_law_1479 (by omega) (by omega) ?_
  refine r_aload_n hC dL_law_1480 rfl ?_
  refine r_iload_n hC dL_law_1481 rfl ?_
  refine r_iconst hC dL_law_1482 rfl ?_
  refine r_iaddE hC (3) dL_law_1483 rfl (inR_lit rfl) ?_
  refine m_sald hM dL_law_1484 (by omega) (by omega) ?_
  refine r_aload_n hC dL_law_1485 rfl ?_
  refine r_iload_n hC dL_law_1486 rfl ?_
  refine r_iconst hC dL_law_1487 rfl ?_
  refine r_iaddE hC (4) dL_law_1488 rfl (inR_lit rfl) ?_
  refine m_sald hM dL_law_1489 (by omega) (by omega) ?_
  refine m_inv4 hM dL_law_1490 vl_RL_148 rfl rfl rfl (Nat.le_of_ble_eq_true rfl) (Nat.le_of_ble_eq_true rfl) ?_
  refine d0_session hR ?_
  refine r_icmp_eq (tgt := 2215) hC dL_law_1493 rfl (fun h3 => ?_) (fun h3 => by omega)
  refine r_iincE hC (6) dL_law_2215 rfl rfl rfl (inR_lit rfl) ?_
  refine r_goto (tgt := 18) hC dL_law_2218 rfl ?_
  exact law_out hM hEnd hScr hL (Or.inl rfl) (a := none)
theorem law_case32 {K : Nat → Lc → List Vl → Mm → Prop} {d : Nat} {Lz : Int} {Sx : Int → Int} (hM : StpM cL_law RL (WP (d + 6)) K) (hEnd : ∀ (pc : Nat) (ls : Lc) (μ : Mm), decode cL_law pc = .ok (.ireturn, 1) → K pc ls [vI 1] μ) (hScr : ∀ {pc : Nat} {ls : Lc} {st : List Vl} {μ : Mm}, ((μ 0 0 (-1) = Lz) ∧ (∀ j : Int, 0 ≤ j → j < Lz → μ 0 0 j = Sx j) → K pc ls st μ) → K pc ls st μ) (hL : 0 ≤ Lz ∧ Lz ≤ 6) (h6 : Lz = 6) {τ : Mm} (hF : FrC τ) (hR : FrR τ) : K 1498 [some (vR 0 0), some (vR 2 0), some (vR 30 0), some (vI 0)] [] τ := by
  have hC := hM.1
  refine hScr (fun hz => ?_)
  have hz1 := hz.1
  refine r_aload_n hC dL_law_1498 rfl ?_
  refine r_aload_n hC dL_law_1499 rfl ?_
  refine r_iload_n hC dL_law_1500 rfl ?_
  refine r_iconst hC dL_law_1501 rfl ?_
  refine r_iaddE hC (1) dL_law_1502 rfl (inR_lit rfl) ?_
  refine m_sald hM dL_law_1503 (by omega) (by omega) ?_
  refine r_aload_n hC dL_law_1504 rfl ?_
  refine r_iload_n hC dL_law_1505 rfl ?_
  refine r_iconst hC dL_law_1506 rfl ?_
  refine r_iaddE hC (2) dL_law_1507 rfl (inR_lit rfl) ?_
  refine m_sald hM dL_law_1508 (by omega) (by omega) ?_
  refine m_inv2 hM dL_law_1509 vl_RL_149 rfl rfl rfl (Nat.le_of_ble_eq_true rfl) (Nat.le_of_ble_eq_true rfl) ?_
  refine c0_longest hF ?_
  refine r_aload_n hC dL_law_1512 rfl ?_
  refine r_aload_n hC dL_law_1513 rfl ?_
  refine r_iload_n hC dL_law_1514 rfl ?_
  refine r_iconst hC dL_law_1515 rfl ?_
  refine r_iaddE hC (1) dL_law_1516 rfl (inR_lit rfl) ?_
  refine m_sald hM dL_law_1517 (by omega) (by omega) ?_
  refine r_aload_n hC dL_law_1518 rfl ?_
  refine r_iload_n hC dL_law_1519 rfl ?_
  refine r_iconst hC dL_law_1520 rfl ?_
  refine r_iaddE hC (2) dL_law_1521 rfl (inR_lit rfl) ?_
  refine m_sald hM dL_law_1522 (by omega) (by omega) ?_
  refine m_inv2 hM dL_law_1523 vl_RL_152 rfl rfl rfl (Nat.le_of_ble_eq_true rfl) (Nat.le_of_ble_eq_true rfl) ?_
  refine d0_longest hR ?_
  refine r_icmp_eq (tgt := 2215) hC dL_law_1526 rfl (fun h3 => ?_) (fun h3 => by omega)
  refine r_iincE hC (6) dL_law_2215 rfl rfl rfl (inR_lit rfl) ?_
  refine r_goto (tgt := 18) hC dL_law_2218 rfl ?_
  exact law_out hM hEnd hScr hL (Or.inl rfl) (a := none)
theorem law_case33 {K : Nat → Lc → List Vl → Mm → Prop} {d : Nat} {Lz : Int} {Sx : Int → Int} (hM : StpM cL_law RL (WP (d + 6)) K) (hEnd : ∀ (pc : Nat) (ls : Lc) (μ : Mm), decode cL_law pc = .ok (.ireturn, 1) → K pc ls [vI 1] μ) (hScr : ∀ {pc : Nat} {ls : Lc} {st : List Vl} {μ : Mm}, ((μ 0 0 (-1) = Lz) ∧ (∀ j : Int, 0 ≤ j → j < Lz → μ 0 0 j = Sx j) → K pc ls st μ) → K pc ls st μ) (hL : 0 ≤ Lz ∧ Lz ≤ 6) (h6 : Lz = 6) {τ : Mm} (hF : FrC τ) (hR : FrR τ) : K 1531 [some (vR 0 0), some (vR 2 0), some (vR 30 0), some (vI 0)] [] τ := by
  have hC := hM.1
  refine hScr (fun hz => ?_)
  have hz1 := hz.1
  refine r_aload_n hC dL_law_1531 rfl ?_
  refine r_aload_n hC dL_law_1532 rfl ?_
  refine r_iload_n hC dL_law_1533 rfl ?_
  refine r_iconst hC dL_law_1534 rfl ?_
  refine r_iaddE hC (1) dL_law_1535 rfl (inR_lit rfl) ?_
  refine m_sald hM dL_law_1536 (by omega) (by omega) ?_
  refine r_aload_n hC dL_law_1537 rfl ?_
  refine r_iload_n hC dL_law_1538 rfl ?_
  refine r_iconst hC dL_law_1539 rfl ?_
  refine r_iaddE hC (2) dL_law_1540 rfl (inR_lit rfl) ?_
  refine m_sald hM dL_law_1541 (by omega) (by omega) ?_
  refine r_aload_n hC dL_law_1542 rfl ?_
  refine r_iload_n hC dL_law_1543 rfl ?_
  refine r_iconst hC dL_law_1544 rfl ?_
  refine r_iaddE hC (3) dL_law_1545 rfl (inR_lit rfl) ?_
  refine m_sald hM dL_law_1546 (by omega) (by omega) ?_
  refine m_inv3 hM dL_law_1547 vl_RL_153 rfl rfl rfl (Nat.le_of_ble_eq_true rfl) (Nat.le_of_ble_eq_true rfl) ?_
  refine c0_law hF ?_
  refine r_aload_n hC dL_law_1550 rfl ?_
  refine r_aload_n hC dL_law_1551 rfl ?_
  refine r_iload_n hC dL_law_1552 rfl ?_
  refine r_iconst hC dL_law_1553 rfl ?_
  refine r_iaddE hC (1) dL_law_1554 rfl (inR_lit rfl) ?_
  refine m_sald hM dL_law_1555 (by omega) (by omega) ?_
  refine r_aload_n hC dL_law_1556 rfl ?_
  refine r_iload_n hC dL_law_1557 rfl ?_
  refine r_iconst hC dL_law_1558 rfl ?_
  refine r_iaddE hC (2) dL_law_1559 rfl (inR_lit rfl) ?_
  refine m_sald hM dL_law_1560 (by omega) (by omega) ?_
  refine r_aload_n hC dL_law_1561 rfl ?_
  refine r_iload_n hC dL_law_1562 rfl ?_
  refine r_iconst hC dL_law_1563 rfl ?_
  refine r_iaddE hC (3) dL_law_1564 rfl (inR_lit rfl) ?_
  refine m_sald hM dL_law_1565 (by omega) (by omega) ?_
  refine m_inv3 hM dL_law_1566 vl_RL_156 rfl rfl rfl (Nat.le_of_ble_eq_true rfl) (Nat.le_of_ble_eq_true rfl) ?_
  refine d0_law hR ?_
  refine r_icmp_eq (tgt := 2215) hC dL_law_1569 rfl (fun h3 => ?_) (fun h3 => by omega)
  refine r_iincE hC (6) dL_law_2215 rfl rfl rfl (inR_lit rfl) ?_
  refine r_goto (tgt := 18) hC dL_law_2218 rfl ?_
  exact law_out hM hEnd hScr hL (Or.inl rfl) (a := none)
theorem law_case34 {K : Nat → Lc → List Vl → Mm → Prop} {d : Nat} {Lz : Int} {Sx : Int → Int} (hM : StpM cL_law RL (WP (d + 6)) K) (hEnd : ∀ (pc : Nat) (ls : Lc) (μ : Mm), decode cL_law pc = .ok (.ireturn, 1) → K pc ls [vI 1] μ) (hScr : ∀ {pc : Nat} {ls : Lc} {st : List Vl} {μ : Mm}, ((μ 0 0 (-1) = Lz) ∧ (∀ j : Int, 0 ≤ j → j < Lz → μ 0 0 j = Sx j) → K pc ls st μ) → K pc ls st μ) (hL : 0 ≤ Lz ∧ Lz ≤ 6) (h6 : Lz = 6) {τ : Mm} (hF : FrC τ) (hR : FrR τ) : K 1574 [some (vR 0 0), some (vR 2 0), some (vR 30 0), some (vI 0)] [] τ := by
  have hC := hM.1
  refine hScr (fun hz => ?_)
  have hz1 := hz.1
  refine r_aload_n hC dL_law_1574 rfl ?_
  refine r_aload_n hC dL_law_1575 rfl ?_
  refine r_iload_n hC dL_law_1576 rfl ?_
  refine r_iconst hC dL_law_1577 rfl ?_
  refine r_iaddE hC (1) dL_law_1578 rfl (inR_lit rfl) ?_
  refine m_sald hM dL_law_1579 (by omega) (by omega) ?_
  refine r_aload_n hC dL_law_1580 rfl ?_
  refine r_iload_n hC dL_law_1581 rfl ?_
  refine r_iconst hC dL_law_1582 rfl ?_
  refine r_iaddE hC (2) dL_law_1583 rfl (inR_lit rfl) ?_
  refine m_sald hM dL_law_1584 (by omega) (by omega) ?_
  refine m_inv2 hM dL_law_1585 vl_RL_157 rfl rfl rfl (Nat.le_of_ble_eq_true rfl) (Nat.le_of_ble_eq_true rfl) ?_
  refine c0_state hF ?_
  refine r_aload_n hC dL_law_1588 rfl ?_
  refine r_aload_n hC dL_law_1589 rfl ?_
  refine r_iload_n hC dL_law_1590 rfl ?_
  refine r_iconst hC dL_law_1591 rfl ?_
  refine r_iaddE hC (1) dL_law_1592 rfl (inR_lit rfl) ?_
  refine m_sald hM dL_law_1593 (by omega) (by omega) ?_
  refine r_aload_n hC dL_law_1594 rfl ?_
  refine r_iload_n hC dL_law_1595 rfl ?_
  refine r_iconst hC dL_law_1596 rfl ?_
  refine r_iaddE hC (2) dL_law_1597 rfl (inR_lit rfl) ?_
  refine m_sald hM dL_law_1598 (by omega) (by omega) ?_
  refine m_inv2 hM dL_law_1599 vl_RL_160 rfl rfl rfl (Nat.le_of_ble_eq_true rfl) (Nat.le_of_ble_eq_true rfl) ?_
  refine d0_state hR ?_
  refine r_icmp_eq (tgt := 2215) hC dL_law_1602 rfl (fun h3 => ?_) (fun h3 => by omega)
  refine r_iincE hC (6) dL_law_2215 rfl rfl rfl (inR_lit rfl) ?_
  refine r_goto (tgt := 18) hC dL_law_2218 rfl ?_
  exact law_out hM hEnd hScr hL (Or.inl rfl) (a := none)
theorem law_case35 {K : Nat → Lc → List Vl → Mm → Prop} {d : Nat} {Lz : Int} {Sx : Int → Int} (hM : StpM cL_law RL (WP (d + 6)) K) (hEnd : ∀ (pc : Nat) (ls : Lc) (μ : Mm), decode cL_law pc = .ok (.ireturn, 1) → K pc ls [vI 1] μ) (hScr : ∀ {pc : Nat} {ls : Lc} {st : List Vl} {μ : Mm}, ((μ 0 0 (-1) = Lz) ∧ (∀ j : Int, 0 ≤ j → j < Lz → μ 0 0 j = Sx j) → K pc ls st μ) → K pc ls st μ) (hL : 0 ≤ Lz ∧ Lz ≤ 6) (h6 : Lz = 6) {τ : Mm} (hF : FrC τ) (hR : FrR τ) : K 1607 [some (vR 0 0), some (vR 2 0), some (vR 30 0), some (vI 0)] [] τ := by
  have hC := hM.1
  refine hScr (fun hz => ?_)
  have hz1 := hz.1
  refine r_aload_n hC dL_law_1607 rfl ?_
  refine r_aload_n hC dL_law_1608 rfl ?_
  refine r_iload_n hC dL_law_1609 rfl ?_
  refine r_iconst hC dL_law_1610 rfl ?_
  refine r_iaddE hC (1) dL_law_1611 rfl (inR_lit rfl) ?_
  refine m_sald hM dL_law_1612 (by omega) (by omega) ?_
  refine r_aload_n hC dL_law_1613 rfl ?_
  refine r_iload_n hC dL_law_1614 rfl ?_
  refine r_iconst hC dL_law_1615 rfl ?_
  refine r_iaddE hC (2) dL_law_1616 rfl (inR_lit rfl) ?_
  refine m_sald hM dL_law_1617 (by omega) (by omega) ?_
  refine m_inv2 hM dL_law_1618 vl_RL_161 rfl rfl rfl (Nat.le_of_ble_eq_true rfl) (Nat.le_of_ble_eq_true rfl) ?_
  refine c0_soon hF ?_
  refine r_aload_n hC dL_law_1621 rfl ?_
  refine r_aload_n hC dL_law_1622 rfl ?_
  refine r_iload_n hC dL_law_1623 rfl ?_
  refine r_iconst hC dL_law_1624 rfl ?_
  refine r_iaddE hC (1) dL_law_1625 rfl (inR_lit rfl) ?_
  refine m_sald hM dL_law_1626 (by omega) (by omega) ?_
  refine r_aload_n hC dL_law_1627 rfl ?_
  refine r_iload_n hC dL_law_1628 rfl ?_
  refine r_iconst hC dL_law_1629 rfl ?_
  refine r_iaddE hC (2) dL_law_1630 rfl (inR_lit rfl) ?_
  refine m_sald hM dL_law_1631 (by omega) (by omega) ?_
  refine m_inv2 hM dL_law_1632 vl_RL_164 rfl rfl rfl (Nat.le_of_ble_eq_true rfl) (Nat.le_of_ble_eq_true rfl) ?_
  refine d0_soon hR ?_
  refine r_icmp_eq (tgt := 2215) hC dL_law_1635 rfl (fun h3 => ?_) (fun h3 => by omega)
  refine r_iincE hC (6) dL_law_2215 rfl rfl rfl (inR_lit rfl) ?_
  refine r_goto (tgt := 18) hC dL_law_2218 rfl ?_
  exact law_out hM hEnd hScr hL (Or.inl rfl) (a := none)
theorem law_case36 {K : Nat → Lc → List Vl → Mm → Prop} {d : Nat} {Lz : Int} {Sx : Int → Int} (hM : StpM cL_law RL (WP (d + 6)) K) (hEnd : ∀ (pc : Nat) (ls : Lc) (μ : Mm), decode cL_law pc = .ok (.ireturn, 1) → K pc ls [vI 1] μ) (hScr : ∀ {pc : Nat} {ls : Lc} {st : List Vl} {μ : Mm}, ((μ 0 0 (-1) = Lz) ∧ (∀ j : Int, 0 ≤ j → j < Lz → μ 0 0 j = Sx j) → K pc ls st μ) → K pc ls st μ) (hL : 0 ≤ Lz ∧ Lz ≤ 6) (h6 : Lz = 6) {τ : Mm} (hF : FrC τ) (hR : FrR τ) : K 1640 [some (vR 0 0), some (vR 2 0), some (vR 30 0), some (vI 0)] [] τ := by
  have hC := hM.1
  refine hScr (fun hz => ?_)
  have hz1 := hz.1
  refine r_aload_n hC dL_law_1640 rfl ?_
  refine r_aload_n hC dL_law_1641 rfl ?_
  refine r_iload_n hC dL_law_1642 rfl ?_
  refine r_iconst hC dL_law_1643 rfl ?_
  refine r_iaddE hC (1) dL_law_1644 rfl (inR_lit rfl) ?_
  refine m_sald hM dL_law_1645 (by omega) (by omega) ?_
  refine r_aload_n hC dL_law_1646 rfl ?_
  refine r_iload_n hC dL_law_1647 rfl ?_
  refine r_iconst hC dL_law_1648 rfl ?_
  refine r_iaddE hC (2) dL_law_1649 rfl (inR_lit rfl) ?_
  refine m_sald hM dL_law_1650 (by omega) (by omega) ?_
  refine m_inv2 hM dL_law_1651 vl_RL_165 rfl rfl rfl (Nat.le_of_ble_eq_true rfl) (Nat.le_of_ble_eq_true rfl) ?_
  refine c0_lane hF ?_
  refine r_aload_n hC dL_law_1654 rfl ?_
  refine r_aload_n hC dL_law_1655 rfl ?_
  refine r_iload_n hC dL_law_1656 rfl ?_
  refine r_iconst hC dL_law_1657 rfl ?_
  refine r_iaddE hC (1) dL_law_1658 rfl (inR_lit rfl) ?_
  refine m_sald hM dL_law_1659 (by omega) (by omega) ?_
  refine r_aload_n hC dL_law_1660 rfl ?_
  refine r_iload_n hC dL_law_1661 rfl ?_
  refine r_iconst hC dL_law_1662 rfl ?_
  refine r_iaddE hC (2) dL_law_1663 rfl (inR_lit rfl) ?_
  refine m_sald hM dL_law_1664 (by omega) (by omega) ?_
  refine m_inv2 hM dL_law_1665 vl_RL_168 rfl rfl rfl (Nat.le_of_ble_eq_true rfl) (Nat.le_of_ble_eq_true rfl) ?_
  refine d0_lane hR ?_
  refine r_icmp_eq (tgt := 2215) hC dL_law_1668 rfl (fun h3 => ?_) (fun h3 => by omega)
  refine r_iincE hC (6) dL_law_2215 rfl rfl rfl (inR_lit rfl) ?_
  refine r_goto (tgt := 18) hC dL_law_2218 rfl ?_
  exact law_out hM hEnd hScr hL (Or.inl rfl) (a := none)
theorem law_case37 {K : Nat → Lc → List Vl → Mm → Prop} {d : Nat} {Lz : Int} {Sx : Int → Int} (hM : StpM cL_law RL (WP (d + 6)) K) (hEnd : ∀ (pc : Nat) (ls : Lc) (μ : Mm), decode cL_law pc = .ok (.ireturn, 1) → K pc ls [vI 1] μ) (hScr : ∀ {pc : Nat} {ls : Lc} {st : List Vl} {μ : Mm}, ((μ 0 0 (-1) = Lz) ∧ (∀ j : Int, 0 ≤ j → j < Lz → μ 0 0 j = Sx j) → K pc ls st μ) → K pc ls st μ) (hL : 0 ≤ Lz ∧ Lz ≤ 6) (h6 : Lz = 6) {τ : Mm} (hF : FrC τ) (hR : FrR τ) : K 1673 [some (vR 0 0), some (vR 2 0), some (vR 30 0), some (vI 0)] [] τ := by
  have hC := hM.1
  refine hScr (fun hz => ?_)
  have hz1 := hz.1
  refine r_aload_n hC dL_law_1673 rfl ?_
  refine r_aload_n hC dL_law_1674 rfl ?_
  refine r_iload_n hC dL_law_1675 rfl ?_
  refine r_iconst hC dL_law_1676 rfl ?_
  refine r_iaddE hC (1) dL_law_1677 rfl (inR_lit rfl) ?_
  refine m_sald hM dL_law_1678 (by omega) (by omega) ?_
  refine r_aload_n hC dL_law_1679 rfl ?_
  refine r_iload_n hC dL_law_1680 rfl ?_
  refine r_iconst hC dL_law_1681 rfl ?_
  refine r_iaddE hC (2) dL_law_1682 rfl (inR_lit rfl) ?_
  refine m_sald hM dL_law_1683 (by omega) (by omega) ?_
  refine r_aload_n hC dL_law_1684 rfl ?_
  refine r_iload_n hC dL_law_1685 rfl ?_
  refine r_iconst hC dL_law_1686 rfl ?_
  refine r_iaddE hC (3) dL_law_1687 rfl (inR_lit rfl) ?_
  refine m_sald hM dL_law_1688 (by omega) (by omega) ?_
  refine r_aload_n hC dL_law_1689 rfl ?_
  refine r_iload_n hC dL_law_1690 rfl ?_
  refine r_iconst hC dL_law_1691 rfl ?_
  refine r_iaddE hC (4) dL_law_1692 rfl (inR_lit rfl) ?_
  refine m_sald hM dL_law_1693 (by omega) (by omega) ?_
  refine m_inv4 hM dL_law_1694 vl_RL_169 rfl rfl rfl (Nat.le_of_ble_eq_true rfl) (Nat.le_of_ble_eq_true rfl) ?_
  refine c0_watch hF ?_
  refine r_aload_n hC dL_law_1697 rfl ?_
  refine r_aload_n hC dL_law_1698 rfl ?_
  refine r_iload_n hC dL_law_1699 rfl ?_
  refine r_iconst hC dL_law_1700 rfl ?_
  refine r_iaddE hC (1) dL_law_1701 rfl (inR_lit rfl) ?_
  refine m_sald hM dL_law_1702 (by omega) (by omega) ?_
  refine r_aload_n hC dL_law_1703 rfl ?_
  refine r_iload_n hC dL_law_1704 rfl ?_
  refine r_iconst hC dL_law_1705 rfl ?_
  refine r_iaddE hC (2) dL_law_1706 rfl (inR_lit rfl) ?_
  refine m_sald hM dL_law_1707 (by omega) (by omega) ?_
  refine r_aload_n hC dL_law_1708 rfl ?_
  refine r_iload_n hC dL_law_1709 rfl ?_
  refine r_iconst hC dL_law_1710 rfl ?_
  refine r_iaddE hC (3) dL_law_1711 rfl (inR_lit rfl) ?_
  refine m_sald hM dL_law_1712 (by omega) (by omega) ?_
  refine r_aload_n hC dL_law_1713 rfl ?_
  refine r_iload_n hC dL_law_1714 rfl ?_
  refine r_iconst hC dL_law_1715 rfl ?_
  refine r_iaddE hC (4) dL_law_1716 rfl (inR_lit rfl) ?_
  refine m_sald hM dL_law_1717 (by omega) (by omega) ?_
  refine m_inv4 hM dL_law_1718 vl_RL_172 rfl rfl rfl (Nat.le_of_ble_eq_true rfl) (Nat.le_of_ble_eq_true rfl) ?_
  refine d0_watch hR ?_
  refine r_icmp_eq (tgt := 2215) hC dL_law_1721 rfl (fun h3 => ?_) (fun h3 => by omega)
  refine r_iincE hC (6) dL_law_2215 rfl rfl rfl (inR_lit rfl) ?_
  refine r_goto (tgt := 18) hC dL_law_2218 rfl ?_
  exact law_out hM hEnd hScr hL (Or.inl rfl) (a := none)
theorem law_case38 {K : Nat → Lc → List Vl → Mm → Prop} {d : Nat} {Lz : Int} {Sx : Int → Int} (hM : StpM cL_law RL (WP (d + 6)) K) (hEnd : ∀ (pc : Nat) (ls : Lc) (μ : Mm), decode cL_law pc = .ok (.ireturn, 1) → K pc ls [vI 1] μ) (hScr : ∀ {pc : Nat} {ls : Lc} {st : List Vl} {μ : Mm}, ((μ 0 0 (-1) = Lz) ∧ (∀ j : Int, 0 ≤ j → j < Lz → μ 0 0 j = Sx j) → K pc ls st μ) → K pc ls st μ) (hL : 0 ≤ Lz ∧ Lz ≤ 6) (h6 : Lz = 6) {τ : Mm} (hF : FrC τ) (hR : FrR τ) : K 1726 [some (vR 0 0), some (vR 2 0), some (vR 30 0), some (vI 0)] [] τ := by
  have hC := hM.1
  refine hScr (fun hz => ?_)
  have hz1 := hz.1
  refine r_aload_n hC dL_law_1726 rfl ?_
  refine r_aload_n hC dL_law_1727 rfl ?_
  refine r_iload_n hC dL_law_1728 rfl ?_
  refine r_iconst hC dL_law_1729 rfl ?_
  refine r_iaddE hC (1) dL_law_1730 rfl (inR_lit rfl) ?_
  refine m_sald hM dL_law_1731 (by omega) (by omega) ?_
  refine m_inv1 hM dL_law_1732 vl_RL_173 rfl rfl rfl (Nat.le_of_ble_eq_true rfl) (Nat.le_of_ble_eq_true rfl) ?_
  refine c0_rings hF ?_
  refine r_aload_n hC dL_law_1735 rfl ?_
  refine r_aload_n hC dL_law_1736 rfl ?_
  refine r_iload_n hC dL_law_1737 rfl ?_
  refine r_iconst hC dL_law_1738 rfl ?_
  refine r_iaddE hC (1) dL_law_1739 rfl (inR_lit rfl) ?_
  refine m_sald hM dL_law_1740 (by omega) (by omega) ?_
  refine m_inv1 hM dL_law_1741 vl_RL_176 rfl rfl rfl (Nat.le_of_ble_eq_true rfl) (Nat.le_of_ble_eq_true rfl) ?_
  refine d0_rings hR ?_
  refine r_icmp_eq (tgt := 2215) hC dL_law_1744 rfl (fun h3 => ?_) (fun h3 => by omega)
  refine r_iincE hC (6) dL_law_2215 rfl rfl rfl (inR_lit rfl) ?_
  refine r_goto (tgt := 18) hC dL_law_2218 rfl ?_
  exact law_out hM hEnd hScr hL (Or.inl rfl) (a := none)
theorem law_case39 {K : Nat → Lc → List Vl → Mm → Prop} {d : Nat} {Lz : Int} {Sx : Int → Int} (hM : StpM cL_law RL (WP (d + 6)) K) (hEnd : ∀ (pc : Nat) (ls : Lc) (μ : Mm), decode cL_law pc = .ok (.ireturn, 1) → K pc ls [vI 1] μ) (hScr : ∀ {pc : Nat} {ls : Lc} {st : List Vl} {μ : Mm}, ((μ 0 0 (-1) = Lz) ∧ (∀ j : Int, 0 ≤ j → j < Lz → μ 0 0 j = Sx j) → K pc ls st μ) → K pc ls st μ) (hL : 0 ≤ Lz ∧ Lz ≤ 6) (h6 : Lz = 6) {τ : Mm} (hF : FrC τ) (hR : FrR τ) : K 1749 [some (vR 0 0), some (vR 2 0), some (vR 30 0), some (vI 0)] [] τ := by
  have hC := hM.1
  refine hScr (fun hz => ?_)
  have hz1 := hz.1
  refine r_aload_n hC dL_law_1749 rfl ?_
  refine r_aload_n hC dL_law_1750 rfl ?_
  refine r_iload_n hC dL_law_1751 rfl ?_
  refine r_iconst hC dL_law_1752 rfl ?_
  refine r_iaddE hC (1) dL_law_1753 rfl (inR_lit rfl) ?_
  refine m_sald hM dL_law_1754 (by omega) (by omega) ?_
  refine m_inv1 hM dL_law_1755 vl_RL_177 rfl rfl rfl (Nat.le_of_ble_eq_true rfl) (Nat.le_of_ble_eq_true rfl) ?_
  refine c0_rang hF ?_
  refine r_aload_n hC dL_law_1758 rfl ?_
  refine r_aload_n hC dL_law_1759 rfl ?_
  refine r_iload_n hC dL_law_1760 rfl ?_
  refine r_iconst hC dL_law_1761 rfl ?_
  refine r_iaddE hC (1) dL_law_1762 rfl (inR_lit rfl) ?_
  refine m_sald hM dL_law_1763 (by omega) (by omega) ?_
  refine m_inv1 hM dL_law_1764 vl_RL_180 rfl rfl rfl (Nat.le_of_ble_eq_true rfl) (Nat.le_of_ble_eq_true rfl) ?_
  refine d0_rang hR ?_
  refine r_icmp_eq (tgt := 2215) hC dL_law_1767 rfl (fun h3 => ?_) (fun h3 => by omega)
  refine r_iincE hC (6) dL_law_2215 rfl rfl rfl (inR_lit rfl) ?_
  refine r_goto (tgt := 18) hC dL_law_2218 rfl ?_
  exact law_out hM hEnd hScr hL (Or.inl rfl) (a := none)
theorem law_case40 {K : Nat → Lc → List Vl → Mm → Prop} {d : Nat} {Lz : Int} {Sx : Int → Int} (hM : StpM cL_law RL (WP (d + 6)) K) (hEnd : ∀ (pc : Nat) (ls : Lc) (μ : Mm), decode cL_law pc = .ok (.ireturn, 1) → K pc ls [vI 1] μ) (hScr : ∀ {pc : Nat} {ls : Lc} {st : List Vl} {μ : Mm}, ((μ 0 0 (-1) = Lz) ∧ (∀ j : Int, 0 ≤ j → j < Lz → μ 0 0 j = Sx j) → K pc ls st μ) → K pc ls st μ) (hL : 0 ≤ Lz ∧ Lz ≤ 6) (h6 : Lz = 6) {τ : Mm} (hF : FrC τ) (hR : FrR τ) : K 1772 [some (vR 0 0), some (vR 2 0), some (vR 30 0), some (vI 0)] [] τ := by
  have hC := hM.1
  refine hScr (fun hz => ?_)
  have hz1 := hz.1
  refine r_aload_n hC dL_law_1772 rfl ?_
  refine r_aload_n hC dL_law_1773 rfl ?_
  refine r_iload_n hC dL_law_1774 rfl ?_
  refine r_iconst hC dL_law_1775 rfl ?_
  refine r_iaddE hC (1) dL_law_1776 rfl (inR_lit rfl) ?_
  refine m_sald hM dL_law_1777 (by omega) (by omega) ?_
  refine r_aload_n hC dL_law_1778 rfl ?_
  refine r_iload_n hC dL_law_1779 rfl ?_
  refine r_iconst hC dL_law_1780 rfl ?_
  refine r_iaddE hC (2) dL_law_1781 rfl (inR_lit rfl) ?_
  refine m_sald hM dL_law_1782 (by omega) (by omega) ?_
  refine r_aload_n hC dL_law_1783 rfl ?_
  refine r_iload_n hC dL_law_1784 rfl ?_
  refine r_iconst hC dL_law_1785 rfl ?_
  refine r_iaddE hC (3) dL_law_1786 rfl (inR_lit rfl) ?_
  refine m_sald hM dL_law_1787 (by omega) (by omega) ?_
  refine r_aload_n hC dL_law_1788 rfl ?_
  refine r_iload_n hC dL_law_1789 rfl ?_
  refine r_iconst hC dL_law_1790 rfl ?_
  refine r_iaddE hC (4) dL_law_1791 rfl (inR_lit rfl) ?_
  refine m_sald hM dL_law_1792 (by omega) (by omega) ?_
  refine m_inv4 hM dL_law_1793 vl_RL_181 rfl rfl rfl (Nat.le_of_ble_eq_true rfl) (Nat.le_of_ble_eq_true rfl) ?_
  refine c0_link hF ?_
  refine r_aload_n hC dL_law_1796 rfl ?_
  refine r_aload_n hC dL_law_1797 rfl ?_
  refine r_iload_n hC dL_law_1798 rfl ?_
  refine r_iconst hC dL_law_1799 rfl ?_
  refine r_iaddE hC (1) dL_law_1800 rfl (inR_lit rfl) ?_
  refine m_sald hM dL_law_1801 (by omega) (by omega) ?_
  refine r_aload_n hC dL_law_1802 rfl ?_
  refine r_iload_n hC dL_law_1803 rfl ?_
  refine r_iconst hC dL_law_1804 rfl ?_
  refine r_iaddE hC (2) dL_law_1805 rfl (inR_lit rfl) ?_
  refine m_sald hM dL_law_1806 (by omega) (by omega) ?_
  refine r_aload_n hC dL_law_1807 rfl ?_
  refine r_iload_n hC dL_law_1808 rfl ?_
  refine r_iconst hC dL_law_1809 rfl ?_
  refine r_iaddE hC (3) dL_law_1810 rfl (inR_lit rfl) ?_
  refine m_sald hM dL_law_1811 (by omega) (by omega) ?_
  refine r_aload_n hC dL_law_1812 rfl ?_
  refine r_iload_n hC dL_law_1813 rfl ?_
  refine r_iconst hC dL_law_1814 rfl ?_
  refine r_iaddE hC (4) dL_law_1815 rfl (inR_lit rfl) ?_
  refine m_sald hM dL_law_1816 (by omega) (by omega) ?_
  refine m_inv4 hM dL_law_1817 vl_RL_185 rfl rfl rfl (Nat.le_of_ble_eq_true rfl) (Nat.le_of_ble_eq_true rfl) ?_
  refine d0_link hR ?_
  refine r_icmp_eq (tgt := 2215) hC dL_law_1820 rfl (fun h3 => ?_) (fun h3 => by omega)
  refine r_iincE hC (6) dL_law_2215 rfl rfl rfl (inR_lit rfl) ?_
  refine r_goto (tgt := 18) hC dL_law_2218 rfl ?_
  exact law_out hM hEnd hScr hL (Or.inl rfl) (a := none)
theorem law_case41 {K : Nat → Lc → List Vl → Mm → Prop} {d : Nat} {Lz : Int} {Sx : Int → Int} (hM : StpM cL_law RL (WP (d + 6)) K) (hEnd : ∀ (pc : Nat) (ls : Lc) (μ : Mm), decode cL_law pc = .ok (.ireturn, 1) → K pc ls [vI 1] μ) (hScr : ∀ {pc : Nat} {ls : Lc} {st : List Vl} {μ : Mm}, ((μ 0 0 (-1) = Lz) ∧ (∀ j : Int, 0 ≤ j → j < Lz → μ 0 0 j = Sx j) → K pc ls st μ) → K pc ls st μ) (hL : 0 ≤ Lz ∧ Lz ≤ 6) (h6 : Lz = 6) {τ : Mm} (hF : FrC τ) (hR : FrR τ) : K 1825 [some (vR 0 0), some (vR 2 0), some (vR 30 0), some (vI 0)] [] τ := by
  have hC := hM.1
  refine hScr (fun hz => ?_)
  have hz1 := hz.1
  refine r_aload_n hC dL_law_1825 rfl ?_
  refine r_aload_n hC dL_law_1826 rfl ?_
  refine r_iload_n hC dL_law_1827 rfl ?_
  refine r_iconst hC dL_law_1828 rfl ?_
  refine r_iaddE hC (1) dL_law_1829 rfl (inR_lit rfl) ?_
  refine m_sald hM dL_law_1830 (by omega) (by omega) ?_
  refine m_inv1 hM dL_law_1831 vl_RL_186 rfl rfl rfl (Nat.le_of_ble_eq_true rfl) (Nat.le_of_ble_eq_true rfl) ?_
  refine c0_unlink hF ?_
  refine r_aload_n hC dL_law_1834 rfl ?_
  refine r_aload_n hC dL_law_1835 rfl ?_
  refine r_iload_n hC dL_law_1836 rfl ?_
  refine r_iconst hC dL_law_1837 rfl ?_
  refine r_iaddE hC (1) dL_law_1838 rfl (inR_lit rfl) ?_
  refine m_sald hM dL_law_1839 (by omega) (by omega) ?_
  refine m_inv1 hM dL_law_1840 vl_RL_189 rfl rfl rfl (Nat.le_of_ble_eq_true rfl) (Nat.le_of_ble_eq_true rfl) ?_
  refine d0_unlink hR ?_
  refine r_icmp_eq (tgt := 2215) hC dL_law_1843 rfl (fun h3 => ?_) (fun h3 => by omega)
  refine r_iincE hC (6) dL_law_2215 rfl rfl rfl (inR_lit rfl) ?_
  refine r_goto (tgt := 18) hC dL_law_2218 rfl ?_
  exact law_out hM hEnd hScr hL (Or.inl rfl) (a := none)
theorem law_case42 {K : Nat → Lc → List Vl → Mm → Prop} {d : Nat} {Lz : Int} {Sx : Int → Int} (hM : StpM cL_law RL (WP (d + 6)) K) (hEnd : ∀ (pc : Nat) (ls : Lc) (μ : Mm), decode cL_law pc = .ok (.ireturn, 1) → K pc ls [vI 1] μ) (hScr : ∀ {pc : Nat} {ls : Lc} {st : List Vl} {μ : Mm}, ((μ 0 0 (-1) = Lz) ∧ (∀ j : Int, 0 ≤ j → j < Lz → μ 0 0 j = Sx j) → K pc ls st μ) → K pc ls st μ) (hL : 0 ≤ Lz ∧ Lz ≤ 6) (h6 : Lz = 6) {τ : Mm} (hF : FrC τ) (hR : FrR τ) : K 1848 [some (vR 0 0), some (vR 2 0), some (vR 30 0), some (vI 0)] [] τ := by
  have hC := hM.1
  refine hScr (fun hz => ?_)
  have hz1 := hz.1
  refine r_aload_n hC dL_law_1848 rfl ?_
  refine r_aload_n hC dL_law_1849 rfl ?_
  refine r_iload_n hC dL_law_1850 rfl ?_
  refine r_iconst hC dL_law_1851 rfl ?_
  refine r_iaddE hC (1) dL_law_1852 rfl (inR_lit rfl) ?_
  refine m_sald hM dL_law_1853 (by omega) (by omega) ?_
  refine r_aload_n hC dL_law_1854 rfl ?_
  refine r_iload_n hC dL_law_1855 rfl ?_
  refine r_iconst hC dL_law_1856 rfl ?_
  refine r_iaddE hC (2) dL_law_1857 rfl (inR_lit rfl) ?_
  refine m_sald hM dL_law_1858 (by omega) (by omega) ?_
  refine m_inv2 hM dL_law_1859 vl_RL_190 rfl rfl rfl (Nat.le_of_ble_eq_true rfl) (Nat.le_of_ble_eq_true rfl) ?_
  refine c0_linked hF ?_
  refine r_aload_n hC dL_law_1862 rfl ?_
  refine r_aload_n hC dL_law_1863 rfl ?_
  refine r_iload_n hC dL_law_1864 rfl ?_
  refine r_iconst hC dL_law_1865 rfl ?_
  refine r_iaddE hC (1) dL_law_1866 rfl (inR_lit rfl) ?_
  refine m_sald hM dL_law_1867 (by omega) (by omega) ?_
  refine r_aload_n hC dL_law_1868 rfl ?_
  refine r_iload_n hC dL_law_1869 rfl ?_
  refine r_iconst hC dL_law_1870 rfl ?_
  refine r_iaddE hC (2) dL_law_1871 rfl (inR_lit rfl) ?_
  refine m_sald hM dL_law_1872 (by omega) (by omega) ?_
  refine m_inv2 hM dL_law_1873 vl_RL_193 rfl rfl rfl (Nat.le_of_ble_eq_true rfl) (Nat.le_of_ble_eq_true rfl) ?_
  refine d0_linked hR ?_
  refine r_icmp_eq (tgt := 2215) hC dL_law_1876 rfl (fun h3 => ?_) (fun h3 => by omega)
  refine r_iincE hC (6) dL_law_2215 rfl rfl rfl (inR_lit rfl) ?_
  refine r_goto (tgt := 18) hC dL_law_2218 rfl ?_
  exact law_out hM hEnd hScr hL (Or.inl rfl) (a := none)
theorem law_case43 {K : Nat → Lc → List Vl → Mm → Prop} {d : Nat} {Lz : Int} {Sx : Int → Int} (hM : StpM cL_law RL (WP (d + 6)) K) (hEnd : ∀ (pc : Nat) (ls : Lc) (μ : Mm), decode cL_law pc = .ok (.ireturn, 1) → K pc ls [vI 1] μ) (hScr : ∀ {pc : Nat} {ls : Lc} {st : List Vl} {μ : Mm}, ((μ 0 0 (-1) = Lz) ∧ (∀ j : Int, 0 ≤ j → j < Lz → μ 0 0 j = Sx j) → K pc ls st μ) → K pc ls st μ) (hL : 0 ≤ Lz ∧ Lz ≤ 6) (h6 : Lz = 6) {τ : Mm} (hF : FrC τ) (hR : FrR τ) : K 1881 [some (vR 0 0), some (vR 2 0), some (vR 30 0), some (vI 0)] [] τ := by
  have hC := hM.1
  refine hScr (fun hz => ?_)
  have hz1 := hz.1
  refine r_aload_n hC dL_law_1881 rfl ?_
  refine r_aload_n hC dL_law_1882 rfl ?_
  refine r_iload_n hC dL_law_1883 rfl ?_
  refine r_iconst hC dL_law_1884 rfl ?_
  refine r_iaddE hC (1) dL_law_1885 rfl (inR_lit rfl) ?_
  refine m_sald hM dL_law_1886 (by omega) (by omega) ?_
  refine r_aload_n hC dL_law_1887 rfl ?_
  refine r_iload_n hC dL_law_1888 rfl ?_
  refine r_iconst hC dL_law_1889 rfl ?_
  refine r_iaddE hC (2) dL_law_1890 rfl (inR_lit rfl) ?_
  refine m_sald hM dL_law_1891 (by omega) (by omega) ?_
  refine r_aload_n hC dL_law_1892 rfl ?_
  refine r_iload_n hC dL_law_1893 rfl ?_
  refine r_iconst hC dL_law_1894 rfl ?_
  refine r_iaddE hC (3) dL_law_1895 rfl (inR_lit rfl) ?_
  refine m_sald hM dL_law_1896 (by omega) (by omega) ?_
  refine r_aload_n hC dL_law_1897 rfl ?_
  refine r_iload_n hC dL_law_1898 rfl ?_
  refine r_iconst hC dL_law_1899 rfl ?_
  refine r_iaddE hC (4) dL_law_1900 rfl (inR_lit rfl) ?_
  refine m_sald hM dL_law_1901 (by omega) (by omega) ?_
  refine m_inv4 hM dL_law_1902 vl_RL_194 rfl rfl rfl (Nat.le_of_ble_eq_true rfl) (Nat.le_of_ble_eq_true rfl) ?_
  refine c0_shortest hF ?_
  refine r_aload_n hC dL_law_1905 rfl ?_
  refine r_aload_n hC dL_law_1906 rfl ?_
  refine r_iload_n hC dL_law_1907 rfl ?_
  refine r_iconst hC dL_law_1908 rfl ?_
  refine r_iaddE hC (1) dL_law_1909 rfl (inR_lit rfl) ?_
  refine m_sald hM dL_law_1910 (by omega) (by omega) ?_
  refine r_aload_n hC dL_law_1911 rfl ?_
  refine r_iload_n hC dL_law_1912 rfl ?_
  refine r_iconst hC dL_law_1913 rfl ?_
  refine r_iaddE hC (2) dL_law_1914 rfl (inR_lit rfl) ?_
  refine m_sald hM dL_law_1915 (by omega) (by omega) ?_
  refine r_aload_n hC dL_law_1916 rfl ?_
  refine r_iload_n hC dL_law_1917 rfl ?_
  refine r_iconst hC dL_law_1918 rfl ?_
  refine r_iaddE hC (3) dL_law_1919 rfl (inR_lit rfl) ?_
  refine m_sald hM dL_law_1920 (by omega) (by omega) ?_
  refine r_aload_n hC dL_law_1921 rfl ?_
  refine r_iload_n hC dL_law_1922 rfl ?_
  refine r_iconst hC dL_law_1923 rfl ?_
  refine r_iaddE hC (4) dL_law_1924 rfl (inR_lit rfl) ?_
  refine m_sald hM dL_law_1925 (by omega) (by omega) ?_
  refine m_inv4 hM dL_law_1926 vl_RL_197 rfl rfl rfl (Nat.le_of_ble_eq_true rfl) (Nat.le_of_ble_eq_true rfl) ?_
  refine d0_shortest hR ?_
  refine r_icmp_eq (tgt := 2215) hC dL_law_1929 rfl (fun h3 => ?_) (fun h3 => by omega)
  refine r_iincE hC (6) dL_law_2215 rfl rfl rfl (inR_lit rfl) ?_
  refine r_goto (tgt := 18) hC dL_law_2218 rfl ?_
  exact law_out hM hEnd hScr hL (Or.inl rfl) (a := none)
theorem law_case44 {K : Nat → Lc → List Vl → Mm → Prop} {d : Nat} {Lz : Int} {Sx : Int → Int} (hM : StpM cL_law RL (WP (d + 6)) K) (hEnd : ∀ (pc : Nat) (ls : Lc) (μ : Mm), decode cL_law pc = .ok (.ireturn, 1) → K pc ls [vI 1] μ) (hScr : ∀ {pc : Nat} {ls : Lc} {st : List Vl} {μ : Mm}, ((μ 0 0 (-1) = Lz) ∧ (∀ j : Int, 0 ≤ j → j < Lz → μ 0 0 j = Sx j) → K pc ls st μ) → K pc ls st μ) (hL : 0 ≤ Lz ∧ Lz ≤ 6) (h6 : Lz = 6) {τ : Mm} (hF : FrC τ) (hR : FrR τ) : K 1934 [some (vR 0 0), some (vR 2 0), some (vR 30 0), some (vI 0)] [] τ := by
  have hC := hM.1
  refine hScr (fun hz => ?_)
  have hz1 := hz.1
  refine r_aload_n hC dL_law_1934 rfl ?_
  refine r_aload_n hC dL_law_1935 rfl ?_
  refine r_iload_n hC dL_law_1936 rfl ?_
  refine r_iconst hC dL_law_1937 rfl ?_
  refine r_iaddE hC (1) dL_law_1938 rfl (inR_lit rfl) ?_
  refine m_sald hM dL_law_1939 (by omega) (by omega) ?_
  refine r_aload_n hC dL_law_1940 rfl ?_
  refine r_iload_n hC dL_law_1941 rfl ?_
  refine r_iconst hC dL_law_1942 rfl ?_
  refine r_iaddE hC (2) dL_law_1943 rfl (inR_lit rfl) ?_
  refine m_sald hM dL_law_1944 (by omega) (by omega) ?_
  refine r_aload_n hC dL_law_1945 rfl ?_
  refine r_iload_n hC dL_law_1946 rfl ?_
  refine r_iconst hC dL_law_1947 rfl ?_
  refine r_iaddE hC (3) dL_law_1948 rfl (inR_lit rfl) ?_
  refine m_sald hM dL_law_1949 (by omega) (by omega) ?_
  refine r_aload_n hC dL_law_1950 rfl ?_
  refine r_iload_n hC dL_law_1951 rfl ?_
  refine r_iconst hC dL_law_1952 rfl ?_
  refine r_iaddE hC (4) dL_law_1953 rfl (inR_lit rfl) ?_
  refine m_sald hM dL_law_1954 (by omega) (by omega) ?_
  refine m_inv4 hM dL_law_1955 vl_RL_198 rfl rfl rfl (Nat.le_of_ble_eq_true rfl) (Nat.le_of_ble_eq_true rfl) ?_
  refine c0_windows hF ?_
  refine r_aload_n hC dL_law_1958 rfl ?_
  refine r_aload_n hC dL_law_1959 rfl ?_
  refine r_iload_n hC dL_law_1960 rfl ?_
  refine r_iconst hC dL_law_1961 rfl ?_
  refine r_iaddE hC (1) dL_law_1962 rfl (inR_lit rfl) ?_
  refine m_sald hM dL_law_1963 (by omega) (by omega) ?_
  refine r_aload_n hC dL_law_1964 rfl ?_
  refine r_iload_n hC dL_law_1965 rfl ?_
  refine r_iconst hC dL_law_1966 rfl ?_
  refine r_iaddE hC (2) dL_law_1967 rfl (inR_lit rfl) ?_
  refine m_sald hM dL_law_1968 (by omega) (by omega) ?_
  refine r_aload_n hC dL_law_1969 rfl ?_
  refine r_iload_n hC dL_law_1970 rfl ?_
  refine r_iconst hC dL_law_1971 rfl ?_
  refine r_iaddE hC (3) dL_law_1972 rfl (inR_lit rfl) ?_
  refine m_sald hM dL_law_1973 (by omega) (by omega) ?_
  refine r_aload_n hC dL_law_1974 rfl ?_
  refine r_iload_n hC dL_law_1975 rfl ?_
  refine r_iconst hC dL_law_1976 rfl ?_
  refine r_iaddE hC (4) dL_law_1977 rfl (inR_lit rfl) ?_
  refine m_sald hM dL_law_1978 (by omega) (by omega) ?_
  refine m_inv4 hM dL_law_1979 vl_RL_201 rfl rfl rfl (Nat.le_of_ble_eq_true rfl) (Nat.le_of_ble_eq_true rfl) ?_
  refine d0_windows hR ?_
  refine r_icmp_eq (tgt := 2215) hC dL_law_1982 rfl (fun h3 => ?_) (fun h3 => by omega)
  refine r_iincE hC (6) dL_law_2215 rfl rfl rfl (inR_lit rfl) ?_
  refine r_goto (tgt := 18) hC dL_law_2218 rfl ?_
  exact law_out hM hEnd hScr hL (Or.inl rfl) (a := none)
theorem law_case45 {K : Nat → Lc → List Vl → Mm → Prop} {d : Nat} {Lz : Int} {Sx : Int → Int} (hM : StpM cL_law RL (WP (d + 6)) K) (hEnd : ∀ (pc : Nat) (ls : Lc) (μ : Mm), decode cL_law pc = .ok (.ireturn, 1) → K pc ls [vI 1] μ) (hScr : ∀ {pc : Nat} {ls : Lc} {st : List Vl} {μ : Mm}, ((μ 0 0 (-1) = Lz) ∧ (∀ j : Int, 0 ≤ j → j < Lz → μ 0 0 j = Sx j) → K pc ls st μ) → K pc ls st μ) (hL : 0 ≤ Lz ∧ Lz ≤ 6) (h6 : Lz = 6) {τ : Mm} (hF : FrC τ) (hR : FrR τ) : K 1987 [some (vR 0 0), some (vR 2 0), some (vR 30 0), some (vI 0)] [] τ := by
  have hC := hM.1
  refine hScr (fun hz => ?_)
  have hz1 := hz.1
  refine r_aload_n hC dL_law_1987 rfl ?_
  refine r_aload_n hC dL_law_1988 rfl ?_
  refine r_iload_n hC dL_law_1989 rfl ?_
  refine r_iconst hC dL_law_1990 rfl ?_
  refine r_iaddE hC (1) dL_law_1991 rfl (inR_lit rfl) ?_
  refine m_sald hM dL_law_1992 (by omega) (by omega) ?_
  refine r_aload_n hC dL_law_1993 rfl ?_
  refine r_iload_n hC dL_law_1994 rfl ?_
  refine r_iconst hC dL_law_1995 rfl ?_
  refine r_iaddE hC (2) dL_law_1996 rfl (inR_lit rfl) ?_
  refine m_sald hM dL_law_1997 (by omega) (by omega) ?_
  refine r_aload_n hC dL_law_1998 rfl ?_
  refine r_iload_n hC dL_law_1999 rfl ?_
  refine r_iconst hC dL_law_2000 rfl ?_
  refine r_iaddE hC (3) dL_law_2001 rfl (inR_lit rfl) ?_
  refine m_sald hM dL_law_2002 (by omega) (by omega) ?_
  refine r_aload_n hC dL_law_2003 rfl ?_
  refine r_iload_n hC dL_law_2004 rfl ?_
  refine r_iconst hC dL_law_2005 rfl ?_
  refine r_iaddE hC (4) dL_law_2006 rfl (inR_lit rfl) ?_
  refine m_sald hM dL_law_2007 (by omega) (by omega) ?_
  refine m_inv4 hM dL_law_2008 vl_RL_202 rfl rfl rfl (Nat.le_of_ble_eq_true rfl) (Nat.le_of_ble_eq_true rfl) ?_
  refine c0_were hF ?_
  refine r_aload_n hC dL_law_2011 rfl ?_
  refine r_aload_n hC dL_law_2012 rfl ?_
  refine r_iload_n hC dL_law_2013 rfl ?_
  refine r_iconst hC dL_law_2014 rfl ?_
  refine r_iaddE hC (1) dL_law_2015 rfl (inR_lit rfl) ?_
  refine m_sald hM dL_law_2016 (by omega) (by omega) ?_
  refine r_aload_n hC dL_law_2017 rfl ?_
  refine r_iload_n hC dL_law_2018 rfl ?_
  refine r_iconst hC dL_law_2019 rfl ?_
  refine r_iaddE hC (2) dL_law_2020 rfl (inR_lit rfl) ?_
  refine m_sald hM dL_law_2021 (by omega) (by omega) ?_
  refine r_aload_n hC dL_law_2022 rfl ?_
  refine r_iload_n hC dL_law_2023 rfl ?_
  refine r_iconst hC dL_law_2024 rfl ?_
  refine r_iaddE hC (3) dL_law_2025 rfl (inR_lit rfl) ?_
  refine m_sald hM dL_law_2026 (by omega) (by omega) ?_
  refine r_aload_n hC dL_law_2027 rfl ?_
  refine r_iload_n hC dL_law_2028 rfl ?_
  refine r_iconst hC dL_law_2029 rfl ?_
  refine r_iaddE hC (4) dL_law_2030 rfl (inR_lit rfl) ?_
  refine m_sald hM dL_law_2031 (by omega) (by omega) ?_
  refine m_inv4 hM dL_law_2032 vl_RL_205 rfl rfl rfl (Nat.le_of_ble_eq_true rfl) (Nat.le_of_ble_eq_true rfl) ?_
  refine d0_were hR ?_
  refine r_icmp_eq (tgt := 2215) hC dL_law_2035 rfl (fun h3 => ?_) (fun h3 => by omega)
  refine r_iincE hC (6) dL_law_2215 rfl rfl rfl (inR_lit rfl) ?_
  refine r_goto (tgt := 18) hC dL_law_2218 rfl ?_
  exact law_out hM hEnd hScr hL (Or.inl rfl) (a := none)
theorem law_case46 {K : Nat → Lc → List Vl → Mm → Prop} {d : Nat} {Lz : Int} {Sx : Int → Int} (hM : StpM cL_law RL (WP (d + 6)) K) (hEnd : ∀ (pc : Nat) (ls : Lc) (μ : Mm), decode cL_law pc = .ok (.ireturn, 1) → K pc ls [vI 1] μ) (hScr : ∀ {pc : Nat} {ls : Lc} {st : List Vl} {μ : Mm}, ((μ 0 0 (-1) = Lz) ∧ (∀ j : Int, 0 ≤ j → j < Lz → μ 0 0 j = Sx j) → K pc ls st μ) → K pc ls st μ) (hL : 0 ≤ Lz ∧ Lz ≤ 6) (h6 : Lz = 6) {τ : Mm} (hF : FrC τ) (hR : FrR τ) : K 2040 [some (vR 0 0), some (vR 2 0), some (vR 30 0), some (vI 0)] [] τ := by
  have hC := hM.1
  refine hScr (fun hz => ?_)
  have hz1 := hz.1
  refine r_aload_n hC dL_law_2040 rfl ?_
  refine r_aload_n hC dL_law_2041 rfl ?_
  refine r_iload_n hC dL_law_2042 rfl ?_
  refine r_iconst hC dL_law_2043 rfl ?_
  refine r_iaddE hC (1) dL_law_2044 rfl (inR_lit rfl) ?_
  refine m_sald hM dL_law_2045 (by omega) (by omega) ?_
  refine r_aload_n hC dL_law_2046 rfl ?_
  refine r_iload_n hC dL_law_2047 rfl ?_
  refine r_iconst hC dL_law_2048 rfl ?_
  refine r_iaddE hC (2) dL_law_2049 rfl (inR_lit rfl) ?_
  refine m_sald hM dL_law_2050 (by omega) (by omega) ?_
  refine r_aload_n hC dL_law_2051 rfl ?_
  refine r_iload_n hC dL_law_2052 rfl ?_
  refine r_iconst hC dL_law_2053 rfl ?_
  refine r_iaddE hC (3) dL_law_2054 rfl (inR_lit rfl) ?_
  refine m_sald hM dL_law_2055 (by omega) (by omega) ?_
  refine m_inv3 hM dL_law_2056 vl_RL_206 rfl rfl rfl (Nat.le_of_ble_eq_true rfl) (Nat.le_of_ble_eq_true rfl) ?_
  refine c0_cost hF ?_
  refine r_aload_n hC dL_law_2059 rfl ?_
  refine r_aload_n hC dL_law_2060 rfl ?_
  refine r_iload_n hC dL_law_2061 rfl ?_
  refine r_iconst hC dL_law_2062 rfl ?_
  refine r_iaddE hC (1) dL_law_2063 rfl (inR_lit rfl) ?_
  refine m_sald hM dL_law_2064 (by omega) (by omega) ?_
  refine r_aload_n hC dL_law_2065 rfl ?_
  refine r_iload_n hC dL_law_2066 rfl ?_
  refine r_iconst hC dL_law_2067 rfl ?_
  refine r_iaddE hC (2) dL_law_2068 rfl (inR_lit rfl) ?_
  refine m_sald hM dL_law_2069 (by omega) (by omega) ?_
  refine r_aload_n hC dL_law_2070 rfl ?_
  refine r_iload_n hC dL_law_2071 rfl ?_
  refine r_iconst hC dL_law_2072 rfl ?_
  refine r_iaddE hC (3) dL_law_2073 rfl (inR_lit rfl) ?_
  refine m_sald hM dL_law_2074 (by omega) (by omega) ?_
  refine m_inv3 hM dL_law_2075 vl_RL_209 rfl rfl rfl (Nat.le_of_ble_eq_true rfl) (Nat.le_of_ble_eq_true rfl) ?_
  refine d0_cost hR ?_
  refine r_icmp_eq (tgt := 2215) hC dL_law_2078 rfl (fun h3 => ?_) (fun h3 => by omega)
  refine r_iincE hC (6) dL_law_2215 rfl rfl rfl (inR_lit rfl) ?_
  refine r_goto (tgt := 18) hC dL_law_2218 rfl ?_
  exact law_out hM hEnd hScr hL (Or.inl rfl) (a := none)
theorem law_case47 {K : Nat → Lc → List Vl → Mm → Prop} {d : Nat} {Lz : Int} {Sx : Int → Int} (hM : StpM cL_law RL (WP (d + 6)) K) (hEnd : ∀ (pc : Nat) (ls : Lc) (μ : Mm), decode cL_law pc = .ok (.ireturn, 1) → K pc ls [vI 1] μ) (hScr : ∀ {pc : Nat} {ls : Lc} {st : List Vl} {μ : Mm}, ((μ 0 0 (-1) = Lz) ∧ (∀ j : Int, 0 ≤ j → j < Lz → μ 0 0 j = Sx j) → K pc ls st μ) → K pc ls st μ) (hL : 0 ≤ Lz ∧ Lz ≤ 6) (h6 : Lz = 6) {τ : Mm} (hF : FrC τ) (hR : FrR τ) : K 2083 [some (vR 0 0), some (vR 2 0), some (vR 30 0), some (vI 0)] [] τ := by
  have hC := hM.1
  refine hScr (fun hz => ?_)
  have hz1 := hz.1
  refine r_aload_n hC dL_law_2083 rfl ?_
  refine r_aload_n hC dL_law_2084 rfl ?_
  refine r_iload_n hC dL_law_2085 rfl ?_
  refine r_iconst hC dL_law_2086 rfl ?_
  refine r_iaddE hC (1) dL_law_2087 rfl (inR_lit rfl) ?_
  refine m_sald hM dL_law_2088 (by omega) (by omega) ?_
  refine r_aload_n hC dL_law_2089 rfl ?_
  refine r_iload_n hC dL_law_2090 rfl ?_
  refine r_iconst hC dL_law_2091 rfl ?_
  refine r_iaddE hC (2) dL_law_2092 rfl (inR_lit rfl) ?_
  refine m_sald hM dL_law_2093 (by omega) (by omega) ?_
  refine r_aload_n hC dL_law_2094 rfl ?_
  refine r_iload_n hC dL_law_2095 rfl ?_
  refine r_iconst hC dL_law_2096 rfl ?_
  refine r_iaddE hC (3) dL_law_2097 rfl (inR_lit rfl) ?_
  refine m_sald hM dL_law_2098 (by omega) (by omega) ?_
  refine r_aload_n hC dL_law_2099 rfl ?_
  refine r_iload_n hC dL_law_2100 rfl ?_
  refine r_iconst hC dL_law_2101 rfl ?_
  refine r_iaddE hC (4) dL_law_2102 rfl (inR_lit rfl) ?_
  refine m_sald hM dL_law_2103 (by omega) (by omega) ?_
  refine m_inv4 hM dL_law_2104 vl_RL_210 rfl rfl rfl (Nat.le_of_ble_eq_true rfl) (Nat.le_of_ble_eq_true rfl) ?_
  refine c0_parted hF ?_
  refine r_aload_n hC dL_law_2107 rfl ?_
  refine r_aload_n hC dL_law_2108 rfl ?_
  refine r_iload_n hC dL_law_2109 rfl ?_
  refine r_iconst hC dL_law_2110 rfl ?_
  refine r_iaddE hC (1) dL_law_2111 rfl (inR_lit rfl) ?_
  refine m_sald hM dL_law_2112 (by omega) (by omega) ?_
  refine r_aload_n hC dL_law_2113 rfl ?_
  refine r_iload_n hC dL_law_2114 rfl ?_
  refine r_iconst hC dL_law_2115 rfl ?_
  refine r_iaddE hC (2) dL_law_2116 rfl (inR_lit rfl) ?_
  refine m_sald hM dL_law_2117 (by omega) (by omega) ?_
  refine r_aload_n hC dL_law_2118 rfl ?_
  refine r_iload_n hC dL_law_2119 rfl ?_
  refine r_iconst hC dL_law_2120 rfl ?_
  refine r_iaddE hC (3) dL_law_2121 rfl (inR_lit rfl) ?_
  refine m_sald hM dL_law_2122 (by omega) (by omega) ?_
  refine r_aload_n hC dL_law_2123 rfl ?_
  refine r_iload_n hC dL_law_2124 rfl ?_
  refine r_iconst hC dL_law_2125 rfl ?_
  refine r_iaddE hC (4) dL_law_2126 rfl (inR_lit rfl) ?_
  refine m_sald hM dL_law_2127 (by omega) (by omega) ?_
  refine m_inv4 hM dL_law_2128 vl_RL_213 rfl rfl rfl (Nat.le_of_ble_eq_true rfl) (Nat.le_of_ble_eq_true rfl) ?_
  refine d0_parted hR ?_
  refine r_icmp_eq (tgt := 2215) hC dL_law_2131 rfl (fun h3 => ?_) (fun h3 => by omega)
  refine r_iincE hC (6) dL_law_2215 rfl rfl rfl (inR_lit rfl) ?_
  refine r_goto (tgt := 18) hC dL_law_2218 rfl ?_
  exact law_out hM hEnd hScr hL (Or.inl rfl) (a := none)
theorem law_case48 {K : Nat → Lc → List Vl → Mm → Prop} {d : Nat} {Lz : Int} {Sx : Int → Int} (hM : StpM cL_law RL (WP (d + 6)) K) (hEnd : ∀ (pc : Nat) (ls : Lc) (μ : Mm), decode cL_law pc = .ok (.ireturn, 1) → K pc ls [vI 1] μ) (hScr : ∀ {pc : Nat} {ls : Lc} {st : List Vl} {μ : Mm}, ((μ 0 0 (-1) = Lz) ∧ (∀ j : Int, 0 ≤ j → j < Lz → μ 0 0 j = Sx j) → K pc ls st μ) → K pc ls st μ) (hL : 0 ≤ Lz ∧ Lz ≤ 6) (h6 : Lz = 6) {τ : Mm} (hF : FrC τ) (hR : FrR τ) : K 2136 [some (vR 0 0), some (vR 2 0), some (vR 30 0), some (vI 0)] [] τ := by
  have hC := hM.1
  refine hScr (fun hz => ?_)
  have hz1 := hz.1
  refine r_aload_n hC dL_law_2136 rfl ?_
  refine r_aload_n hC dL_law_2137 rfl ?_
  refine r_iload_n hC dL_law_2138 rfl ?_
  refine r_iconst hC dL_law_2139 rfl ?_
  refine r_iaddE hC (1) dL_law_2140 rfl (inR_lit rfl) ?_
  refine m_sald hM dL_law_2141 (by omega) (by omega) ?_
  refine r_aload_n hC dL_law_2142 rfl ?_
  refine r_iload_n hC dL_law_2143 rfl ?_
  refine r_iconst hC dL_law_2144 rfl ?_
  refine r_iaddE hC (2) dL_law_2145 rfl (inR_lit rfl) ?_
  refine m_sald hM dL_law_2146 (by omega) (by omega) ?_
  refine m_inv2 hM dL_law_2147 vl_RL_214 rfl rfl rfl (Nat.le_of_ble_eq_true rfl) (Nat.le_of_ble_eq_true rfl) ?_
  refine c0_keep hF ?_
  refine r_aload_n hC dL_law_2150 rfl ?_
  refine r_aload_n hC dL_law_2151 rfl ?_
  refine r_iload_n hC dL_law_2152 rfl ?_
  refine r_iconst hC dL_law_2153 rfl ?_
  refine r_iaddE hC (1) dL_law_2154 rfl (inR_lit rfl) ?_
  refine m_sald hM dL_law_2155 (by omega) (by omega) ?_
  refine r_aload_n hC dL_law_2156 rfl ?_
  refine r_iload_n hC dL_law_2157 rfl ?_
  refine r_iconst hC dL_law_2158 rfl ?_
  refine r_iaddE hC (2) dL_law_2159 rfl (inR_lit rfl) ?_
  refine m_sald hM dL_law_2160 (by omega) (by omega) ?_
  refine m_inv2 hM dL_law_2161 vl_RL_217 rfl rfl rfl (Nat.le_of_ble_eq_true rfl) (Nat.le_of_ble_eq_true rfl) ?_
  refine d0_keep hR ?_
  refine r_icmp_eq (tgt := 2215) hC dL_law_2164 rfl (fun h3 => ?_) (fun h3 => by omega)
  refine r_iincE hC (6) dL_law_2215 rfl rfl rfl (inR_lit rfl) ?_
  refine r_goto (tgt := 18) hC dL_law_2218 rfl ?_
  exact law_out hM hEnd hScr hL (Or.inl rfl) (a := none)
theorem law_case49 {K : Nat → Lc → List Vl → Mm → Prop} {d : Nat} {Lz : Int} {Sx : Int → Int} (hM : StpM cL_law RL (WP (d + 6)) K) (hEnd : ∀ (pc : Nat) (ls : Lc) (μ : Mm), decode cL_law pc = .ok (.ireturn, 1) → K pc ls [vI 1] μ) (hScr : ∀ {pc : Nat} {ls : Lc} {st : List Vl} {μ : Mm}, ((μ 0 0 (-1) = Lz) ∧ (∀ j : Int, 0 ≤ j → j < Lz → μ 0 0 j = Sx j) → K pc ls st μ) → K pc ls st μ) (hL : 0 ≤ Lz ∧ Lz ≤ 6) (h6 : Lz = 6) {τ : Mm} (hF : FrC τ) (hR : FrR τ) : K 2169 [some (vR 0 0), some (vR 2 0), some (vR 30 0), some (vI 0)] [] τ := by
  have hC := hM.1
  refine hScr (fun hz => ?_)
  have hz1 := hz.1
  refine r_aload_n hC dL_law_2169 rfl ?_
  refine r_aload_n hC dL_law_2170 rfl ?_
  refine r_iload_n hC dL_law_2171 rfl ?_
  refine r_iconst hC dL_law_2172 rfl ?_
  refine r_iaddE hC (1) dL_law_2173 rfl (inR_lit rfl) ?_
  refine m_sald hM dL_law_2174 (by omega) (by omega) ?_
  refine m_inv1 hM dL_law_2175 vl_RL_218 rfl rfl rfl (Nat.le_of_ble_eq_true rfl) (Nat.le_of_ble_eq_true rfl) ?_
  refine c0_back hF ?_
  refine r_aload_n hC dL_law_2178 rfl ?_
  refine r_aload_n hC dL_law_2179 rfl ?_
  refine r_iload_n hC dL_law_2180 rfl ?_
  refine r_iconst hC dL_law_2181 rfl ?_
  refine r_iaddE hC (1) dL_law_2182 rfl (inR_lit rfl) ?_
  refine m_sald hM dL_law_2183 (by omega) (by omega) ?_
  refine m_inv1 hM dL_law_2184 vl_RL_221 rfl rfl rfl (Nat.le_of_ble_eq_true rfl) (Nat.le_of_ble_eq_true rfl) ?_
  refine d0_back hR ?_
  refine r_icmp_eq (tgt := 2215) hC dL_law_2187 rfl (fun h3 => ?_) (fun h3 => by omega)
  refine r_iincE hC (6) dL_law_2215 rfl rfl rfl (inR_lit rfl) ?_
  refine r_goto (tgt := 18) hC dL_law_2218 rfl ?_
  exact law_out hM hEnd hScr hL (Or.inl rfl) (a := none)
theorem law_case50 {K : Nat → Lc → List Vl → Mm → Prop} {d : Nat} {Lz : Int} {Sx : Int → Int} (hM : StpM cL_law RL (WP (d + 6)) K) (hEnd : ∀ (pc : Nat) (ls : Lc) (μ : Mm), decode cL_law pc = .ok (.ireturn, 1) → K pc ls [vI 1] μ) (hScr : ∀ {pc : Nat} {ls : Lc} {st : List Vl} {μ : Mm}, ((μ 0 0 (-1) = Lz) ∧ (∀ j : Int, 0 ≤ j → j < Lz → μ 0 0 j = Sx j) → K pc ls st μ) → K pc ls st μ) (hL : 0 ≤ Lz ∧ Lz ≤ 6) (h6 : Lz = 6) {τ : Mm} (hF : FrC τ) (hR : FrR τ) : K 2192 [some (vR 0 0), some (vR 2 0), some (vR 30 0), some (vI 0)] [] τ := by
  have hC := hM.1
  refine hScr (fun hz => ?_)
  have hz1 := hz.1
  refine r_aload_n hC dL_law_2192 rfl ?_
  refine r_aload_n hC dL_law_2193 rfl ?_
  refine r_iload_n hC dL_law_2194 rfl ?_
  refine r_iconst hC dL_law_2195 rfl ?_
  refine r_iaddE hC (1) dL_law_2196 rfl (inR_lit rfl) ?_
  refine m_sald hM dL_law_2197 (by omega) (by omega) ?_
  refine m_inv1 hM dL_law_2198 vl_RL_222 rfl rfl rfl (Nat.le_of_ble_eq_true rfl) (Nat.le_of_ble_eq_true rfl) ?_
  refine c0_about hF (fun rh1 h1 => ?_)
  refine r_aload_n hC dL_law_2201 rfl ?_
  refine r_aload_n hC dL_law_2202 rfl ?_
  refine r_iload_n hC dL_law_2203 rfl ?_
  refine r_iconst hC dL_law_2204 rfl ?_
  refine r_iaddE hC (1) dL_law_2205 rfl (inR_lit rfl) ?_
  refine m_sald hM dL_law_2206 (by omega) (by omega) ?_
  refine m_inv1 hM dL_law_2207 vl_RL_225 rfl rfl rfl (Nat.le_of_ble_eq_true rfl) (Nat.le_of_ble_eq_true rfl) ?_
  refine d0_about hR (fun rh2 h2 => ?_)
  refine r_icmp_eq (tgt := 2215) hC dL_law_2210 rfl (fun h3 => ?_) (fun h3 => by omega)
  refine r_iincE hC (6) dL_law_2215 rfl rfl rfl (inR_lit rfl) ?_
  refine r_goto (tgt := 18) hC dL_law_2218 rfl ?_
  exact law_out hM hEnd hScr hL (Or.inl rfl) (a := none)
theorem law_caseD {K : Nat → Lc → List Vl → Mm → Prop} {d : Nat} {Lz : Int} {Sx : Int → Int} (hM : StpM cL_law RL (WP (d + 6)) K) (hEnd : ∀ (pc : Nat) (ls : Lc) (μ : Mm), decode cL_law pc = .ok (.ireturn, 1) → K pc ls [vI 1] μ) (hScr : ∀ {pc : Nat} {ls : Lc} {st : List Vl} {μ : Mm}, ((μ 0 0 (-1) = Lz) ∧ (∀ j : Int, 0 ≤ j → j < Lz → μ 0 0 j = Sx j) → K pc ls st μ) → K pc ls st μ) (hL : 0 ≤ Lz ∧ Lz ≤ 6) (h6 : Lz = 6) {τ : Mm} (hF : FrC τ) (hR : FrR τ) : K 2215 [some (vR 0 0), some (vR 2 0), some (vR 30 0), some (vI 0)] [] τ := by
  have hC := hM.1
  refine hScr (fun hz => ?_)
  have hz1 := hz.1
  refine r_iincE hC (6) dL_law_2215 rfl rfl rfl (inR_lit rfl) ?_
  refine r_goto (tgt := 18) hC dL_law_2218 rfl ?_
  exact law_out hM hEnd hScr hL (Or.inl rfl) (a := none)
theorem law_pure {K : Nat → Lc → List Vl → Mm → Prop} {d : Nat} {Lz : Int} {Sx : Int → Int} (hM : StpM cL_law RL (WP (d + 6)) K) (hEnd : ∀ (pc : Nat) (ls : Lc) (μ : Mm), decode cL_law pc = .ok (.ireturn, 1) → K pc ls [vI 1] μ) (hScr : ∀ {pc : Nat} {ls : Lc} {st : List Vl} {μ : Mm}, ((μ 0 0 (-1) = Lz) ∧ (∀ j : Int, 0 ≤ j → j < Lz → μ 0 0 j = Sx j) → K pc ls st μ) → K pc ls st μ) (hL : 0 ≤ Lz ∧ Lz ≤ 6) {τ : Mm} (hF : FrC τ) (hR : FrR τ) : K 16 [some (vR 0 0), some (vR 2 0), some (vR 30 0), none] [] τ := by
  have hC := hM.1
  refine r_iconst hC dL_law_16 rfl ?_
  refine r_istore_n hC dL_law_17 rfl ?_
  show K _ [_, _, _, _] _ _
  rcases Int.lt_or_le Lz 6 with h6 | h6
  · exact law_out hM hEnd hScr hL (Or.inr ⟨rfl, h6⟩) (a := none)
  · have h6 : Lz = 6 := by omega
    refine hScr (fun hz => ?_)
    have hz1 := hz.1
    refine r_iload_n hC dL_law_18 rfl ?_
    refine r_aload_n hC dL_law_19 rfl ?_
    refine m_slen hM dL_law_20 ?_
    refine r_bipush hC dL_law_21 rfl ?_
    refine r_isubS hC dL_law_23 (by unfold inR; omega) ?_
    refine r_icmp_gt (tgt := 2221) hC dL_law_24 rfl (fun h => by omega) (fun h => ?_)
    refine r_aload_n hC dL_law_27 rfl ?_
    refine r_iload_n hC dL_law_28 rfl ?_
    refine m_sald hM dL_law_29 (by omega) (by omega) ?_
    refine r_bipush hC dL_law_30 rfl ?_
    refine r_iand hC dL_law_32 ?_
    have hr := iand63 (τ 0 0 0)
    rcases Int.lt_or_le 50 (iand (τ 0 0 0) 63) with q | q
    · refine r_tableOut (tgt := 2215) hC dL_law_33 (Or.inr q) rfl ?_
      exact law_caseD hM hEnd hScr hL h6 hF hR
    · rcases Int.lt_or_le (iand (τ 0 0 0) 63) 26 with q0_50 | q0_50
      · rcases Int.lt_or_le (iand (τ 0 0 0) 63) 13 with q0_25 | q0_25
        · rcases Int.lt_or_le (iand (τ 0 0 0) 63) 7 with q0_12 | q0_12
          · rcases Int.lt_or_le (iand (τ 0 0 0) 63) 4 with q0_6 | q0_6
            · rcases Int.lt_or_le (iand (τ 0 0 0) 63) 2 with q0_3 | q0_3
              · rcases Int.lt_or_le (iand (τ 0 0 0) 63) 1 with q0_1 | q0_1
                · have hv : iand (τ 0 0 0) 63 = 0 := by omega
                  refine r_tableIn (tgt := 252) (off := 219) hC dL_law_33 (by omega) (by omega) (by rw [hv]; rfl) rfl ?_
                  exact law_case0 hM hEnd hScr hL h6 hF hR
                · have hv : iand (τ 0 0 0) 63 = 1 := by omega
                  refine r_tableIn (tgt := 285) (off := 252) hC dL_law_33 (by omega) (by omega) (by rw [hv]; rfl) rfl ?_
                  exact law_case1 hM hEnd hScr hL h6 hF hR
              · rcases Int.lt_or_le (iand (τ 0 0 0) 63) 3 with q2_3 | q2_3
                · have hv : iand (τ 0 0 0) 63 = 2 := by omega
                  refine r_tableIn (tgt := 318) (off := 285) hC dL_law_33 (by omega) (by omega) (by rw [hv]; rfl) rfl ?_
                  exact law_case2 hM hEnd hScr hL h6 hF hR
                · have hv : iand (τ 0 0 0) 63 = 3 := by omega
                  refine r_tableIn (tgt := 341) (off := 308) hC dL_law_33 (by omega) (by omega) (by rw [hv]; rfl) rfl ?_
                  exact law_case3 hM hEnd hScr hL h6 hF hR
            · rcases Int.lt_or_le (iand (τ 0 0 0) 63) 6 with q4_6 | q4_6
              · rcases Int.lt_or_le (iand (τ 0 0 0) 63) 5 with q4_5 | q4_5
                · have hv : iand (τ 0 0 0) 63 = 4 := by omega
                  refine r_tableIn (tgt := 364) (off := 331) hC dL_law_33 (by omega) (by omega) (by rw [hv]; rfl) rfl ?_
                  exact law_case4 hM hEnd hScr hL h6 hF hR
                · have hv : iand (τ 0 0 0) 63 = 5 := by omega
                  refine r_tableIn (tgt := 427) (off := 394) hC dL_law_33 (by omega) (by omega) (by rw [hv]; rfl) rfl ?_
                  exact law_case5 hM hEnd hScr hL h6 hF hR
              · have hv : iand (τ 0 0 0) 63 = 6 := by omega
                refine r_tableIn (tgt := 450) (off := 417) hC dL_law_33 (by omega) (by omega) (by rw [hv]; rfl) rfl ?_
                exact law_case6 hM hEnd hScr hL h6 hF hR
          · rcases Int.lt_or_le (iand (τ 0 0 0) 63) 10 with q7_12 | q7_12
            · rcases Int.lt_or_le (iand (τ 0 0 0) 63) 9 with q7_9 | q7_9
              · rcases Int.lt_or_le (iand (τ 0 0 0) 63) 8 with q7_8 | q7_8
                · have hv : iand (τ 0 0 0) 63 = 7 := by omega
                  refine r_tableIn (tgt := 493) (off := 460) hC dL_law_33 (by omega) (by omega) (by rw [hv]; rfl) rfl ?_
                  exact law_case7 hM hEnd hScr hL h6 hF hR
                · have hv : iand (τ 0 0 0) 63 = 8 := by omega
                  refine r_tableIn (tgt := 546) (off := 513) hC dL_law_33 (by omega) (by omega) (by rw [hv]; rfl) rfl ?_
                  exact law_case8 hM hEnd hScr hL h6 hF hR
              · have hv : iand (τ 0 0 0) 63 = 9 := by omega
                refine r_tableIn (tgt := 579) (off := 546) hC dL_law_33 (by omega) (by omega) (by rw [hv]; rfl) rfl ?_
                exact law_case9 hM hEnd hScr hL h6 hF hR
            · rcases Int.lt_or_le (iand (τ 0 0 0) 63) 12 with q10_12 | q10_12
              · rcases Int.lt_or_le (iand (τ 0 0 0) 63) 11 with q10_11 | q10_11
                · have hv : iand (τ 0 0 0) 63 = 10 := by omega
                  refine r_tableIn (tgt := 612) (off := 579) hC dL_law_33 (by omega) (by omega) (by rw [hv]; rfl) rfl ?_
                  exact law_case10 hM hEnd hScr hL h6 hF hR
                · have hv : iand (τ 0 0 0) 63 = 11 := by omega
                  refine r_tableIn (tgt := 645) (off := 612) hC dL_law_33 (by omega) (by omega) (by rw [hv]; rfl) rfl ?_
                  exact law_case11 hM hEnd hScr hL h6 hF hR
              · have hv : iand (τ 0 0 0) 63 = 12 := by omega
                refine r_tableIn (tgt := 688) (off := 655) hC dL_law_33 (by omega) (by omega) (by rw [hv]; rfl) rfl ?_
                exact law_case12 hM hEnd hScr hL h6 hF hR
        · rcases Int.lt_or_le (iand (τ 0 0 0) 63) 20 with q13_25 | q13_25
          · rcases Int.lt_or_le (iand (τ 0 0 0) 63) 17 with q13_19 | q13_19
            · rcases Int.lt_or_le (iand (τ 0 0 0) 63) 15 with q13_16 | q13_16
              · rcases Int.lt_or_le (iand (τ 0 0 0) 63) 14 with q13_14 | q13_14
                · have hv : iand (τ 0 0 0) 63 = 13 := by omega
                  refine r_tableIn (tgt := 731) (off := 698) hC dL_law_33 (by omega) (by omega) (by rw [hv]; rfl) rfl ?_
                  exact law_case13 hM hEnd hScr hL h6 hF hR
                · have hv : iand (τ 0 0 0) 63 = 14 := by omega
                  refine r_tableIn (tgt := 764) (off := 731) hC dL_law_33 (by omega) (by omega) (by rw [hv]; rfl) rfl ?_
                  exact law_case14 hM hEnd hScr hL h6 hF hR
              · rcases Int.lt_or_le (iand (τ 0 0 0) 63) 16 with q15_16 | q15_16
                · have hv : iand (τ 0 0 0) 63 = 15 := by omega
                  refine r_tableIn (tgt := 817) (off := 784) hC dL_law_33 (by omega) (by omega) (by rw [hv]; rfl) rfl ?_
                  exact law_case15 hM hEnd hScr hL h6 hF hR
                · have hv : iand (τ 0 0 0) 63 = 16 := by omega
                  refine r_tableIn (tgt := 870) (off := 837) hC dL_law_33 (by omega) (by omega) (by rw [hv]; rfl) rfl ?_
                  exact law_case16 hM hEnd hScr hL h6 hF hR
            · rcases Int.lt_or_le (iand (τ 0 0 0) 63) 19 with q17_19 | q17_19
              · rcases Int.lt_or_le (iand (τ 0 0 0) 63) 18 with q17_18 | q17_18
                · have hv : iand (τ 0 0 0) 63 = 17 := by omega
                  refine r_tableIn (tgt := 913) (off := 880) hC dL_law_33 (by omega) (by omega) (by rw [hv]; rfl) rfl ?_
                  exact law_case17 hM hEnd hScr hL h6 hF hR
                · have hv : iand (τ 0 0 0) 63 = 18 := by omega
                  refine r_tableIn (tgt := 956) (off := 923) hC dL_law_33 (by omega) (by omega) (by rw [hv]; rfl) rfl ?_
                  exact law_case18 hM hEnd hScr hL h6 hF hR
              · have hv : iand (τ 0 0 0) 63 = 19 := by omega
                refine r_tableIn (tgt := 999) (off := 966) hC dL_law_33 (by omega) (by omega) (by rw [hv]; rfl) rfl ?_
                exact law_case19 hM hEnd hScr hL h6 hF hR
          · rcases Int.lt_or_le (iand (τ 0 0 0) 63) 23 with q20_25 | q20_25
            · rcases Int.lt_or_le (iand (τ 0 0 0) 63) 22 with q20_22 | q20_22
              · rcases Int.lt_or_le (iand (τ 0 0 0) 63) 21 with q20_21 | q20_21
                · have hv : iand (τ 0 0 0) 63 = 20 := by omega
                  refine r_tableIn (tgt := 1042) (off := 1009) hC dL_law_33 (by omega) (by omega) (by rw [hv]; rfl) rfl ?_
                  exact law_case20 hM hEnd hScr hL h6 hF hR
                · have hv : iand (τ 0 0 0) 63 = 21 := by omega
                  refine r_tableIn (tgt := 1085) (off := 1052) hC dL_law_33 (by omega) (by omega) (by rw [hv]; rfl) rfl ?_
                  exact law_case21 hM hEnd hScr hL h6 hF hR
              · have hv : iand (τ 0 0 0) 63 = 22 := by omega
                refine r_tableIn (tgt := 1128) (off := 1095) hC dL_law_33 (by omega) (by omega) (by rw [hv]; rfl) rfl ?_
                exact law_case22 hM hEnd hScr hL h6 hF hR
            · rcases Int.lt_or_le (iand (τ 0 0 0) 63) 25 with q23_25 | q23_25
              · rcases Int.lt_or_le (iand (τ 0 0 0) 63) 24 with q23_24 | q23_24
                · have hv : iand (τ 0 0 0) 63 = 23 := by omega
                  refine r_tableIn (tgt := 1161) (off := 1128) hC dL_law_33 (by omega) (by omega) (by rw [hv]; rfl) rfl ?_
                  exact law_case23 hM hEnd hScr hL h6 hF hR
                · have hv : iand (τ 0 0 0) 63 = 24 := by omega
                  refine r_tableIn (tgt := 1194) (off := 1161) hC dL_law_33 (by omega) (by omega) (by rw [hv]; rfl) rfl ?_
                  exact law_case24 hM hEnd hScr hL h6 hF hR
              · have hv : iand (τ 0 0 0) 63 = 25 := by omega
                refine r_tableIn (tgt := 1227) (off := 1194) hC dL_law_33 (by omega) (by omega) (by rw [hv]; rfl) rfl ?_
                exact law_case25 hM hEnd hScr hL h6 hF hR
      · rcases Int.lt_or_le (iand (τ 0 0 0) 63) 39 with q26_50 | q26_50
        · rcases Int.lt_or_le (iand (τ 0 0 0) 63) 33 with q26_38 | q26_38
          · rcases Int.lt_or_le (iand (τ 0 0 0) 63) 30 with q26_32 | q26_32
            · rcases Int.lt_or_le (iand (τ 0 0 0) 63) 28 with q26_29 | q26_29
              · rcases Int.lt_or_le (iand (τ 0 0 0) 63) 27 with q26_27 | q26_27
                · have hv : iand (τ 0 0 0) 63 = 26 := by omega
                  refine r_tableIn (tgt := 1270) (off := 1237) hC dL_law_33 (by omega) (by omega) (by rw [hv]; rfl) rfl ?_
                  exact law_case26 hM hEnd hScr hL h6 hF hR
                · have hv : iand (τ 0 0 0) 63 = 27 := by omega
                  refine r_tableIn (tgt := 1313) (off := 1280) hC dL_law_33 (by omega) (by omega) (by rw [hv]; rfl) rfl ?_
                  exact law_case27 hM hEnd hScr hL h6 hF hR
              · rcases Int.lt_or_le (iand (τ 0 0 0) 63) 29 with q28_29 | q28_29
                · have hv : iand (τ 0 0 0) 63 = 28 := by omega
                  refine r_tableIn (tgt := 1346) (off := 1313) hC dL_law_33 (by omega) (by omega) (by rw [hv]; rfl) rfl ?_
                  exact law_case28 hM hEnd hScr hL h6 hF hR
                · have hv : iand (τ 0 0 0) 63 = 29 := by omega
                  refine r_tableIn (tgt := 1379) (off := 1346) hC dL_law_33 (by omega) (by omega) (by rw [hv]; rfl) rfl ?_
                  exact law_case29 hM hEnd hScr hL h6 hF hR
            · rcases Int.lt_or_le (iand (τ 0 0 0) 63) 32 with q30_32 | q30_32
              · rcases Int.lt_or_le (iand (τ 0 0 0) 63) 31 with q30_31 | q30_31
                · have hv : iand (τ 0 0 0) 63 = 30 := by omega
                  refine r_tableIn (tgt := 1412) (off := 1379) hC dL_law_33 (by omega) (by omega) (by rw [hv]; rfl) rfl ?_
                  exact law_case30 hM hEnd hScr hL h6 hF hR
                · have hv : iand (τ 0 0 0) 63 = 31 := by omega
                  refine r_tableIn (tgt := 1445) (off := 1412) hC dL_law_33 (by omega) (by omega) (by rw [hv]; rfl) rfl ?_
                  exact law_case31 hM hEnd hScr hL h6 hF hR
              · have hv : iand (τ 0 0 0) 63 = 32 := by omega
                refine r_tableIn (tgt := 1498) (off := 1465) hC dL_law_33 (by omega) (by omega) (by rw [hv]; rfl) rfl ?_
                exact law_case32 hM hEnd hScr hL h6 hF hR
          · rcases Int.lt_or_le (iand (τ 0 0 0) 63) 36 with q33_38 | q33_38
            · rcases Int.lt_or_le (iand (τ 0 0 0) 63) 35 with q33_35 | q33_35
              · rcases Int.lt_or_le (iand (τ 0 0 0) 63) 34 with q33_34 | q33_34
                · have hv : iand (τ 0 0 0) 63 = 33 := by omega
                  refine r_tableIn (tgt := 1531) (off := 1498) hC dL_law_33 (by omega) (by omega) (by rw [hv]; rfl) rfl ?_
                  exact law_case33 hM hEnd hScr hL h6 hF hR
                · have hv : iand (τ 0 0 0) 63 = 34 := by omega
                  refine r_tableIn (tgt := 1574) (off := 1541) hC dL_law_33 (by omega) (by omega) (by rw [hv]; rfl) rfl ?_
                  exact law_case34 hM hEnd hScr hL h6 hF hR
              · have hv : iand (τ 0 0 0) 63 = 35 := by omega
                refine r_tableIn (tgt := 1607) (off := 1574) hC dL_law_33 (by omega) (by omega) (by rw [hv]; rfl) rfl ?_
                exact law_case35 hM hEnd hScr hL h6 hF hR
            · rcases Int.lt_or_le (iand (τ 0 0 0) 63) 38 with q36_38 | q36_38
              · rcases Int.lt_or_le (iand (τ 0 0 0) 63) 37 with q36_37 | q36_37
                · have hv : iand (τ 0 0 0) 63 = 36 := by omega
                  refine r_tableIn (tgt := 1640) (off := 1607) hC dL_law_33 (by omega) (by omega) (by rw [hv]; rfl) rfl ?_
                  exact law_case36 hM hEnd hScr hL h6 hF hR
                · have hv : iand (τ 0 0 0) 63 = 37 := by omega
                  refine r_tableIn (tgt := 1673) (off := 1640) hC dL_law_33 (by omega) (by omega) (by rw [hv]; rfl) rfl ?_
                  exact law_case37 hM hEnd hScr hL h6 hF hR
              · have hv : iand (τ 0 0 0) 63 = 38 := by omega
                refine r_tableIn (tgt := 1726) (off := 1693) hC dL_law_33 (by omega) (by omega) (by rw [hv]; rfl) rfl ?_
                exact law_case38 hM hEnd hScr hL h6 hF hR
        · rcases Int.lt_or_le (iand (τ 0 0 0) 63) 45 with q39_50 | q39_50
          · rcases Int.lt_or_le (iand (τ 0 0 0) 63) 42 with q39_44 | q39_44
            · rcases Int.lt_or_le (iand (τ 0 0 0) 63) 41 with q39_41 | q39_41
              · rcases Int.lt_or_le (iand (τ 0 0 0) 63) 40 with q39_40 | q39_40
                · have hv : iand (τ 0 0 0) 63 = 39 := by omega
                  refine r_tableIn (tgt := 1749) (off := 1716) hC dL_law_33 (by omega) (by omega) (by rw [hv]; rfl) rfl ?_
                  exact law_case39 hM hEnd hScr hL h6 hF hR
                · have hv : iand (τ 0 0 0) 63 = 40 := by omega
                  refine r_tableIn (tgt := 1772) (off := 1739) hC dL_law_33 (by omega) (by omega) (by rw [hv]; rfl) rfl ?_
                  exact law_case40 hM hEnd hScr hL h6 hF hR
              · have hv : iand (τ 0 0 0) 63 = 41 := by omega
                refine r_tableIn (tgt := 1825) (off := 1792) hC dL_law_33 (by omega) (by omega) (by rw [hv]; rfl) rfl ?_
                exact law_case41 hM hEnd hScr hL h6 hF hR
            · rcases Int.lt_or_le (iand (τ 0 0 0) 63) 44 with q42_44 | q42_44
              · rcases Int.lt_or_le (iand (τ 0 0 0) 63) 43 with q42_43 | q42_43
                · have hv : iand (τ 0 0 0) 63 = 42 := by omega
                  refine r_tableIn (tgt := 1848) (off := 1815) hC dL_law_33 (by omega) (by omega) (by rw [hv]; rfl) rfl ?_
                  exact law_case42 hM hEnd hScr hL h6 hF hR
                · have hv : iand (τ 0 0 0) 63 = 43 := by omega
                  refine r_tableIn (tgt := 1881) (off := 1848) hC dL_law_33 (by omega) (by omega) (by rw [hv]; rfl) rfl ?_
                  exact law_case43 hM hEnd hScr hL h6 hF hR
              · have hv : iand (τ 0 0 0) 63 = 44 := by omega
                refine r_tableIn (tgt := 1934) (off := 1901) hC dL_law_33 (by omega) (by omega) (by rw [hv]; rfl) rfl ?_
                exact law_case44 hM hEnd hScr hL h6 hF hR
          · rcases Int.lt_or_le (iand (τ 0 0 0) 63) 48 with q45_50 | q45_50
            · rcases Int.lt_or_le (iand (τ 0 0 0) 63) 47 with q45_47 | q45_47
              · rcases Int.lt_or_le (iand (τ 0 0 0) 63) 46 with q45_46 | q45_46
                · have hv : iand (τ 0 0 0) 63 = 45 := by omega
                  refine r_tableIn (tgt := 1987) (off := 1954) hC dL_law_33 (by omega) (by omega) (by rw [hv]; rfl) rfl ?_
                  exact law_case45 hM hEnd hScr hL h6 hF hR
                · have hv : iand (τ 0 0 0) 63 = 46 := by omega
                  refine r_tableIn (tgt := 2040) (off := 2007) hC dL_law_33 (by omega) (by omega) (by rw [hv]; rfl) rfl ?_
                  exact law_case46 hM hEnd hScr hL h6 hF hR
              · have hv : iand (τ 0 0 0) 63 = 47 := by omega
                refine r_tableIn (tgt := 2083) (off := 2050) hC dL_law_33 (by omega) (by omega) (by rw [hv]; rfl) rfl ?_
                exact law_case47 hM hEnd hScr hL h6 hF hR
            · rcases Int.lt_or_le (iand (τ 0 0 0) 63) 50 with q48_50 | q48_50
              · rcases Int.lt_or_le (iand (τ 0 0 0) 63) 49 with q48_49 | q48_49
                · have hv : iand (τ 0 0 0) 63 = 48 := by omega
                  refine r_tableIn (tgt := 2136) (off := 2103) hC dL_law_33 (by omega) (by omega) (by rw [hv]; rfl) rfl ?_
                  exact law_case48 hM hEnd hScr hL h6 hF hR
                · have hv : iand (τ 0 0 0) 63 = 49 := by omega
                  refine r_tableIn (tgt := 2169) (off := 2136) hC dL_law_33 (by omega) (by omega) (by rw [hv]; rfl) rfl ?_
                  exact law_case49 hM hEnd hScr hL h6 hF hR
              · have hv : iand (τ 0 0 0) 63 = 50 := by omega
                refine r_tableIn (tgt := 2192) (off := 2159) hC dL_law_33 (by omega) (by omega) (by rw [hv]; rfl) rfl ?_
                exact law_case50 hM hEnd hScr hL h6 hF hR
