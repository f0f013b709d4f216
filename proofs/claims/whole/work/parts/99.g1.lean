/-! THE LAW: the rules it needs of its own, its cases -/
def mL_law : ZM := (yL_law, cL_law, 4, some .boolean, room_1)
/-- what the law ends with, where it began at an empty world with one argument -/
def lF : ZF := fun s args below A t => (∀ q, A q → s.heap.size ≤ q) → (∃ b : Nat, args = #[Value.ref b]) → lw_Z below args s t
theorem r32 (a : Int32) : i32 a.toInt := by
  have h1 := Int32.le_toInt a
  have h2 := Int32.toInt_lt a
  constructor <;> omega
section ZLr
variable {Γ : ZG} {M : ZM} {F : ZF} {G : List GK} {cs ss pc q : Nat} {ls : List (Option AV)} {st : List AV} {mem : Mem}
theorem aw_icmp_same {a off : Int} {tgt : Nat} (hdg : decode M.2.1 pc = .ok (.if_icmp .eq off, 3)) (ht : (pc : Int) + off = (tgt : Int)) (kt : AW Γ M F G cs ss tgt ls st mem) : AW Γ M F G cs ss pc ls (vI a :: vI a :: st) mem := by
  intro p e s m args below meth c H locs A lsC hC hK hX hA hP hD hS hL
  exact lv_icmp_eq hC.1 hC.2.1 hdg ht (fun _ => kt p e s m args below meth c H locs A lsC hC hK hX hA hP hD hS hL) (fun h => absurd rfl h)
theorem aw_lcmp_same {a : Int} (hdg : decode M.2.1 pc = .ok (.lcmp, 1)) (hq : pc + 1 = q) (k : AW Γ M F G cs ss q ls (vI 0 :: st) mem) : AW Γ M F G cs ss pc ls (vL a :: vL a :: st) mem := by
  subst hq
  have e : lg_cmp (Int64.ofInt a) (Int64.ofInt a) = Int32.ofInt 0 := by
    unfold lg_cmp
    rw [if_neg (by show ¬ Int64.ofInt a < Int64.ofInt a; rw [Int64.lt_iff_toInt_lt]; omega), if_pos rfl]
    rfl
  exact AW.pure (fun p e0 s m args below meth c H locs lsC Qf hC hL kk => W.lcmp hC.1 hC.2.1 hdg (by rw [e]; exact kk)) k
end ZLr
section ZLc
variable {Γ : ZG} {mem : Mem}
abbrev LwK (Γ : ZG) (i : Int) (cs ss pc : Nat) (mem : Mem) : Prop := AW Γ mL_law lF zG cs ss pc [some (vR 9999), some (vR 0), some (vR 109), some (vI i)] [] mem
theorem lc_0 {i : Int} (hI : Inv mem) (hi : 0 ≤ i ∧ i + 5 ≤ Γ.2.2.2.2.1) (hn : Γ.2.2.2.2.1 ≤ 320) (k : ∀ m2 : Mem, Inv m2 → LwK Γ i 121 2260 1427 m2) : LwK Γ i 121 2260 208 mem := by
  refine aw_aload_n dL_law_208 rfl rfl ?_
  refine aw_aload_n dL_law_209 rfl rfl ?_
  refine aw_iload_n dL_law_210 rfl rfl ?_
  refine aw_iconst dL_law_211 rfl ?_
  refine aw_iadd dL_law_212 rfl ?_
  refine aw_sload dL_law_213 rfl (by omega) (by omega) ?_
  refine aw_callV [_] _ dL_law_214 rfl clv_L_13 (by decide) ⟨Nat.le_of_ble_eq_true rfl, Nat.le_of_ble_eq_true rfl⟩ g0 (by rfl) (Nat.le_of_ble_eq_true rfl) rfl ?_
  refine st_feed hI (r32 _) _ (fun a m1 hk => ?_)
  refine aw_aload_n dL_law_217 rfl rfl ?_
  refine aw_aload_n dL_law_218 rfl rfl ?_
  refine aw_iload_n dL_law_219 rfl rfl ?_
  refine aw_iconst dL_law_220 rfl ?_
  refine aw_iadd dL_law_221 rfl ?_
  refine aw_sload dL_law_222 rfl (by omega) (by omega) ?_
  refine aw_callV [_] _ dL_law_223 rfl clv_L_17 (by decide) ⟨Nat.le_of_ble_eq_true rfl, Nat.le_of_ble_eq_true rfl⟩ g109 (by rfl) (Nat.le_of_ble_eq_true rfl) rfl ?_
  refine hk _ (fun m2 hI2 => ?_)
  exact aw_icmp_same dL_law_226 (by decide) (k m2 hI2)
theorem lc_1 {i : Int} (hI : Inv mem) (hi : 0 ≤ i ∧ i + 5 ≤ Γ.2.2.2.2.1) (hn : Γ.2.2.2.2.1 ≤ 320) (k : ∀ m2 : Mem, Inv m2 → LwK Γ i 121 2260 1427 m2) : LwK Γ i 121 2260 231 mem := by
  refine aw_aload_n dL_law_231 rfl rfl ?_
  refine aw_aload_n dL_law_232 rfl rfl ?_
  refine aw_iload_n dL_law_233 rfl rfl ?_
  refine aw_iconst dL_law_234 rfl ?_
  refine aw_iadd dL_law_235 rfl ?_
  refine aw_sload dL_law_236 rfl (by omega) (by omega) ?_
  refine aw_callV [_] _ dL_law_237 rfl clv_L_18 (by decide) ⟨Nat.le_of_ble_eq_true rfl, Nat.le_of_ble_eq_true rfl⟩ g0 (by rfl) (Nat.le_of_ble_eq_true rfl) rfl ?_
  refine st_end hI (r32 _) _ (fun a m1 hk => ?_)
  refine aw_aload_n dL_law_240 rfl rfl ?_
  refine aw_aload_n dL_law_241 rfl rfl ?_
  refine aw_iload_n dL_law_242 rfl rfl ?_
  refine aw_iconst dL_law_243 rfl ?_
  refine aw_iadd dL_law_244 rfl ?_
  refine aw_sload dL_law_245 rfl (by omega) (by omega) ?_
  refine aw_callV [_] _ dL_law_246 rfl clv_L_21 (by decide) ⟨Nat.le_of_ble_eq_true rfl, Nat.le_of_ble_eq_true rfl⟩ g109 (by rfl) (Nat.le_of_ble_eq_true rfl) rfl ?_
  refine hk _ (fun m2 hI2 => ?_)
  exact aw_icmp_same dL_law_249 (by decide) (k m2 hI2)
theorem lc_2 {i : Int} (hI : Inv mem) (hi : 0 ≤ i ∧ i + 5 ≤ Γ.2.2.2.2.1) (hn : Γ.2.2.2.2.1 ≤ 320) (k : ∀ m2 : Mem, Inv m2 → LwK Γ i 121 2260 1427 m2) : LwK Γ i 121 2260 254 mem := by
  refine aw_aload_n dL_law_254 rfl rfl ?_
  refine aw_callV [] _ dL_law_255 rfl clv_L_22 (by decide) ⟨Nat.le_of_ble_eq_true rfl, Nat.le_of_ble_eq_true rfl⟩ g0 (by rfl) (Nat.le_of_ble_eq_true rfl) rfl ?_
  refine st_text hI  _ (fun a m1 hk => ?_)
  refine aw_aload_n dL_law_258 rfl rfl ?_
  refine aw_callV [] _ dL_law_259 rfl clv_L_26 (by decide) ⟨Nat.le_of_ble_eq_true rfl, Nat.le_of_ble_eq_true rfl⟩ g109 (by rfl) (Nat.le_of_ble_eq_true rfl) rfl ?_
  refine hk _ (fun m2 hI2 => ?_)
  exact aw_icmp_same dL_law_262 (by decide) (k m2 hI2)
theorem lc_3 {i : Int} (hI : Inv mem) (hi : 0 ≤ i ∧ i + 5 ≤ Γ.2.2.2.2.1) (hn : Γ.2.2.2.2.1 ≤ 320) (k : ∀ m2 : Mem, Inv m2 → LwK Γ i 121 2260 1427 m2) : LwK Γ i 121 2260 267 mem := by
  refine aw_aload_n dL_law_267 rfl rfl ?_
  refine aw_callV [] _ dL_law_268 rfl clv_L_27 (by decide) ⟨Nat.le_of_ble_eq_true rfl, Nat.le_of_ble_eq_true rfl⟩ g0 (by rfl) (Nat.le_of_ble_eq_true rfl) rfl ?_
  refine st_fault hI  _ (fun a m1 hk => ?_)
  refine aw_aload_n dL_law_271 rfl rfl ?_
  refine aw_callV [] _ dL_law_272 rfl clv_L_30 (by decide) ⟨Nat.le_of_ble_eq_true rfl, Nat.le_of_ble_eq_true rfl⟩ g109 (by rfl) (Nat.le_of_ble_eq_true rfl) rfl ?_
  refine hk _ (fun m2 hI2 => ?_)
  exact aw_icmp_same dL_law_275 (by decide) (k m2 hI2)
theorem lc_4 {i : Int} (hI : Inv mem) (hi : 0 ≤ i ∧ i + 5 ≤ Γ.2.2.2.2.1) (hn : Γ.2.2.2.2.1 ≤ 320) (k : ∀ m2 : Mem, Inv m2 → LwK Γ i 121 2260 1427 m2) : LwK Γ i 121 2260 280 mem := by
  refine aw_aload_n dL_law_280 rfl rfl ?_
  refine aw_aload_n dL_law_281 rfl rfl ?_
  refine aw_iload_n dL_law_282 rfl rfl ?_
  refine aw_iconst dL_law_283 rfl ?_
  refine aw_iadd dL_law_284 rfl ?_
  refine aw_sload dL_law_285 rfl (by omega) (by omega) ?_
  refine aw_callV [_] _ dL_law_286 rfl clv_L_31 (by decide) ⟨Nat.le_of_ble_eq_true rfl, Nat.le_of_ble_eq_true rfl⟩ g0 (by rfl) (Nat.le_of_ble_eq_true rfl) rfl ?_
  refine st_rule hI (r32 _) _ (fun a m1 hk => ?_)
  refine aw_aload_n dL_law_289 rfl rfl ?_
  refine aw_aload_n dL_law_290 rfl rfl ?_
  refine aw_iload_n dL_law_291 rfl rfl ?_
  refine aw_iconst dL_law_292 rfl ?_
  refine aw_iadd dL_law_293 rfl ?_
  refine aw_sload dL_law_294 rfl (by omega) (by omega) ?_
  refine aw_callV [_] _ dL_law_295 rfl clv_L_34 (by decide) ⟨Nat.le_of_ble_eq_true rfl, Nat.le_of_ble_eq_true rfl⟩ g109 (by rfl) (Nat.le_of_ble_eq_true rfl) rfl ?_
  refine hk _ (fun m2 hI2 => ?_)
  exact aw_icmp_same dL_law_298 (by decide) (k m2 hI2)
theorem lc_5 {i : Int} (hI : Inv mem) (hi : 0 ≤ i ∧ i + 5 ≤ Γ.2.2.2.2.1) (hn : Γ.2.2.2.2.1 ≤ 320) (k : ∀ m2 : Mem, Inv m2 → LwK Γ i 121 2260 1427 m2) : LwK Γ i 121 2260 303 mem := by
  refine aw_aload_n dL_law_303 rfl rfl ?_
  refine aw_aload_n dL_law_304 rfl rfl ?_
  refine aw_iload_n dL_law_305 rfl rfl ?_
  refine aw_iconst dL_law_306 rfl ?_
  refine aw_iadd dL_law_307 rfl ?_
  refine aw_sload dL_law_308 rfl (by omega) (by omega) ?_
  refine aw_callV [_] _ dL_law_309 rfl clv_L_35 (by decide) ⟨Nat.le_of_ble_eq_true rfl, Nat.le_of_ble_eq_true rfl⟩ g0 (by rfl) (Nat.le_of_ble_eq_true rfl) rfl ?_
  refine st_heat hI (r32 _) _ (fun a m1 hk => ?_)
  refine aw_aload_n dL_law_312 rfl rfl ?_
  refine aw_aload_n dL_law_313 rfl rfl ?_
  refine aw_iload_n dL_law_314 rfl rfl ?_
  refine aw_iconst dL_law_315 rfl ?_
  refine aw_iadd dL_law_316 rfl ?_
  refine aw_sload dL_law_317 rfl (by omega) (by omega) ?_
  refine aw_callV [_] _ dL_law_318 rfl clv_L_38 (by decide) ⟨Nat.le_of_ble_eq_true rfl, Nat.le_of_ble_eq_true rfl⟩ g109 (by rfl) (Nat.le_of_ble_eq_true rfl) rfl ?_
  refine hk _ (fun m2 hI2 => ?_)
  exact aw_icmp_same dL_law_321 (by decide) (k m2 hI2)
theorem lc_6 {i : Int} (hI : Inv mem) (hi : 0 ≤ i ∧ i + 5 ≤ Γ.2.2.2.2.1) (hn : Γ.2.2.2.2.1 ≤ 320) (k : ∀ m2 : Mem, Inv m2 → LwK Γ i 121 2260 1427 m2) : LwK Γ i 121 2260 326 mem := by
  refine aw_aload_n dL_law_326 rfl rfl ?_
  refine aw_aload_n dL_law_327 rfl rfl ?_
  refine aw_iload_n dL_law_328 rfl rfl ?_
  refine aw_iconst dL_law_329 rfl ?_
  refine aw_iadd dL_law_330 rfl ?_
  refine aw_sload dL_law_331 rfl (by omega) (by omega) ?_
  refine aw_aload_n dL_law_332 rfl rfl ?_
  refine aw_iload_n dL_law_333 rfl rfl ?_
  refine aw_iconst dL_law_334 rfl ?_
  refine aw_iadd dL_law_335 rfl ?_
  refine aw_sload dL_law_336 rfl (by omega) (by omega) ?_
  refine aw_callV [_, _] _ dL_law_337 rfl clv_L_39 (by decide) ⟨Nat.le_of_ble_eq_true rfl, Nat.le_of_ble_eq_true rfl⟩ g0 (by rfl) (Nat.le_of_ble_eq_true rfl) rfl ?_
  refine st_wood hI (r32 _) (r32 _) _ (fun a m1 hk => ?_)
  refine aw_aload_n dL_law_340 rfl rfl ?_
  refine aw_aload_n dL_law_341 rfl rfl ?_
  refine aw_iload_n dL_law_342 rfl rfl ?_
  refine aw_iconst dL_law_343 rfl ?_
  refine aw_iadd dL_law_344 rfl ?_
  refine aw_sload dL_law_345 rfl (by omega) (by omega) ?_
  refine aw_aload_n dL_law_346 rfl rfl ?_
  refine aw_iload_n dL_law_347 rfl rfl ?_
  refine aw_iconst dL_law_348 rfl ?_
  refine aw_iadd dL_law_349 rfl ?_
  refine aw_sload dL_law_350 rfl (by omega) (by omega) ?_
  refine aw_callV [_, _] _ dL_law_351 rfl clv_L_43 (by decide) ⟨Nat.le_of_ble_eq_true rfl, Nat.le_of_ble_eq_true rfl⟩ g109 (by rfl) (Nat.le_of_ble_eq_true rfl) rfl ?_
  refine hk _ (fun m2 hI2 => ?_)
  exact aw_icmp_same dL_law_354 (by decide) (k m2 hI2)
theorem lc_7 {i : Int} (hI : Inv mem) (hi : 0 ≤ i ∧ i + 5 ≤ Γ.2.2.2.2.1) (hn : Γ.2.2.2.2.1 ≤ 320) (k : ∀ m2 : Mem, Inv m2 → LwK Γ i 121 2260 1427 m2) : LwK Γ i 121 2260 359 mem := by
  refine aw_aload_n dL_law_359 rfl rfl ?_
  refine aw_aload_n dL_law_360 rfl rfl ?_
  refine aw_iload_n dL_law_361 rfl rfl ?_
  refine aw_iconst dL_law_362 rfl ?_
  refine aw_iadd dL_law_363 rfl ?_
  refine aw_sload dL_law_364 rfl (by omega) (by omega) ?_
  refine aw_aload_n dL_law_365 rfl rfl ?_
  refine aw_iload_n dL_law_366 rfl rfl ?_
  refine aw_iconst dL_law_367 rfl ?_
  refine aw_iadd dL_law_368 rfl ?_
  refine aw_sload dL_law_369 rfl (by omega) (by omega) ?_
  refine aw_callV [_, _] _ dL_law_370 rfl clv_L_44 (by decide) ⟨Nat.le_of_ble_eq_true rfl, Nat.le_of_ble_eq_true rfl⟩ g0 (by rfl) (Nat.le_of_ble_eq_true rfl) rfl ?_
  refine st_spud hI (r32 _) (r32 _) _ (fun a m1 hk => ?_)
  refine aw_aload_n dL_law_373 rfl rfl ?_
  refine aw_aload_n dL_law_374 rfl rfl ?_
  refine aw_iload_n dL_law_375 rfl rfl ?_
  refine aw_iconst dL_law_376 rfl ?_
  refine aw_iadd dL_law_377 rfl ?_
  refine aw_sload dL_law_378 rfl (by omega) (by omega) ?_
  refine aw_aload_n dL_law_379 rfl rfl ?_
  refine aw_iload_n dL_law_380 rfl rfl ?_
  refine aw_iconst dL_law_381 rfl ?_
  refine aw_iadd dL_law_382 rfl ?_
  refine aw_sload dL_law_383 rfl (by omega) (by omega) ?_
  refine aw_callV [_, _] _ dL_law_384 rfl clv_L_47 (by decide) ⟨Nat.le_of_ble_eq_true rfl, Nat.le_of_ble_eq_true rfl⟩ g109 (by rfl) (Nat.le_of_ble_eq_true rfl) rfl ?_
  refine hk _ (fun m2 hI2 => ?_)
  exact aw_icmp_same dL_law_387 (by decide) (k m2 hI2)
theorem lc_8 {i : Int} (hI : Inv mem) (hi : 0 ≤ i ∧ i + 5 ≤ Γ.2.2.2.2.1) (hn : Γ.2.2.2.2.1 ≤ 320) (k : ∀ m2 : Mem, Inv m2 → LwK Γ i 121 2260 1427 m2) : LwK Γ i 121 2260 392 mem := by
  refine aw_aload_n dL_law_392 rfl rfl ?_
  refine aw_aload_n dL_law_393 rfl rfl ?_
  refine aw_iload_n dL_law_394 rfl rfl ?_
  refine aw_iconst dL_law_395 rfl ?_
  refine aw_iadd dL_law_396 rfl ?_
  refine aw_sload dL_law_397 rfl (by omega) (by omega) ?_
  refine aw_aload_n dL_law_398 rfl rfl ?_
  refine aw_iload_n dL_law_399 rfl rfl ?_
  refine aw_iconst dL_law_400 rfl ?_
  refine aw_iadd dL_law_401 rfl ?_
  refine aw_sload dL_law_402 rfl (by omega) (by omega) ?_
  refine aw_callV [_, _] _ dL_law_403 rfl clv_L_48 (by decide) ⟨Nat.le_of_ble_eq_true rfl, Nat.le_of_ble_eq_true rfl⟩ g0 (by rfl) (Nat.le_of_ble_eq_true rfl) rfl ?_
  refine st_fan hI (r32 _) (r32 _) _ (fun a m1 hk => ?_)
  refine aw_aload_n dL_law_406 rfl rfl ?_
  refine aw_aload_n dL_law_407 rfl rfl ?_
  refine aw_iload_n dL_law_408 rfl rfl ?_
  refine aw_iconst dL_law_409 rfl ?_
  refine aw_iadd dL_law_410 rfl ?_
  refine aw_sload dL_law_411 rfl (by omega) (by omega) ?_
  refine aw_aload_n dL_law_412 rfl rfl ?_
  refine aw_iload_n dL_law_413 rfl rfl ?_
  refine aw_iconst dL_law_414 rfl ?_
  refine aw_iadd dL_law_415 rfl ?_
  refine aw_sload dL_law_416 rfl (by omega) (by omega) ?_
  refine aw_callV [_, _] _ dL_law_417 rfl clv_L_51 (by decide) ⟨Nat.le_of_ble_eq_true rfl, Nat.le_of_ble_eq_true rfl⟩ g109 (by rfl) (Nat.le_of_ble_eq_true rfl) rfl ?_
  refine hk _ (fun m2 hI2 => ?_)
  exact aw_icmp_same dL_law_420 (by decide) (k m2 hI2)
theorem lc_9 {i : Int} (hI : Inv mem) (hi : 0 ≤ i ∧ i + 5 ≤ Γ.2.2.2.2.1) (hn : Γ.2.2.2.2.1 ≤ 320) (k : ∀ m2 : Mem, Inv m2 → LwK Γ i 121 2260 1427 m2) : LwK Γ i 121 2260 425 mem := by
  refine aw_aload_n dL_law_425 rfl rfl ?_
  refine aw_aload_n dL_law_426 rfl rfl ?_
  refine aw_iload_n dL_law_427 rfl rfl ?_
  refine aw_iconst dL_law_428 rfl ?_
  refine aw_iadd dL_law_429 rfl ?_
  refine aw_sload dL_law_430 rfl (by omega) (by omega) ?_
  refine aw_aload_n dL_law_431 rfl rfl ?_
  refine aw_iload_n dL_law_432 rfl rfl ?_
  refine aw_iconst dL_law_433 rfl ?_
  refine aw_iadd dL_law_434 rfl ?_
  refine aw_sload dL_law_435 rfl (by omega) (by omega) ?_
  refine aw_callV [_, _] _ dL_law_436 rfl clv_L_52 (by decide) ⟨Nat.le_of_ble_eq_true rfl, Nat.le_of_ble_eq_true rfl⟩ g0 (by rfl) (Nat.le_of_ble_eq_true rfl) rfl ?_
  refine st_ash hI (r32 _) (r32 _) _ (fun a m1 hk => ?_)
  refine aw_aload_n dL_law_439 rfl rfl ?_
  refine aw_aload_n dL_law_440 rfl rfl ?_
  refine aw_iload_n dL_law_441 rfl rfl ?_
  refine aw_iconst dL_law_442 rfl ?_
  refine aw_iadd dL_law_443 rfl ?_
  refine aw_sload dL_law_444 rfl (by omega) (by omega) ?_
  refine aw_aload_n dL_law_445 rfl rfl ?_
  refine aw_iload_n dL_law_446 rfl rfl ?_
  refine aw_iconst dL_law_447 rfl ?_
  refine aw_iadd dL_law_448 rfl ?_
  refine aw_sload dL_law_449 rfl (by omega) (by omega) ?_
  refine aw_callV [_, _] _ dL_law_450 rfl clv_L_55 (by decide) ⟨Nat.le_of_ble_eq_true rfl, Nat.le_of_ble_eq_true rfl⟩ g109 (by rfl) (Nat.le_of_ble_eq_true rfl) rfl ?_
  refine hk _ (fun m2 hI2 => ?_)
  exact aw_icmp_same dL_law_453 (by decide) (k m2 hI2)
theorem lc_10 {i : Int} (hI : Inv mem) (hi : 0 ≤ i ∧ i + 5 ≤ Γ.2.2.2.2.1) (hn : Γ.2.2.2.2.1 ≤ 320) (k : ∀ m2 : Mem, Inv m2 → LwK Γ i 121 2260 1427 m2) : LwK Γ i 121 2260 458 mem := by
  refine aw_aload_n dL_law_458 rfl rfl ?_
  refine aw_aload_n dL_law_459 rfl rfl ?_
  refine aw_iload_n dL_law_460 rfl rfl ?_
  refine aw_iconst dL_law_461 rfl ?_
  refine aw_iadd dL_law_462 rfl ?_
  refine aw_sload dL_law_463 rfl (by omega) (by omega) ?_
  refine aw_aload_n dL_law_464 rfl rfl ?_
  refine aw_iload_n dL_law_465 rfl rfl ?_
  refine aw_iconst dL_law_466 rfl ?_
  refine aw_iadd dL_law_467 rfl ?_
  refine aw_sload dL_law_468 rfl (by omega) (by omega) ?_
  refine aw_aload_n dL_law_469 rfl rfl ?_
  refine aw_iload_n dL_law_470 rfl rfl ?_
  refine aw_iconst dL_law_471 rfl ?_
  refine aw_iadd dL_law_472 rfl ?_
  refine aw_sload dL_law_473 rfl (by omega) (by omega) ?_
  refine aw_callV [_, _, _] _ dL_law_474 rfl clv_L_56 (by decide) ⟨Nat.le_of_ble_eq_true rfl, Nat.le_of_ble_eq_true rfl⟩ g0 (by rfl) (Nat.le_of_ble_eq_true rfl) rfl ?_
  refine st_stoke hI (r32 _) (r32 _) (r32 _) _ (fun a m1 hk => ?_)
  refine aw_aload_n dL_law_477 rfl rfl ?_
  refine aw_aload_n dL_law_478 rfl rfl ?_
  refine aw_iload_n dL_law_479 rfl rfl ?_
  refine aw_iconst dL_law_480 rfl ?_
  refine aw_iadd dL_law_481 rfl ?_
  refine aw_sload dL_law_482 rfl (by omega) (by omega) ?_
  refine aw_aload_n dL_law_483 rfl rfl ?_
  refine aw_iload_n dL_law_484 rfl rfl ?_
  refine aw_iconst dL_law_485 rfl ?_
  refine aw_iadd dL_law_486 rfl ?_
  refine aw_sload dL_law_487 rfl (by omega) (by omega) ?_
  refine aw_aload_n dL_law_488 rfl rfl ?_
  refine aw_iload_n dL_law_489 rfl rfl ?_
  refine aw_iconst dL_law_490 rfl ?_
  refine aw_iadd dL_law_491 rfl ?_
  refine aw_sload dL_law_492 rfl (by omega) (by omega) ?_
  refine aw_callV [_, _, _] _ dL_law_493 rfl clv_L_60 (by decide) ⟨Nat.le_of_ble_eq_true rfl, Nat.le_of_ble_eq_true rfl⟩ g109 (by rfl) (Nat.le_of_ble_eq_true rfl) rfl ?_
  refine hk _ (fun m2 hI2 => ?_)
  exact aw_icmp_same dL_law_496 (by decide) (k m2 hI2)
theorem lc_11 {i : Int} (hI : Inv mem) (hi : 0 ≤ i ∧ i + 5 ≤ Γ.2.2.2.2.1) (hn : Γ.2.2.2.2.1 ≤ 320) (k : ∀ m2 : Mem, Inv m2 → LwK Γ i 121 2260 1427 m2) : LwK Γ i 121 2260 501 mem := by
  refine aw_aload_n dL_law_501 rfl rfl ?_
  refine aw_aload_n dL_law_502 rfl rfl ?_
  refine aw_iload_n dL_law_503 rfl rfl ?_
  refine aw_iconst dL_law_504 rfl ?_
  refine aw_iadd dL_law_505 rfl ?_
  refine aw_sload dL_law_506 rfl (by omega) (by omega) ?_
  refine aw_aload_n dL_law_507 rfl rfl ?_
  refine aw_iload_n dL_law_508 rfl rfl ?_
  refine aw_iconst dL_law_509 rfl ?_
  refine aw_iadd dL_law_510 rfl ?_
  refine aw_sload dL_law_511 rfl (by omega) (by omega) ?_
  refine aw_callV [_, _] _ dL_law_512 rfl clv_L_61 (by decide) ⟨Nat.le_of_ble_eq_true rfl, Nat.le_of_ble_eq_true rfl⟩ g0 (by rfl) (Nat.le_of_ble_eq_true rfl) rfl ?_
  refine st_add hI (r32 _) (r32 _) _ (fun a m1 hk => ?_)
  refine aw_aload_n dL_law_515 rfl rfl ?_
  refine aw_aload_n dL_law_516 rfl rfl ?_
  refine aw_iload_n dL_law_517 rfl rfl ?_
  refine aw_iconst dL_law_518 rfl ?_
  refine aw_iadd dL_law_519 rfl ?_
  refine aw_sload dL_law_520 rfl (by omega) (by omega) ?_
  refine aw_aload_n dL_law_521 rfl rfl ?_
  refine aw_iload_n dL_law_522 rfl rfl ?_
  refine aw_iconst dL_law_523 rfl ?_
  refine aw_iadd dL_law_524 rfl ?_
  refine aw_sload dL_law_525 rfl (by omega) (by omega) ?_
  refine aw_callV [_, _] _ dL_law_526 rfl clv_L_64 (by decide) ⟨Nat.le_of_ble_eq_true rfl, Nat.le_of_ble_eq_true rfl⟩ g109 (by rfl) (Nat.le_of_ble_eq_true rfl) rfl ?_
  refine hk _ (fun m2 hI2 => ?_)
  exact aw_icmp_same dL_law_529 (by decide) (k m2 hI2)
theorem lc_12 {i : Int} (hI : Inv mem) (hi : 0 ≤ i ∧ i + 5 ≤ Γ.2.2.2.2.1) (hn : Γ.2.2.2.2.1 ≤ 320) (k : ∀ m2 : Mem, Inv m2 → LwK Γ i 121 2260 1427 m2) : LwK Γ i 121 2260 534 mem := by
  refine aw_aload_n dL_law_534 rfl rfl ?_
  refine aw_aload_n dL_law_535 rfl rfl ?_
  refine aw_iload_n dL_law_536 rfl rfl ?_
  refine aw_iconst dL_law_537 rfl ?_
  refine aw_iadd dL_law_538 rfl ?_
  refine aw_sload dL_law_539 rfl (by omega) (by omega) ?_
  refine aw_aload_n dL_law_540 rfl rfl ?_
  refine aw_iload_n dL_law_541 rfl rfl ?_
  refine aw_iconst dL_law_542 rfl ?_
  refine aw_iadd dL_law_543 rfl ?_
  refine aw_sload dL_law_544 rfl (by omega) (by omega) ?_
  refine aw_callV [_, _] _ dL_law_545 rfl clv_L_65 (by decide) ⟨Nat.le_of_ble_eq_true rfl, Nat.le_of_ble_eq_true rfl⟩ g0 (by rfl) (Nat.le_of_ble_eq_true rfl) rfl ?_
  refine st_dig hI (r32 _) (r32 _) _ (fun a m1 hk => ?_)
  refine aw_aload_n dL_law_548 rfl rfl ?_
  refine aw_aload_n dL_law_549 rfl rfl ?_
  refine aw_iload_n dL_law_550 rfl rfl ?_
  refine aw_iconst dL_law_551 rfl ?_
  refine aw_iadd dL_law_552 rfl ?_
  refine aw_sload dL_law_553 rfl (by omega) (by omega) ?_
  refine aw_aload_n dL_law_554 rfl rfl ?_
  refine aw_iload_n dL_law_555 rfl rfl ?_
  refine aw_iconst dL_law_556 rfl ?_
  refine aw_iadd dL_law_557 rfl ?_
  refine aw_sload dL_law_558 rfl (by omega) (by omega) ?_
  refine aw_callV [_, _] _ dL_law_559 rfl clv_L_68 (by decide) ⟨Nat.le_of_ble_eq_true rfl, Nat.le_of_ble_eq_true rfl⟩ g109 (by rfl) (Nat.le_of_ble_eq_true rfl) rfl ?_
  refine hk _ (fun m2 hI2 => ?_)
  exact aw_icmp_same dL_law_562 (by decide) (k m2 hI2)
theorem lc_13 {i : Int} (hI : Inv mem) (hi : 0 ≤ i ∧ i + 5 ≤ Γ.2.2.2.2.1) (hn : Γ.2.2.2.2.1 ≤ 320) (k : ∀ m2 : Mem, Inv m2 → LwK Γ i 121 2260 1427 m2) : LwK Γ i 121 2260 567 mem := by
  refine aw_aload_n dL_law_567 rfl rfl ?_
  refine aw_aload_n dL_law_568 rfl rfl ?_
  refine aw_iload_n dL_law_569 rfl rfl ?_
  refine aw_iconst dL_law_570 rfl ?_
  refine aw_iadd dL_law_571 rfl ?_
  refine aw_sload dL_law_572 rfl (by omega) (by omega) ?_
  refine aw_callV [_] _ dL_law_573 rfl clv_L_69 (by decide) ⟨Nat.le_of_ble_eq_true rfl, Nat.le_of_ble_eq_true rfl⟩ g0 (by rfl) (Nat.le_of_ble_eq_true rfl) rfl ?_
  refine st_turn hI (r32 _) _ (fun a m1 hk => ?_)
  refine aw_aload_n dL_law_576 rfl rfl ?_
  refine aw_aload_n dL_law_577 rfl rfl ?_
  refine aw_iload_n dL_law_578 rfl rfl ?_
  refine aw_iconst dL_law_579 rfl ?_
  refine aw_iadd dL_law_580 rfl ?_
  refine aw_sload dL_law_581 rfl (by omega) (by omega) ?_
  refine aw_callV [_] _ dL_law_582 rfl clv_L_72 (by decide) ⟨Nat.le_of_ble_eq_true rfl, Nat.le_of_ble_eq_true rfl⟩ g109 (by rfl) (Nat.le_of_ble_eq_true rfl) rfl ?_
  refine hk _ (fun m2 hI2 => ?_)
  exact aw_icmp_same dL_law_585 (by decide) (k m2 hI2)
theorem lc_14 {i : Int} (hI : Inv mem) (hi : 0 ≤ i ∧ i + 5 ≤ Γ.2.2.2.2.1) (hn : Γ.2.2.2.2.1 ≤ 320) (k : ∀ m2 : Mem, Inv m2 → LwK Γ i 121 2260 1427 m2) : LwK Γ i 121 2260 590 mem := by
  refine aw_aload_n dL_law_590 rfl rfl ?_
  refine aw_aload_n dL_law_591 rfl rfl ?_
  refine aw_iload_n dL_law_592 rfl rfl ?_
  refine aw_iconst dL_law_593 rfl ?_
  refine aw_iadd dL_law_594 rfl ?_
  refine aw_sload dL_law_595 rfl (by omega) (by omega) ?_
  refine aw_aload_n dL_law_596 rfl rfl ?_
  refine aw_iload_n dL_law_597 rfl rfl ?_
  refine aw_iconst dL_law_598 rfl ?_
  refine aw_iadd dL_law_599 rfl ?_
  refine aw_sload dL_law_600 rfl (by omega) (by omega) ?_
  refine aw_callV [_, _] _ dL_law_601 rfl clv_L_73 (by decide) ⟨Nat.le_of_ble_eq_true rfl, Nat.le_of_ble_eq_true rfl⟩ g0 (by rfl) (Nat.le_of_ble_eq_true rfl) rfl ?_
  refine st_wrap hI (r32 _) (r32 _) _ (fun a m1 hk => ?_)
  refine aw_aload_n dL_law_604 rfl rfl ?_
  refine aw_aload_n dL_law_605 rfl rfl ?_
  refine aw_iload_n dL_law_606 rfl rfl ?_
  refine aw_iconst dL_law_607 rfl ?_
  refine aw_iadd dL_law_608 rfl ?_
  refine aw_sload dL_law_609 rfl (by omega) (by omega) ?_
  refine aw_aload_n dL_law_610 rfl rfl ?_
  refine aw_iload_n dL_law_611 rfl rfl ?_
  refine aw_iconst dL_law_612 rfl ?_
  refine aw_iadd dL_law_613 rfl ?_
  refine aw_sload dL_law_614 rfl (by omega) (by omega) ?_
  refine aw_callV [_, _] _ dL_law_615 rfl clv_L_76 (by decide) ⟨Nat.le_of_ble_eq_true rfl, Nat.le_of_ble_eq_true rfl⟩ g109 (by rfl) (Nat.le_of_ble_eq_true rfl) rfl ?_
  refine hk _ (fun m2 hI2 => ?_)
  exact aw_icmp_same dL_law_618 (by decide) (k m2 hI2)
theorem lc_15 {i : Int} (hI : Inv mem) (hi : 0 ≤ i ∧ i + 5 ≤ Γ.2.2.2.2.1) (hn : Γ.2.2.2.2.1 ≤ 320) (k : ∀ m2 : Mem, Inv m2 → LwK Γ i 121 2260 1427 m2) : LwK Γ i 121 2260 623 mem := by
  refine aw_aload_n dL_law_623 rfl rfl ?_
  refine aw_aload_n dL_law_624 rfl rfl ?_
  refine aw_iload_n dL_law_625 rfl rfl ?_
  refine aw_iconst dL_law_626 rfl ?_
  refine aw_iadd dL_law_627 rfl ?_
  refine aw_sload dL_law_628 rfl (by omega) (by omega) ?_
  refine aw_aload_n dL_law_629 rfl rfl ?_
  refine aw_iload_n dL_law_630 rfl rfl ?_
  refine aw_iconst dL_law_631 rfl ?_
  refine aw_iadd dL_law_632 rfl ?_
  refine aw_sload dL_law_633 rfl (by omega) (by omega) ?_
  refine aw_callV [_, _] _ dL_law_634 rfl clv_L_77 (by decide) ⟨Nat.le_of_ble_eq_true rfl, Nat.le_of_ble_eq_true rfl⟩ g0 (by rfl) (Nat.le_of_ble_eq_true rfl) rfl ?_
  refine st_memo hI (r32 _) (r32 _) _ (fun a m1 hk => ?_)
  refine aw_aload_n dL_law_637 rfl rfl ?_
  refine aw_aload_n dL_law_638 rfl rfl ?_
  refine aw_iload_n dL_law_639 rfl rfl ?_
  refine aw_iconst dL_law_640 rfl ?_
  refine aw_iadd dL_law_641 rfl ?_
  refine aw_sload dL_law_642 rfl (by omega) (by omega) ?_
  refine aw_aload_n dL_law_643 rfl rfl ?_
  refine aw_iload_n dL_law_644 rfl rfl ?_
  refine aw_iconst dL_law_645 rfl ?_
  refine aw_iadd dL_law_646 rfl ?_
  refine aw_sload dL_law_647 rfl (by omega) (by omega) ?_
  refine aw_callV [_, _] _ dL_law_648 rfl clv_L_80 (by decide) ⟨Nat.le_of_ble_eq_true rfl, Nat.le_of_ble_eq_true rfl⟩ g109 (by rfl) (Nat.le_of_ble_eq_true rfl) rfl ?_
  refine hk _ (fun m2 hI2 => ?_)
  exact aw_icmp_same dL_law_651 (by decide) (k m2 hI2)
theorem lc_16 {i : Int} (hI : Inv mem) (hi : 0 ≤ i ∧ i + 5 ≤ Γ.2.2.2.2.1) (hn : Γ.2.2.2.2.1 ≤ 320) (k : ∀ m2 : Mem, Inv m2 → LwK Γ i 121 2260 1427 m2) : LwK Γ i 121 2260 656 mem := by
  refine aw_aload_n dL_law_656 rfl rfl ?_
  refine aw_aload_n dL_law_657 rfl rfl ?_
  refine aw_iload_n dL_law_658 rfl rfl ?_
  refine aw_iconst dL_law_659 rfl ?_
  refine aw_iadd dL_law_660 rfl ?_
  refine aw_sload dL_law_661 rfl (by omega) (by omega) ?_
  refine aw_aload_n dL_law_662 rfl rfl ?_
  refine aw_iload_n dL_law_663 rfl rfl ?_
  refine aw_iconst dL_law_664 rfl ?_
  refine aw_iadd dL_law_665 rfl ?_
  refine aw_sload dL_law_666 rfl (by omega) (by omega) ?_
  have s675 : ∀ b : Int, 0 ≤ b ∧ b ≤ 1 → (b = if (Γ.2.2.2.2.2 (i + 2).toNat).toInt = 0 then 0 else 1) → AW Γ mL_law lF zG 121 2260 675 [some (vR 9999), some (vR 0), some (vR 109), some (vI i)] [vI b, vI (Γ.2.2.2.2.2 (i + 1).toNat).toInt, vR 0] mem := by
    intro b hb hbe
    refine aw_callV [_, _] _ dL_law_675 rfl clv_L_81 (by decide) ⟨Nat.le_of_ble_eq_true rfl, Nat.le_of_ble_eq_true rfl⟩ g0 (by rfl) (Nat.le_of_ble_eq_true rfl) rfl ?_
    refine st_rake hI (r32 _) hb _ (fun a m1 hk => ?_)
    refine aw_aload_n dL_law_678 rfl rfl ?_
    refine aw_aload_n dL_law_679 rfl rfl ?_
    refine aw_iload_n dL_law_680 rfl rfl ?_
    refine aw_iconst dL_law_681 rfl ?_
    refine aw_iadd dL_law_682 rfl ?_
    refine aw_sload dL_law_683 rfl (by omega) (by omega) ?_
    refine aw_aload_n dL_law_684 rfl rfl ?_
    refine aw_iload_n dL_law_685 rfl rfl ?_
    refine aw_iconst dL_law_686 rfl ?_
    refine aw_iadd dL_law_687 rfl ?_
    refine aw_sload dL_law_688 rfl (by omega) (by omega) ?_
    have s697 : ∀ b2 : Int, (b2 = if (Γ.2.2.2.2.2 (i + 2).toNat).toInt = 0 then 0 else 1) → AW Γ mL_law lF zG 121 2260 697 [some (vR 9999), some (vR 0), some (vR 109), some (vI i)] [vI b2, vI (Γ.2.2.2.2.2 (i + 1).toNat).toInt, vR 109, vI a] m1 := by
      intro b2 hbe2
      rw [hbe2, ← hbe]
      refine aw_callV [_, _] _ dL_law_697 rfl clv_L_85 (by decide) ⟨Nat.le_of_ble_eq_true rfl, Nat.le_of_ble_eq_true rfl⟩ g109 (by rfl) (Nat.le_of_ble_eq_true rfl) rfl ?_
      refine hk _ (fun m2 hI2 => ?_)
      exact aw_icmp_same dL_law_700 (by decide) (k m2 hI2)
    refine aw_if_eq (tgt := 696) dL_law_689 (by decide) rfl (r32 _) (fun c => ?_) (fun c => ?_)
    · refine aw_iconst dL_law_696 rfl ?_
      exact s697 0 (by rw [if_pos c])
    · refine aw_iconst dL_law_692 rfl ?_
      refine aw_goto (tgt := 697) dL_law_693 (by decide) ?_
      exact s697 1 (by rw [if_neg c])
  refine aw_if_eq (tgt := 674) dL_law_667 (by decide) rfl (r32 _) (fun c => ?_) (fun c => ?_)
  · refine aw_iconst dL_law_674 rfl ?_
    exact s675 0 (by omega) (by rw [if_pos c])
  · refine aw_iconst dL_law_670 rfl ?_
    refine aw_goto (tgt := 675) dL_law_671 (by decide) ?_
    exact s675 1 (by omega) (by rw [if_neg c])
theorem lc_17 {i : Int} (hI : Inv mem) (hi : 0 ≤ i ∧ i + 5 ≤ Γ.2.2.2.2.1) (hn : Γ.2.2.2.2.1 ≤ 320) (k : ∀ m2 : Mem, Inv m2 → LwK Γ i 121 2260 1427 m2) : LwK Γ i 121 2260 705 mem := by
  refine aw_aload_n dL_law_705 rfl rfl ?_
  refine aw_aload_n dL_law_706 rfl rfl ?_
  refine aw_iload_n dL_law_707 rfl rfl ?_
  refine aw_iconst dL_law_708 rfl ?_
  refine aw_iadd dL_law_709 rfl ?_
  refine aw_sload dL_law_710 rfl (by omega) (by omega) ?_
  refine aw_callV [_] _ dL_law_711 rfl clv_L_86 (by decide) ⟨Nat.le_of_ble_eq_true rfl, Nat.le_of_ble_eq_true rfl⟩ g0 (by rfl) (Nat.le_of_ble_eq_true rfl) rfl ?_
  refine st_go hI (r32 _) _ (fun a m1 hk => ?_)
  refine aw_aload_n dL_law_714 rfl rfl ?_
  refine aw_aload_n dL_law_715 rfl rfl ?_
  refine aw_iload_n dL_law_716 rfl rfl ?_
  refine aw_iconst dL_law_717 rfl ?_
  refine aw_iadd dL_law_718 rfl ?_
  refine aw_sload dL_law_719 rfl (by omega) (by omega) ?_
  refine aw_callV [_] _ dL_law_720 rfl clv_L_89 (by decide) ⟨Nat.le_of_ble_eq_true rfl, Nat.le_of_ble_eq_true rfl⟩ g109 (by rfl) (Nat.le_of_ble_eq_true rfl) rfl ?_
  refine hk _ (fun m2 hI2 => ?_)
  exact aw_icmp_same dL_law_723 (by decide) (k m2 hI2)
theorem lc_18 {i : Int} (hI : Inv mem) (hi : 0 ≤ i ∧ i + 5 ≤ Γ.2.2.2.2.1) (hn : Γ.2.2.2.2.1 ≤ 320) (k : ∀ m2 : Mem, Inv m2 → LwK Γ i 121 2260 1427 m2) : LwK Γ i 121 2260 728 mem := by
  refine aw_aload_n dL_law_728 rfl rfl ?_
  refine aw_aload_n dL_law_729 rfl rfl ?_
  refine aw_iload_n dL_law_730 rfl rfl ?_
  refine aw_iconst dL_law_731 rfl ?_
  refine aw_iadd dL_law_732 rfl ?_
  refine aw_sload dL_law_733 rfl (by omega) (by omega) ?_
  refine aw_aload_n dL_law_734 rfl rfl ?_
  refine aw_iload_n dL_law_735 rfl rfl ?_
  refine aw_iconst dL_law_736 rfl ?_
  refine aw_iadd dL_law_737 rfl ?_
  refine aw_sload dL_law_738 rfl (by omega) (by omega) ?_
  refine aw_aload_n dL_law_739 rfl rfl ?_
  refine aw_iload_n dL_law_740 rfl rfl ?_
  refine aw_iconst dL_law_741 rfl ?_
  refine aw_iadd dL_law_742 rfl ?_
  refine aw_sload dL_law_743 rfl (by omega) (by omega) ?_
  refine aw_callV [_, _, _] _ dL_law_744 rfl clv_L_90 (by decide) ⟨Nat.le_of_ble_eq_true rfl, Nat.le_of_ble_eq_true rfl⟩ g0 (by rfl) (Nat.le_of_ble_eq_true rfl) rfl ?_
  refine st_ahead hI (r32 _) (r32 _) (r32 _) _ (fun a m1 hk => ?_)
  refine aw_aload_n dL_law_747 rfl rfl ?_
  refine aw_aload_n dL_law_748 rfl rfl ?_
  refine aw_iload_n dL_law_749 rfl rfl ?_
  refine aw_iconst dL_law_750 rfl ?_
  refine aw_iadd dL_law_751 rfl ?_
  refine aw_sload dL_law_752 rfl (by omega) (by omega) ?_
  refine aw_aload_n dL_law_753 rfl rfl ?_
  refine aw_iload_n dL_law_754 rfl rfl ?_
  refine aw_iconst dL_law_755 rfl ?_
  refine aw_iadd dL_law_756 rfl ?_
  refine aw_sload dL_law_757 rfl (by omega) (by omega) ?_
  refine aw_aload_n dL_law_758 rfl rfl ?_
  refine aw_iload_n dL_law_759 rfl rfl ?_
  refine aw_iconst dL_law_760 rfl ?_
  refine aw_iadd dL_law_761 rfl ?_
  refine aw_sload dL_law_762 rfl (by omega) (by omega) ?_
  refine aw_callV [_, _, _] _ dL_law_763 rfl clv_L_93 (by decide) ⟨Nat.le_of_ble_eq_true rfl, Nat.le_of_ble_eq_true rfl⟩ g109 (by rfl) (Nat.le_of_ble_eq_true rfl) rfl ?_
  refine hk _ (fun m2 hI2 => ?_)
  exact aw_icmp_same dL_law_766 (by decide) (k m2 hI2)
theorem lc_19 {i : Int} (hI : Inv mem) (hi : 0 ≤ i ∧ i + 5 ≤ Γ.2.2.2.2.1) (hn : Γ.2.2.2.2.1 ≤ 320) (k : ∀ m2 : Mem, Inv m2 → LwK Γ i 121 2260 1427 m2) : LwK Γ i 121 2260 771 mem := by
  refine aw_aload_n dL_law_771 rfl rfl ?_
  refine aw_aload_n dL_law_772 rfl rfl ?_
  refine aw_iload_n dL_law_773 rfl rfl ?_
  refine aw_iconst dL_law_774 rfl ?_
  refine aw_iadd dL_law_775 rfl ?_
  refine aw_sload dL_law_776 rfl (by omega) (by omega) ?_
  refine aw_aload_n dL_law_777 rfl rfl ?_
  refine aw_iload_n dL_law_778 rfl rfl ?_
  refine aw_iconst dL_law_779 rfl ?_
  refine aw_iadd dL_law_780 rfl ?_
  refine aw_sload dL_law_781 rfl (by omega) (by omega) ?_
  refine aw_callV [_, _] _ dL_law_782 rfl clv_L_94 (by decide) ⟨Nat.le_of_ble_eq_true rfl, Nat.le_of_ble_eq_true rfl⟩ g0 (by rfl) (Nat.le_of_ble_eq_true rfl) rfl ?_
  refine st_later hI (r32 _) (r32 _) _ (fun a m1 hk => ?_)
  refine aw_aload_n dL_law_785 rfl rfl ?_
  refine aw_aload_n dL_law_786 rfl rfl ?_
  refine aw_iload_n dL_law_787 rfl rfl ?_
  refine aw_iconst dL_law_788 rfl ?_
  refine aw_iadd dL_law_789 rfl ?_
  refine aw_sload dL_law_790 rfl (by omega) (by omega) ?_
  refine aw_aload_n dL_law_791 rfl rfl ?_
  refine aw_iload_n dL_law_792 rfl rfl ?_
  refine aw_iconst dL_law_793 rfl ?_
  refine aw_iadd dL_law_794 rfl ?_
  refine aw_sload dL_law_795 rfl (by omega) (by omega) ?_
  refine aw_callV [_, _] _ dL_law_796 rfl clv_L_97 (by decide) ⟨Nat.le_of_ble_eq_true rfl, Nat.le_of_ble_eq_true rfl⟩ g109 (by rfl) (Nat.le_of_ble_eq_true rfl) rfl ?_
  refine hk _ (fun m2 hI2 => ?_)
  exact aw_icmp_same dL_law_799 (by decide) (k m2 hI2)
theorem lc_20 {i : Int} (hI : Inv mem) (hi : 0 ≤ i ∧ i + 5 ≤ Γ.2.2.2.2.1) (hn : Γ.2.2.2.2.1 ≤ 320) (k : ∀ m2 : Mem, Inv m2 → LwK Γ i 121 2260 1427 m2) : LwK Γ i 121 2260 804 mem := by
  refine aw_aload_n dL_law_804 rfl rfl ?_
  refine aw_aload_n dL_law_805 rfl rfl ?_
  refine aw_iload_n dL_law_806 rfl rfl ?_
  refine aw_iconst dL_law_807 rfl ?_
  refine aw_iadd dL_law_808 rfl ?_
  refine aw_sload dL_law_809 rfl (by omega) (by omega) ?_
  refine aw_aload_n dL_law_810 rfl rfl ?_
  refine aw_iload_n dL_law_811 rfl rfl ?_
  refine aw_iconst dL_law_812 rfl ?_
  refine aw_iadd dL_law_813 rfl ?_
  refine aw_sload dL_law_814 rfl (by omega) (by omega) ?_
  refine aw_callV [_, _] _ dL_law_815 rfl clv_L_98 (by decide) ⟨Nat.le_of_ble_eq_true rfl, Nat.le_of_ble_eq_true rfl⟩ g0 (by rfl) (Nat.le_of_ble_eq_true rfl) rfl ?_
  refine st_when hI (r32 _) (r32 _) _ (fun a m1 hk => ?_)
  refine aw_aload_n dL_law_818 rfl rfl ?_
  refine aw_aload_n dL_law_819 rfl rfl ?_
  refine aw_iload_n dL_law_820 rfl rfl ?_
  refine aw_iconst dL_law_821 rfl ?_
  refine aw_iadd dL_law_822 rfl ?_
  refine aw_sload dL_law_823 rfl (by omega) (by omega) ?_
  refine aw_aload_n dL_law_824 rfl rfl ?_
  refine aw_iload_n dL_law_825 rfl rfl ?_
  refine aw_iconst dL_law_826 rfl ?_
  refine aw_iadd dL_law_827 rfl ?_
  refine aw_sload dL_law_828 rfl (by omega) (by omega) ?_
  refine aw_callV [_, _] _ dL_law_829 rfl clv_L_101 (by decide) ⟨Nat.le_of_ble_eq_true rfl, Nat.le_of_ble_eq_true rfl⟩ g109 (by rfl) (Nat.le_of_ble_eq_true rfl) rfl ?_
  refine hk _ (fun m2 hI2 => ?_)
  exact aw_icmp_same dL_law_832 (by decide) (k m2 hI2)
theorem lc_21 {i : Int} (hI : Inv mem) (hi : 0 ≤ i ∧ i + 5 ≤ Γ.2.2.2.2.1) (hn : Γ.2.2.2.2.1 ≤ 320) (k : ∀ m2 : Mem, Inv m2 → LwK Γ i 121 2260 1427 m2) : LwK Γ i 121 2260 837 mem := by
  refine aw_aload_n dL_law_837 rfl rfl ?_
  refine aw_aload_n dL_law_838 rfl rfl ?_
  refine aw_iload_n dL_law_839 rfl rfl ?_
  refine aw_iconst dL_law_840 rfl ?_
  refine aw_iadd dL_law_841 rfl ?_
  refine aw_sload dL_law_842 rfl (by omega) (by omega) ?_
  refine aw_aload_n dL_law_843 rfl rfl ?_
  refine aw_iload_n dL_law_844 rfl rfl ?_
  refine aw_iconst dL_law_845 rfl ?_
  refine aw_iadd dL_law_846 rfl ?_
  refine aw_sload dL_law_847 rfl (by omega) (by omega) ?_
  refine aw_callV [_, _] _ dL_law_848 rfl clv_L_102 (by decide) ⟨Nat.le_of_ble_eq_true rfl, Nat.le_of_ble_eq_true rfl⟩ g0 (by rfl) (Nat.le_of_ble_eq_true rfl) rfl ?_
  refine st_places hI (r32 _) (r32 _) _ (fun a m1 hk => ?_)
  refine aw_aload_n dL_law_851 rfl rfl ?_
  refine aw_aload_n dL_law_852 rfl rfl ?_
  refine aw_iload_n dL_law_853 rfl rfl ?_
  refine aw_iconst dL_law_854 rfl ?_
  refine aw_iadd dL_law_855 rfl ?_
  refine aw_sload dL_law_856 rfl (by omega) (by omega) ?_
  refine aw_aload_n dL_law_857 rfl rfl ?_
  refine aw_iload_n dL_law_858 rfl rfl ?_
  refine aw_iconst dL_law_859 rfl ?_
  refine aw_iadd dL_law_860 rfl ?_
  refine aw_sload dL_law_861 rfl (by omega) (by omega) ?_
  refine aw_callV [_, _] _ dL_law_862 rfl clv_L_105 (by decide) ⟨Nat.le_of_ble_eq_true rfl, Nat.le_of_ble_eq_true rfl⟩ g109 (by rfl) (Nat.le_of_ble_eq_true rfl) rfl ?_
  refine hk _ (fun m2 hI2 => ?_)
  exact aw_icmp_same dL_law_865 (by decide) (k m2 hI2)
theorem lc_22 {i : Int} (hI : Inv mem) (hi : 0 ≤ i ∧ i + 5 ≤ Γ.2.2.2.2.1) (hn : Γ.2.2.2.2.1 ≤ 320) (k : ∀ m2 : Mem, Inv m2 → LwK Γ i 121 2260 1427 m2) : LwK Γ i 121 2260 870 mem := by
  refine aw_aload_n dL_law_870 rfl rfl ?_
  refine aw_aload_n dL_law_871 rfl rfl ?_
  refine aw_iload_n dL_law_872 rfl rfl ?_
  refine aw_iconst dL_law_873 rfl ?_
  refine aw_iadd dL_law_874 rfl ?_
  refine aw_sload dL_law_875 rfl (by omega) (by omega) ?_
  refine aw_aload_n dL_law_876 rfl rfl ?_
  refine aw_iload_n dL_law_877 rfl rfl ?_
  refine aw_iconst dL_law_878 rfl ?_
  refine aw_iadd dL_law_879 rfl ?_
  refine aw_sload dL_law_880 rfl (by omega) (by omega) ?_
  refine aw_callV [_, _] _ dL_law_881 rfl clv_L_106 (by decide) ⟨Nat.le_of_ble_eq_true rfl, Nat.le_of_ble_eq_true rfl⟩ g0 (by rfl) (Nat.le_of_ble_eq_true rfl) rfl ?_
  refine st_flip hI (r32 _) (r32 _) _ (fun a m1 hk => ?_)
  refine aw_aload_n dL_law_884 rfl rfl ?_
  refine aw_aload_n dL_law_885 rfl rfl ?_
  refine aw_iload_n dL_law_886 rfl rfl ?_
  refine aw_iconst dL_law_887 rfl ?_
  refine aw_iadd dL_law_888 rfl ?_
  refine aw_sload dL_law_889 rfl (by omega) (by omega) ?_
  refine aw_aload_n dL_law_890 rfl rfl ?_
  refine aw_iload_n dL_law_891 rfl rfl ?_
  refine aw_iconst dL_law_892 rfl ?_
  refine aw_iadd dL_law_893 rfl ?_
  refine aw_sload dL_law_894 rfl (by omega) (by omega) ?_
  refine aw_callV [_, _] _ dL_law_895 rfl clv_L_109 (by decide) ⟨Nat.le_of_ble_eq_true rfl, Nat.le_of_ble_eq_true rfl⟩ g109 (by rfl) (Nat.le_of_ble_eq_true rfl) rfl ?_
  refine hk _ (fun m2 hI2 => ?_)
  exact aw_icmp_same dL_law_898 (by decide) (k m2 hI2)
theorem lc_23 {i : Int} (hI : Inv mem) (hi : 0 ≤ i ∧ i + 5 ≤ Γ.2.2.2.2.1) (hn : Γ.2.2.2.2.1 ≤ 320) (k : ∀ m2 : Mem, Inv m2 → LwK Γ i 121 2260 1427 m2) : LwK Γ i 121 2260 903 mem := by
  refine aw_aload_n dL_law_903 rfl rfl ?_
  refine aw_aload_n dL_law_904 rfl rfl ?_
  refine aw_iload_n dL_law_905 rfl rfl ?_
  refine aw_iconst dL_law_906 rfl ?_
  refine aw_iadd dL_law_907 rfl ?_
  refine aw_sload dL_law_908 rfl (by omega) (by omega) ?_
  refine aw_aload_n dL_law_909 rfl rfl ?_
  refine aw_iload_n dL_law_910 rfl rfl ?_
  refine aw_iconst dL_law_911 rfl ?_
  refine aw_iadd dL_law_912 rfl ?_
  refine aw_sload dL_law_913 rfl (by omega) (by omega) ?_
  refine aw_callV [_, _] _ dL_law_914 rfl clv_L_110 (by decide) ⟨Nat.le_of_ble_eq_true rfl, Nat.le_of_ble_eq_true rfl⟩ g0 (by rfl) (Nat.le_of_ble_eq_true rfl) rfl ?_
  refine st_least hI (r32 _) (r32 _) _ (fun a m1 hk => ?_)
  refine aw_aload_n dL_law_917 rfl rfl ?_
  refine aw_aload_n dL_law_918 rfl rfl ?_
  refine aw_iload_n dL_law_919 rfl rfl ?_
  refine aw_iconst dL_law_920 rfl ?_
  refine aw_iadd dL_law_921 rfl ?_
  refine aw_sload dL_law_922 rfl (by omega) (by omega) ?_
  refine aw_aload_n dL_law_923 rfl rfl ?_
  refine aw_iload_n dL_law_924 rfl rfl ?_
  refine aw_iconst dL_law_925 rfl ?_
  refine aw_iadd dL_law_926 rfl ?_
  refine aw_sload dL_law_927 rfl (by omega) (by omega) ?_
  refine aw_callV [_, _] _ dL_law_928 rfl clv_L_113 (by decide) ⟨Nat.le_of_ble_eq_true rfl, Nat.le_of_ble_eq_true rfl⟩ g109 (by rfl) (Nat.le_of_ble_eq_true rfl) rfl ?_
  refine hk _ (fun m2 hI2 => ?_)
  exact aw_icmp_same dL_law_931 (by decide) (k m2 hI2)
theorem lc_24 {i : Int} (hI : Inv mem) (hi : 0 ≤ i ∧ i + 5 ≤ Γ.2.2.2.2.1) (hn : Γ.2.2.2.2.1 ≤ 320) (k : ∀ m2 : Mem, Inv m2 → LwK Γ i 121 2260 1427 m2) : LwK Γ i 121 2260 936 mem := by
  refine aw_aload_n dL_law_936 rfl rfl ?_
  refine aw_aload_n dL_law_937 rfl rfl ?_
  refine aw_iload_n dL_law_938 rfl rfl ?_
  refine aw_iconst dL_law_939 rfl ?_
  refine aw_iadd dL_law_940 rfl ?_
  refine aw_sload dL_law_941 rfl (by omega) (by omega) ?_
  refine aw_callV [_] _ dL_law_942 rfl clv_L_114 (by decide) ⟨Nat.le_of_ble_eq_true rfl, Nat.le_of_ble_eq_true rfl⟩ g0 (by rfl) (Nat.le_of_ble_eq_true rfl) rfl ?_
  refine st_best hI (r32 _) _ (fun a m1 hk => ?_)
  refine aw_aload_n dL_law_945 rfl rfl ?_
  refine aw_aload_n dL_law_946 rfl rfl ?_
  refine aw_iload_n dL_law_947 rfl rfl ?_
  refine aw_iconst dL_law_948 rfl ?_
  refine aw_iadd dL_law_949 rfl ?_
  refine aw_sload dL_law_950 rfl (by omega) (by omega) ?_
  refine aw_callV [_] _ dL_law_951 rfl clv_L_117 (by decide) ⟨Nat.le_of_ble_eq_true rfl, Nat.le_of_ble_eq_true rfl⟩ g109 (by rfl) (Nat.le_of_ble_eq_true rfl) rfl ?_
  refine hk _ (fun m2 hI2 => ?_)
  exact aw_icmp_same dL_law_954 (by decide) (k m2 hI2)
theorem lc_25 {i : Int} (hI : Inv mem) (hi : 0 ≤ i ∧ i + 5 ≤ Γ.2.2.2.2.1) (hn : Γ.2.2.2.2.1 ≤ 320) (k : ∀ m2 : Mem, Inv m2 → LwK Γ i 121 2260 1427 m2) : LwK Γ i 121 2260 959 mem := by
  refine aw_aload_n dL_law_959 rfl rfl ?_
  refine aw_aload_n dL_law_960 rfl rfl ?_
  refine aw_iload_n dL_law_961 rfl rfl ?_
  refine aw_iconst dL_law_962 rfl ?_
  refine aw_iadd dL_law_963 rfl ?_
  refine aw_sload dL_law_964 rfl (by omega) (by omega) ?_
  refine aw_aload_n dL_law_965 rfl rfl ?_
  refine aw_iload_n dL_law_966 rfl rfl ?_
  refine aw_iconst dL_law_967 rfl ?_
  refine aw_iadd dL_law_968 rfl ?_
  refine aw_sload dL_law_969 rfl (by omega) (by omega) ?_
  refine aw_aload_n dL_law_970 rfl rfl ?_
  refine aw_iload_n dL_law_971 rfl rfl ?_
  refine aw_iconst dL_law_972 rfl ?_
  refine aw_iadd dL_law_973 rfl ?_
  refine aw_sload dL_law_974 rfl (by omega) (by omega) ?_
  refine aw_callV [_, _, _] _ dL_law_975 rfl clv_L_118 (by decide) ⟨Nat.le_of_ble_eq_true rfl, Nat.le_of_ble_eq_true rfl⟩ g0 (by rfl) (Nat.le_of_ble_eq_true rfl) rfl ?_
  refine st_feel hI (r32 _) (r32 _) (r32 _) _ (fun a m1 hk => ?_)
  refine aw_aload_n dL_law_978 rfl rfl ?_
  refine aw_aload_n dL_law_979 rfl rfl ?_
  refine aw_iload_n dL_law_980 rfl rfl ?_
  refine aw_iconst dL_law_981 rfl ?_
  refine aw_iadd dL_law_982 rfl ?_
  refine aw_sload dL_law_983 rfl (by omega) (by omega) ?_
  refine aw_aload_n dL_law_984 rfl rfl ?_
  refine aw_iload_n dL_law_985 rfl rfl ?_
  refine aw_iconst dL_law_986 rfl ?_
  refine aw_iadd dL_law_987 rfl ?_
  refine aw_sload dL_law_988 rfl (by omega) (by omega) ?_
  refine aw_aload_n dL_law_989 rfl rfl ?_
  refine aw_iload_n dL_law_990 rfl rfl ?_
  refine aw_iconst dL_law_991 rfl ?_
  refine aw_iadd dL_law_992 rfl ?_
  refine aw_sload dL_law_993 rfl (by omega) (by omega) ?_
  refine aw_callV [_, _, _] _ dL_law_994 rfl clv_L_121 (by decide) ⟨Nat.le_of_ble_eq_true rfl, Nat.le_of_ble_eq_true rfl⟩ g109 (by rfl) (Nat.le_of_ble_eq_true rfl) rfl ?_
  refine hk _ (fun m2 hI2 => ?_)
  exact aw_icmp_same dL_law_997 (by decide) (k m2 hI2)
theorem lc_26 {i : Int} (hI : Inv mem) (hi : 0 ≤ i ∧ i + 5 ≤ Γ.2.2.2.2.1) (hn : Γ.2.2.2.2.1 ≤ 320) (k : ∀ m2 : Mem, Inv m2 → LwK Γ i 121 2260 1427 m2) : LwK Γ i 121 2260 1002 mem := by
  refine aw_aload_n dL_law_1002 rfl rfl ?_
  refine aw_aload_n dL_law_1003 rfl rfl ?_
  refine aw_iload_n dL_law_1004 rfl rfl ?_
  refine aw_iconst dL_law_1005 rfl ?_
  refine aw_iadd dL_law_1006 rfl ?_
  refine aw_sload dL_law_1007 rfl (by omega) (by omega) ?_
  refine aw_callV [_] _ dL_law_1008 rfl clv_L_122 (by decide) ⟨Nat.le_of_ble_eq_true rfl, Nat.le_of_ble_eq_true rfl⟩ g0 (by rfl) (Nat.le_of_ble_eq_true rfl) rfl ?_
  refine st_forget hI (r32 _) _ (fun a m1 hk => ?_)
  refine aw_aload_n dL_law_1011 rfl rfl ?_
  refine aw_aload_n dL_law_1012 rfl rfl ?_
  refine aw_iload_n dL_law_1013 rfl rfl ?_
  refine aw_iconst dL_law_1014 rfl ?_
  refine aw_iadd dL_law_1015 rfl ?_
  refine aw_sload dL_law_1016 rfl (by omega) (by omega) ?_
  refine aw_callV [_] _ dL_law_1017 rfl clv_L_125 (by decide) ⟨Nat.le_of_ble_eq_true rfl, Nat.le_of_ble_eq_true rfl⟩ g109 (by rfl) (Nat.le_of_ble_eq_true rfl) rfl ?_
  refine hk _ (fun m2 hI2 => ?_)
  exact aw_icmp_same dL_law_1020 (by decide) (k m2 hI2)
theorem lc_27 {i : Int} (hI : Inv mem) (hi : 0 ≤ i ∧ i + 5 ≤ Γ.2.2.2.2.1) (hn : Γ.2.2.2.2.1 ≤ 320) (k : ∀ m2 : Mem, Inv m2 → LwK Γ i 121 2260 1427 m2) : LwK Γ i 121 2260 1025 mem := by
  refine aw_aload_n dL_law_1025 rfl rfl ?_
  refine aw_aload_n dL_law_1026 rfl rfl ?_
  refine aw_iload_n dL_law_1027 rfl rfl ?_
  refine aw_iconst dL_law_1028 rfl ?_
  refine aw_iadd dL_law_1029 rfl ?_
  refine aw_sload dL_law_1030 rfl (by omega) (by omega) ?_
  refine aw_callV [_] _ dL_law_1031 rfl clv_L_126 (by decide) ⟨Nat.le_of_ble_eq_true rfl, Nat.le_of_ble_eq_true rfl⟩ g0 (by rfl) (Nat.le_of_ble_eq_true rfl) rfl ?_
  refine st_fits hI (r32 _) _ (fun a m1 hk => ?_)
  refine aw_aload_n dL_law_1034 rfl rfl ?_
  refine aw_aload_n dL_law_1035 rfl rfl ?_
  refine aw_iload_n dL_law_1036 rfl rfl ?_
  refine aw_iconst dL_law_1037 rfl ?_
  refine aw_iadd dL_law_1038 rfl ?_
  refine aw_sload dL_law_1039 rfl (by omega) (by omega) ?_
  refine aw_callV [_] _ dL_law_1040 rfl clv_L_129 (by decide) ⟨Nat.le_of_ble_eq_true rfl, Nat.le_of_ble_eq_true rfl⟩ g109 (by rfl) (Nat.le_of_ble_eq_true rfl) rfl ?_
  refine hk _ (fun m2 hI2 => ?_)
  exact aw_icmp_same dL_law_1043 (by decide) (k m2 hI2)
theorem lc_28 {i : Int} (hI : Inv mem) (hi : 0 ≤ i ∧ i + 5 ≤ Γ.2.2.2.2.1) (hn : Γ.2.2.2.2.1 ≤ 320) (k : ∀ m2 : Mem, Inv m2 → LwK Γ i 121 2260 1427 m2) : LwK Γ i 121 2260 1048 mem := by
  refine aw_aload_n dL_law_1048 rfl rfl ?_
  refine aw_aload_n dL_law_1049 rfl rfl ?_
  refine aw_iload_n dL_law_1050 rfl rfl ?_
  refine aw_iconst dL_law_1051 rfl ?_
  refine aw_iadd dL_law_1052 rfl ?_
  refine aw_sload dL_law_1053 rfl (by omega) (by omega) ?_
  refine aw_aload_n dL_law_1054 rfl rfl ?_
  refine aw_iload_n dL_law_1055 rfl rfl ?_
  refine aw_iconst dL_law_1056 rfl ?_
  refine aw_iadd dL_law_1057 rfl ?_
  refine aw_sload dL_law_1058 rfl (by omega) (by omega) ?_
  refine aw_aload_n dL_law_1059 rfl rfl ?_
  refine aw_iload_n dL_law_1060 rfl rfl ?_
  refine aw_iconst dL_law_1061 rfl ?_
  refine aw_iadd dL_law_1062 rfl ?_
  refine aw_sload dL_law_1063 rfl (by omega) (by omega) ?_
  refine aw_callV [_, _, _] _ dL_law_1064 rfl clv_L_130 (by decide) ⟨Nat.le_of_ble_eq_true rfl, Nat.le_of_ble_eq_true rfl⟩ g0 (by rfl) (Nat.le_of_ble_eq_true rfl) rfl ?_
  refine st_lies hI (r32 _) (r32 _) (r32 _) _ (fun a m1 hk => ?_)
  refine aw_aload_n dL_law_1067 rfl rfl ?_
  refine aw_aload_n dL_law_1068 rfl rfl ?_
  refine aw_iload_n dL_law_1069 rfl rfl ?_
  refine aw_iconst dL_law_1070 rfl ?_
  refine aw_iadd dL_law_1071 rfl ?_
  refine aw_sload dL_law_1072 rfl (by omega) (by omega) ?_
  refine aw_aload_n dL_law_1073 rfl rfl ?_
  refine aw_iload_n dL_law_1074 rfl rfl ?_
  refine aw_iconst dL_law_1075 rfl ?_
  refine aw_iadd dL_law_1076 rfl ?_
  refine aw_sload dL_law_1077 rfl (by omega) (by omega) ?_
  refine aw_aload_n dL_law_1078 rfl rfl ?_
  refine aw_iload_n dL_law_1079 rfl rfl ?_
  refine aw_iconst dL_law_1080 rfl ?_
  refine aw_iadd dL_law_1081 rfl ?_
  refine aw_sload dL_law_1082 rfl (by omega) (by omega) ?_
  refine aw_callV [_, _, _] _ dL_law_1083 rfl clv_L_134 (by decide) ⟨Nat.le_of_ble_eq_true rfl, Nat.le_of_ble_eq_true rfl⟩ g109 (by rfl) (Nat.le_of_ble_eq_true rfl) rfl ?_
  refine hk _ (fun m2 hI2 => ?_)
  refine aw_lcmp_same dL_law_1086 rfl ?_
  exact aw_if_eq (tgt := 1427) dL_law_1087 (by decide) rfl (by omega) (fun _ => k m2 hI2) (fun z => absurd rfl z)
theorem lc_29 {i : Int} (hI : Inv mem) (hi : 0 ≤ i ∧ i + 5 ≤ Γ.2.2.2.2.1) (hn : Γ.2.2.2.2.1 ≤ 320) (k : ∀ m2 : Mem, Inv m2 → LwK Γ i 121 2260 1427 m2) : LwK Γ i 121 2260 1092 mem := by
  refine aw_aload_n dL_law_1092 rfl rfl ?_
  refine aw_aload_n dL_law_1093 rfl rfl ?_
  refine aw_iload_n dL_law_1094 rfl rfl ?_
  refine aw_iconst dL_law_1095 rfl ?_
  refine aw_iadd dL_law_1096 rfl ?_
  refine aw_sload dL_law_1097 rfl (by omega) (by omega) ?_
  refine aw_callV [_] _ dL_law_1098 rfl clv_L_135 (by decide) ⟨Nat.le_of_ble_eq_true rfl, Nat.le_of_ble_eq_true rfl⟩ g0 (by rfl) (Nat.le_of_ble_eq_true rfl) rfl ?_
  refine st_next hI (r32 _) _ (fun a m1 hk => ?_)
  refine aw_aload_n dL_law_1101 rfl rfl ?_
  refine aw_aload_n dL_law_1102 rfl rfl ?_
  refine aw_iload_n dL_law_1103 rfl rfl ?_
  refine aw_iconst dL_law_1104 rfl ?_
  refine aw_iadd dL_law_1105 rfl ?_
  refine aw_sload dL_law_1106 rfl (by omega) (by omega) ?_
  refine aw_callV [_] _ dL_law_1107 rfl clv_L_139 (by decide) ⟨Nat.le_of_ble_eq_true rfl, Nat.le_of_ble_eq_true rfl⟩ g109 (by rfl) (Nat.le_of_ble_eq_true rfl) rfl ?_
  refine hk _ (fun m2 hI2 => ?_)
  refine aw_lcmp_same dL_law_1110 rfl ?_
  exact aw_if_eq (tgt := 1427) dL_law_1111 (by decide) rfl (by omega) (fun _ => k m2 hI2) (fun z => absurd rfl z)
theorem lc_30 {i : Int} (hI : Inv mem) (hi : 0 ≤ i ∧ i + 5 ≤ Γ.2.2.2.2.1) (hn : Γ.2.2.2.2.1 ≤ 320) (k : ∀ m2 : Mem, Inv m2 → LwK Γ i 121 2260 1427 m2) : LwK Γ i 121 2260 1116 mem := by
  refine aw_aload_n dL_law_1116 rfl rfl ?_
  refine aw_aload_n dL_law_1117 rfl rfl ?_
  refine aw_iload_n dL_law_1118 rfl rfl ?_
  refine aw_iconst dL_law_1119 rfl ?_
  refine aw_iadd dL_law_1120 rfl ?_
  refine aw_sload dL_law_1121 rfl (by omega) (by omega) ?_
  refine aw_callV [_] _ dL_law_1122 rfl clv_L_140 (by decide) ⟨Nat.le_of_ble_eq_true rfl, Nat.le_of_ble_eq_true rfl⟩ g0 (by rfl) (Nat.le_of_ble_eq_true rfl) rfl ?_
  refine st_takes hI (r32 _) _ (fun a m1 hk => ?_)
  refine aw_aload_n dL_law_1125 rfl rfl ?_
  refine aw_aload_n dL_law_1126 rfl rfl ?_
  refine aw_iload_n dL_law_1127 rfl rfl ?_
  refine aw_iconst dL_law_1128 rfl ?_
  refine aw_iadd dL_law_1129 rfl ?_
  refine aw_sload dL_law_1130 rfl (by omega) (by omega) ?_
  refine aw_callV [_] _ dL_law_1131 rfl clv_L_143 (by decide) ⟨Nat.le_of_ble_eq_true rfl, Nat.le_of_ble_eq_true rfl⟩ g109 (by rfl) (Nat.le_of_ble_eq_true rfl) rfl ?_
  refine hk _ (fun m2 hI2 => ?_)
  exact aw_icmp_same dL_law_1134 (by decide) (k m2 hI2)
theorem lc_31 {i : Int} (hI : Inv mem) (hi : 0 ≤ i ∧ i + 5 ≤ Γ.2.2.2.2.1) (hn : Γ.2.2.2.2.1 ≤ 320) (k : ∀ m2 : Mem, Inv m2 → LwK Γ i 121 2260 1427 m2) : LwK Γ i 121 2260 1139 mem := by
  refine aw_aload_n dL_law_1139 rfl rfl ?_
  refine aw_aload_n dL_law_1140 rfl rfl ?_
  refine aw_iload_n dL_law_1141 rfl rfl ?_
  refine aw_iconst dL_law_1142 rfl ?_
  refine aw_iadd dL_law_1143 rfl ?_
  refine aw_sload dL_law_1144 rfl (by omega) (by omega) ?_
  refine aw_callV [_] _ dL_law_1145 rfl clv_L_144 (by decide) ⟨Nat.le_of_ble_eq_true rfl, Nat.le_of_ble_eq_true rfl⟩ g0 (by rfl) (Nat.le_of_ble_eq_true rfl) rfl ?_
  refine st_morning hI (r32 _) _ (fun a m1 hk => ?_)
  refine aw_aload_n dL_law_1148 rfl rfl ?_
  refine aw_aload_n dL_law_1149 rfl rfl ?_
  refine aw_iload_n dL_law_1150 rfl rfl ?_
  refine aw_iconst dL_law_1151 rfl ?_
  refine aw_iadd dL_law_1152 rfl ?_
  refine aw_sload dL_law_1153 rfl (by omega) (by omega) ?_
  refine aw_callV [_] _ dL_law_1154 rfl clv_L_147 (by decide) ⟨Nat.le_of_ble_eq_true rfl, Nat.le_of_ble_eq_true rfl⟩ g109 (by rfl) (Nat.le_of_ble_eq_true rfl) rfl ?_
  refine hk _ (fun m2 hI2 => ?_)
  refine aw_lcmp_same dL_law_1157 rfl ?_
  exact aw_if_eq (tgt := 1427) dL_law_1158 (by decide) rfl (by omega) (fun _ => k m2 hI2) (fun z => absurd rfl z)
theorem lc_32 {i : Int} (hI : Inv mem) (hi : 0 ≤ i ∧ i + 5 ≤ Γ.2.2.2.2.1) (hn : Γ.2.2.2.2.1 ≤ 320) (k : ∀ m2 : Mem, Inv m2 → LwK Γ i 121 2260 1427 m2) : LwK Γ i 121 2260 1163 mem := by
  refine aw_aload_n dL_law_1163 rfl rfl ?_
  refine aw_aload_n dL_law_1164 rfl rfl ?_
  refine aw_iload_n dL_law_1165 rfl rfl ?_
  refine aw_iconst dL_law_1166 rfl ?_
  refine aw_iadd dL_law_1167 rfl ?_
  refine aw_sload dL_law_1168 rfl (by omega) (by omega) ?_
  refine aw_aload_n dL_law_1169 rfl rfl ?_
  refine aw_iload_n dL_law_1170 rfl rfl ?_
  refine aw_iconst dL_law_1171 rfl ?_
  refine aw_iadd dL_law_1172 rfl ?_
  refine aw_sload dL_law_1173 rfl (by omega) (by omega) ?_
  refine aw_aload_n dL_law_1174 rfl rfl ?_
  refine aw_iload_n dL_law_1175 rfl rfl ?_
  refine aw_iconst dL_law_1176 rfl ?_
  refine aw_iadd dL_law_1177 rfl ?_
  refine aw_sload dL_law_1178 rfl (by omega) (by omega) ?_
  refine aw_callV [_, _, _] _ dL_law_1179 rfl clv_L_148 (by decide) ⟨Nat.le_of_ble_eq_true rfl, Nat.le_of_ble_eq_true rfl⟩ g0 (by rfl) (Nat.le_of_ble_eq_true rfl) rfl ?_
  refine st_drift hI (r32 _) (r32 _) _ (fun a m1 hk => ?_)
  refine aw_aload_n dL_law_1182 rfl rfl ?_
  refine aw_aload_n dL_law_1183 rfl rfl ?_
  refine aw_iload_n dL_law_1184 rfl rfl ?_
  refine aw_iconst dL_law_1185 rfl ?_
  refine aw_iadd dL_law_1186 rfl ?_
  refine aw_sload dL_law_1187 rfl (by omega) (by omega) ?_
  refine aw_aload_n dL_law_1188 rfl rfl ?_
  refine aw_iload_n dL_law_1189 rfl rfl ?_
  refine aw_iconst dL_law_1190 rfl ?_
  refine aw_iadd dL_law_1191 rfl ?_
  refine aw_sload dL_law_1192 rfl (by omega) (by omega) ?_
  refine aw_aload_n dL_law_1193 rfl rfl ?_
  refine aw_iload_n dL_law_1194 rfl rfl ?_
  refine aw_iconst dL_law_1195 rfl ?_
  refine aw_iadd dL_law_1196 rfl ?_
  refine aw_sload dL_law_1197 rfl (by omega) (by omega) ?_
  refine aw_callV [_, _, _] _ dL_law_1198 rfl clv_L_151 (by decide) ⟨Nat.le_of_ble_eq_true rfl, Nat.le_of_ble_eq_true rfl⟩ g109 (by rfl) (Nat.le_of_ble_eq_true rfl) rfl ?_
  refine hk _ (fun m2 hI2 => ?_)
  exact aw_icmp_same dL_law_1201 (by decide) (k m2 hI2)
theorem lc_33 {i : Int} (hI : Inv mem) (hi : 0 ≤ i ∧ i + 5 ≤ Γ.2.2.2.2.1) (hn : Γ.2.2.2.2.1 ≤ 320) (k : ∀ m2 : Mem, Inv m2 → LwK Γ i 121 2260 1427 m2) : LwK Γ i 121 2260 1206 mem := by
  refine aw_aload_n dL_law_1206 rfl rfl ?_
  refine aw_aload_n dL_law_1207 rfl rfl ?_
  refine aw_iload_n dL_law_1208 rfl rfl ?_
  refine aw_iconst dL_law_1209 rfl ?_
  refine aw_iadd dL_law_1210 rfl ?_
  refine aw_sload dL_law_1211 rfl (by omega) (by omega) ?_
  refine aw_callV [_] _ dL_law_1212 rfl clv_L_152 (by decide) ⟨Nat.le_of_ble_eq_true rfl, Nat.le_of_ble_eq_true rfl⟩ g0 (by rfl) (Nat.le_of_ble_eq_true rfl) rfl ?_
  refine st_keep hI (r32 _) _ (fun a m1 hk => ?_)
  refine aw_aload_n dL_law_1215 rfl rfl ?_
  refine aw_aload_n dL_law_1216 rfl rfl ?_
  refine aw_iload_n dL_law_1217 rfl rfl ?_
  refine aw_iconst dL_law_1218 rfl ?_
  refine aw_iadd dL_law_1219 rfl ?_
  refine aw_sload dL_law_1220 rfl (by omega) (by omega) ?_
  refine aw_callV [_] _ dL_law_1221 rfl clv_L_155 (by decide) ⟨Nat.le_of_ble_eq_true rfl, Nat.le_of_ble_eq_true rfl⟩ g109 (by rfl) (Nat.le_of_ble_eq_true rfl) rfl ?_
  refine hk _ (fun m2 hI2 => ?_)
  exact aw_icmp_same dL_law_1224 (by decide) (k m2 hI2)
theorem lc_34 {i : Int} (hI : Inv mem) (hi : 0 ≤ i ∧ i + 5 ≤ Γ.2.2.2.2.1) (hn : Γ.2.2.2.2.1 ≤ 320) (k : ∀ m2 : Mem, Inv m2 → LwK Γ i 121 2260 1427 m2) : LwK Γ i 121 2260 1229 mem := by
  refine aw_aload_n dL_law_1229 rfl rfl ?_
  refine aw_aload_n dL_law_1230 rfl rfl ?_
  refine aw_iload_n dL_law_1231 rfl rfl ?_
  refine aw_iconst dL_law_1232 rfl ?_
  refine aw_iadd dL_law_1233 rfl ?_
  refine aw_sload dL_law_1234 rfl (by omega) (by omega) ?_
  refine aw_callV [_] _ dL_law_1235 rfl clv_L_156 (by decide) ⟨Nat.le_of_ble_eq_true rfl, Nat.le_of_ble_eq_true rfl⟩ g0 (by rfl) (Nat.le_of_ble_eq_true rfl) rfl ?_
  refine st_back hI (r32 _) _ (fun a m1 hk => ?_)
  refine aw_aload_n dL_law_1238 rfl rfl ?_
  refine aw_aload_n dL_law_1239 rfl rfl ?_
  refine aw_iload_n dL_law_1240 rfl rfl ?_
  refine aw_iconst dL_law_1241 rfl ?_
  refine aw_iadd dL_law_1242 rfl ?_
  refine aw_sload dL_law_1243 rfl (by omega) (by omega) ?_
  refine aw_callV [_] _ dL_law_1244 rfl clv_L_159 (by decide) ⟨Nat.le_of_ble_eq_true rfl, Nat.le_of_ble_eq_true rfl⟩ g109 (by rfl) (Nat.le_of_ble_eq_true rfl) rfl ?_
  refine hk _ (fun m2 hI2 => ?_)
  exact aw_icmp_same dL_law_1247 (by decide) (k m2 hI2)
theorem lc_35 {i : Int} (hI : Inv mem) (hi : 0 ≤ i ∧ i + 5 ≤ Γ.2.2.2.2.1) (hn : Γ.2.2.2.2.1 ≤ 320) (k : ∀ m2 : Mem, Inv m2 → LwK Γ i 121 2260 1427 m2) : LwK Γ i 121 2260 1252 mem := by
  refine aw_aload_n dL_law_1252 rfl rfl ?_
  refine aw_aload_n dL_law_1253 rfl rfl ?_
  refine aw_iload_n dL_law_1254 rfl rfl ?_
  refine aw_iconst dL_law_1255 rfl ?_
  refine aw_iadd dL_law_1256 rfl ?_
  refine aw_sload dL_law_1257 rfl (by omega) (by omega) ?_
  refine aw_aload_n dL_law_1258 rfl rfl ?_
  refine aw_iload_n dL_law_1259 rfl rfl ?_
  refine aw_iconst dL_law_1260 rfl ?_
  refine aw_iadd dL_law_1261 rfl ?_
  refine aw_sload dL_law_1262 rfl (by omega) (by omega) ?_
  refine aw_aload_n dL_law_1263 rfl rfl ?_
  refine aw_iload_n dL_law_1264 rfl rfl ?_
  refine aw_iconst dL_law_1265 rfl ?_
  refine aw_iadd dL_law_1266 rfl ?_
  refine aw_sload dL_law_1267 rfl (by omega) (by omega) ?_
  refine aw_callV [_, _, _] _ dL_law_1268 rfl clv_L_160 (by decide) ⟨Nat.le_of_ble_eq_true rfl, Nat.le_of_ble_eq_true rfl⟩ g0 (by rfl) (Nat.le_of_ble_eq_true rfl) rfl ?_
  refine st_sheet hI (r32 _) (r32 _) (r32 _) _ (fun a m1 hk => ?_)
  refine aw_aload_n dL_law_1271 rfl rfl ?_
  refine aw_aload_n dL_law_1272 rfl rfl ?_
  refine aw_iload_n dL_law_1273 rfl rfl ?_
  refine aw_iconst dL_law_1274 rfl ?_
  refine aw_iadd dL_law_1275 rfl ?_
  refine aw_sload dL_law_1276 rfl (by omega) (by omega) ?_
  refine aw_aload_n dL_law_1277 rfl rfl ?_
  refine aw_iload_n dL_law_1278 rfl rfl ?_
  refine aw_iconst dL_law_1279 rfl ?_
  refine aw_iadd dL_law_1280 rfl ?_
  refine aw_sload dL_law_1281 rfl (by omega) (by omega) ?_
  refine aw_aload_n dL_law_1282 rfl rfl ?_
  refine aw_iload_n dL_law_1283 rfl rfl ?_
  refine aw_iconst dL_law_1284 rfl ?_
  refine aw_iadd dL_law_1285 rfl ?_
  refine aw_sload dL_law_1286 rfl (by omega) (by omega) ?_
  refine aw_callV [_, _, _] _ dL_law_1287 rfl clv_L_163 (by decide) ⟨Nat.le_of_ble_eq_true rfl, Nat.le_of_ble_eq_true rfl⟩ g109 (by rfl) (Nat.le_of_ble_eq_true rfl) rfl ?_
  refine hk _ (fun m2 hI2 => ?_)
  exact aw_icmp_same dL_law_1290 (by decide) (k m2 hI2)
theorem lc_36 {i : Int} (hI : Inv mem) (hi : 0 ≤ i ∧ i + 5 ≤ Γ.2.2.2.2.1) (hn : Γ.2.2.2.2.1 ≤ 320) (k : ∀ m2 : Mem, Inv m2 → LwK Γ i 121 2260 1427 m2) : LwK Γ i 121 2260 1295 mem := by
  refine aw_aload_n dL_law_1295 rfl rfl ?_
  refine aw_aload_n dL_law_1296 rfl rfl ?_
  refine aw_iload_n dL_law_1297 rfl rfl ?_
  refine aw_iconst dL_law_1298 rfl ?_
  refine aw_iadd dL_law_1299 rfl ?_
  refine aw_sload dL_law_1300 rfl (by omega) (by omega) ?_
  refine aw_aload_n dL_law_1301 rfl rfl ?_
  refine aw_iload_n dL_law_1302 rfl rfl ?_
  refine aw_iconst dL_law_1303 rfl ?_
  refine aw_iadd dL_law_1304 rfl ?_
  refine aw_sload dL_law_1305 rfl (by omega) (by omega) ?_
  refine aw_aload_n dL_law_1306 rfl rfl ?_
  refine aw_iload_n dL_law_1307 rfl rfl ?_
  refine aw_iconst dL_law_1308 rfl ?_
  refine aw_iadd dL_law_1309 rfl ?_
  refine aw_sload dL_law_1310 rfl (by omega) (by omega) ?_
  refine aw_callV [_, _, _] _ dL_law_1311 rfl clv_L_164 (by decide) ⟨Nat.le_of_ble_eq_true rfl, Nat.le_of_ble_eq_true rfl⟩ g0 (by rfl) (Nat.le_of_ble_eq_true rfl) rfl ?_
  refine st_lay hI (r32 _) (r32 _) (r32 _) _ (fun a m1 hk => ?_)
  refine aw_aload_n dL_law_1314 rfl rfl ?_
  refine aw_aload_n dL_law_1315 rfl rfl ?_
  refine aw_iload_n dL_law_1316 rfl rfl ?_
  refine aw_iconst dL_law_1317 rfl ?_
  refine aw_iadd dL_law_1318 rfl ?_
  refine aw_sload dL_law_1319 rfl (by omega) (by omega) ?_
  refine aw_aload_n dL_law_1320 rfl rfl ?_
  refine aw_iload_n dL_law_1321 rfl rfl ?_
  refine aw_iconst dL_law_1322 rfl ?_
  refine aw_iadd dL_law_1323 rfl ?_
  refine aw_sload dL_law_1324 rfl (by omega) (by omega) ?_
  refine aw_aload_n dL_law_1325 rfl rfl ?_
  refine aw_iload_n dL_law_1326 rfl rfl ?_
  refine aw_iconst dL_law_1327 rfl ?_
  refine aw_iadd dL_law_1328 rfl ?_
  refine aw_sload dL_law_1329 rfl (by omega) (by omega) ?_
  refine aw_callV [_, _, _] _ dL_law_1330 rfl clv_L_167 (by decide) ⟨Nat.le_of_ble_eq_true rfl, Nat.le_of_ble_eq_true rfl⟩ g109 (by rfl) (Nat.le_of_ble_eq_true rfl) rfl ?_
  refine hk _ (fun m2 hI2 => ?_)
  exact aw_icmp_same dL_law_1333 (by decide) (k m2 hI2)
theorem lc_37 {i : Int} (hI : Inv mem) (hi : 0 ≤ i ∧ i + 5 ≤ Γ.2.2.2.2.1) (hn : Γ.2.2.2.2.1 ≤ 320) (k : ∀ m2 : Mem, Inv m2 → LwK Γ i 121 2260 1427 m2) : LwK Γ i 121 2260 1338 mem := by
  refine aw_aload_n dL_law_1338 rfl rfl ?_
  refine aw_aload_n dL_law_1339 rfl rfl ?_
  refine aw_iload_n dL_law_1340 rfl rfl ?_
  refine aw_iconst dL_law_1341 rfl ?_
  refine aw_iadd dL_law_1342 rfl ?_
  refine aw_sload dL_law_1343 rfl (by omega) (by omega) ?_
  refine aw_aload_n dL_law_1344 rfl rfl ?_
  refine aw_iload_n dL_law_1345 rfl rfl ?_
  refine aw_iconst dL_law_1346 rfl ?_
  refine aw_iadd dL_law_1347 rfl ?_
  refine aw_sload dL_law_1348 rfl (by omega) (by omega) ?_
  refine aw_aload_n dL_law_1349 rfl rfl ?_
  refine aw_iload_n dL_law_1350 rfl rfl ?_
  refine aw_iconst dL_law_1351 rfl ?_
  refine aw_iadd dL_law_1352 rfl ?_
  refine aw_sload dL_law_1353 rfl (by omega) (by omega) ?_
  refine aw_aload_n dL_law_1354 rfl rfl ?_
  refine aw_iload_n dL_law_1355 rfl rfl ?_
  refine aw_iconst dL_law_1356 rfl ?_
  refine aw_iadd dL_law_1357 rfl ?_
  refine aw_sload dL_law_1358 rfl (by omega) (by omega) ?_
  refine aw_callV [_, _, _, _] _ dL_law_1359 rfl clv_L_168 (by decide) ⟨Nat.le_of_ble_eq_true rfl, Nat.le_of_ble_eq_true rfl⟩ g0 (by rfl) (Nat.le_of_ble_eq_true rfl) rfl ?_
  refine st_read hI (r32 _) (r32 _) (r32 _) (r32 _) _ (fun a m1 hk => ?_)
  refine aw_aload_n dL_law_1362 rfl rfl ?_
  refine aw_aload_n dL_law_1363 rfl rfl ?_
  refine aw_iload_n dL_law_1364 rfl rfl ?_
  refine aw_iconst dL_law_1365 rfl ?_
  refine aw_iadd dL_law_1366 rfl ?_
  refine aw_sload dL_law_1367 rfl (by omega) (by omega) ?_
  refine aw_aload_n dL_law_1368 rfl rfl ?_
  refine aw_iload_n dL_law_1369 rfl rfl ?_
  refine aw_iconst dL_law_1370 rfl ?_
  refine aw_iadd dL_law_1371 rfl ?_
  refine aw_sload dL_law_1372 rfl (by omega) (by omega) ?_
  refine aw_aload_n dL_law_1373 rfl rfl ?_
  refine aw_iload_n dL_law_1374 rfl rfl ?_
  refine aw_iconst dL_law_1375 rfl ?_
  refine aw_iadd dL_law_1376 rfl ?_
  refine aw_sload dL_law_1377 rfl (by omega) (by omega) ?_
  refine aw_aload_n dL_law_1378 rfl rfl ?_
  refine aw_iload_n dL_law_1379 rfl rfl ?_
  refine aw_iconst dL_law_1380 rfl ?_
  refine aw_iadd dL_law_1381 rfl ?_
  refine aw_sload dL_law_1382 rfl (by omega) (by omega) ?_
  refine aw_callV [_, _, _, _] _ dL_law_1383 rfl clv_L_172 (by decide) ⟨Nat.le_of_ble_eq_true rfl, Nat.le_of_ble_eq_true rfl⟩ g109 (by rfl) (Nat.le_of_ble_eq_true rfl) rfl ?_
  refine hk _ (fun m2 hI2 => ?_)
  exact aw_icmp_same dL_law_1386 (by decide) (k m2 hI2)
theorem lc_38 {i : Int} (hI : Inv mem) (hi : 0 ≤ i ∧ i + 5 ≤ Γ.2.2.2.2.1) (hn : Γ.2.2.2.2.1 ≤ 320) (k : ∀ m2 : Mem, Inv m2 → LwK Γ i 121 2260 1427 m2) : LwK Γ i 121 2260 1391 mem := by
  refine aw_aload_n dL_law_1391 rfl rfl ?_
  refine aw_callV [] _ dL_law_1392 rfl clv_L_173 (by decide) ⟨Nat.le_of_ble_eq_true rfl, Nat.le_of_ble_eq_true rfl⟩ g0 (by rfl) (Nat.le_of_ble_eq_true rfl) rfl ?_
  refine st_torn hI  _ (fun a m1 hk => ?_)
  refine aw_aload_n dL_law_1395 rfl rfl ?_
  refine aw_callV [] _ dL_law_1396 rfl clv_L_176 (by decide) ⟨Nat.le_of_ble_eq_true rfl, Nat.le_of_ble_eq_true rfl⟩ g109 (by rfl) (Nat.le_of_ble_eq_true rfl) rfl ?_
  refine hk _ (fun m2 hI2 => ?_)
  exact aw_icmp_same dL_law_1399 (by decide) (k m2 hI2)
theorem lc_39 {i : Int} (hI : Inv mem) (hi : 0 ≤ i ∧ i + 5 ≤ Γ.2.2.2.2.1) (hn : Γ.2.2.2.2.1 ≤ 320) (k : ∀ m2 : Mem, Inv m2 → LwK Γ i 121 2260 1427 m2) : LwK Γ i 121 2260 1404 mem := by
  refine aw_aload_n dL_law_1404 rfl rfl ?_
  refine aw_aload_n dL_law_1405 rfl rfl ?_
  refine aw_iload_n dL_law_1406 rfl rfl ?_
  refine aw_iconst dL_law_1407 rfl ?_
  refine aw_iadd dL_law_1408 rfl ?_
  refine aw_sload dL_law_1409 rfl (by omega) (by omega) ?_
  refine aw_callV [_] _ dL_law_1410 rfl clv_L_177 (by decide) ⟨Nat.le_of_ble_eq_true rfl, Nat.le_of_ble_eq_true rfl⟩ g0 (by rfl) (Nat.le_of_ble_eq_true rfl) rfl ?_
  refine st_count hI (r32 _) _ (fun a m1 hk => ?_)
  refine aw_aload_n dL_law_1413 rfl rfl ?_
  refine aw_aload_n dL_law_1414 rfl rfl ?_
  refine aw_iload_n dL_law_1415 rfl rfl ?_
  refine aw_iconst dL_law_1416 rfl ?_
  refine aw_iadd dL_law_1417 rfl ?_
  refine aw_sload dL_law_1418 rfl (by omega) (by omega) ?_
  refine aw_callV [_] _ dL_law_1419 rfl clv_L_180 (by decide) ⟨Nat.le_of_ble_eq_true rfl, Nat.le_of_ble_eq_true rfl⟩ g109 (by rfl) (Nat.le_of_ble_eq_true rfl) rfl ?_
  refine hk _ (fun m2 hI2 => ?_)
  exact aw_icmp_same dL_law_1422 (by decide) (k m2 hI2)
end ZLc
