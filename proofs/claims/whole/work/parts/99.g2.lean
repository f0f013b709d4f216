section ZLl
variable {Γ : ZG} {mem : Mem}
theorem AW.free {M : ZM} {F1 : ZF} {G : List GK} {cs ss pc : Nat} {ls : List (Option AV)} {st : List AV} (h : ∀ (p : Program) (e : Env) (s : State) (m : MethodId) (args : Array Value) (below : List Frame) (meth : Method) (c : Code) (H : Heap) (locs : List Loc) (A : Nat → Prop) (lsC : Array Slot), zC M p s m args meth c → va_S A s.heap H locs → W p Γ.1 e M.2.2.2.2 s m args below meth c H locs cs ss (F1 s args below A) (F0 m pc lsC (st.map (cv Γ.2.2.2.1)))) : AW Γ M F1 G cs ss pc ls st mem := fun p e s m args below meth c H locs A lsC hC hK hX hA hP hD hS hL => h p e s m args below meth c H locs A lsC hC hS
/-- the law's end -/
theorem lw_end {i : Int} {mem : Mem} : LwK Γ i 121 2260 1433 mem := by
  refine aw_iconst dL_law_1433 rfl ?_
  refine AW.free (fun p e s m args below meth c H locs A lsC hC hS => ?_)
  by_cases h1 : ∀ q, A q → s.heap.size ≤ q
  · by_cases h2 : ∃ b : Nat, args = #[Value.ref b]
    · obtain ⟨b, rfl⟩ := h2
      have w : W p Γ.1 e room_1 s m #[Value.ref b] below meth c H locs 121 2260 (lw_Z below #[Value.ref b] s) (F0 m 1434 lsC [.int 1]) :=
        va_forget (fun q hq => h1 _ (hS.2.2 q hq)) (W.widen (k := 600000) (n := 7302250) (Nat.le_of_ble_eq_true rfl) (Nat.le_of_ble_eq_true rfl) (lw_ret hC.1 hC.2.1 hC.2.2.2.1 hC.2.2.2.2.2.2.1 dL_law_1434))
      intro T hT X
      obtain ⟨t, a1, a2⟩ := w T hT X
      exact ⟨t, a1, fun _ _ => a2⟩
    · intro T hT X
      exact ⟨_, Steps.refl _, fun _ z => absurd z h2⟩
  · intro T hT X
    exact ⟨_, Steps.refl _, fun z _ => absurd z h1⟩
theorem lw_sw {i : Int} (hI : Inv mem) (hi : 0 ≤ i ∧ i + 5 ≤ Γ.2.2.2.2.1) (hn : Γ.2.2.2.2.1 ≤ 320) (k : ∀ m2 : Mem, Inv m2 → LwK Γ i 121 2260 1427 m2) {a : Int} (ha : i32 a) : AW Γ mL_law lF zG 121 2260 32 [some (vR 9999), some (vR 0), some (vR 109), some (vI i)] [vI a] mem := by
  refine aw_tsw (tgt := 1427) dL_law_32 ha (by decide) (by decide) (fun _ => k mem hI) ?_ (by decide)
  intro jz offz hoz hj1 tz htz hpz
  match jz, hoz with
  | 0, hoz =>
    obtain rfl : (176 : Int) = offz := Option.some.inj hoz
    obtain rfl : tz = 208 := by omega
    exact lc_0 hI hi hn k
  | 1, hoz =>
    obtain rfl : (199 : Int) = offz := Option.some.inj hoz
    obtain rfl : tz = 231 := by omega
    exact lc_1 hI hi hn k
  | 2, hoz =>
    obtain rfl : (222 : Int) = offz := Option.some.inj hoz
    obtain rfl : tz = 254 := by omega
    exact lc_2 hI hi hn k
  | 3, hoz =>
    obtain rfl : (235 : Int) = offz := Option.some.inj hoz
    obtain rfl : tz = 267 := by omega
    exact lc_3 hI hi hn k
  | 4, hoz =>
    obtain rfl : (248 : Int) = offz := Option.some.inj hoz
    obtain rfl : tz = 280 := by omega
    exact lc_4 hI hi hn k
  | 5, hoz =>
    obtain rfl : (271 : Int) = offz := Option.some.inj hoz
    obtain rfl : tz = 303 := by omega
    exact lc_5 hI hi hn k
  | 6, hoz =>
    obtain rfl : (294 : Int) = offz := Option.some.inj hoz
    obtain rfl : tz = 326 := by omega
    exact lc_6 hI hi hn k
  | 7, hoz =>
    obtain rfl : (327 : Int) = offz := Option.some.inj hoz
    obtain rfl : tz = 359 := by omega
    exact lc_7 hI hi hn k
  | 8, hoz =>
    obtain rfl : (360 : Int) = offz := Option.some.inj hoz
    obtain rfl : tz = 392 := by omega
    exact lc_8 hI hi hn k
  | 9, hoz =>
    obtain rfl : (393 : Int) = offz := Option.some.inj hoz
    obtain rfl : tz = 425 := by omega
    exact lc_9 hI hi hn k
  | 10, hoz =>
    obtain rfl : (426 : Int) = offz := Option.some.inj hoz
    obtain rfl : tz = 458 := by omega
    exact lc_10 hI hi hn k
  | 11, hoz =>
    obtain rfl : (469 : Int) = offz := Option.some.inj hoz
    obtain rfl : tz = 501 := by omega
    exact lc_11 hI hi hn k
  | 12, hoz =>
    obtain rfl : (502 : Int) = offz := Option.some.inj hoz
    obtain rfl : tz = 534 := by omega
    exact lc_12 hI hi hn k
  | 13, hoz =>
    obtain rfl : (535 : Int) = offz := Option.some.inj hoz
    obtain rfl : tz = 567 := by omega
    exact lc_13 hI hi hn k
  | 14, hoz =>
    obtain rfl : (558 : Int) = offz := Option.some.inj hoz
    obtain rfl : tz = 590 := by omega
    exact lc_14 hI hi hn k
  | 15, hoz =>
    obtain rfl : (591 : Int) = offz := Option.some.inj hoz
    obtain rfl : tz = 623 := by omega
    exact lc_15 hI hi hn k
  | 16, hoz =>
    obtain rfl : (624 : Int) = offz := Option.some.inj hoz
    obtain rfl : tz = 656 := by omega
    exact lc_16 hI hi hn k
  | 17, hoz =>
    obtain rfl : (673 : Int) = offz := Option.some.inj hoz
    obtain rfl : tz = 705 := by omega
    exact lc_17 hI hi hn k
  | 18, hoz =>
    obtain rfl : (696 : Int) = offz := Option.some.inj hoz
    obtain rfl : tz = 728 := by omega
    exact lc_18 hI hi hn k
  | 19, hoz =>
    obtain rfl : (739 : Int) = offz := Option.some.inj hoz
    obtain rfl : tz = 771 := by omega
    exact lc_19 hI hi hn k
  | 20, hoz =>
    obtain rfl : (772 : Int) = offz := Option.some.inj hoz
    obtain rfl : tz = 804 := by omega
    exact lc_20 hI hi hn k
  | 21, hoz =>
    obtain rfl : (805 : Int) = offz := Option.some.inj hoz
    obtain rfl : tz = 837 := by omega
    exact lc_21 hI hi hn k
  | 22, hoz =>
    obtain rfl : (838 : Int) = offz := Option.some.inj hoz
    obtain rfl : tz = 870 := by omega
    exact lc_22 hI hi hn k
  | 23, hoz =>
    obtain rfl : (871 : Int) = offz := Option.some.inj hoz
    obtain rfl : tz = 903 := by omega
    exact lc_23 hI hi hn k
  | 24, hoz =>
    obtain rfl : (904 : Int) = offz := Option.some.inj hoz
    obtain rfl : tz = 936 := by omega
    exact lc_24 hI hi hn k
  | 25, hoz =>
    obtain rfl : (927 : Int) = offz := Option.some.inj hoz
    obtain rfl : tz = 959 := by omega
    exact lc_25 hI hi hn k
  | 26, hoz =>
    obtain rfl : (970 : Int) = offz := Option.some.inj hoz
    obtain rfl : tz = 1002 := by omega
    exact lc_26 hI hi hn k
  | 27, hoz =>
    obtain rfl : (993 : Int) = offz := Option.some.inj hoz
    obtain rfl : tz = 1025 := by omega
    exact lc_27 hI hi hn k
  | 28, hoz =>
    obtain rfl : (1016 : Int) = offz := Option.some.inj hoz
    obtain rfl : tz = 1048 := by omega
    exact lc_28 hI hi hn k
  | 29, hoz =>
    obtain rfl : (1060 : Int) = offz := Option.some.inj hoz
    obtain rfl : tz = 1092 := by omega
    exact lc_29 hI hi hn k
  | 30, hoz =>
    obtain rfl : (1084 : Int) = offz := Option.some.inj hoz
    obtain rfl : tz = 1116 := by omega
    exact lc_30 hI hi hn k
  | 31, hoz =>
    obtain rfl : (1107 : Int) = offz := Option.some.inj hoz
    obtain rfl : tz = 1139 := by omega
    exact lc_31 hI hi hn k
  | 32, hoz =>
    obtain rfl : (1131 : Int) = offz := Option.some.inj hoz
    obtain rfl : tz = 1163 := by omega
    exact lc_32 hI hi hn k
  | 33, hoz =>
    obtain rfl : (1174 : Int) = offz := Option.some.inj hoz
    obtain rfl : tz = 1206 := by omega
    exact lc_33 hI hi hn k
  | 34, hoz =>
    obtain rfl : (1197 : Int) = offz := Option.some.inj hoz
    obtain rfl : tz = 1229 := by omega
    exact lc_34 hI hi hn k
  | 35, hoz =>
    obtain rfl : (1220 : Int) = offz := Option.some.inj hoz
    obtain rfl : tz = 1252 := by omega
    exact lc_35 hI hi hn k
  | 36, hoz =>
    obtain rfl : (1263 : Int) = offz := Option.some.inj hoz
    obtain rfl : tz = 1295 := by omega
    exact lc_36 hI hi hn k
  | 37, hoz =>
    obtain rfl : (1306 : Int) = offz := Option.some.inj hoz
    obtain rfl : tz = 1338 := by omega
    exact lc_37 hI hi hn k
  | 38, hoz =>
    obtain rfl : (1359 : Int) = offz := Option.some.inj hoz
    obtain rfl : tz = 1391 := by omega
    exact lc_38 hI hi hn k
  | 39, hoz =>
    obtain rfl : (1372 : Int) = offz := Option.some.inj hoz
    obtain rfl : tz = 1404 := by omega
    exact lc_39 hI hi hn k
  | jz + 40, hoz => cases hoz
theorem lw_loop (hn : Γ.2.2.2.2.1 ≤ 320) : ∀ (d : Nat) (i : Int) (mem : Mem), Inv mem → 0 ≤ i → i ≤ 320 → 320 - i < d → LwK Γ i 121 2260 18 mem := by
  intro d
  induction d with
  | zero => intro i mem hI h0 h1 h2; omega
  | succ d ih =>
    intro i mem hI h0 h1 h2
    refine aw_iload_n dL_law_18 rfl rfl ?_
    refine aw_aload_n dL_law_19 rfl rfl ?_
    refine aw_slen dL_law_20 rfl ?_
    refine aw_iconst dL_law_21 rfl ?_
    refine aw_isub dL_law_22 rfl ?_
    refine aw_icmp_gt (tgt := 1433) dL_law_23 (by decide) rfl (by omega) (by omega) (fun c1 => ?_) (fun c1 => ?_)
    · exact lw_end
    · refine aw_aload_n dL_law_26 rfl rfl ?_
      refine aw_iload_n dL_law_27 rfl rfl ?_
      refine aw_sload dL_law_28 rfl (by omega) (by omega) ?_
      refine aw_bipush dL_law_29 rfl (by decide) ?_
      refine aw_iand dL_law_31 rfl ?_
      refine lw_sw hI ⟨h0, by omega⟩ hn (fun m2 hI2 => ?_) (zand_rng _ _)
      refine aw_iinc3 rfl dL_law_1427 rfl (by decide) ?_
      refine aw_goto (tgt := 18) dL_law_1430 (by decide) ?_
      exact ih (i + 5) m2 hI2 (by omega) (by omega) (by omega)
end ZLl
