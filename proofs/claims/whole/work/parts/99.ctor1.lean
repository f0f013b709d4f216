/-! the constructors: names, links, slots of a new object -/
theorem gat {G0 X : List GK} {b j : Nat} (hb : G0.length = b) : (G0 ++ X)[b + j]? = X[j]? := by rw [List.getElem?_append_right (by omega), hb, Nat.add_sub_cancel_left]
theorem gat0 {G0 X : List GK} {b : Nat} (hb : G0.length = b) : (G0 ++ X)[b]? = X[0]? := gat (j := 0) hb
theorem gset {G0 X : List GK} {b j : Nat} {g : GK} (hb : G0.length = b) : (G0 ++ X).set (b + j) g = G0 ++ X.set j g := by rw [List.set_append_right _ _ (by omega), hb, Nat.add_sub_cancel_left]
theorem gset0 {G0 X : List GK} {b : Nat} {g : GK} (hb : G0.length = b) : (G0 ++ X).set b g = G0 ++ X.set 0 g := gset (j := 0) hb
def zal (n : Nat) : List (Option AV) → Prop
  | [] => True
  | none :: l => zal n l
  | some v :: l => zrv n v ∧ zal n l
def zas (n : Nat) : List AV → Prop
  | [] => True
  | v :: l => zrv n v ∧ zas n l
theorem zlv.mk {n : Nat} {ls : List (Option AV)} {st : List AV} (h1 : zal n ls) (h2 : zas n st) : zlv n ls st := by
  refine ⟨?_, ?_⟩
  · induction ls with
    | nil => intro v h; cases h
    | cons a l ih =>
      intro v h
      rcases List.mem_cons.mp h with e | e
      · subst e; exact h1.1
      · cases a with
        | none => exact ih h1 v e
        | some w => exact ih h1.2 v e
  · induction st with
    | nil => intro v h; cases h
    | cons a l ih =>
      intro v h
      rcases List.mem_cons.mp h with e | e
      · subst e; exact h2.1
      · exact ih h2.2 v e
theorem fr_X0 : FR 0 RX0 9 [some none, some none, none, none, none, none, some none, some none, some none] := by
  refine ⟨TX0, tyX0, rfl, tyX0_ok, fun j hj => ?_, by decide⟩
  match j, hj with
  | 0, _ => exact Or.inr ⟨rfl, rfl⟩
  | 1, _ => exact Or.inr ⟨rfl, rfl⟩
  | 2, _ => exact Or.inl ⟨rfl, rfl⟩
  | 3, _ => exact Or.inl ⟨rfl, rfl⟩
  | 4, _ => exact Or.inl ⟨rfl, rfl⟩
  | 5, _ => exact Or.inl ⟨rfl, rfl⟩
  | 6, _ => exact Or.inr ⟨rfl, rfl⟩
  | 7, _ => exact Or.inr ⟨rfl, rfl⟩
  | 8, _ => exact Or.inr ⟨rfl, rfl⟩
  | j + 9, h => exact absurd h (by omega)
theorem fr_X1 : FR 1 RX1 5 [some none, some none, none, none, none] := by
  refine ⟨TX1, tyX1, rfl, tyX1_ok, fun j hj => ?_, by decide⟩
  match j, hj with
  | 0, _ => exact Or.inr ⟨rfl, rfl⟩
  | 1, _ => exact Or.inr ⟨rfl, rfl⟩
  | 2, _ => exact Or.inl ⟨rfl, rfl⟩
  | 3, _ => exact Or.inl ⟨rfl, rfl⟩
  | 4, _ => exact Or.inl ⟨rfl, rfl⟩
  | j + 5, h => exact absurd h (by omega)
theorem fr_X2 : FR 2 RX2 8 [none, none, none, none, some none, some none, some none, some none] := by
  refine ⟨TX2, tyX2, rfl, tyX2_ok, fun j hj => ?_, by decide⟩
  match j, hj with
  | 0, _ => exact Or.inl ⟨rfl, rfl⟩
  | 1, _ => exact Or.inl ⟨rfl, rfl⟩
  | 2, _ => exact Or.inl ⟨rfl, rfl⟩
  | 3, _ => exact Or.inl ⟨rfl, rfl⟩
  | 4, _ => exact Or.inr ⟨rfl, rfl⟩
  | 5, _ => exact Or.inr ⟨rfl, rfl⟩
  | 6, _ => exact Or.inr ⟨rfl, rfl⟩
  | 7, _ => exact Or.inr ⟨rfl, rfl⟩
  | j + 8, h => exact absurd h (by omega)
theorem fr_X3 : FR 3 RX3 5 [some none, some none, some none, some none, none] := by
  refine ⟨TX3, tyX3, rfl, tyX3_ok, fun j hj => ?_, by decide⟩
  match j, hj with
  | 0, _ => exact Or.inr ⟨rfl, rfl⟩
  | 1, _ => exact Or.inr ⟨rfl, rfl⟩
  | 2, _ => exact Or.inr ⟨rfl, rfl⟩
  | 3, _ => exact Or.inr ⟨rfl, rfl⟩
  | 4, _ => exact Or.inl ⟨rfl, rfl⟩
  | j + 5, h => exact absurd h (by omega)
theorem fr_X4 : FR 4 RX4 3 [some none, none, none] := by
  refine ⟨TX4, tyX4, rfl, tyX4_ok, fun j hj => ?_, by decide⟩
  match j, hj with
  | 0, _ => exact Or.inr ⟨rfl, rfl⟩
  | 1, _ => exact Or.inl ⟨rfl, rfl⟩
  | 2, _ => exact Or.inl ⟨rfl, rfl⟩
  | j + 3, h => exact absurd h (by omega)
theorem fr_X5 : FR 5 RX5 9 [some none, some none, some none, none, none, none, none, none, none] := by
  refine ⟨TX5, tyX5, rfl, tyX5_ok, fun j hj => ?_, by decide⟩
  match j, hj with
  | 0, _ => exact Or.inr ⟨rfl, rfl⟩
  | 1, _ => exact Or.inr ⟨rfl, rfl⟩
  | 2, _ => exact Or.inr ⟨rfl, rfl⟩
  | 3, _ => exact Or.inl ⟨rfl, rfl⟩
  | 4, _ => exact Or.inl ⟨rfl, rfl⟩
  | 5, _ => exact Or.inl ⟨rfl, rfl⟩
  | 6, _ => exact Or.inl ⟨rfl, rfl⟩
  | 7, _ => exact Or.inl ⟨rfl, rfl⟩
  | 8, _ => exact Or.inl ⟨rfl, rfl⟩
  | j + 9, h => exact absurd h (by omega)
theorem fr_X6 : FR 6 RX6 3 [some none, none, none] := by
  refine ⟨TX6, tyX6, rfl, tyX6_ok, fun j hj => ?_, by decide⟩
  match j, hj with
  | 0, _ => exact Or.inr ⟨rfl, rfl⟩
  | 1, _ => exact Or.inl ⟨rfl, rfl⟩
  | 2, _ => exact Or.inl ⟨rfl, rfl⟩
  | j + 3, h => exact absurd h (by omega)
theorem fr_X7 : FR 7 RX7 7 [none, none, none, none, none, none, none] := by
  refine ⟨TX7, tyX7, rfl, tyX7_ok, fun j hj => ?_, by decide⟩
  match j, hj with
  | 0, _ => exact Or.inl ⟨rfl, rfl⟩
  | 1, _ => exact Or.inl ⟨rfl, rfl⟩
  | 2, _ => exact Or.inl ⟨rfl, rfl⟩
  | 3, _ => exact Or.inl ⟨rfl, rfl⟩
  | 4, _ => exact Or.inl ⟨rfl, rfl⟩
  | 5, _ => exact Or.inl ⟨rfl, rfl⟩
  | 6, _ => exact Or.inl ⟨rfl, rfl⟩
  | j + 7, h => exact absurd h (by omega)
theorem fr_X8 : FR 8 RX8 7 [some none, none, none, none, none, none, none] := by
  refine ⟨TX8, tyX8, rfl, tyX8_ok, fun j hj => ?_, by decide⟩
  match j, hj with
  | 0, _ => exact Or.inr ⟨rfl, rfl⟩
  | 1, _ => exact Or.inl ⟨rfl, rfl⟩
  | 2, _ => exact Or.inl ⟨rfl, rfl⟩
  | 3, _ => exact Or.inl ⟨rfl, rfl⟩
  | 4, _ => exact Or.inl ⟨rfl, rfl⟩
  | 5, _ => exact Or.inl ⟨rfl, rfl⟩
  | 6, _ => exact Or.inl ⟨rfl, rfl⟩
  | j + 7, h => exact absurd h (by omega)
theorem fr_X9 : FR 9 RX9 2 [some none, some none] := by
  refine ⟨TX9, tyX9, rfl, tyX9_ok, fun j hj => ?_, by decide⟩
  match j, hj with
  | 0, _ => exact Or.inr ⟨rfl, rfl⟩
  | 1, _ => exact Or.inr ⟨rfl, rfl⟩
  | j + 2, h => exact absurd h (by omega)
theorem fr_X10 : FR 10 RX10 12 [some none, some none, some none, some none, some none, some none, some none, some none, some none, some none, none, none] := by
  refine ⟨TX10, tyX10, rfl, tyX10_ok, fun j hj => ?_, by decide⟩
  match j, hj with
  | 0, _ => exact Or.inr ⟨rfl, rfl⟩
  | 1, _ => exact Or.inr ⟨rfl, rfl⟩
  | 2, _ => exact Or.inr ⟨rfl, rfl⟩
  | 3, _ => exact Or.inr ⟨rfl, rfl⟩
  | 4, _ => exact Or.inr ⟨rfl, rfl⟩
  | 5, _ => exact Or.inr ⟨rfl, rfl⟩
  | 6, _ => exact Or.inr ⟨rfl, rfl⟩
  | 7, _ => exact Or.inr ⟨rfl, rfl⟩
  | 8, _ => exact Or.inr ⟨rfl, rfl⟩
  | 9, _ => exact Or.inr ⟨rfl, rfl⟩
  | 10, _ => exact Or.inl ⟨rfl, rfl⟩
  | 11, _ => exact Or.inl ⟨rfl, rfl⟩
  | j + 12, h => exact absurd h (by omega)
theorem fr_X11 : FR 11 RX11 27 [some none, some none, some none, none, some none, none, none, none, none, none, none, none, some none, none, none, none, none, none, none, none, some none, some none, some none, some none, some none, some none, none] := by
  refine ⟨TX11, tyX11, rfl, tyX11_ok, fun j hj => ?_, by decide⟩
  match j, hj with
  | 0, _ => exact Or.inr ⟨rfl, rfl⟩
  | 1, _ => exact Or.inr ⟨rfl, rfl⟩
  | 2, _ => exact Or.inr ⟨rfl, rfl⟩
  | 3, _ => exact Or.inl ⟨rfl, rfl⟩
  | 4, _ => exact Or.inr ⟨rfl, rfl⟩
  | 5, _ => exact Or.inl ⟨rfl, rfl⟩
  | 6, _ => exact Or.inl ⟨rfl, rfl⟩
  | 7, _ => exact Or.inl ⟨rfl, rfl⟩
  | 8, _ => exact Or.inl ⟨rfl, rfl⟩
  | 9, _ => exact Or.inl ⟨rfl, rfl⟩
  | 10, _ => exact Or.inl ⟨rfl, rfl⟩
  | 11, _ => exact Or.inl ⟨rfl, rfl⟩
  | 12, _ => exact Or.inr ⟨rfl, rfl⟩
  | 13, _ => exact Or.inl ⟨rfl, rfl⟩
  | 14, _ => exact Or.inl ⟨rfl, rfl⟩
  | 15, _ => exact Or.inl ⟨rfl, rfl⟩
  | 16, _ => exact Or.inl ⟨rfl, rfl⟩
  | 17, _ => exact Or.inl ⟨rfl, rfl⟩
  | 18, _ => exact Or.inl ⟨rfl, rfl⟩
  | 19, _ => exact Or.inl ⟨rfl, rfl⟩
  | 20, _ => exact Or.inr ⟨rfl, rfl⟩
  | 21, _ => exact Or.inr ⟨rfl, rfl⟩
  | 22, _ => exact Or.inr ⟨rfl, rfl⟩
  | 23, _ => exact Or.inr ⟨rfl, rfl⟩
  | 24, _ => exact Or.inr ⟨rfl, rfl⟩
  | 25, _ => exact Or.inr ⟨rfl, rfl⟩
  | 26, _ => exact Or.inl ⟨rfl, rfl⟩
  | j + 27, h => exact absurd h (by omega)
def mX7_init : ZM := (yX7_init, cX7_init, 1, none, { frames := 1, cells := 0, slots := 0, locals := 40 })
def mX2_init : ZM := (yX2_init, cX2_init, 1, none, { frames := 1, cells := 4, slots := 42, locals := 40 })
theorem fpf_X2_9 : FPF RX2 9 2 4 := ⟨RX2, TX2, 8, (.array .int), rfl, by decide, (zin 102 (by decide +kernel) rfl), rfl, rfl, by decide +kernel, fun _ => ⟨rfl, rfl⟩⟩
theorem fpf_X2_15 : FPF RX2 15 2 5 := ⟨RX2, TX2, 8, (.array .int), rfl, by decide, (zin 105 (by decide +kernel) rfl), rfl, rfl, by decide +kernel, fun _ => ⟨rfl, rfl⟩⟩
theorem fpf_X2_18 : FPF RX2 18 2 6 := ⟨RX2, TX2, 8, (.array .int), rfl, by decide, (zin 108 (by decide +kernel) rfl), rfl, rfl, by decide +kernel, fun _ => ⟨rfl, rfl⟩⟩
theorem fpf_X2_21 : FPF RX2 21 2 7 := ⟨RX2, TX2, 8, (.array .int), rfl, by decide, (zin 111 (by decide +kernel) rfl), rfl, rfl, by decide +kernel, fun _ => ⟨rfl, rfl⟩⟩
def mX1_init : ZM := (yX1_init, cX1_init, 1, none, { frames := 1, cells := 2, slots := 119, locals := 40 })
theorem fpf_X1_9 : FPF RX1 9 1 0 := ⟨RX1, TX1, 5, (.array .boolean), rfl, by decide, (zin 362 (by decide +kernel) rfl), rfl, rfl, by decide +kernel, fun _ => ⟨rfl, rfl⟩⟩
theorem fpf_X1_15 : FPF RX1 15 1 1 := ⟨RX1, TX1, 5, (.array .boolean), rfl, by decide, (zin 363 (by decide +kernel) rfl), rfl, rfl, by decide +kernel, fun _ => ⟨rfl, rfl⟩⟩
def mX3_init : ZM := (yX3_init, cX3_init, 1, none, { frames := 1, cells := 4, slots := 82, locals := 40 })
theorem fpf_X3_9 : FPF RX3 9 3 0 := ⟨RX3, TX3, 5, (.array .int), rfl, by decide, (zin 321 (by decide +kernel) rfl), rfl, rfl, by decide +kernel, fun _ => ⟨rfl, rfl⟩⟩
theorem fpf_X3_15 : FPF RX3 15 3 1 := ⟨RX3, TX3, 5, (.array .boolean), rfl, by decide, (zin 322 (by decide +kernel) rfl), rfl, rfl, by decide +kernel, fun _ => ⟨rfl, rfl⟩⟩
theorem fpf_X3_19 : FPF RX3 19 3 2 := ⟨RX3, TX3, 5, (.array .int), rfl, by decide, (zin 323 (by decide +kernel) rfl), rfl, rfl, by decide +kernel, fun _ => ⟨rfl, rfl⟩⟩
theorem fpf_X3_22 : FPF RX3 22 3 3 := ⟨RX3, TX3, 5, (.array .int), rfl, by decide, (zin 325 (by decide +kernel) rfl), rfl, rfl, by decide +kernel, fun _ => ⟨rfl, rfl⟩⟩
def mX4_init : ZM := (yX4_init, cX4_init, 1, none, { frames := 1, cells := 1, slots := 6, locals := 40 })
theorem fpf_X4_9 : FPF RX4 9 4 0 := ⟨RX4, TX4, 3, (.array .int), rfl, by decide, (zin 387 (by decide +kernel) rfl), rfl, rfl, by decide +kernel, fun _ => ⟨rfl, rfl⟩⟩
def mX6_init : ZM := (yX6_init, cX6_init, 1, none, { frames := 1, cells := 1, slots := 40, locals := 40 })
theorem fpf_X6_9 : FPF RX6 9 6 0 := ⟨RX6, TX6, 3, (.array .int), rfl, by decide, (zin 345 (by decide +kernel) rfl), rfl, rfl, by decide +kernel, fun _ => ⟨rfl, rfl⟩⟩
def mX8_init : ZM := (yX8_init, cX8_init, 1, none, { frames := 1, cells := 1, slots := 160, locals := 40 })
theorem fpf_X8_9 : FPF RX8 9 8 0 := ⟨RX8, TX8, 7, (.array .byte), rfl, by decide, (zin 239 (by decide +kernel) rfl), rfl, rfl, by decide +kernel, fun _ => ⟨rfl, rfl⟩⟩
def mX9_init : ZM := (yX9_init, cX9_init, 1, none, { frames := 1, cells := 2, slots := 31, locals := 40 })
theorem fpf_X9_9 : FPF RX9 9 9 0 := ⟨RX9, TX9, 2, (.array .int), rfl, by decide, (zin 307 (by decide +kernel) rfl), rfl, rfl, by decide +kernel, fun _ => ⟨rfl, rfl⟩⟩
theorem fpf_X9_15 : FPF RX9 15 9 1 := ⟨RX9, TX9, 2, (.array .int), rfl, by decide, (zin 309 (by decide +kernel) rfl), rfl, rfl, by decide +kernel, fun _ => ⟨rfl, rfl⟩⟩
def mX0_init : ZM := (yX0_init, cX0_init, 2, none, { frames := 2, cells := 15, slots := 116, locals := 60 })
theorem cli_X0_11 : CLI RX0 11 mX2_init := ⟨Or.inr (by decide), (zin 51 (by decide +kernel) rfl), (zin 87 (by decide +kernel) rfl), rfl, by decide +kernel, rfl, (zin 86 (by decide +kernel) rfl)⟩
theorem fpf_X0_12 : FPF RX0 12 0 0 := ⟨RX0, TX0, 9, (.object "EmberSpuds$Fire"), rfl, by decide, (zin 177 (by decide +kernel) rfl), rfl, rfl, by decide +kernel, fun _ => ⟨rfl, rfl⟩⟩
theorem fpf_X0_20 : FPF RX0 20 0 1 := ⟨RX0, TX0, 9, (.array (.object "EmberSpuds$Spud")), rfl, by decide, (zin 183 (by decide +kernel) rfl), rfl, rfl, by decide +kernel, fun _ => ⟨rfl, rfl⟩⟩
theorem fpf_X0_24 : FPF RX0 24 0 6 := ⟨RX0, TX0, 9, (.array .int), rfl, by decide, (zin 201 (by decide +kernel) rfl), rfl, rfl, by decide +kernel, fun _ => ⟨rfl, rfl⟩⟩
theorem fpf_X0_28 : FPF RX0 28 0 7 := ⟨RX0, TX0, 9, (.array .int), rfl, by decide, (zin 203 (by decide +kernel) rfl), rfl, rfl, by decide +kernel, fun _ => ⟨rfl, rfl⟩⟩
theorem fpf_X0_31 : FPF RX0 31 0 8 := ⟨RX0, TX0, 9, (.array .int), rfl, by decide, (zin 205 (by decide +kernel) rfl), rfl, rfl, by decide +kernel, fun _ => ⟨rfl, rfl⟩⟩
theorem cli_X0_34 : CLI RX0 34 mX7_init := ⟨Or.inr (by decide), (zin 52 (by decide +kernel) rfl), (zin 137 (by decide +kernel) rfl), rfl, by decide +kernel, rfl, (zin 136 (by decide +kernel) rfl)⟩
def mX5_init : ZM := (yX5_init, cX5_init, 1, none, { frames := 3, cells := 19, slots := 298, locals := 81 })
theorem cli_X5_11 : CLI RX5 11 mX8_init := ⟨Or.inr (by decide), (zin 55 (by decide +kernel) rfl), (zin 237 (by decide +kernel) rfl), rfl, by decide +kernel, rfl, (zin 236 (by decide +kernel) rfl)⟩
theorem fpf_X5_12 : FPF RX5 12 5 0 := ⟨RX5, TX5, 9, (.object "EmberSpuds$Tape"), rfl, by decide, (zin 270 (by decide +kernel) rfl), rfl, rfl, by decide +kernel, fun _ => ⟨rfl, rfl⟩⟩
theorem cli_X5_20 : CLI RX5 20 mX0_init := ⟨Or.inl (zin 269 (by decide +kernel) rfl), (zin 50 (by decide +kernel) rfl), (zin 81 (by decide +kernel) rfl), rfl, by decide +kernel, rfl, (zin 80 (by decide +kernel) rfl)⟩
theorem fpf_X5_21 : FPF RX5 21 5 1 := ⟨RX5, TX5, 9, (.object "EmberSpuds$Evening"), rfl, by decide, (zin 272 (by decide +kernel) rfl), rfl, rfl, by decide +kernel, fun _ => ⟨rfl, rfl⟩⟩
theorem fpf_X5_25 : FPF RX5 25 5 2 := ⟨RX5, TX5, 9, (.array .int), rfl, by decide, (zin 274 (by decide +kernel) rfl), rfl, rfl, by decide +kernel, fun _ => ⟨rfl, rfl⟩⟩
def mX10_init : ZM := (yX10_init, cX10_init, 1, none, { frames := 4, cells := 108, slots := 1240, locals := 101 })
theorem cli_X10_11 : CLI RX10 11 mX0_init := ⟨Or.inl (zin 79 (by decide +kernel) rfl), (zin 50 (by decide +kernel) rfl), (zin 81 (by decide +kernel) rfl), rfl, by decide +kernel, rfl, (zin 80 (by decide +kernel) rfl)⟩
theorem fpf_X10_12 : FPF RX10 12 10 0 := ⟨RX10, TX10, 12, (.object "EmberSpuds$Evening"), rfl, by decide, (zin 399 (by decide +kernel) rfl), rfl, rfl, by decide +kernel, fun _ => ⟨rfl, rfl⟩⟩
theorem fpf_X10_16 : FPF RX10 16 10 1 := ⟨RX10, TX10, 12, (.object "EmberSpuds$Evening"), rfl, by decide, (zin 400 (by decide +kernel) rfl), rfl, rfl, by decide +kernel, fun _ => ⟨rfl, rfl⟩⟩
theorem fpf_X10_19 : FPF RX10 19 10 2 := ⟨RX10, TX10, 12, (.array (.object "EmberSpuds$Evening")), rfl, by decide, (zin 401 (by decide +kernel) rfl), rfl, rfl, by decide +kernel, fun _ => ⟨rfl, rfl⟩⟩
theorem fpf_X10_23 : FPF RX10 23 10 3 := ⟨RX10, TX10, 12, (.array .boolean), rfl, by decide, (zin 402 (by decide +kernel) rfl), rfl, rfl, by decide +kernel, fun _ => ⟨rfl, rfl⟩⟩
theorem cli_X10_29 : CLI RX10 29 mX5_init := ⟨Or.inr (by decide), (zin 54 (by decide +kernel) rfl), (zin 231 (by decide +kernel) rfl), rfl, by decide +kernel, rfl, (zin 230 (by decide +kernel) rfl)⟩
theorem fpf_X10_30 : FPF RX10 30 10 4 := ⟨RX10, TX10, 12, (.object "EmberSpuds$Reader"), rfl, by decide, (zin 403 (by decide +kernel) rfl), rfl, rfl, by decide +kernel, fun _ => ⟨rfl, rfl⟩⟩
theorem cli_X10_36 : CLI RX10 36 mX9_init := ⟨Or.inr (by decide), (zin 56 (by decide +kernel) rfl), (zin 305 (by decide +kernel) rfl), rfl, by decide +kernel, rfl, (zin 304 (by decide +kernel) rfl)⟩
theorem fpf_X10_37 : FPF RX10 37 10 5 := ⟨RX10, TX10, 12, (.object "EmberSpuds$Track"), rfl, by decide, (zin 404 (by decide +kernel) rfl), rfl, rfl, by decide +kernel, fun _ => ⟨rfl, rfl⟩⟩
theorem cli_X10_43 : CLI RX10 43 mX3_init := ⟨Or.inr (by decide), (zin 57 (by decide +kernel) rfl), (zin 319 (by decide +kernel) rfl), rfl, by decide +kernel, rfl, (zin 318 (by decide +kernel) rfl)⟩
theorem fpf_X10_44 : FPF RX10 44 10 6 := ⟨RX10, TX10, 12, (.object "EmberSpuds$Layout"), rfl, by decide, (zin 405 (by decide +kernel) rfl), rfl, rfl, by decide +kernel, fun _ => ⟨rfl, rfl⟩⟩
theorem cli_X10_50 : CLI RX10 50 mX6_init := ⟨Or.inr (by decide), (zin 58 (by decide +kernel) rfl), (zin 343 (by decide +kernel) rfl), rfl, by decide +kernel, rfl, (zin 342 (by decide +kernel) rfl)⟩
theorem fpf_X10_51 : FPF RX10 51 10 7 := ⟨RX10, TX10, 12, (.array (.object "EmberSpuds$Sheet")), rfl, by decide, (zin 406 (by decide +kernel) rfl), rfl, rfl, by decide +kernel, fun _ => ⟨rfl, rfl⟩⟩
theorem cli_X10_57 : CLI RX10 57 mX1_init := ⟨Or.inr (by decide), (zin 59 (by decide +kernel) rfl), (zin 360 (by decide +kernel) rfl), rfl, by decide +kernel, rfl, (zin 359 (by decide +kernel) rfl)⟩
theorem fpf_X10_58 : FPF RX10 58 10 8 := ⟨RX10, TX10, 12, (.object "EmberSpuds$FallSearch"), rfl, by decide, (zin 407 (by decide +kernel) rfl), rfl, rfl, by decide +kernel, fun _ => ⟨rfl, rfl⟩⟩
theorem cli_X10_64 : CLI RX10 64 mX4_init := ⟨Or.inr (by decide), (zin 60 (by decide +kernel) rfl), (zin 385 (by decide +kernel) rfl), rfl, by decide +kernel, rfl, (zin 384 (by decide +kernel) rfl)⟩
theorem fpf_X10_65 : FPF RX10 65 10 9 := ⟨RX10, TX10, 12, (.object "EmberSpuds$Memory"), rfl, by decide, (zin 408 (by decide +kernel) rfl), rfl, rfl, by decide +kernel, fun _ => ⟨rfl, rfl⟩⟩
def mX11_init : ZM := (yX11_init, cX11_init, 2, none, { frames := 1, cells := 11, slots := 981, locals := 40 })
theorem fpf_X11_7 : FPF RX11 7 11 0 := ⟨RX11, TX11, 27, (.array .int), rfl, by decide, (zin 1113 (by decide +kernel) rfl), rfl, rfl, by decide +kernel, fun _ => ⟨rfl, rfl⟩⟩
theorem fpf_X11_13 : FPF RX11 13 11 1 := ⟨RX11, TX11, 27, (.array .int), rfl, by decide, (zin 1114 (by decide +kernel) rfl), rfl, rfl, by decide +kernel, fun _ => ⟨rfl, rfl⟩⟩
theorem fpf_X11_16 : FPF RX11 16 11 2 := ⟨RX11, TX11, 27, (.array .boolean), rfl, by decide, (zin 1115 (by decide +kernel) rfl), rfl, rfl, by decide +kernel, fun _ => ⟨rfl, rfl⟩⟩
theorem fpf_X11_20 : FPF RX11 20 11 4 := ⟨RX11, TX11, 27, (.array .int), rfl, by decide, (zin 1117 (by decide +kernel) rfl), rfl, rfl, by decide +kernel, fun _ => ⟨rfl, rfl⟩⟩
theorem fpf_X11_23 : FPF RX11 23 11 12 := ⟨RX11, TX11, 27, (.array .int), rfl, by decide, (zin 1125 (by decide +kernel) rfl), rfl, rfl, by decide +kernel, fun _ => ⟨rfl, rfl⟩⟩
theorem fpf_X11_26 : FPF RX11 26 11 20 := ⟨RX11, TX11, 27, (.array .int), rfl, by decide, (zin 1133 (by decide +kernel) rfl), rfl, rfl, by decide +kernel, fun _ => ⟨rfl, rfl⟩⟩
theorem fpf_X11_29 : FPF RX11 29 11 21 := ⟨RX11, TX11, 27, (.array .boolean), rfl, by decide, (zin 1134 (by decide +kernel) rfl), rfl, rfl, by decide +kernel, fun _ => ⟨rfl, rfl⟩⟩
theorem fpf_X11_32 : FPF RX11 32 11 22 := ⟨RX11, TX11, 27, (.array .boolean), rfl, by decide, (zin 1135 (by decide +kernel) rfl), rfl, rfl, by decide +kernel, fun _ => ⟨rfl, rfl⟩⟩
theorem fpf_X11_35 : FPF RX11 35 11 23 := ⟨RX11, TX11, 27, (.array .int), rfl, by decide, (zin 1136 (by decide +kernel) rfl), rfl, rfl, by decide +kernel, fun _ => ⟨rfl, rfl⟩⟩
theorem fpf_X11_38 : FPF RX11 38 11 24 := ⟨RX11, TX11, 27, (.array .int), rfl, by decide, (zin 1137 (by decide +kernel) rfl), rfl, rfl, by decide +kernel, fun _ => ⟨rfl, rfl⟩⟩
theorem fpf_X11_41 : FPF RX11 41 11 25 := ⟨RX11, TX11, 27, (.array .int), rfl, by decide, (zin 1138 (by decide +kernel) rfl), rfl, rfl, by decide +kernel, fun _ => ⟨rfl, rfl⟩⟩
