/-! names: the token b .. e as one of the document's words -/
abbrev isN (t : Int → Int) (L b e n x y z : Int) : Prop := e - b = n ∧ lookF t L b = x ∧ lookF t L (b + 1) = y ∧ lookF t L (b + 2) = z
def lineN (t : Int → Int) (L b e : Int) : Int :=
  if isN t L b e 4 102 105 114 ∧ lookF t L (b + 3) = 101 then 0 else
  if isN t L b e 4 104 101 97 ∧ lookF t L (b + 3) = 116 then 1 else
  if isN t L b e 4 119 111 111 ∧ lookF t L (b + 3) = 100 then 2 else
  if isN t L b e 4 115 112 117 ∧ lookF t L (b + 3) = 100 then 3 else
  if isN t L b e 3 111 117 116 then 4 else
  if isN t L b e 4 109 101 109 ∧ lookF t L (b + 3) = 111 then 5 else -4
def wrapN (t : Int → Int) (L b e : Int) : Int :=
  if isN t L b e 4 98 97 114 ∧ lookF t L (b + 3) = 101 then 0 else
  if isN t L b e 4 99 108 97 ∧ lookF t L (b + 3) = 121 then 1 else
  if isN t L b e 4 102 111 105 ∧ lookF t L (b + 3) = 108 then 2 else -4
/-- what the reference's tape and place keep -/
abbrev TkOK (mem : Mem) : Prop := (0 ≤ mem 109 13 ∧ mem 109 13 ≤ 160) ∧ (∀ i : Int, 0 ≤ i → i < mem 109 13 → 0 ≤ mem 114 i ∧ mem 114 i ≤ 127) ∧ (0 ≤ mem 109 15 ∧ mem 109 15 ≤ 160) ∧ (0 ≤ mem 109 14 ∧ mem 109 14 ≤ 161)
theorem lookF_rng {t : Int → Int} {L p : Int} (ht : ∀ i : Int, 0 ≤ i → i < L → 0 ≤ t i ∧ t i ≤ 127) (h0 : 0 ≤ p) : -1 ≤ lookF t L p ∧ lookF t L p ≤ 127 := by
  unfold lookF
  split
  · have := ht p h0 (by assumption); omega
  · omega
section ZRef23
variable {Γ : ZG} {mem : Mem} {Q : Option AV → Mem → Prop}
theorem sR_is {n x y z : Int} (hr : (0 ≤ n ∧ n ≤ 127) ∧ (0 ≤ x ∧ x ≤ 127) ∧ (0 ≤ y ∧ y ≤ 127) ∧ (0 ≤ z ∧ z ≤ 127)) (ok : TkOK mem) (k1 : isN (mem 114) (mem 109 13) (mem 109 15) (mem 109 14) n x y z → Q (some (vI 1)) mem) (k0 : ¬ isN (mem 114) (mem 109 13) (mem 109 15) (mem 109 14) n x y z → Q (some (vI 0)) mem) : AMet Γ mX11_is [vR 109, vI n, vI x, vI y, vI z] zG mem Q := by
  have l0 := lookF_rng (t := mem 114) (L := mem 109 13) (p := mem 109 15) ok.2.1 (by omega)
  have l1 := lookF_rng (t := mem 114) (L := mem 109 13) (p := mem 109 15 + 1) ok.2.1 (by omega)
  have l2 := lookF_rng (t := mem 114) (L := mem 109 13) (p := mem 109 15 + 2) ok.2.1 (by omega)
  obtain ⟨oL, -, o15, o14⟩ := ok
  refine AMet.of' 0 (ls := [some (vR (109)), some (vI (n)), some (vI (x)), some (vI (y)), some (vI (z))]) (by decide) rfl (Nat.le_of_ble_eq_true rfl) ?_
  refine aw_aload_n dX11_is_0 rfl rfl ?_
  refine aw_getI (kI := 14) dX11_is_1 rfl fl_X11_94 g109 (by rfl) rfl ?_
  refine aw_aload_n dX11_is_4 rfl rfl ?_
  refine aw_getI (kI := 15) dX11_is_5 rfl fl_X11_88 g109 (by rfl) rfl ?_
  refine aw_isub dX11_is_8 rfl ?_
  refine aw_iload_n dX11_is_9 rfl rfl ?_
  refine aw_icmp_ne (tgt := 58) dX11_is_10 (by decide) rfl (by omega) (by omega) (fun c10 => ?_) (fun c10 => ?_)
  · refine aw_iconst dX11_is_58 rfl ?_
    refine aw_ireturn (ty := .boolean) dX11_is_59 rfl (znarZ (by omega)).1 ?_
    first | (have hz : isN (mem 114) (mem 109 13) (mem 109 15) (mem 109 14) n x y z := ⟨by omega, by omega, by omega, by omega⟩; exact k1 hz) | exact k0 (fun h => by obtain ⟨h1, h2, h3, h4⟩ := h; omega)
  · refine aw_aload_n dX11_is_13 rfl rfl ?_
    refine aw_aload_n dX11_is_14 rfl rfl ?_
    refine aw_getI (kI := 15) dX11_is_15 rfl fl_X11_88 g109 (by rfl) rfl ?_
    refine aw_callV [_] _ dX11_is_18 rfl clv_X11_97 (by decide) ⟨Nat.zero_le _, Nat.zero_le _⟩ g109 (by rfl) (Nat.le_of_ble_eq_true rfl) rfl ?_
    refine sR_look (by omega) oL ?_
    refine aw_iload_n dX11_is_21 rfl rfl ?_
    refine aw_icmp_ne (tgt := 58) dX11_is_22 (by decide) rfl (by omega) (by omega) (fun c22 => ?_) (fun c22 => ?_)
    · refine aw_iconst dX11_is_58 rfl ?_
      refine aw_ireturn (ty := .boolean) dX11_is_59 rfl (znarZ (by omega)).1 ?_
      first | (have hz : isN (mem 114) (mem 109 13) (mem 109 15) (mem 109 14) n x y z := ⟨by omega, by omega, by omega, by omega⟩; exact k1 hz) | exact k0 (fun h => by obtain ⟨h1, h2, h3, h4⟩ := h; omega)
    · refine aw_aload_n dX11_is_25 rfl rfl ?_
      refine aw_aload_n dX11_is_26 rfl rfl ?_
      refine aw_getI (kI := 15) dX11_is_27 rfl fl_X11_88 g109 (by rfl) rfl ?_
      refine aw_iconst dX11_is_30 rfl ?_
      refine aw_iadd dX11_is_31 rfl ?_
      refine aw_callV [_] _ dX11_is_32 rfl clv_X11_97 (by decide) ⟨Nat.zero_le _, Nat.zero_le _⟩ g109 (by rfl) (Nat.le_of_ble_eq_true rfl) rfl ?_
      refine sR_look (by omega) oL ?_
      refine aw_iload_n dX11_is_35 rfl rfl ?_
      refine aw_icmp_ne (tgt := 58) dX11_is_36 (by decide) rfl (by omega) (by omega) (fun c36 => ?_) (fun c36 => ?_)
      · refine aw_iconst dX11_is_58 rfl ?_
        refine aw_ireturn (ty := .boolean) dX11_is_59 rfl (znarZ (by omega)).1 ?_
        first | (have hz : isN (mem 114) (mem 109 13) (mem 109 15) (mem 109 14) n x y z := ⟨by omega, by omega, by omega, by omega⟩; exact k1 hz) | exact k0 (fun h => by obtain ⟨h1, h2, h3, h4⟩ := h; omega)
      · refine aw_aload_n dX11_is_39 rfl rfl ?_
        refine aw_aload_n dX11_is_40 rfl rfl ?_
        refine aw_getI (kI := 15) dX11_is_41 rfl fl_X11_88 g109 (by rfl) rfl ?_
        refine aw_iconst dX11_is_44 rfl ?_
        refine aw_iadd dX11_is_45 rfl ?_
        refine aw_callV [_] _ dX11_is_46 rfl clv_X11_97 (by decide) ⟨Nat.zero_le _, Nat.zero_le _⟩ g109 (by rfl) (Nat.le_of_ble_eq_true rfl) rfl ?_
        refine sR_look (by omega) oL ?_
        refine aw_iload dX11_is_49 rfl rfl ?_
        refine aw_icmp_ne (tgt := 58) dX11_is_51 (by decide) rfl (by omega) (by omega) (fun c51 => ?_) (fun c51 => ?_)
        · refine aw_iconst dX11_is_58 rfl ?_
          refine aw_ireturn (ty := .boolean) dX11_is_59 rfl (znarZ (by omega)).1 ?_
          first | (have hz : isN (mem 114) (mem 109 13) (mem 109 15) (mem 109 14) n x y z := ⟨by omega, by omega, by omega, by omega⟩; exact k1 hz) | exact k0 (fun h => by obtain ⟨h1, h2, h3, h4⟩ := h; omega)
        · refine aw_iconst dX11_is_54 rfl ?_
          refine aw_goto (tgt := 59) dX11_is_55 (by decide) ?_
          refine aw_ireturn (ty := .boolean) dX11_is_59 rfl (znarZ (by omega)).1 ?_
          first | (have hz : isN (mem 114) (mem 109 13) (mem 109 15) (mem 109 14) n x y z := ⟨by omega, by omega, by omega, by omega⟩; exact k1 hz) | exact k0 (fun h => by obtain ⟨h1, h2, h3, h4⟩ := h; omega)
theorem sR_ends {x : Int} (hr : 0 ≤ x ∧ x ≤ 127) (ok : TkOK mem) (k1 : lookF (mem 114) (mem 109 13) (mem 109 15 + 3) = x → Q (some (vI 1)) mem) (k0 : ¬ lookF (mem 114) (mem 109 13) (mem 109 15 + 3) = x → Q (some (vI 0)) mem) : AMet Γ mX11_ends [vR 109, vI x] zG mem Q := by
  have l0 := lookF_rng (t := mem 114) (L := mem 109 13) (p := mem 109 15 + 3) ok.2.1 (by omega)
  obtain ⟨oL, -, o15, o14⟩ := ok
  refine AMet.of' 0 (ls := [some (vR (109)), some (vI (x))]) (by decide) rfl (Nat.le_of_ble_eq_true rfl) ?_
  refine aw_aload_n dX11_ends_0 rfl rfl ?_
  refine aw_aload_n dX11_ends_1 rfl rfl ?_
  refine aw_getI (kI := 15) dX11_ends_2 rfl fl_X11_88 g109 (by rfl) rfl ?_
  refine aw_iconst dX11_ends_5 rfl ?_
  refine aw_iadd dX11_ends_6 rfl ?_
  refine aw_callV [_] _ dX11_ends_7 rfl clv_X11_97 (by decide) ⟨Nat.zero_le _, Nat.zero_le _⟩ g109 (by rfl) (Nat.le_of_ble_eq_true rfl) rfl ?_
  refine sR_look (by omega) oL ?_
  refine aw_iload_n dX11_ends_10 rfl rfl ?_
  refine aw_icmp_ne (tgt := 18) dX11_ends_11 (by decide) rfl (by omega) (by omega) (fun c11 => ?_) (fun c11 => ?_)
  · refine aw_iconst dX11_ends_18 rfl ?_
    refine aw_ireturn (ty := .boolean) dX11_ends_19 rfl (znarZ (by omega)).1 ?_
    first | exact k1 c11 | exact k0 c11
  · refine aw_iconst dX11_ends_14 rfl ?_
    refine aw_goto (tgt := 19) dX11_ends_15 (by decide) ?_
    refine aw_ireturn (ty := .boolean) dX11_ends_19 rfl (znarZ (by omega)).1 ?_
    first | exact k1 c11 | exact k0 c11
theorem sR_wrapNow (ok : TkOK mem) (k : Q (some (vI (wrapN (mem 114) (mem 109 13) (mem 109 15) (mem 109 14)))) mem) : AMet Γ mX11_wrapNow [vR 109] zG mem Q := by
  unfold wrapN at k
  have s52 : Q (some (vI (if isN (mem 114) (mem 109 13) (mem 109 15) (mem 109 14) 4 102 111 105 ∧ lookF (mem 114) (mem 109 13) (mem 109 15 + 3) = 108 then 2 else -4))) mem → AW Γ mX11_wrapNow (zF Γ zG Q) zG 0 0 52 [some (vR 109)] [] mem := by
    intro k
    refine aw_aload_n dX11_wrapNow_52 rfl rfl ?_
    refine aw_iconst dX11_wrapNow_53 rfl ?_
    refine aw_bipush dX11_wrapNow_54 rfl (by decide) ?_
    refine aw_bipush dX11_wrapNow_56 rfl (by decide) ?_
    refine aw_bipush dX11_wrapNow_58 rfl (by decide) ?_
    refine aw_callV [_, _, _, _] _ dX11_wrapNow_60 rfl clv_X11_101 (by decide) ⟨Nat.zero_le _, Nat.zero_le _⟩ g109 (by rfl) (Nat.le_of_ble_eq_true rfl) rfl ?_
    refine sR_is (by omega) ok (fun c60 => ?_) (fun c60 => ?_)
    · refine aw_if_eq (tgt := 79) dX11_wrapNow_63 (by decide) rfl (by omega) (fun c => absurd c (by decide)) (fun _ => ?_)
      refine aw_aload_n dX11_wrapNow_66 rfl rfl ?_
      refine aw_bipush dX11_wrapNow_67 rfl (by decide) ?_
      refine aw_callV [_] _ dX11_wrapNow_69 rfl clv_X11_105 (by decide) ⟨Nat.zero_le _, Nat.zero_le _⟩ g109 (by rfl) (Nat.le_of_ble_eq_true rfl) rfl ?_
      refine sR_ends (by omega) ok (fun c69 => ?_) (fun c69 => ?_)
      · refine aw_if_eq (tgt := 79) dX11_wrapNow_72 (by decide) rfl (by omega) (fun c => absurd c (by decide)) (fun _ => ?_)
        refine aw_iconst dX11_wrapNow_75 rfl ?_
        refine aw_goto (tgt := 81) dX11_wrapNow_76 (by decide) ?_
        refine aw_ireturn (ty := .int) dX11_wrapNow_81 rfl rfl ?_
        first | (have hz := And.intro c60 c69; rw [if_pos hz] at k) | rw [if_neg (fun h => c69 h.2)] at k | rw [if_neg (fun h => c60 h.1)] at k
        exact k
      · refine aw_if_eq (tgt := 79) dX11_wrapNow_72 (by decide) rfl (by omega) (fun _ => ?_) (fun c => absurd c (by decide))
        refine aw_bipush dX11_wrapNow_79 rfl (by decide) ?_
        refine aw_ireturn (ty := .int) dX11_wrapNow_81 rfl rfl ?_
        first | (have hz := And.intro c60 c69; rw [if_pos hz] at k) | rw [if_neg (fun h => c69 h.2)] at k | rw [if_neg (fun h => c60 h.1)] at k
        exact k
    · refine aw_if_eq (tgt := 79) dX11_wrapNow_63 (by decide) rfl (by omega) (fun _ => ?_) (fun c => absurd c (by decide))
      refine aw_bipush dX11_wrapNow_79 rfl (by decide) ?_
      refine aw_ireturn (ty := .int) dX11_wrapNow_81 rfl rfl ?_
      first | (have hz := And.intro c60 c69; rw [if_pos hz] at k) | rw [if_neg (fun h => c69 h.2)] at k | rw [if_neg (fun h => c60 h.1)] at k
      exact k
  have s25 : Q (some (vI (if isN (mem 114) (mem 109 13) (mem 109 15) (mem 109 14) 4 99 108 97 ∧ lookF (mem 114) (mem 109 13) (mem 109 15 + 3) = 121 then 1 else if isN (mem 114) (mem 109 13) (mem 109 15) (mem 109 14) 4 102 111 105 ∧ lookF (mem 114) (mem 109 13) (mem 109 15 + 3) = 108 then 2 else -4))) mem → AW Γ mX11_wrapNow (zF Γ zG Q) zG 0 0 25 [some (vR 109)] [] mem := by
    intro k
    refine aw_aload_n dX11_wrapNow_25 rfl rfl ?_
    refine aw_iconst dX11_wrapNow_26 rfl ?_
    refine aw_bipush dX11_wrapNow_27 rfl (by decide) ?_
    refine aw_bipush dX11_wrapNow_29 rfl (by decide) ?_
    refine aw_bipush dX11_wrapNow_31 rfl (by decide) ?_
    refine aw_callV [_, _, _, _] _ dX11_wrapNow_33 rfl clv_X11_101 (by decide) ⟨Nat.zero_le _, Nat.zero_le _⟩ g109 (by rfl) (Nat.le_of_ble_eq_true rfl) rfl ?_
    refine sR_is (by omega) ok (fun c33 => ?_) (fun c33 => ?_)
    · refine aw_if_eq (tgt := 52) dX11_wrapNow_36 (by decide) rfl (by omega) (fun c => absurd c (by decide)) (fun _ => ?_)
      refine aw_aload_n dX11_wrapNow_39 rfl rfl ?_
      refine aw_bipush dX11_wrapNow_40 rfl (by decide) ?_
      refine aw_callV [_] _ dX11_wrapNow_42 rfl clv_X11_105 (by decide) ⟨Nat.zero_le _, Nat.zero_le _⟩ g109 (by rfl) (Nat.le_of_ble_eq_true rfl) rfl ?_
      refine sR_ends (by omega) ok (fun c42 => ?_) (fun c42 => ?_)
      · refine aw_if_eq (tgt := 52) dX11_wrapNow_45 (by decide) rfl (by omega) (fun c => absurd c (by decide)) (fun _ => ?_)
        refine aw_iconst dX11_wrapNow_48 rfl ?_
        refine aw_goto (tgt := 81) dX11_wrapNow_49 (by decide) ?_
        refine aw_ireturn (ty := .int) dX11_wrapNow_81 rfl rfl ?_
        rw [if_pos ⟨c33, c42⟩] at k
        exact k
      · refine aw_if_eq (tgt := 52) dX11_wrapNow_45 (by decide) rfl (by omega) (fun _ => ?_) (fun c => absurd c (by decide))
        first | rw [if_neg (fun h => c42 h.2)] at k | rw [if_neg (fun h => c33 h.1)] at k
        exact s52 k
    · refine aw_if_eq (tgt := 52) dX11_wrapNow_36 (by decide) rfl (by omega) (fun _ => ?_) (fun c => absurd c (by decide))
      first | rw [if_neg (fun h => c42 h.2)] at k | rw [if_neg (fun h => c33 h.1)] at k
      exact s52 k
  have s0 : Q (some (vI (if isN (mem 114) (mem 109 13) (mem 109 15) (mem 109 14) 4 98 97 114 ∧ lookF (mem 114) (mem 109 13) (mem 109 15 + 3) = 101 then 0 else if isN (mem 114) (mem 109 13) (mem 109 15) (mem 109 14) 4 99 108 97 ∧ lookF (mem 114) (mem 109 13) (mem 109 15 + 3) = 121 then 1 else if isN (mem 114) (mem 109 13) (mem 109 15) (mem 109 14) 4 102 111 105 ∧ lookF (mem 114) (mem 109 13) (mem 109 15 + 3) = 108 then 2 else -4))) mem → AW Γ mX11_wrapNow (zF Γ zG Q) zG 0 0 0 [some (vR 109)] [] mem := by
    intro k
    refine aw_aload_n dX11_wrapNow_0 rfl rfl ?_
    refine aw_iconst dX11_wrapNow_1 rfl ?_
    refine aw_bipush dX11_wrapNow_2 rfl (by decide) ?_
    refine aw_bipush dX11_wrapNow_4 rfl (by decide) ?_
    refine aw_bipush dX11_wrapNow_6 rfl (by decide) ?_
    refine aw_callV [_, _, _, _] _ dX11_wrapNow_8 rfl clv_X11_101 (by decide) ⟨Nat.zero_le _, Nat.zero_le _⟩ g109 (by rfl) (Nat.le_of_ble_eq_true rfl) rfl ?_
    refine sR_is (by omega) ok (fun c8 => ?_) (fun c8 => ?_)
    · refine aw_if_eq (tgt := 25) dX11_wrapNow_11 (by decide) rfl (by omega) (fun c => absurd c (by decide)) (fun _ => ?_)
      refine aw_aload_n dX11_wrapNow_14 rfl rfl ?_
      refine aw_bipush dX11_wrapNow_15 rfl (by decide) ?_
      refine aw_callV [_] _ dX11_wrapNow_17 rfl clv_X11_105 (by decide) ⟨Nat.zero_le _, Nat.zero_le _⟩ g109 (by rfl) (Nat.le_of_ble_eq_true rfl) rfl ?_
      refine sR_ends (by omega) ok (fun c17 => ?_) (fun c17 => ?_)
      · refine aw_if_eq (tgt := 25) dX11_wrapNow_20 (by decide) rfl (by omega) (fun c => absurd c (by decide)) (fun _ => ?_)
        refine aw_iconst dX11_wrapNow_23 rfl ?_
        refine aw_ireturn (ty := .int) dX11_wrapNow_24 rfl rfl ?_
        rw [if_pos ⟨c8, c17⟩] at k
        exact k
      · refine aw_if_eq (tgt := 25) dX11_wrapNow_20 (by decide) rfl (by omega) (fun _ => ?_) (fun c => absurd c (by decide))
        first | rw [if_neg (fun h => c17 h.2)] at k | rw [if_neg (fun h => c8 h.1)] at k
        exact s25 k
    · refine aw_if_eq (tgt := 25) dX11_wrapNow_11 (by decide) rfl (by omega) (fun _ => ?_) (fun c => absurd c (by decide))
      first | rw [if_neg (fun h => c17 h.2)] at k | rw [if_neg (fun h => c8 h.1)] at k
      exact s25 k
  exact AMet.of' 0 (ls := [some (vR 109)]) (by decide) rfl (Nat.le_of_ble_eq_true rfl) (s0 k)
theorem sR_lineNow (ok : TkOK mem) (k : Q (some (vI (lineN (mem 114) (mem 109 13) (mem 109 15) (mem 109 14)))) mem) : AMet Γ mX11_lineNow [vR 109] zG mem Q := by
  unfold lineN at k
  have s118 : Q (some (vI (if isN (mem 114) (mem 109 13) (mem 109 15) (mem 109 14) 4 109 101 109 ∧ lookF (mem 114) (mem 109 13) (mem 109 15 + 3) = 111 then 5 else -4))) mem → AW Γ mX11_lineNow (zF Γ zG Q) zG 0 0 118 [some (vR 109)] [] mem := by
    intro k
    refine aw_aload_n dX11_lineNow_118 rfl rfl ?_
    refine aw_iconst dX11_lineNow_119 rfl ?_
    refine aw_bipush dX11_lineNow_120 rfl (by decide) ?_
    refine aw_bipush dX11_lineNow_122 rfl (by decide) ?_
    refine aw_bipush dX11_lineNow_124 rfl (by decide) ?_
    refine aw_callV [_, _, _, _] _ dX11_lineNow_126 rfl clv_X11_101 (by decide) ⟨Nat.zero_le _, Nat.zero_le _⟩ g109 (by rfl) (Nat.le_of_ble_eq_true rfl) rfl ?_
    refine sR_is (by omega) ok (fun c126 => ?_) (fun c126 => ?_)
    · refine aw_if_eq (tgt := 145) dX11_lineNow_129 (by decide) rfl (by omega) (fun c => absurd c (by decide)) (fun _ => ?_)
      refine aw_aload_n dX11_lineNow_132 rfl rfl ?_
      refine aw_bipush dX11_lineNow_133 rfl (by decide) ?_
      refine aw_callV [_] _ dX11_lineNow_135 rfl clv_X11_105 (by decide) ⟨Nat.zero_le _, Nat.zero_le _⟩ g109 (by rfl) (Nat.le_of_ble_eq_true rfl) rfl ?_
      refine sR_ends (by omega) ok (fun c135 => ?_) (fun c135 => ?_)
      · refine aw_if_eq (tgt := 145) dX11_lineNow_138 (by decide) rfl (by omega) (fun c => absurd c (by decide)) (fun _ => ?_)
        refine aw_iconst dX11_lineNow_141 rfl ?_
        refine aw_goto (tgt := 147) dX11_lineNow_142 (by decide) ?_
        refine aw_ireturn (ty := .int) dX11_lineNow_147 rfl rfl ?_
        first | (have hz := And.intro c126 c135; rw [if_pos hz] at k) | rw [if_neg (fun h => c135 h.2)] at k | rw [if_neg (fun h => c126 h.1)] at k
        exact k
      · refine aw_if_eq (tgt := 145) dX11_lineNow_138 (by decide) rfl (by omega) (fun _ => ?_) (fun c => absurd c (by decide))
        refine aw_bipush dX11_lineNow_145 rfl (by decide) ?_
        refine aw_ireturn (ty := .int) dX11_lineNow_147 rfl rfl ?_
        first | (have hz := And.intro c126 c135; rw [if_pos hz] at k) | rw [if_neg (fun h => c135 h.2)] at k | rw [if_neg (fun h => c126 h.1)] at k
        exact k
    · refine aw_if_eq (tgt := 145) dX11_lineNow_129 (by decide) rfl (by omega) (fun _ => ?_) (fun c => absurd c (by decide))
      refine aw_bipush dX11_lineNow_145 rfl (by decide) ?_
      refine aw_ireturn (ty := .int) dX11_lineNow_147 rfl rfl ?_
      first | (have hz := And.intro c126 c135; rw [if_pos hz] at k) | rw [if_neg (fun h => c135 h.2)] at k | rw [if_neg (fun h => c126 h.1)] at k
      exact k
  have s100 : Q (some (vI (if isN (mem 114) (mem 109 13) (mem 109 15) (mem 109 14) 3 111 117 116 then 4 else if isN (mem 114) (mem 109 13) (mem 109 15) (mem 109 14) 4 109 101 109 ∧ lookF (mem 114) (mem 109 13) (mem 109 15 + 3) = 111 then 5 else -4))) mem → AW Γ mX11_lineNow (zF Γ zG Q) zG 0 0 100 [some (vR 109)] [] mem := by
    intro k
    refine aw_aload_n dX11_lineNow_100 rfl rfl ?_
    refine aw_iconst dX11_lineNow_101 rfl ?_
    refine aw_bipush dX11_lineNow_102 rfl (by decide) ?_
    refine aw_bipush dX11_lineNow_104 rfl (by decide) ?_
    refine aw_bipush dX11_lineNow_106 rfl (by decide) ?_
    refine aw_callV [_, _, _, _] _ dX11_lineNow_108 rfl clv_X11_101 (by decide) ⟨Nat.zero_le _, Nat.zero_le _⟩ g109 (by rfl) (Nat.le_of_ble_eq_true rfl) rfl ?_
    refine sR_is (by omega) ok (fun c108 => ?_) (fun c108 => ?_)
    · refine aw_if_eq (tgt := 118) dX11_lineNow_111 (by decide) rfl (by omega) (fun c => absurd c (by decide)) (fun _ => ?_)
      refine aw_iconst dX11_lineNow_114 rfl ?_
      refine aw_goto (tgt := 147) dX11_lineNow_115 (by decide) ?_
      refine aw_ireturn (ty := .int) dX11_lineNow_147 rfl rfl ?_
      rw [if_pos c108] at k
      exact k
    · refine aw_if_eq (tgt := 118) dX11_lineNow_111 (by decide) rfl (by omega) (fun _ => ?_) (fun c => absurd c (by decide))
      rw [if_neg c108] at k
      exact s118 k
  have s75 : Q (some (vI (if isN (mem 114) (mem 109 13) (mem 109 15) (mem 109 14) 4 115 112 117 ∧ lookF (mem 114) (mem 109 13) (mem 109 15 + 3) = 100 then 3 else if isN (mem 114) (mem 109 13) (mem 109 15) (mem 109 14) 3 111 117 116 then 4 else if isN (mem 114) (mem 109 13) (mem 109 15) (mem 109 14) 4 109 101 109 ∧ lookF (mem 114) (mem 109 13) (mem 109 15 + 3) = 111 then 5 else -4))) mem → AW Γ mX11_lineNow (zF Γ zG Q) zG 0 0 75 [some (vR 109)] [] mem := by
    intro k
    refine aw_aload_n dX11_lineNow_75 rfl rfl ?_
    refine aw_iconst dX11_lineNow_76 rfl ?_
    refine aw_bipush dX11_lineNow_77 rfl (by decide) ?_
    refine aw_bipush dX11_lineNow_79 rfl (by decide) ?_
    refine aw_bipush dX11_lineNow_81 rfl (by decide) ?_
    refine aw_callV [_, _, _, _] _ dX11_lineNow_83 rfl clv_X11_101 (by decide) ⟨Nat.zero_le _, Nat.zero_le _⟩ g109 (by rfl) (Nat.le_of_ble_eq_true rfl) rfl ?_
    refine sR_is (by omega) ok (fun c83 => ?_) (fun c83 => ?_)
    · refine aw_if_eq (tgt := 100) dX11_lineNow_86 (by decide) rfl (by omega) (fun c => absurd c (by decide)) (fun _ => ?_)
      refine aw_aload_n dX11_lineNow_89 rfl rfl ?_
      refine aw_bipush dX11_lineNow_90 rfl (by decide) ?_
      refine aw_callV [_] _ dX11_lineNow_92 rfl clv_X11_105 (by decide) ⟨Nat.zero_le _, Nat.zero_le _⟩ g109 (by rfl) (Nat.le_of_ble_eq_true rfl) rfl ?_
      refine sR_ends (by omega) ok (fun c92 => ?_) (fun c92 => ?_)
      · refine aw_if_eq (tgt := 100) dX11_lineNow_95 (by decide) rfl (by omega) (fun c => absurd c (by decide)) (fun _ => ?_)
        refine aw_iconst dX11_lineNow_98 rfl ?_
        refine aw_ireturn (ty := .int) dX11_lineNow_99 rfl rfl ?_
        rw [if_pos ⟨c83, c92⟩] at k
        exact k
      · refine aw_if_eq (tgt := 100) dX11_lineNow_95 (by decide) rfl (by omega) (fun _ => ?_) (fun c => absurd c (by decide))
        first | rw [if_neg (fun h => c92 h.2)] at k | rw [if_neg (fun h => c83 h.1)] at k
        exact s100 k
    · refine aw_if_eq (tgt := 100) dX11_lineNow_86 (by decide) rfl (by omega) (fun _ => ?_) (fun c => absurd c (by decide))
      first | rw [if_neg (fun h => c92 h.2)] at k | rw [if_neg (fun h => c83 h.1)] at k
      exact s100 k
  have s50 : Q (some (vI (if isN (mem 114) (mem 109 13) (mem 109 15) (mem 109 14) 4 119 111 111 ∧ lookF (mem 114) (mem 109 13) (mem 109 15 + 3) = 100 then 2 else if isN (mem 114) (mem 109 13) (mem 109 15) (mem 109 14) 4 115 112 117 ∧ lookF (mem 114) (mem 109 13) (mem 109 15 + 3) = 100 then 3 else if isN (mem 114) (mem 109 13) (mem 109 15) (mem 109 14) 3 111 117 116 then 4 else if isN (mem 114) (mem 109 13) (mem 109 15) (mem 109 14) 4 109 101 109 ∧ lookF (mem 114) (mem 109 13) (mem 109 15 + 3) = 111 then 5 else -4))) mem → AW Γ mX11_lineNow (zF Γ zG Q) zG 0 0 50 [some (vR 109)] [] mem := by
    intro k
    refine aw_aload_n dX11_lineNow_50 rfl rfl ?_
    refine aw_iconst dX11_lineNow_51 rfl ?_
    refine aw_bipush dX11_lineNow_52 rfl (by decide) ?_
    refine aw_bipush dX11_lineNow_54 rfl (by decide) ?_
    refine aw_bipush dX11_lineNow_56 rfl (by decide) ?_
    refine aw_callV [_, _, _, _] _ dX11_lineNow_58 rfl clv_X11_101 (by decide) ⟨Nat.zero_le _, Nat.zero_le _⟩ g109 (by rfl) (Nat.le_of_ble_eq_true rfl) rfl ?_
    refine sR_is (by omega) ok (fun c58 => ?_) (fun c58 => ?_)
    · refine aw_if_eq (tgt := 75) dX11_lineNow_61 (by decide) rfl (by omega) (fun c => absurd c (by decide)) (fun _ => ?_)
      refine aw_aload_n dX11_lineNow_64 rfl rfl ?_
      refine aw_bipush dX11_lineNow_65 rfl (by decide) ?_
      refine aw_callV [_] _ dX11_lineNow_67 rfl clv_X11_105 (by decide) ⟨Nat.zero_le _, Nat.zero_le _⟩ g109 (by rfl) (Nat.le_of_ble_eq_true rfl) rfl ?_
      refine sR_ends (by omega) ok (fun c67 => ?_) (fun c67 => ?_)
      · refine aw_if_eq (tgt := 75) dX11_lineNow_70 (by decide) rfl (by omega) (fun c => absurd c (by decide)) (fun _ => ?_)
        refine aw_iconst dX11_lineNow_73 rfl ?_
        refine aw_ireturn (ty := .int) dX11_lineNow_74 rfl rfl ?_
        rw [if_pos ⟨c58, c67⟩] at k
        exact k
      · refine aw_if_eq (tgt := 75) dX11_lineNow_70 (by decide) rfl (by omega) (fun _ => ?_) (fun c => absurd c (by decide))
        first | rw [if_neg (fun h => c67 h.2)] at k | rw [if_neg (fun h => c58 h.1)] at k
        exact s75 k
    · refine aw_if_eq (tgt := 75) dX11_lineNow_61 (by decide) rfl (by omega) (fun _ => ?_) (fun c => absurd c (by decide))
      first | rw [if_neg (fun h => c67 h.2)] at k | rw [if_neg (fun h => c58 h.1)] at k
      exact s75 k
  have s25 : Q (some (vI (if isN (mem 114) (mem 109 13) (mem 109 15) (mem 109 14) 4 104 101 97 ∧ lookF (mem 114) (mem 109 13) (mem 109 15 + 3) = 116 then 1 else if isN (mem 114) (mem 109 13) (mem 109 15) (mem 109 14) 4 119 111 111 ∧ lookF (mem 114) (mem 109 13) (mem 109 15 + 3) = 100 then 2 else if isN (mem 114) (mem 109 13) (mem 109 15) (mem 109 14) 4 115 112 117 ∧ lookF (mem 114) (mem 109 13) (mem 109 15 + 3) = 100 then 3 else if isN (mem 114) (mem 109 13) (mem 109 15) (mem 109 14) 3 111 117 116 then 4 else if isN (mem 114) (mem 109 13) (mem 109 15) (mem 109 14) 4 109 101 109 ∧ lookF (mem 114) (mem 109 13) (mem 109 15 + 3) = 111 then 5 else -4))) mem → AW Γ mX11_lineNow (zF Γ zG Q) zG 0 0 25 [some (vR 109)] [] mem := by
    intro k
    refine aw_aload_n dX11_lineNow_25 rfl rfl ?_
    refine aw_iconst dX11_lineNow_26 rfl ?_
    refine aw_bipush dX11_lineNow_27 rfl (by decide) ?_
    refine aw_bipush dX11_lineNow_29 rfl (by decide) ?_
    refine aw_bipush dX11_lineNow_31 rfl (by decide) ?_
    refine aw_callV [_, _, _, _] _ dX11_lineNow_33 rfl clv_X11_101 (by decide) ⟨Nat.zero_le _, Nat.zero_le _⟩ g109 (by rfl) (Nat.le_of_ble_eq_true rfl) rfl ?_
    refine sR_is (by omega) ok (fun c33 => ?_) (fun c33 => ?_)
    · refine aw_if_eq (tgt := 50) dX11_lineNow_36 (by decide) rfl (by omega) (fun c => absurd c (by decide)) (fun _ => ?_)
      refine aw_aload_n dX11_lineNow_39 rfl rfl ?_
      refine aw_bipush dX11_lineNow_40 rfl (by decide) ?_
      refine aw_callV [_] _ dX11_lineNow_42 rfl clv_X11_105 (by decide) ⟨Nat.zero_le _, Nat.zero_le _⟩ g109 (by rfl) (Nat.le_of_ble_eq_true rfl) rfl ?_
      refine sR_ends (by omega) ok (fun c42 => ?_) (fun c42 => ?_)
      · refine aw_if_eq (tgt := 50) dX11_lineNow_45 (by decide) rfl (by omega) (fun c => absurd c (by decide)) (fun _ => ?_)
        refine aw_iconst dX11_lineNow_48 rfl ?_
        refine aw_ireturn (ty := .int) dX11_lineNow_49 rfl rfl ?_
        rw [if_pos ⟨c33, c42⟩] at k
        exact k
      · refine aw_if_eq (tgt := 50) dX11_lineNow_45 (by decide) rfl (by omega) (fun _ => ?_) (fun c => absurd c (by decide))
        first | rw [if_neg (fun h => c42 h.2)] at k | rw [if_neg (fun h => c33 h.1)] at k
        exact s50 k
    · refine aw_if_eq (tgt := 50) dX11_lineNow_36 (by decide) rfl (by omega) (fun _ => ?_) (fun c => absurd c (by decide))
      first | rw [if_neg (fun h => c42 h.2)] at k | rw [if_neg (fun h => c33 h.1)] at k
      exact s50 k
  have s0 : Q (some (vI (if isN (mem 114) (mem 109 13) (mem 109 15) (mem 109 14) 4 102 105 114 ∧ lookF (mem 114) (mem 109 13) (mem 109 15 + 3) = 101 then 0 else if isN (mem 114) (mem 109 13) (mem 109 15) (mem 109 14) 4 104 101 97 ∧ lookF (mem 114) (mem 109 13) (mem 109 15 + 3) = 116 then 1 else if isN (mem 114) (mem 109 13) (mem 109 15) (mem 109 14) 4 119 111 111 ∧ lookF (mem 114) (mem 109 13) (mem 109 15 + 3) = 100 then 2 else if isN (mem 114) (mem 109 13) (mem 109 15) (mem 109 14) 4 115 112 117 ∧ lookF (mem 114) (mem 109 13) (mem 109 15 + 3) = 100 then 3 else if isN (mem 114) (mem 109 13) (mem 109 15) (mem 109 14) 3 111 117 116 then 4 else if isN (mem 114) (mem 109 13) (mem 109 15) (mem 109 14) 4 109 101 109 ∧ lookF (mem 114) (mem 109 13) (mem 109 15 + 3) = 111 then 5 else -4))) mem → AW Γ mX11_lineNow (zF Γ zG Q) zG 0 0 0 [some (vR 109)] [] mem := by
    intro k
    refine aw_aload_n dX11_lineNow_0 rfl rfl ?_
    refine aw_iconst dX11_lineNow_1 rfl ?_
    refine aw_bipush dX11_lineNow_2 rfl (by decide) ?_
    refine aw_bipush dX11_lineNow_4 rfl (by decide) ?_
    refine aw_bipush dX11_lineNow_6 rfl (by decide) ?_
    refine aw_callV [_, _, _, _] _ dX11_lineNow_8 rfl clv_X11_101 (by decide) ⟨Nat.zero_le _, Nat.zero_le _⟩ g109 (by rfl) (Nat.le_of_ble_eq_true rfl) rfl ?_
    refine sR_is (by omega) ok (fun c8 => ?_) (fun c8 => ?_)
    · refine aw_if_eq (tgt := 25) dX11_lineNow_11 (by decide) rfl (by omega) (fun c => absurd c (by decide)) (fun _ => ?_)
      refine aw_aload_n dX11_lineNow_14 rfl rfl ?_
      refine aw_bipush dX11_lineNow_15 rfl (by decide) ?_
      refine aw_callV [_] _ dX11_lineNow_17 rfl clv_X11_105 (by decide) ⟨Nat.zero_le _, Nat.zero_le _⟩ g109 (by rfl) (Nat.le_of_ble_eq_true rfl) rfl ?_
      refine sR_ends (by omega) ok (fun c17 => ?_) (fun c17 => ?_)
      · refine aw_if_eq (tgt := 25) dX11_lineNow_20 (by decide) rfl (by omega) (fun c => absurd c (by decide)) (fun _ => ?_)
        refine aw_iconst dX11_lineNow_23 rfl ?_
        refine aw_ireturn (ty := .int) dX11_lineNow_24 rfl rfl ?_
        rw [if_pos ⟨c8, c17⟩] at k
        exact k
      · refine aw_if_eq (tgt := 25) dX11_lineNow_20 (by decide) rfl (by omega) (fun _ => ?_) (fun c => absurd c (by decide))
        first | rw [if_neg (fun h => c17 h.2)] at k | rw [if_neg (fun h => c8 h.1)] at k
        exact s25 k
    · refine aw_if_eq (tgt := 25) dX11_lineNow_11 (by decide) rfl (by omega) (fun _ => ?_) (fun c => absurd c (by decide))
      first | rw [if_neg (fun h => c17 h.2)] at k | rw [if_neg (fun h => c8 h.1)] at k
      exact s25 k
  exact AMet.of' 0 (ls := [some (vR 109)]) (by decide) rfl (Nat.le_of_ble_eq_true rfl) (s0 k)
end ZRef23
