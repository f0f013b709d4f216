section ZRef1
variable {Γ : ZG} {G : List GK} {mem : Mem} {Q : Option AV → Mem → Prop}
theorem sR_in {v lo hi : Int} (hv : -9223372036854775808 ≤ v ∧ v ≤ 9223372036854775807) (hlo : -9223372036854775808 ≤ lo ∧ lo ≤ 9223372036854775807) (hhi : -9223372036854775808 ≤ hi ∧ hi ≤ 9223372036854775807) (k1 : lo ≤ v ∧ v ≤ hi → Q (some (vI 1)) mem) (k0 : ¬ (lo ≤ v ∧ v ≤ hi) → Q (some (vI 0)) mem) : AMet Γ mX11_in [vL v, vL lo, vL hi] G mem Q := by
  refine AMet.of' 0 (ls := [some (vL (v)), none, some (vL (lo)), none, some (vL (hi)), none]) (by decide) rfl (Nat.le_of_ble_eq_true rfl) ?_
  refine aw_lload_n dX11_in_0 rfl rfl ?_
  refine aw_lload_n dX11_in_1 rfl rfl ?_
  refine aw_lif_lt (tgt := 17) dX11_in_2 dX11_in_3 rfl (by decide) rfl (by omega) (by omega) (fun c2 => ?_) (fun c2 => ?_)
  · refine aw_iconst dX11_in_17 rfl ?_
    refine aw_ireturn (ty := .boolean) dX11_in_18 rfl (znarZ (by omega)).1 ?_
    first | exact k1 (by omega) | exact k0 (by omega)
  · refine aw_lload_n dX11_in_6 rfl rfl ?_
    refine aw_lload dX11_in_7 rfl rfl ?_
    refine aw_lif_gt (tgt := 17) dX11_in_9 dX11_in_10 rfl (by decide) rfl (by omega) (by omega) (fun c9 => ?_) (fun c9 => ?_)
    · refine aw_iconst dX11_in_17 rfl ?_
      refine aw_ireturn (ty := .boolean) dX11_in_18 rfl (znarZ (by omega)).1 ?_
      first | exact k1 (by omega) | exact k0 (by omega)
    · refine aw_iconst dX11_in_13 rfl ?_
      refine aw_goto (tgt := 18) dX11_in_14 (by decide) ?_
      refine aw_ireturn (ty := .boolean) dX11_in_18 rfl (znarZ (by omega)).1 ?_
      first | exact k1 (by omega) | exact k0 (by omega)
theorem sR_flag {b : Int} (hb : 0 ≤ b ∧ b ≤ 1) (k : Q (some (vI b)) mem) : AMet Γ mX11_flag [vI b] G mem Q := by
  refine AMet.of' 0 (ls := [some (vI (b))]) (by decide) rfl (Nat.le_of_ble_eq_true rfl) ?_
  refine aw_iload_n dX11_flag_0 rfl rfl ?_
  refine aw_if_eq (tgt := 8) dX11_flag_1 (by decide) rfl (by omega) (fun c1 => ?_) (fun c1 => ?_)
  · refine aw_iconst dX11_flag_8 rfl ?_
    refine aw_ireturn (ty := .int) dX11_flag_9 rfl rfl ?_
    first | exact q_eq k (by rw [show b = 1 by omega]) rfl | exact q_eq k (by rw [show b = 0 by omega]) rfl
  · refine aw_iconst dX11_flag_4 rfl ?_
    refine aw_goto (tgt := 9) dX11_flag_5 (by decide) ?_
    refine aw_ireturn (ty := .int) dX11_flag_9 rfl rfl ?_
    first | exact q_eq k (by rw [show b = 1 by omega]) rfl | exact q_eq k (by rw [show b = 0 by omega]) rfl
theorem sR_of {p w : Int} (h : 0 ≤ 47 + 8 * p + w ∧ 47 + 8 * p + w < 115) (k : Q (some (vI (mem 111 (47 + 8 * p + w)))) mem) : AMet Γ mX11_of [vR 109, vI p, vI w] zG mem Q := by
  refine AMet.of' 0 (ls := [some (vR (109)), some (vI (p)), some (vI (w))]) (by decide) rfl (Nat.le_of_ble_eq_true rfl) ?_
  refine aw_aload_n dX11_of_0 rfl rfl ?_
  refine aw_getR dX11_of_1 rfl fl_X11_13 g109 (by rfl) ?_
  refine aw_bipush dX11_of_4 rfl (by decide) ?_
  refine aw_bipush dX11_of_6 rfl (by decide) ?_
  refine aw_iload_n dX11_of_8 rfl rfl ?_
  refine aw_imul dX11_of_9 rfl ?_
  refine aw_iadd dX11_of_10 rfl ?_
  refine aw_iload_n dX11_of_11 rfl rfl ?_
  refine aw_iadd dX11_of_12 rfl ?_
  refine aw_iaload dX11_of_13 rfl g111 (by decide) (by omega) ?_
  refine aw_ireturn (ty := .int) dX11_of_14 rfl rfl ?_
  exact k
theorem sR_becomesOf {p w v : Int} (h : 0 ≤ 47 + 8 * p + w ∧ 47 + 8 * p + w < 115) (k : Q none (mset mem 111 (47 + 8 * p + w) v)) : AMet Γ mX11_becomesOf [vR 109, vI p, vI w, vI v] zG mem Q := by
  refine AMet.of' 0 (ls := [some (vR (109)), some (vI (p)), some (vI (w)), some (vI (v))]) (by decide) rfl (Nat.le_of_ble_eq_true rfl) ?_
  refine aw_aload_n dX11_becomesOf_0 rfl rfl ?_
  refine aw_getR dX11_becomesOf_1 rfl fl_X11_13 g109 (by rfl) ?_
  refine aw_bipush dX11_becomesOf_4 rfl (by decide) ?_
  refine aw_bipush dX11_becomesOf_6 rfl (by decide) ?_
  refine aw_iload_n dX11_becomesOf_8 rfl rfl ?_
  refine aw_imul dX11_becomesOf_9 rfl ?_
  refine aw_iadd dX11_becomesOf_10 rfl ?_
  refine aw_iload_n dX11_becomesOf_11 rfl rfl ?_
  refine aw_iadd dX11_becomesOf_12 rfl ?_
  refine aw_iload_n dX11_becomesOf_13 rfl rfl ?_
  refine aw_iastore dX11_becomesOf_14 rfl g111 (by decide) (by omega) ?_
  refine aw_return dX11_becomesOf_15 rfl ?_
  exact k
theorem sR_most {v : Int} (hv : -2147483648 ≤ v ∧ v ≤ 2147483647) (k : Q (some (vI (min 99 v))) mem) : AMet Γ mX11_most [vI v] G mem Q := by
  refine AMet.of' 0 (ls := [some (vI (v))]) (by decide) rfl (Nat.le_of_ble_eq_true rfl) ?_
  refine aw_iload_n dX11_most_0 rfl rfl ?_
  refine aw_bipush dX11_most_1 rfl (by decide) ?_
  refine aw_icmp_le (tgt := 11) dX11_most_3 (by decide) rfl (by omega) (by omega) (fun c3 => ?_) (fun c3 => ?_)
  · refine aw_iload_n dX11_most_11 rfl rfl ?_
    refine aw_ireturn (ty := .int) dX11_most_12 rfl rfl ?_
    exact q_eq k (by congr 2; omega) rfl
  · refine aw_bipush dX11_most_6 rfl (by decide) ?_
    refine aw_goto (tgt := 12) dX11_most_8 (by decide) ?_
    refine aw_ireturn (ty := .int) dX11_most_12 rfl rfl ?_
    exact q_eq k (by congr 2; omega) rfl
theorem sR_isCell {c : Int} (hn : 0 ≤ mem 109 3 ∧ mem 109 3 ≤ 8) (hc : -2147483648 ≤ c ∧ c ≤ 2147483647) (k1 : 0 ≤ c ∧ c < mem 109 3 → Q (some (vI 1)) mem) (k0 : ¬ (0 ≤ c ∧ c < mem 109 3) → Q (some (vI 0)) mem) : AMet Γ mX11_isCell [vR 109, vI c] zG mem Q := by
  refine AMet.of' 0 (ls := [some (vR (109)), some (vI (c))]) (by decide) rfl (Nat.le_of_ble_eq_true rfl) ?_
  refine aw_iload_n dX11_isCell_0 rfl rfl ?_
  refine aw_i2l dX11_isCell_1 rfl (by omega) ?_
  refine aw_lconst (a := 0) dX11_isCell_2 rfl (by decide) ?_
  refine aw_aload_n dX11_isCell_3 rfl rfl ?_
  refine aw_getI (kI := 3) dX11_isCell_4 rfl fl_X11_73 g109 (by rfl) rfl ?_
  refine aw_iconst dX11_isCell_7 rfl ?_
  refine aw_isub dX11_isCell_8 rfl ?_
  refine aw_i2l dX11_isCell_9 rfl (by omega) ?_
  refine aw_callS [_, _, _] _ dX11_isCell_10 rfl cls_X11_78 (by decide) ⟨Nat.zero_le _, Nat.zero_le _⟩ (Nat.le_of_ble_eq_true rfl) rfl ?_
  refine sR_in (by omega) (by omega) (by omega) (fun c10 => ?_) (fun c10 => ?_)
  · refine aw_ireturn (ty := .boolean) dX11_isCell_13 rfl (znarZ (by omega)).1 ?_
    first | exact k1 (by omega) | exact k0 (by omega)
  · refine aw_ireturn (ty := .boolean) dX11_isCell_13 rfl (znarZ (by omega)).1 ?_
    first | exact k1 (by omega) | exact k0 (by omega)
theorem sR_isPlace {c : Int} (hn : 0 ≤ mem 109 3 ∧ mem 109 3 ≤ 8) (hc : -2147483648 ≤ c ∧ c ≤ 2147483647) (k1 : 0 ≤ c ∧ c < 3 * mem 109 3 → Q (some (vI 1)) mem) (k0 : ¬ (0 ≤ c ∧ c < 3 * mem 109 3) → Q (some (vI 0)) mem) : AMet Γ mX11_isPlace [vR 109, vI c] zG mem Q := by
  refine AMet.of' 0 (ls := [some (vR (109)), some (vI (c))]) (by decide) rfl (Nat.le_of_ble_eq_true rfl) ?_
  refine aw_iload_n dX11_isPlace_0 rfl rfl ?_
  refine aw_i2l dX11_isPlace_1 rfl (by omega) ?_
  refine aw_lconst (a := 0) dX11_isPlace_2 rfl (by decide) ?_
  refine aw_iconst dX11_isPlace_3 rfl ?_
  refine aw_aload_n dX11_isPlace_4 rfl rfl ?_
  refine aw_getI (kI := 3) dX11_isPlace_5 rfl fl_X11_73 g109 (by rfl) rfl ?_
  refine aw_imul dX11_isPlace_8 rfl ?_
  refine aw_iconst dX11_isPlace_9 rfl ?_
  refine aw_isub dX11_isPlace_10 rfl ?_
  refine aw_i2l dX11_isPlace_11 rfl (by omega) ?_
  refine aw_callS [_, _, _] _ dX11_isPlace_12 rfl cls_X11_78 (by decide) ⟨Nat.zero_le _, Nat.zero_le _⟩ (Nat.le_of_ble_eq_true rfl) rfl ?_
  refine sR_in (by omega) (by omega) (by omega) (fun c12 => ?_) (fun c12 => ?_)
  · refine aw_ireturn (ty := .boolean) dX11_isPlace_15 rfl (znarZ (by omega)).1 ?_
    first | exact k1 (by omega) | exact k0 (by omega)
  · refine aw_ireturn (ty := .boolean) dX11_isPlace_15 rfl (znarZ (by omega)).1 ?_
    first | exact k1 (by omega) | exact k0 (by omega)
theorem sR_isSpud {c : Int} (hn : 0 ≤ mem 110 46 ∧ mem 110 46 ≤ 6) (hc : -2147483648 ≤ c ∧ c ≤ 2147483647) (k1 : 0 ≤ c ∧ c < mem 110 46 → Q (some (vI 1)) mem) (k0 : ¬ (0 ≤ c ∧ c < mem 110 46) → Q (some (vI 0)) mem) : AMet Γ mX11_isSpud [vR 109, vI c] zG mem Q := by
  refine AMet.of' 0 (ls := [some (vR (109)), some (vI (c))]) (by decide) rfl (Nat.le_of_ble_eq_true rfl) ?_
  refine aw_iload_n dX11_isSpud_0 rfl rfl ?_
  refine aw_i2l dX11_isSpud_1 rfl (by omega) ?_
  refine aw_lconst (a := 0) dX11_isSpud_2 rfl (by decide) ?_
  refine aw_aload_n dX11_isSpud_3 rfl rfl ?_
  refine aw_getR dX11_isSpud_4 rfl fl_X11_7 g109 (by rfl) ?_
  refine aw_bipush dX11_isSpud_7 rfl (by decide) ?_
  refine aw_iaload dX11_isSpud_9 rfl g110 (by decide) (by omega) ?_
  refine aw_iconst dX11_isSpud_10 rfl ?_
  refine aw_isub dX11_isSpud_11 rfl ?_
  refine aw_i2l dX11_isSpud_12 rfl (by omega) ?_
  refine aw_callS [_, _, _] _ dX11_isSpud_13 rfl cls_X11_78 (by decide) ⟨Nat.zero_le _, Nat.zero_le _⟩ (Nat.le_of_ble_eq_true rfl) rfl ?_
  refine sR_in (by omega) (by omega) (by omega) (fun c13 => ?_) (fun c13 => ?_)
  · refine aw_ireturn (ty := .boolean) dX11_isSpud_16 rfl (znarZ (by omega)).1 ?_
    first | exact k1 (by omega) | exact k0 (by omega)
  · refine aw_ireturn (ty := .boolean) dX11_isSpud_16 rfl (znarZ (by omega)).1 ?_
    first | exact k1 (by omega) | exact k0 (by omega)
theorem sR_becomes {j v : Int} (h : 0 ≤ j ∧ j < 345) (k : Q (some (vI (mem 110 j))) (mset mem 110 j v)) : AMet Γ mX11_becomes [vR 109, vI j, vI v] zG mem Q := by
  refine AMet.of' 1 (ls := [some (vR (109)), some (vI (j)), some (vI (v)), none]) (by decide) rfl (Nat.le_of_ble_eq_true rfl) ?_
  refine aw_aload_n dX11_becomes_0 rfl rfl ?_
  refine aw_getR dX11_becomes_1 rfl fl_X11_7 g109 (by rfl) ?_
  refine aw_iload_n dX11_becomes_4 rfl rfl ?_
  refine aw_iaload dX11_becomes_5 rfl g110 (by decide) (by omega) ?_
  refine aw_istore3 rfl dX11_becomes_6 rfl (by decide) ?_
  refine aw_aload_n dX11_becomes_7 rfl rfl ?_
  refine aw_getR dX11_becomes_8 rfl fl_X11_7 g109 (by rfl) ?_
  refine aw_iload_n dX11_becomes_11 rfl rfl ?_
  refine aw_iload_n dX11_becomes_12 rfl rfl ?_
  refine aw_iastore dX11_becomes_13 rfl g110 (by decide) (by omega) ?_
  refine aw_iload_n dX11_becomes_14 rfl rfl ?_
  refine aw_ireturn (ty := .int) dX11_becomes_15 rfl rfl ?_
  exact k
theorem sR_isDone {p : Int} (h : 0 ≤ p ∧ p < 6) (h1 : 0 ≤ mem 111 (47 + 8 * p + 0) ∧ mem 111 (47 + 8 * p + 0) ≤ 9) (h2 : 0 ≤ mem 111 (47 + 8 * p + 3) ∧ mem 111 (47 + 8 * p + 3) ≤ 99) (k1 : isDoneF (mem 111) p → Q (some (vI 1)) mem) (k0 : ¬ isDoneF (mem 111) p → Q (some (vI 0)) mem) : AMet Γ mX11_isDone [vR 109, vI p] zG mem Q := by
  refine AMet.of' 0 (ls := [some (vR (109)), some (vI (p))]) (by decide) rfl (Nat.le_of_ble_eq_true rfl) ?_
  refine aw_aload_n dX11_isDone_0 rfl rfl ?_
  refine aw_iload_n dX11_isDone_1 rfl rfl ?_
  refine aw_iconst dX11_isDone_2 rfl ?_
  refine aw_callV [_, _] _ dX11_isDone_3 rfl clv_X11_173 (by decide) ⟨Nat.zero_le _, Nat.zero_le _⟩ g109 (by rfl) (Nat.le_of_ble_eq_true rfl) rfl ?_
  refine sR_of (by omega) ?_
  refine aw_bipush dX11_isDone_6 rfl (by decide) ?_
  refine aw_aload_n dX11_isDone_8 rfl rfl ?_
  refine aw_iload_n dX11_isDone_9 rfl rfl ?_
  refine aw_iconst dX11_isDone_10 rfl ?_
  refine aw_callV [_, _] _ dX11_isDone_11 rfl clv_X11_173 (by decide) ⟨Nat.zero_le _, Nat.zero_le _⟩ g109 (by rfl) (Nat.le_of_ble_eq_true rfl) rfl ?_
  refine sR_of (by omega) ?_
  refine aw_imul dX11_isDone_14 rfl ?_
  refine aw_icmp_lt (tgt := 22) dX11_isDone_15 (by decide) rfl (by omega) (by omega) (fun c15 => ?_) (fun c15 => ?_)
  · refine aw_iconst dX11_isDone_22 rfl ?_
    refine aw_ireturn (ty := .boolean) dX11_isDone_23 rfl (znarZ (by omega)).1 ?_
    first | exact k1 (by unfold isDoneF; omega) | exact k0 (by unfold isDoneF; omega)
  · refine aw_iconst dX11_isDone_18 rfl ?_
    refine aw_goto (tgt := 23) dX11_isDone_19 (by decide) ?_
    refine aw_ireturn (ty := .boolean) dX11_isDone_23 rfl (znarZ (by omega)).1 ?_
    first | exact k1 (by unfold isDoneF; omega) | exact k0 (by unfold isDoneF; omega)
theorem sR_isBlack {p : Int} (h : 0 ≤ p ∧ p < 6) (h1 : 0 ≤ mem 111 (47 + 8 * p + 4) ∧ mem 111 (47 + 8 * p + 4) ≤ 99) (h2 : 0 ≤ mem 111 (47 + 8 * p + 5) ∧ mem 111 (47 + 8 * p + 5) ≤ 99) (k1 : isBlackF (mem 111) p → Q (some (vI 1)) mem) (k0 : ¬ isBlackF (mem 111) p → Q (some (vI 0)) mem) : AMet Γ mX11_isBlack [vR 109, vI p] zG mem Q := by
  refine AMet.of' 0 (ls := [some (vR (109)), some (vI (p))]) (by decide) rfl (Nat.le_of_ble_eq_true rfl) ?_
  refine aw_aload_n dX11_isBlack_0 rfl rfl ?_
  refine aw_iload_n dX11_isBlack_1 rfl rfl ?_
  refine aw_iconst dX11_isBlack_2 rfl ?_
  refine aw_callV [_, _] _ dX11_isBlack_3 rfl clv_X11_173 (by decide) ⟨Nat.zero_le _, Nat.zero_le _⟩ g109 (by rfl) (Nat.le_of_ble_eq_true rfl) rfl ?_
  refine sR_of (by omega) ?_
  refine aw_bipush dX11_isBlack_6 rfl (by decide) ?_
  refine aw_icmp_ge (tgt := 22) dX11_isBlack_8 (by decide) rfl (by omega) (by omega) (fun c8 => ?_) (fun c8 => ?_)
  · refine aw_iconst dX11_isBlack_22 rfl ?_
    refine aw_goto (tgt := 27) dX11_isBlack_23 (by decide) ?_
    refine aw_ireturn (ty := .boolean) dX11_isBlack_27 rfl (znarZ (by omega)).1 ?_
    first | exact k1 (by unfold isBlackF; omega) | exact k0 (by unfold isBlackF; omega)
  · refine aw_aload_n dX11_isBlack_11 rfl rfl ?_
    refine aw_iload_n dX11_isBlack_12 rfl rfl ?_
    refine aw_iconst dX11_isBlack_13 rfl ?_
    refine aw_callV [_, _] _ dX11_isBlack_14 rfl clv_X11_173 (by decide) ⟨Nat.zero_le _, Nat.zero_le _⟩ g109 (by rfl) (Nat.le_of_ble_eq_true rfl) rfl ?_
    refine sR_of (by omega) ?_
    refine aw_bipush dX11_isBlack_17 rfl (by decide) ?_
    refine aw_icmp_lt (tgt := 26) dX11_isBlack_19 (by decide) rfl (by omega) (by omega) (fun c19 => ?_) (fun c19 => ?_)
    · refine aw_iconst dX11_isBlack_26 rfl ?_
      refine aw_ireturn (ty := .boolean) dX11_isBlack_27 rfl (znarZ (by omega)).1 ?_
      first | exact k1 (by unfold isBlackF; omega) | exact k0 (by unfold isBlackF; omega)
    · refine aw_iconst dX11_isBlack_22 rfl ?_
      refine aw_goto (tgt := 27) dX11_isBlack_23 (by decide) ?_
      refine aw_ireturn (ty := .boolean) dX11_isBlack_27 rfl (znarZ (by omega)).1 ?_
      first | exact k1 (by unfold isBlackF; omega) | exact k0 (by unfold isBlackF; omega)
end ZRef1
