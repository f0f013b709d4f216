/-! the component's tape -/
def kdC (c : Int) : Int := if c < 0 then 0 else if 97 ≤ c ∧ c ≤ 122 then 1 else if 48 ≤ c ∧ c ≤ 57 then 2 else if c = 32 then 4 else if c = 59 then 3 else 5
def kdF (t : Int → Int) (L p : Int) : Int := kdC (lookF t L (tkB t L p))
abbrev TpC (mem : Mem) : Prop := (0 ≤ mem 68 1 ∧ mem 68 1 ≤ 160) ∧ (∀ i : Int, 0 ≤ i → i < mem 68 1 → 0 ≤ mem 69 i ∧ mem 69 i ≤ 127)
/-- what the tape's numbers keep -/
abbrev TpN (mem : Mem) : Prop := (0 ≤ mem 68 2 ∧ mem 68 2 ≤ 5) ∧ (0 ≤ mem 68 3 ∧ mem 68 3 ≤ mem 68 1) ∧ (0 ≤ mem 68 4 ∧ mem 68 4 ≤ mem 68 1) ∧ (0 ≤ mem 68 5 ∧ mem 68 5 ≤ 6)
theorem kdC_rng (c : Int) : 0 ≤ kdC c ∧ kdC c ≤ 5 := by unfold kdC; ((repeat' split) <;> omega)
/-- where the blanks end there is none -/
theorem endF_stop {t : Int → Int} {L lo hi : Int} (hlo : 0 ≤ lo) : ∀ (d : Nat) (p : Int), p + d = L → ¬ (lo ≤ lookF t L (endF t L lo hi p) ∧ lookF t L (endF t L lo hi p) ≤ hi) := by
  intro d
  induction d with
  | zero =>
    intro p hp
    have hn : ¬ (lo ≤ lookF t L p ∧ lookF t L p ≤ hi) := by unfold lookF; rw [if_neg (by omega)]; omega
    rw [endF_n hn]; exact hn
  | succ d ih =>
    intro p hp
    by_cases h : lo ≤ lookF t L p ∧ lookF t L p ≤ hi
    · rw [endF_y hlo h]; exact ih (p + 1) (by push_cast at hp; omega)
    · rw [endF_n h]; exact h
theorem kdF_K {t : Int → Int} {L p : Int} (hp : 0 ≤ p ∧ p ≤ L) : (kdF t L p = 0 ↔ tkK t L p = 0) ∧ (kdF t L p = 1 ↔ tkK t L p = 1) ∧ (kdF t L p = 2 ↔ tkK t L p = 2) ∧ (kdF t L p = 3 ↔ (tkK t L p = 3 ∧ lookF t L (tkB t L p) = 59)) ∧ (kdF t L p = 5 ↔ (tkK t L p = 3 ∧ ¬ lookF t L (tkB t L p) = 59)) := by
  have hs := endF_stop (t := t) (L := L) (lo := 32) (hi := 32) (by decide) (L - p).toNat p (by omega)
  have hs2 : ¬ lookF t L (tkB t L p) = 32 := fun z => hs (by show 32 ≤ lookF t L (tkB t L p) ∧ lookF t L (tkB t L p) ≤ 32; omega)
  unfold kdF kdC tkK
  generalize lookF t L (tkB t L p) = c at *
  refine ⟨?_, ?_, ?_, ?_, ?_⟩ <;> ((repeat' split) <;> omega)
section ZCmp21
variable {Γ : ZG} {mem : Mem} {Q : Option AV → Mem → Prop}
theorem sC_byteAt {i : Int} (hL : 0 ≤ mem 68 1 ∧ mem 68 1 ≤ 160) (hi : 0 ≤ i ∧ i ≤ 100000) (k : Q (some (vI (lookF (mem 69) (mem 68 1) i))) mem) : AMet Γ mX8_byteAt [vR 68, vI i] zG mem Q := by
  unfold lookF at k
  refine AMet.of' 0 (ls := [some (vR (68)), some (vI (i))]) (by decide) rfl (Nat.le_of_ble_eq_true rfl) ?_
  refine aw_iload_n dX8_byteAt_0 rfl rfl ?_
  refine aw_if_lt (tgt := 28) dX8_byteAt_1 (by decide) rfl (by omega) (fun c1 => ?_) (fun c1 => ?_)
  · refine aw_iconst dX8_byteAt_28 rfl ?_
    refine aw_ireturn (ty := .int) dX8_byteAt_29 rfl rfl ?_
    first | (exfalso; omega) | (rw [if_pos (by omega)] at k; exact k) | (rw [if_neg (by omega)] at k; exact k)
  · refine aw_iload_n dX8_byteAt_4 rfl rfl ?_
    refine aw_aload_n dX8_byteAt_5 rfl rfl ?_
    refine aw_getI (kI := 1) dX8_byteAt_6 rfl fl_X8_13 (by first | assumption | rfl) (by rfl) rfl ?_
    refine aw_icmp_ge (tgt := 28) dX8_byteAt_9 (by decide) rfl (by omega) (by omega) (fun c9 => ?_) (fun c9 => ?_)
    · refine aw_iconst dX8_byteAt_28 rfl ?_
      refine aw_ireturn (ty := .int) dX8_byteAt_29 rfl rfl ?_
      first | (exfalso; omega) | (rw [if_pos (by omega)] at k; exact k) | (rw [if_neg (by omega)] at k; exact k)
    · refine aw_iload_n dX8_byteAt_12 rfl rfl ?_
      refine aw_sipush dX8_byteAt_13 rfl (by decide) ?_
      refine aw_icmp_ge (tgt := 28) dX8_byteAt_16 (by decide) rfl (by omega) (by omega) (fun c16 => ?_) (fun c16 => ?_)
      · refine aw_iconst dX8_byteAt_28 rfl ?_
        refine aw_ireturn (ty := .int) dX8_byteAt_29 rfl rfl ?_
        first | (exfalso; omega) | (rw [if_pos (by omega)] at k; exact k) | (rw [if_neg (by omega)] at k; exact k)
      · refine aw_aload_n dX8_byteAt_19 rfl rfl ?_
        refine aw_getR dX8_byteAt_20 rfl fl_X8_9 (by first | assumption | rfl) (by rfl) ?_
        refine aw_iload_n dX8_byteAt_23 rfl rfl ?_
        refine aw_baload dX8_byteAt_24 rfl (by first | assumption | rfl) (by decide) (by omega) ?_
        refine aw_goto (tgt := 29) dX8_byteAt_25 (by decide) ?_
        refine aw_ireturn (ty := .int) dX8_byteAt_29 rfl rfl ?_
        first | (exfalso; omega) | (rw [if_pos (by omega)] at k; exact k) | (rw [if_neg (by omega)] at k; exact k)
theorem sC_kindAt {i : Int} (hT : TpC mem) (hi : 0 ≤ i ∧ i ≤ 100000) (k : Q (some (vI (kdC (lookF (mem 69) (mem 68 1) i)))) mem) : AMet Γ mX8_kindAt [vR 68, vI i] zG mem Q := by
  have lr := lookF_rng (t := mem 69) (L := mem 68 1) (p := i) hT.2 hi.1
  have kk : ∀ v : Int, v = kdC (lookF (mem 69) (mem 68 1) i) → Q (some (vI v)) mem := fun v e => by rw [e]; exact k
  unfold kdC at kk
  refine AMet.of' 1 (ls := [some (vR (68)), some (vI (i)), none]) (by decide) rfl (Nat.le_of_ble_eq_true rfl) ?_
  refine aw_aload_n dX8_kindAt_0 rfl rfl ?_
  refine aw_iload_n dX8_kindAt_1 rfl rfl ?_
  refine aw_callV [_] _ dX8_kindAt_2 rfl clv_X8_54 (by decide) ⟨Nat.zero_le _, Nat.zero_le _⟩ g68 (by rfl) (Nat.le_of_ble_eq_true rfl) rfl ?_
  refine sC_byteAt hT.1 hi ?_
  refine aw_istore2 rfl dX8_kindAt_5 rfl (by decide) ?_
  refine aw_iload_n dX8_kindAt_6 rfl rfl ?_
  refine aw_if_ge (tgt := 12) dX8_kindAt_7 (by decide) rfl (by omega) (fun c7 => ?_) (fun c7 => ?_)
  · refine aw_iload_n dX8_kindAt_12 rfl rfl ?_
    refine aw_bipush dX8_kindAt_13 rfl (by decide) ?_
    refine aw_icmp_lt (tgt := 26) dX8_kindAt_15 (by decide) rfl (by omega) (by omega) (fun c15 => ?_) (fun c15 => ?_)
    · refine aw_iload_n dX8_kindAt_26 rfl rfl ?_
      refine aw_bipush dX8_kindAt_27 rfl (by decide) ?_
      refine aw_icmp_lt (tgt := 40) dX8_kindAt_29 (by decide) rfl (by omega) (by omega) (fun c29 => ?_) (fun c29 => ?_)
      · refine aw_iload_n dX8_kindAt_40 rfl rfl ?_
        refine aw_bipush dX8_kindAt_41 rfl (by decide) ?_
        refine aw_icmp_ne (tgt := 48) dX8_kindAt_43 (by decide) rfl (by omega) (by omega) (fun c43 => ?_) (fun c43 => ?_)
        · refine aw_iload_n dX8_kindAt_48 rfl rfl ?_
          refine aw_bipush dX8_kindAt_49 rfl (by decide) ?_
          refine aw_icmp_ne (tgt := 58) dX8_kindAt_51 (by decide) rfl (by omega) (by omega) (fun c51 => ?_) (fun c51 => ?_)
          · refine aw_iconst dX8_kindAt_58 rfl ?_
            refine aw_ireturn (ty := .int) dX8_kindAt_59 rfl rfl ?_
            refine kk _ ?_
            (repeat' split) <;> omega
          · refine aw_iconst dX8_kindAt_54 rfl ?_
            refine aw_goto (tgt := 59) dX8_kindAt_55 (by decide) ?_
            refine aw_ireturn (ty := .int) dX8_kindAt_59 rfl rfl ?_
            refine kk _ ?_
            (repeat' split) <;> omega
        · refine aw_iconst dX8_kindAt_46 rfl ?_
          refine aw_ireturn (ty := .int) dX8_kindAt_47 rfl rfl ?_
          refine kk _ ?_
          (repeat' split) <;> omega
      · refine aw_iload_n dX8_kindAt_32 rfl rfl ?_
        refine aw_bipush dX8_kindAt_33 rfl (by decide) ?_
        refine aw_icmp_gt (tgt := 40) dX8_kindAt_35 (by decide) rfl (by omega) (by omega) (fun c35 => ?_) (fun c35 => ?_)
        · refine aw_iload_n dX8_kindAt_40 rfl rfl ?_
          refine aw_bipush dX8_kindAt_41 rfl (by decide) ?_
          refine aw_icmp_ne (tgt := 48) dX8_kindAt_43 (by decide) rfl (by omega) (by omega) (fun c43 => ?_) (fun c43 => ?_)
          · refine aw_iload_n dX8_kindAt_48 rfl rfl ?_
            refine aw_bipush dX8_kindAt_49 rfl (by decide) ?_
            refine aw_icmp_ne (tgt := 58) dX8_kindAt_51 (by decide) rfl (by omega) (by omega) (fun c51 => ?_) (fun c51 => ?_)
            · refine aw_iconst dX8_kindAt_58 rfl ?_
              refine aw_ireturn (ty := .int) dX8_kindAt_59 rfl rfl ?_
              refine kk _ ?_
              (repeat' split) <;> omega
            · refine aw_iconst dX8_kindAt_54 rfl ?_
              refine aw_goto (tgt := 59) dX8_kindAt_55 (by decide) ?_
              refine aw_ireturn (ty := .int) dX8_kindAt_59 rfl rfl ?_
              refine kk _ ?_
              (repeat' split) <;> omega
          · refine aw_iconst dX8_kindAt_46 rfl ?_
            refine aw_ireturn (ty := .int) dX8_kindAt_47 rfl rfl ?_
            refine kk _ ?_
            (repeat' split) <;> omega
        · refine aw_iconst dX8_kindAt_38 rfl ?_
          refine aw_ireturn (ty := .int) dX8_kindAt_39 rfl rfl ?_
          refine kk _ ?_
          (repeat' split) <;> omega
    · refine aw_iload_n dX8_kindAt_18 rfl rfl ?_
      refine aw_bipush dX8_kindAt_19 rfl (by decide) ?_
      refine aw_icmp_gt (tgt := 26) dX8_kindAt_21 (by decide) rfl (by omega) (by omega) (fun c21 => ?_) (fun c21 => ?_)
      · refine aw_iload_n dX8_kindAt_26 rfl rfl ?_
        refine aw_bipush dX8_kindAt_27 rfl (by decide) ?_
        refine aw_icmp_lt (tgt := 40) dX8_kindAt_29 (by decide) rfl (by omega) (by omega) (fun c29 => ?_) (fun c29 => ?_)
        · refine aw_iload_n dX8_kindAt_40 rfl rfl ?_
          refine aw_bipush dX8_kindAt_41 rfl (by decide) ?_
          refine aw_icmp_ne (tgt := 48) dX8_kindAt_43 (by decide) rfl (by omega) (by omega) (fun c43 => ?_) (fun c43 => ?_)
          · refine aw_iload_n dX8_kindAt_48 rfl rfl ?_
            refine aw_bipush dX8_kindAt_49 rfl (by decide) ?_
            refine aw_icmp_ne (tgt := 58) dX8_kindAt_51 (by decide) rfl (by omega) (by omega) (fun c51 => ?_) (fun c51 => ?_)
            · refine aw_iconst dX8_kindAt_58 rfl ?_
              refine aw_ireturn (ty := .int) dX8_kindAt_59 rfl rfl ?_
              refine kk _ ?_
              (repeat' split) <;> omega
            · refine aw_iconst dX8_kindAt_54 rfl ?_
              refine aw_goto (tgt := 59) dX8_kindAt_55 (by decide) ?_
              refine aw_ireturn (ty := .int) dX8_kindAt_59 rfl rfl ?_
              refine kk _ ?_
              (repeat' split) <;> omega
          · refine aw_iconst dX8_kindAt_46 rfl ?_
            refine aw_ireturn (ty := .int) dX8_kindAt_47 rfl rfl ?_
            refine kk _ ?_
            (repeat' split) <;> omega
        · refine aw_iload_n dX8_kindAt_32 rfl rfl ?_
          refine aw_bipush dX8_kindAt_33 rfl (by decide) ?_
          refine aw_icmp_gt (tgt := 40) dX8_kindAt_35 (by decide) rfl (by omega) (by omega) (fun c35 => ?_) (fun c35 => ?_)
          · refine aw_iload_n dX8_kindAt_40 rfl rfl ?_
            refine aw_bipush dX8_kindAt_41 rfl (by decide) ?_
            refine aw_icmp_ne (tgt := 48) dX8_kindAt_43 (by decide) rfl (by omega) (by omega) (fun c43 => ?_) (fun c43 => ?_)
            · refine aw_iload_n dX8_kindAt_48 rfl rfl ?_
              refine aw_bipush dX8_kindAt_49 rfl (by decide) ?_
              refine aw_icmp_ne (tgt := 58) dX8_kindAt_51 (by decide) rfl (by omega) (by omega) (fun c51 => ?_) (fun c51 => ?_)
              · refine aw_iconst dX8_kindAt_58 rfl ?_
                refine aw_ireturn (ty := .int) dX8_kindAt_59 rfl rfl ?_
                refine kk _ ?_
                (repeat' split) <;> omega
              · refine aw_iconst dX8_kindAt_54 rfl ?_
                refine aw_goto (tgt := 59) dX8_kindAt_55 (by decide) ?_
                refine aw_ireturn (ty := .int) dX8_kindAt_59 rfl rfl ?_
                refine kk _ ?_
                (repeat' split) <;> omega
            · refine aw_iconst dX8_kindAt_46 rfl ?_
              refine aw_ireturn (ty := .int) dX8_kindAt_47 rfl rfl ?_
              refine kk _ ?_
              (repeat' split) <;> omega
          · refine aw_iconst dX8_kindAt_38 rfl ?_
            refine aw_ireturn (ty := .int) dX8_kindAt_39 rfl rfl ?_
            refine kk _ ?_
            (repeat' split) <;> omega
      · refine aw_iconst dX8_kindAt_24 rfl ?_
        refine aw_ireturn (ty := .int) dX8_kindAt_25 rfl rfl ?_
        refine kk _ ?_
        (repeat' split) <;> omega
  · refine aw_iconst dX8_kindAt_10 rfl ?_
    refine aw_ireturn (ty := .int) dX8_kindAt_11 rfl rfl ?_
    refine kk _ ?_
    (repeat' split) <;> omega
theorem sC_isSound (h5 : 0 ≤ mem 68 5 ∧ mem 68 5 ≤ 6) (k1 : mem 68 5 = 0 → Q (some (vI 1)) mem) (k0 : ¬ mem 68 5 = 0 → Q (some (vI 0)) mem) : AMet Γ mX8_isSound [vR 68] zG mem Q := by
  refine AMet.of' 0 (ls := [some (vR (68))]) (by decide) rfl (Nat.le_of_ble_eq_true rfl) ?_
  refine aw_aload_n dX8_isSound_0 rfl rfl ?_
  refine aw_getI (kI := 5) dX8_isSound_1 rfl fl_X8_26 (by first | assumption | rfl) (by rfl) rfl ?_
  refine aw_if_ne (tgt := 11) dX8_isSound_4 (by decide) rfl (by omega) (fun c4 => ?_) (fun c4 => ?_)
  · refine aw_iconst dX8_isSound_11 rfl ?_
    refine aw_ireturn (ty := .boolean) dX8_isSound_12 rfl (znarZ (by omega)).1 ?_
    first | exact k1 (by omega) | exact k0 (by omega)
  · refine aw_iconst dX8_isSound_7 rfl ?_
    refine aw_goto (tgt := 12) dX8_isSound_8 (by decide) ?_
    refine aw_ireturn (ty := .boolean) dX8_isSound_12 rfl (znarZ (by omega)).1 ?_
    first | exact k1 (by omega) | exact k0 (by omega)
theorem sC_failAt {a c : Int} (h5 : 0 ≤ mem 68 5 ∧ mem 68 5 ≤ 6) (k1 : mem 68 5 = 0 → Q none (mset (mset mem 68 5 c) 68 6 a)) (k0 : ¬ mem 68 5 = 0 → Q none mem) : AMet Γ mX8_failAt [vR 68, vI a, vI c] zG mem Q := by
  refine AMet.of' 0 (ls := [some (vR (68)), some (vI (a)), some (vI (c))]) (by decide) rfl (Nat.le_of_ble_eq_true rfl) ?_
  refine aw_aload_n dX8_failAt_0 rfl rfl ?_
  refine aw_getI (kI := 5) dX8_failAt_1 rfl fl_X8_26 (by first | assumption | rfl) (by rfl) rfl ?_
  refine aw_if_ne (tgt := 17) dX8_failAt_4 (by decide) rfl (by omega) (fun c4 => ?_) (fun c4 => ?_)
  · refine aw_return dX8_failAt_17 rfl ?_
    first | exact k0 (by omega) | exact k1 (by omega)
  · refine aw_aload_n dX8_failAt_7 rfl rfl ?_
    refine aw_iload_n dX8_failAt_8 rfl rfl ?_
    refine aw_putI (kI := 5) dX8_failAt_9 rfl fp_X8_26 (by first | assumption | rfl) (by rfl) rfl ?_
    refine aw_aload_n dX8_failAt_12 rfl rfl ?_
    refine aw_iload_n dX8_failAt_13 rfl rfl ?_
    refine aw_putI (kI := 6) dX8_failAt_14 rfl fp_X8_29 (by first | assumption | rfl) (by rfl) rfl ?_
    refine aw_return dX8_failAt_17 rfl ?_
    first | exact k0 (by omega) | exact k1 (by omega)
theorem sC_fail {c : Int} (h5 : 0 ≤ mem 68 5 ∧ mem 68 5 ≤ 6) (k1 : mem 68 5 = 0 → Q none (mset (mset mem 68 5 c) 68 6 (mem 68 3))) (k0 : ¬ mem 68 5 = 0 → Q none mem) : AMet Γ mX8_fail [vR 68, vI c] zG mem Q := by
  refine AMet.of' 0 (ls := [some (vR (68)), some (vI (c))]) (by decide) rfl (Nat.le_of_ble_eq_true rfl) ?_
  refine aw_aload_n dX8_fail_0 rfl rfl ?_
  refine aw_aload_n dX8_fail_1 rfl rfl ?_
  refine aw_getI (kI := 3) dX8_fail_2 rfl fl_X8_20 (by first | assumption | rfl) (by rfl) rfl ?_
  refine aw_iload_n dX8_fail_5 rfl rfl ?_
  refine aw_callV [_, _] _ dX8_fail_6 rfl clv_X8_32 (by decide) ⟨Nat.zero_le _, Nat.zero_le _⟩ g68 (by rfl) (Nat.le_of_ble_eq_true rfl) rfl ?_
  refine sC_failAt h5 (fun c6 => ?_) (fun c6 => ?_)
  · refine aw_return dX8_fail_9 rfl ?_
    first | exact k1 c6 | exact k0 c6
  · refine aw_return dX8_fail_9 rfl ?_
    first | exact k1 c6 | exact k0 c6
theorem sC_advanceB (h5 : 0 < mem 68 5 ∧ mem 68 5 ≤ 6) (k : Q none mem) : AMet Γ mX8_advance [vR 68] zG mem Q := by
  refine AMet.of' 2 (ls := [some (vR (68)), none, none]) (by decide) rfl (Nat.le_of_ble_eq_true rfl) ?_
  refine aw_aload_n dX8_advance_0 rfl rfl ?_
  refine aw_callV [] _ dX8_advance_1 rfl clv_X8_36 (by decide) ⟨Nat.zero_le _, Nat.zero_le _⟩ g68 (by rfl) (Nat.le_of_ble_eq_true rfl) rfl ?_
  refine sC_isSound (by omega) (fun c1 => ?_) (fun c1 => ?_)
  · refine aw_if_ne (tgt := 8) dX8_advance_4 (by decide) rfl (by omega) (fun _ => ?_) (fun c => absurd c (by decide))
    exfalso; omega
  · refine aw_if_ne (tgt := 8) dX8_advance_4 (by decide) rfl (by omega) (fun c => absurd c (by decide)) (fun _ => ?_)
    refine aw_return dX8_advance_7 rfl ?_
    exact k
/-- the token at p is read -/
abbrev TkR (m : Mem) (t : Int → Int) (L p : Int) : Prop := m 68 1 = L ∧ m 68 3 = tkB t L p ∧ m 68 4 = tkE t L p ∧ m 68 2 = kdF t L p ∧ (tkX t L p → m 68 5 = 1 ∧ m 68 6 = tkB t L p) ∧ (¬ tkX t L p → m 68 5 = 0)
theorem sC_advance (hT : TpC mem) (h5 : mem 68 5 = 0) (hp : 0 ≤ mem 68 4 ∧ mem 68 4 ≤ mem 68 1) (k : ∀ m' : Mem, FrI m' mem 68 69 → TkR m' (mem 69) (mem 68 1) (mem 68 4) → Q none m') : AMet Γ mX8_advance [vR 68] zG mem Q := by
  have rB := tkB_rng (t := mem 69) hp
  have rE := tkE_rng (t := mem 69) hp
  have kK := kdF_K (t := mem 69) hp
  have kr := tkK_rng (t := mem 69) (L := mem 68 1) (p := mem 68 4)
  have dr := kdC_rng (lookF (mem 69) (mem 68 1) (tkB (mem 69) (mem 68 1) (mem 68 4)))
  have dr2 : 0 ≤ kdF (mem 69) (mem 68 1) (mem 68 4) ∧ kdF (mem 69) (mem 68 1) (mem 68 4) ≤ 5 := dr
  have tpc : ∀ m : Mem, FrI m mem 68 69 → m 68 1 = mem 68 1 → TpC m := fun m hF e => ⟨by rw [e]; exact hT.1, fun i i0 i1 => by rw [hF 69 (by omega)]; exact hT.2 i i0 (by omega)⟩
  have s144 : ∀ (m : Mem) (x1 x2 : Option AV), FrI m mem 68 69 → m 68 1 = mem 68 1 → m 68 3 = tkB (mem 69) (mem 68 1) (mem 68 4) → m 68 4 = tkE (mem 69) (mem 68 1) (mem 68 4) → m 68 2 = kdF (mem 69) (mem 68 1) (mem 68 4) → m 68 5 = 0 → AW Γ mX8_advance (zF Γ zG Q) zG 0 0 144 [some (vR 68), x1, x2] [] m := by
    intro m x1 x2 hF e1 e3 e4 e2 e5
    have r2 : 0 ≤ m 68 2 ∧ m 68 2 ≤ 5 := by rw [e2]; exact dr
    have kx : tkX (mem 69) (mem 68 1) (mem 68 4) → Q none (mset (mset m 68 5 1) 68 6 (m 68 3)) := by
      intro hx
      refine k _ ((hF.set (by decide)).set (by decide)) ⟨?_, ?_, ?_, ?_, fun _ => ⟨?_, ?_⟩, fun z => absurd hx z⟩
      · rw [mset_same, fset_ne (by decide), mset_same, fset_ne (by decide)]; exact e1
      · rw [mset_same, fset_ne (by decide), mset_same, fset_ne (by decide)]; exact e3
      · rw [mset_same, fset_ne (by decide), mset_same, fset_ne (by decide)]; exact e4
      · rw [mset_same, fset_ne (by decide), mset_same, fset_ne (by decide)]; exact e2
      · rw [mset_same, fset_ne (by decide), mset_same, fset_same]
      · rw [mset_same, fset_same]; exact e3
    have kn : ¬ tkX (mem 69) (mem 68 1) (mem 68 4) → Q none m := fun hx => k m hF ⟨e1, e3, e4, e2, fun z => absurd z hx, fun _ => e5⟩
    obtain ⟨q0, q1, q2, q3, q5⟩ := kK
    rw [← e2] at q0 q1 q2 q3 q5
    have s173 : tkX (mem 69) (mem 68 1) (mem 68 4) → AW Γ mX8_advance (zF Γ zG Q) zG 0 0 173 [some (vR 68), x1, x2] [] m := by
      intro hx
      refine aw_aload_n dX8_advance_173 rfl rfl ?_
      refine aw_iconst dX8_advance_174 rfl ?_
      refine aw_callV [_] _ dX8_advance_175 rfl clv_X8_50 (by decide) ⟨Nat.zero_le _, Nat.zero_le _⟩ g68 (by rfl) (Nat.le_of_ble_eq_true rfl) rfl ?_
      refine sC_fail (by omega) (fun c6 => ?_) (fun c6 => ?_)
      · refine aw_return dX8_advance_178 rfl ?_
        first | exact absurd e5 c6 | exact kx hx
      · refine aw_return dX8_advance_178 rfl ?_
        first | exact absurd e5 c6 | exact kx hx
    refine aw_aload_n dX8_advance_144 rfl rfl ?_
    refine aw_getI (kI := 2) dX8_advance_145 rfl fl_X8_17 (by first | assumption | rfl) (by rfl) rfl ?_
    refine aw_iconst dX8_advance_148 rfl ?_
    refine aw_icmp_eq (tgt := 173) dX8_advance_149 (by decide) rfl (by omega) (by omega) (fun c149 => ?_) (fun c149 => ?_)
    · first | exact s173 (Or.inr (q5.mp (by omega))) | exact s173 (Or.inl ⟨q2.mp (by omega), by omega⟩)
    · refine aw_aload_n dX8_advance_152 rfl rfl ?_
      refine aw_getI (kI := 2) dX8_advance_153 rfl fl_X8_17 (by first | assumption | rfl) (by rfl) rfl ?_
      refine aw_iconst dX8_advance_156 rfl ?_
      refine aw_icmp_ne (tgt := 178) dX8_advance_157 (by decide) rfl (by omega) (by omega) (fun c157 => ?_) (fun c157 => ?_)
      · refine aw_return dX8_advance_178 rfl ?_
        first | exact kn (fun z => by rcases z with ⟨z1, z2⟩ | z; exact c157 (q2.mpr z1); exact c149 (q5.mpr z)) | exact kn (fun z => by rcases z with ⟨z1, z2⟩ | z; omega; exact c149 (q5.mpr z))
      · refine aw_aload_n dX8_advance_160 rfl rfl ?_
        refine aw_getI (kI := 4) dX8_advance_161 rfl fl_X8_23 (by first | assumption | rfl) (by rfl) rfl ?_
        refine aw_aload_n dX8_advance_164 rfl rfl ?_
        refine aw_getI (kI := 3) dX8_advance_165 rfl fl_X8_20 (by first | assumption | rfl) (by rfl) rfl ?_
        refine aw_isub dX8_advance_168 rfl ?_
        refine aw_iconst dX8_advance_169 rfl ?_
        refine aw_icmp_le (tgt := 178) dX8_advance_170 (by decide) rfl (by omega) (by omega) (fun c170 => ?_) (fun c170 => ?_)
        · refine aw_return dX8_advance_178 rfl ?_
          first | exact kn (fun z => by rcases z with ⟨z1, z2⟩ | z; exact c157 (q2.mpr z1); exact c149 (q5.mpr z)) | exact kn (fun z => by rcases z with ⟨z1, z2⟩ | z; omega; exact c149 (q5.mpr z))
        · first | exact s173 (Or.inr (q5.mp (by omega))) | exact s173 (Or.inl ⟨q2.mp (by omega), by omega⟩)
  -- the run
  have s107 : ∀ (lo hi : Int), 0 ≤ lo → (∀ c : Int, kdC c = kdF (mem 69) (mem 68 1) (mem 68 4) ↔ (lo ≤ c ∧ c ≤ hi)) → tkE (mem 69) (mem 68 1) (mem 68 4) = endF (mem 69) (mem 68 1) lo hi (tkB (mem 69) (mem 68 1) (mem 68 4)) → ∀ (d : Nat) (i : Int) (m : Mem), i + d = mem 68 1 → 0 ≤ i → FrI m mem 68 69 → m 68 1 = mem 68 1 → m 68 3 = tkB (mem 69) (mem 68 1) (mem 68 4) → m 68 4 = i → m 68 2 = kdF (mem 69) (mem 68 1) (mem 68 4) → m 68 5 = 0 → tkE (mem 69) (mem 68 1) (mem 68 4) = endF (mem 69) (mem 68 1) lo hi i → AW Γ mX8_advance (zF Γ zG Q) zG 0 0 107 [some (vR 68), some (vI 1), some (vI i)] [] m := by
    intro lo hi hlo hk hE d
    induction d with
    | zero =>
      intro i m hi0 i0 hF e1 e3 e4 e2 e5 eE
      have en : endF (mem 69) (mem 68 1) lo hi i = i := endF_n (by unfold lookF; rw [if_neg (by omega)]; omega)
      refine aw_iload_n dX8_advance_107 rfl rfl ?_
      refine aw_if_eq (tgt := 144) dX8_advance_108 (by decide) rfl (by omega) (fun c108 => ?_) (fun c108 => ?_)
      · exact s144 m _ _ hF e1 e3 (by rw [e4, eE, en]) e2 e5
      · refine aw_iload_n dX8_advance_111 rfl rfl ?_
        refine aw_aload_n dX8_advance_112 rfl rfl ?_
        refine aw_getI (kI := 1) dX8_advance_113 rfl fl_X8_13 (by first | assumption | rfl) (by rfl) rfl ?_
        rw [e1]
        refine aw_icmp_ge (tgt := 144) dX8_advance_116 (by decide) rfl (by omega) (by omega) (fun c116 => ?_) (fun c116 => ?_)
        · exact s144 m _ _ hF e1 e3 (by rw [e4, eE, en]) e2 e5
        · exfalso; omega
    | succ d ih =>
      intro i m hi0 i0 hF e1 e3 e4 e2 e5 eE
      push_cast at hi0
      have m69 : m 69 = mem 69 := hF 69 (by omega)
      have kc := hk (lookF (mem 69) (mem 68 1) i)
      have kcr := kdC_rng (lookF (mem 69) (mem 68 1) i)
      refine aw_iload_n dX8_advance_107 rfl rfl ?_
      refine aw_if_eq (tgt := 144) dX8_advance_108 (by decide) rfl (by omega) (fun c108 => ?_) (fun c108 => ?_)
      · first | (exfalso; omega) | (have en : endF (mem 69) (mem 68 1) lo hi i = i := endF_n (fun z => c128 (kc.mpr z)); exact s144 m _ _ hF e1 e3 (by rw [e4, eE, en]) e2 e5)
      · refine aw_iload_n dX8_advance_111 rfl rfl ?_
        refine aw_aload_n dX8_advance_112 rfl rfl ?_
        refine aw_getI (kI := 1) dX8_advance_113 rfl fl_X8_13 (by first | assumption | rfl) (by rfl) rfl ?_
        rw [e1]
        refine aw_icmp_ge (tgt := 144) dX8_advance_116 (by decide) rfl (by omega) (by omega) (fun c116 => ?_) (fun c116 => ?_)
        · first | (exfalso; omega) | (have en : endF (mem 69) (mem 68 1) lo hi i = i := endF_n (fun z => c128 (kc.mpr z)); exact s144 m _ _ hF e1 e3 (by rw [e4, eE, en]) e2 e5)
        · refine aw_aload_n dX8_advance_119 rfl rfl ?_
          refine aw_iload_n dX8_advance_120 rfl rfl ?_
          refine aw_callV [_] _ dX8_advance_121 rfl clv_X8_40 (by decide) ⟨Nat.zero_le _, Nat.zero_le _⟩ g68 (by rfl) (Nat.le_of_ble_eq_true rfl) rfl ?_
          refine sC_kindAt (tpc m hF e1) (by have := hT.1; omega) ?_
          rw [m69, e1]
          refine aw_aload_n dX8_advance_124 rfl rfl ?_
          refine aw_getI (kI := 2) dX8_advance_125 rfl fl_X8_17 (by first | assumption | rfl) (by rfl) rfl ?_
          rw [e2]
          refine aw_icmp_ne (tgt := 144) dX8_advance_128 (by decide) rfl (by omega) (by omega) (fun c128 => ?_) (fun c128 => ?_)
          · first | (exfalso; omega) | (have en : endF (mem 69) (mem 68 1) lo hi i = i := endF_n (fun z => c128 (kc.mpr z)); exact s144 m _ _ hF e1 e3 (by rw [e4, eE, en]) e2 e5)
          · refine aw_aload_n dX8_advance_131 rfl rfl ?_
            refine aw_iload_n dX8_advance_132 rfl rfl ?_
            refine aw_iconst dX8_advance_133 rfl ?_
            refine aw_iadd dX8_advance_134 rfl ?_
            refine aw_putI (kI := 4) dX8_advance_135 rfl fp_X8_23 (by first | assumption | rfl) (by rfl) rfl ?_
            refine aw_iinc2 rfl dX8_advance_138 rfl (by decide) ?_
            refine aw_goto (tgt := 107) dX8_advance_141 (by decide) ?_
            refine ih (i + 1) _ (by omega) (by omega) (hF.set (by decide)) ?_ ?_ ?_ ?_ ?_ (by rw [eE]; exact endF_y hlo (kc.mp (by omega)))
            · rw [mset_same, fset_ne (by decide)]; exact e1
            · rw [mset_same, fset_ne (by decide)]; exact e3
            · rw [mset_same, fset_same]
            · rw [mset_same, fset_ne (by decide)]; exact e2
            · rw [mset_same, fset_ne (by decide)]; exact e5
  -- behind the blanks
  have s51 : ∀ (m : Mem) (i : Int), FrI m mem 68 69 → m 68 1 = mem 68 1 → m 68 3 = tkB (mem 69) (mem 68 1) (mem 68 4) → m 68 5 = 0 → AW Γ mX8_advance (zF Γ zG Q) zG 0 0 51 [some (vR 68), some (vI i), none] [] m := by
    intro m i hF e1 e3 e5
    have m69 : m 69 = mem 69 := hF 69 (by omega)
    have fin : ∀ m2 : Mem, m2 = mset (mset m 68 2 (kdF (mem 69) (mem 68 1) (mem 68 4))) 68 4 (min (mem 68 1) (tkB (mem 69) (mem 68 1) (mem 68 4) + 1)) → AW Γ mX8_advance (zF Γ zG Q) zG 0 0 80 [some (vR 68), some (vI i), none] [] m2 := by
      intro m2 em
      have f2 : FrI m2 mem 68 69 := by rw [em]; exact (hF.set (by decide)).set (by decide)
      have g1 : m2 68 1 = mem 68 1 := by rw [em, mset_same, fset_ne (by decide), mset_same, fset_ne (by decide)]; exact e1
      have g3 : m2 68 3 = tkB (mem 69) (mem 68 1) (mem 68 4) := by rw [em, mset_same, fset_ne (by decide), mset_same, fset_ne (by decide)]; exact e3
      have g2 : m2 68 2 = kdF (mem 69) (mem 68 1) (mem 68 4) := by rw [em, mset_same, fset_ne (by decide), mset_same, fset_same]
      have g4 : m2 68 4 = min (mem 68 1) (tkB (mem 69) (mem 68 1) (mem 68 4) + 1) := by rw [em, mset_same, fset_same]
      have g5 : m2 68 5 = 0 := by rw [em, mset_same, fset_ne (by decide), mset_same, fset_ne (by decide)]; exact e5
      have r2 : 0 ≤ m2 68 2 ∧ m2 68 2 ≤ 5 := by rw [g2]; exact dr
      obtain ⟨q0, q1, q2, q3, q5⟩ := kK
      have lk : lookF (mem 69) (mem 68 1) (tkB (mem 69) (mem 68 1) (mem 68 4)) < 0 ↔ tkK (mem 69) (mem 68 1) (mem 68 4) = 0 := by
        unfold tkK
        constructor
        · intro z; rw [if_pos z]
        · intro z
          split at z
          · assumption
          · split at z
            · omega
            · split at z <;> omega
      have bl : ¬ tkK (mem 69) (mem 68 1) (mem 68 4) = 0 → tkB (mem 69) (mem 68 1) (mem 68 4) < mem 68 1 := by
        intro z
        exact (lookF_lt (t := mem 69) (L := mem 68 1) (p := tkB (mem 69) (mem 68 1) (mem 68 4)) (by omega)).1
      have s101n : ¬ (kdF (mem 69) (mem 68 1) (mem 68 4) = 1 ∨ kdF (mem 69) (mem 68 1) (mem 68 4) = 2) → AW Γ mX8_advance (zF Γ zG Q) zG 0 0 101 [some (vR 68), some (vI i), none] [vI 0] m2 := by
        intro hn
        have e4 : m2 68 4 = tkE (mem 69) (mem 68 1) (mem 68 4) := by
          rw [g4]
          unfold tkE
          by_cases z0 : tkK (mem 69) (mem 68 1) (mem 68 4) = 0
          · have := tkK_0 hT.2 hp z0
            rw [if_pos z0]; omega
          · have := bl z0
            rw [if_neg z0, if_neg (fun z => hn (Or.inl (q1.mpr z))), if_neg (fun z => hn (Or.inr (q2.mpr z)))]
            omega
        refine aw_istore1 rfl dX8_advance_101 rfl (by decide) ?_
        refine aw_aload_n dX8_advance_102 rfl rfl ?_
        refine aw_getI (kI := 4) dX8_advance_103 rfl fl_X8_23 (by first | assumption | rfl) (by rfl) rfl ?_
        refine aw_istore2 rfl dX8_advance_106 rfl (by decide) ?_
        refine aw_iload_n dX8_advance_107 rfl rfl ?_
        refine aw_if_eq (tgt := 144) dX8_advance_108 (by decide) rfl (by omega) (fun c108 => ?_) (fun c108 => ?_)
        · exact s144 m2 _ _ f2 g1 g3 e4 g2 g5
        · exfalso; exact c108 rfl
      have s101y : (kdF (mem 69) (mem 68 1) (mem 68 4) = 1 ∨ kdF (mem 69) (mem 68 1) (mem 68 4) = 2) → AW Γ mX8_advance (zF Γ zG Q) zG 0 0 101 [some (vR 68), some (vI i), none] [vI 1] m2 := by
        intro hy
        have k0 : ¬ tkK (mem 69) (mem 68 1) (mem 68 4) = 0 := by rcases hy with z | z; (have := q1.mp z; omega); (have := q2.mp z; omega)
        have hb := bl k0
        have g4' : m2 68 4 = tkB (mem 69) (mem 68 1) (mem 68 4) + 1 := by rw [g4]; omega
        have go : AW Γ mX8_advance (zF Γ zG Q) zG 0 0 107 [some (vR 68), some (vI 1), some (vI (tkB (mem 69) (mem 68 1) (mem 68 4) + 1))] [] m2 := by
          rcases hy with z | z
          · have hE : tkE (mem 69) (mem 68 1) (mem 68 4) = endF (mem 69) (mem 68 1) 97 122 (tkB (mem 69) (mem 68 1) (mem 68 4)) := by unfold tkE; rw [if_neg k0, if_pos (q1.mp z)]
            have hc : 97 ≤ lookF (mem 69) (mem 68 1) (tkB (mem 69) (mem 68 1) (mem 68 4)) ∧ lookF (mem 69) (mem 68 1) (tkB (mem 69) (mem 68 1) (mem 68 4)) ≤ 122 := by
              unfold kdF kdC at z
              (repeat' split at z) <;> omega
            exact s107 97 122 (by decide) (fun c => by rw [z]; unfold kdC; (repeat' split) <;> omega) hE (mem 68 1 - (tkB (mem 69) (mem 68 1) (mem 68 4) + 1)).toNat _ m2 (by omega) (by omega) f2 g1 g3 g4' g2 g5 (by rw [hE]; exact endF_y (by decide) hc)
          · have hE : tkE (mem 69) (mem 68 1) (mem 68 4) = endF (mem 69) (mem 68 1) 48 57 (tkB (mem 69) (mem 68 1) (mem 68 4)) := by unfold tkE; have := q2.mp z; rw [if_neg k0, if_neg (by omega), if_pos this]
            have hc : 48 ≤ lookF (mem 69) (mem 68 1) (tkB (mem 69) (mem 68 1) (mem 68 4)) ∧ lookF (mem 69) (mem 68 1) (tkB (mem 69) (mem 68 1) (mem 68 4)) ≤ 57 := by
              unfold kdF kdC at z
              (repeat' split at z) <;> omega
            exact s107 48 57 (by decide) (fun c => by rw [z]; unfold kdC; (repeat' split) <;> omega) hE (mem 68 1 - (tkB (mem 69) (mem 68 1) (mem 68 4) + 1)).toNat _ m2 (by omega) (by omega) f2 g1 g3 g4' g2 g5 (by rw [hE]; exact endF_y (by decide) hc)
        refine aw_istore1 rfl dX8_advance_101 rfl (by decide) ?_
        refine aw_aload_n dX8_advance_102 rfl rfl ?_
        refine aw_getI (kI := 4) dX8_advance_103 rfl fl_X8_23 (by first | assumption | rfl) (by rfl) rfl ?_
        rw [g4']
        refine aw_istore2 rfl dX8_advance_106 rfl (by decide) ?_
        exact go
      refine aw_aload_n dX8_advance_80 rfl rfl ?_
      refine aw_getI (kI := 2) dX8_advance_81 rfl fl_X8_17 (by first | assumption | rfl) (by rfl) rfl ?_
      refine aw_iconst dX8_advance_84 rfl ?_
      refine aw_icmp_eq (tgt := 96) dX8_advance_85 (by decide) rfl (by omega) (by omega) (fun c85 => ?_) (fun c85 => ?_)
      · refine aw_iconst dX8_advance_96 rfl ?_
        refine aw_goto (tgt := 101) dX8_advance_97 (by decide) ?_
        first | exact s101n (by omega) | exact s101y (by omega)
      · refine aw_aload_n dX8_advance_88 rfl rfl ?_
        refine aw_getI (kI := 2) dX8_advance_89 rfl fl_X8_17 (by first | assumption | rfl) (by rfl) rfl ?_
        refine aw_iconst dX8_advance_92 rfl ?_
        refine aw_icmp_ne (tgt := 100) dX8_advance_93 (by decide) rfl (by omega) (by omega) (fun c93 => ?_) (fun c93 => ?_)
        · refine aw_iconst dX8_advance_100 rfl ?_
          first | exact s101n (by omega) | exact s101y (by omega)
        · refine aw_iconst dX8_advance_96 rfl ?_
          refine aw_goto (tgt := 101) dX8_advance_97 (by decide) ?_
          first | exact s101n (by omega) | exact s101y (by omega)
    refine aw_aload_n dX8_advance_51 rfl rfl ?_
    refine aw_aload_n dX8_advance_52 rfl rfl ?_
    refine aw_aload_n dX8_advance_53 rfl rfl ?_
    refine aw_getI (kI := 3) dX8_advance_54 rfl fl_X8_20 (by first | assumption | rfl) (by rfl) rfl ?_
    rw [e3]
    refine aw_callV [_] _ dX8_advance_57 rfl clv_X8_40 (by decide) ⟨Nat.zero_le _, Nat.zero_le _⟩ g68 (by rfl) (Nat.le_of_ble_eq_true rfl) rfl ?_
    refine sC_kindAt (tpc m hF e1) (by have := hT.1; omega) ?_
    rw [m69, e1]
    refine aw_putI (kI := 2) dX8_advance_60 rfl fp_X8_17 (by first | assumption | rfl) (by rfl) rfl ?_
    refine aw_aload_n dX8_advance_63 rfl rfl ?_
    refine aw_aload_n dX8_advance_64 rfl rfl ?_
    refine aw_getI (kI := 1) dX8_advance_65 rfl fl_X8_13 (by first | assumption | rfl) (by rfl) rfl ?_
    rw [mset_same, fset_ne (by decide), e1]
    refine aw_aload_n dX8_advance_68 rfl rfl ?_
    refine aw_getI (kI := 3) dX8_advance_69 rfl fl_X8_20 (by first | assumption | rfl) (by rfl) rfl ?_
    rw [mset_same, fset_ne (by decide), e3]
    refine aw_iconst dX8_advance_72 rfl ?_
    refine aw_iadd dX8_advance_73 rfl ?_
    refine aw_min dX8_advance_74 rfl clm_X8_44 (by decide) (Nat.le_of_ble_eq_true rfl) ⟨Nat.zero_le _, Nat.zero_le _⟩ (by have := hT.1; omega) (by have := hT.1; omega) ?_
    refine aw_putI (kI := 4) dX8_advance_77 rfl fp_X8_23 (by first | assumption | rfl) (by rfl) rfl ?_
    exact fin _ rfl
  have s21 : ∀ (d : Nat) (i : Int) (m : Mem), i + d = mem 68 1 → 0 ≤ i → FrI m mem 68 69 → m 68 1 = mem 68 1 → m 68 3 = i → m 68 5 = 0 → tkB (mem 69) (mem 68 1) (mem 68 4) = endF (mem 69) (mem 68 1) 32 32 i → AW Γ mX8_advance (zF Γ zG Q) zG 0 0 21 [some (vR 68), some (vI i), none] [] m := by
    intro d
    induction d with
    | zero =>
      intro i m hi0 i0 hF e1 e3 e5 eB
      have en : endF (mem 69) (mem 68 1) 32 32 i = i := endF_n (by unfold lookF; rw [if_neg (by omega)]; omega)
      refine aw_iload_n dX8_advance_21 rfl rfl ?_
      refine aw_aload_n dX8_advance_22 rfl rfl ?_
      refine aw_getI (kI := 1) dX8_advance_23 rfl fl_X8_13 (by first | assumption | rfl) (by rfl) rfl ?_
      rw [e1]
      refine aw_icmp_ge (tgt := 51) dX8_advance_26 (by decide) rfl (by omega) (by omega) (fun c26 => ?_) (fun c26 => ?_)
      · exact s51 m _ hF e1 (by rw [e3, eB, en]) e5
      · exfalso; omega
    | succ d ih =>
      intro i m hi0 i0 hF e1 e3 e5 eB
      push_cast at hi0
      have m69 : m 69 = mem 69 := hF 69 (by omega)
      have kcr := kdC_rng (lookF (mem 69) (mem 68 1) i)
      have kc : kdC (lookF (mem 69) (mem 68 1) i) = 4 ↔ (32 ≤ lookF (mem 69) (mem 68 1) i ∧ lookF (mem 69) (mem 68 1) i ≤ 32) := by unfold kdC; (repeat' split) <;> omega
      refine aw_iload_n dX8_advance_21 rfl rfl ?_
      refine aw_aload_n dX8_advance_22 rfl rfl ?_
      refine aw_getI (kI := 1) dX8_advance_23 rfl fl_X8_13 (by first | assumption | rfl) (by rfl) rfl ?_
      rw [e1]
      refine aw_icmp_ge (tgt := 51) dX8_advance_26 (by decide) rfl (by omega) (by omega) (fun c26 => ?_) (fun c26 => ?_)
      · first | (exfalso; omega) | (have en : endF (mem 69) (mem 68 1) 32 32 i = i := endF_n (fun z => c35 (kc.mpr z)); exact s51 m _ hF e1 (by rw [e3, eB, en]) e5)
      · refine aw_aload_n dX8_advance_29 rfl rfl ?_
        refine aw_iload_n dX8_advance_30 rfl rfl ?_
        refine aw_callV [_] _ dX8_advance_31 rfl clv_X8_40 (by decide) ⟨Nat.zero_le _, Nat.zero_le _⟩ g68 (by rfl) (Nat.le_of_ble_eq_true rfl) rfl ?_
        refine sC_kindAt (tpc m hF e1) (by have := hT.1; omega) ?_
        rw [m69, e1]
        refine aw_iconst dX8_advance_34 rfl ?_
        refine aw_icmp_ne (tgt := 51) dX8_advance_35 (by decide) rfl (by omega) (by omega) (fun c35 => ?_) (fun c35 => ?_)
        · first | (exfalso; omega) | (have en : endF (mem 69) (mem 68 1) 32 32 i = i := endF_n (fun z => c35 (kc.mpr z)); exact s51 m _ hF e1 (by rw [e3, eB, en]) e5)
        · refine aw_aload_n dX8_advance_38 rfl rfl ?_
          refine aw_iload_n dX8_advance_39 rfl rfl ?_
          refine aw_iconst dX8_advance_40 rfl ?_
          refine aw_iadd dX8_advance_41 rfl ?_
          refine aw_putI (kI := 3) dX8_advance_42 rfl fp_X8_20 (by first | assumption | rfl) (by rfl) rfl ?_
          refine aw_iinc1 rfl dX8_advance_45 rfl (by decide) ?_
          refine aw_goto (tgt := 21) dX8_advance_48 (by decide) ?_
          refine ih (i + 1) _ (by omega) (by omega) (hF.set (by decide)) ?_ ?_ ?_ (by rw [eB]; exact endF_y (by decide) (kc.mp (by omega)))
          · rw [mset_same, fset_ne (by decide)]; exact e1
          · rw [mset_same, fset_same]
          · rw [mset_same, fset_ne (by decide)]; exact e5
  refine AMet.of' 2 (ls := [some (vR (68)), none, none]) (by decide) rfl (Nat.le_of_ble_eq_true rfl) ?_
  refine aw_aload_n dX8_advance_0 rfl rfl ?_
  refine aw_callV [] _ dX8_advance_1 rfl clv_X8_36 (by decide) ⟨Nat.zero_le _, Nat.zero_le _⟩ g68 (by rfl) (Nat.le_of_ble_eq_true rfl) rfl ?_
  refine sC_isSound (by omega) (fun c1 => ?_) (fun c1 => ?_)
  · refine aw_if_ne (tgt := 8) dX8_advance_4 (by decide) rfl (by omega) (fun _ => ?_) (fun c => absurd c (by decide))
    refine aw_aload_n dX8_advance_8 rfl rfl ?_
    refine aw_aload_n dX8_advance_9 rfl rfl ?_
    refine aw_getI (kI := 4) dX8_advance_10 rfl fl_X8_23 (by first | assumption | rfl) (by rfl) rfl ?_
    refine aw_putI (kI := 3) dX8_advance_13 rfl fp_X8_20 (by first | assumption | rfl) (by rfl) rfl ?_
    refine aw_aload_n dX8_advance_16 rfl rfl ?_
    refine aw_getI (kI := 3) dX8_advance_17 rfl fl_X8_20 (by first | assumption | rfl) (by rfl) rfl ?_
    rw [mset_same, fset_same]
    refine aw_istore1 rfl dX8_advance_20 rfl (by decide) ?_
    refine s21 (mem 68 1 - mem 68 4).toNat _ _ (by omega) (by omega) (FrI.rf.set (by decide)) ?_ ?_ ?_ rfl
    · rw [mset_same, fset_ne (by decide)]
    · rw [mset_same, fset_same]
    · rw [mset_same, fset_ne (by decide)]; exact h5
  · refine aw_if_ne (tgt := 8) dX8_advance_4 (by decide) rfl (by omega) (fun c => absurd c (by decide)) (fun _ => ?_)
    exfalso; omega
end ZCmp21
