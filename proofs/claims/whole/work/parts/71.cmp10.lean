theorem wr32 {c : Int} : Int32.ofInt c = Int32.ofInt (c - 4294967296) := by
  rw [← Int32.toInt_inj, Int32.toInt_ofInt, Int32.toInt_ofInt]
  show Int.bmod c 4294967296 = Int.bmod (c - 4294967296) 4294967296
  unfold Int.bmod
  dsimp only
  rw [show (c - 4294967296) % ((4294967296 : Nat) : Int) = c % ((4294967296 : Nat) : Int) by omega]
theorem four_get {j : Nat} (h : j < 4) : [some 96, some 98, some 100, some 102][((j : Nat) : Int).toNat]? = some (some (96 + 2 * j)) := by
  rw [Int.toNat_natCast]
  match j, h with
  | 0, _ => rfl
  | 1, _ => rfl
  | 2, _ => rfl
  | 3, _ => rfl
  | j + 4, h => omega
def ShG (c : Nat) : Prop := zG[c]? = some (.inr (.inr (6, [some (some (c + 1)), none, none]))) ∧ zG[c + 1]? = some (.inl (.int, 40))
theorem ShG.of {j : Nat} (h : j < 4) : ShG (96 + 2 * j) := by
  match j, h with
  | 0, _ => exact ⟨rfl, rfl⟩
  | 1, _ => exact ⟨rfl, rfl⟩
  | 2, _ => exact ⟨rfl, rfl⟩
  | 3, _ => exact ⟨rfl, rfl⟩
  | j + 4, h => omega
/-- a sheet's cells: its lane (-4: none), its size, its numbers -/
def Sh (mem : Mem) (c : Nat) (lk sz : Int) (cl : Int → Int) : Prop := (lk = -4 ∧ mem c 2 = -4 ∧ (-2147483648 ≤ mem c 1 ∧ mem c 1 ≤ 2147483647)) ∨ ((0 ≤ lk ∧ lk ≤ 2) ∧ mem c 1 = lk ∧ mem c 2 = sz ∧ (0 ≤ sz ∧ sz ≤ 40) ∧ ∀ i : Int, 0 ≤ i → i < 40 → mem (c + 1) i = cl i)
def ftF (lk sz i : Int) : Int := if lk = -4 then 1 else if 0 ≤ i ∧ i < sz then 0 else 2
section ZCmp10
variable {Γ : ZG} {mem : Mem} {Q : Option AV → Mem → Prop} {n : Int} {f : Int → Int}
theorem sC_faultAt {c : Nat} {lk sz i : Int} {cl : Int → Int} (hG : ShG c) (h : Sh mem c lk sz cl) (hi : -2147483648 ≤ i ∧ i ≤ 2147483647) (k : Q (some (vI (ftF lk sz i))) mem) : AMet Γ mX6_faultAt [vR c, vI i] zG mem Q := by
  obtain ⟨g0, g1⟩ := hG
  have r : (lk = -4 ∧ mem c 2 = -4) ∨ (¬ lk = -4 ∧ mem c 2 = sz ∧ 0 ≤ sz ∧ sz ≤ 40) := by
    rcases h with h | h
    · exact Or.inl ⟨h.1, h.2.1⟩
    · exact Or.inr ⟨by omega, h.2.2.1, h.2.2.2.1⟩
  have kk : ∀ v : Int, v = ftF lk sz i → Q (some (vI v)) mem := fun v e => by rw [e]; exact k
  unfold ftF at kk
  refine AMet.of' 0 (ls := [some (vR (c)), some (vI (i))]) (by decide) rfl (Nat.le_of_ble_eq_true rfl) ?_
  refine aw_aload_n dX6_faultAt_0 rfl rfl ?_
  refine aw_getI (kI := 2) dX6_faultAt_1 rfl fl_X6_15 (by first | assumption | rfl) (by rfl) rfl ?_
  refine aw_bipush dX6_faultAt_4 rfl (by decide) ?_
  refine aw_icmp_ne (tgt := 11) dX6_faultAt_6 (by decide) rfl (by omega) (by omega) (fun c6 => ?_) (fun c6 => ?_)
  · refine aw_iload_n dX6_faultAt_11 rfl rfl ?_
    refine aw_if_lt (tgt := 36) dX6_faultAt_12 (by decide) rfl (by omega) (fun c12 => ?_) (fun c12 => ?_)
    · refine aw_iconst dX6_faultAt_36 rfl ?_
      refine aw_ireturn (ty := .int) dX6_faultAt_37 rfl rfl ?_
      refine kk _ ?_
      (repeat' split) <;> omega
    · refine aw_iload_n dX6_faultAt_15 rfl rfl ?_
      refine aw_aload_n dX6_faultAt_16 rfl rfl ?_
      refine aw_getI (kI := 2) dX6_faultAt_17 rfl fl_X6_15 (by first | assumption | rfl) (by rfl) rfl ?_
      refine aw_icmp_ge (tgt := 36) dX6_faultAt_20 (by decide) rfl (by omega) (by omega) (fun c20 => ?_) (fun c20 => ?_)
      · refine aw_iconst dX6_faultAt_36 rfl ?_
        refine aw_ireturn (ty := .int) dX6_faultAt_37 rfl rfl ?_
        refine kk _ ?_
        (repeat' split) <;> omega
      · refine aw_iload_n dX6_faultAt_23 rfl rfl ?_
        refine aw_aload_n dX6_faultAt_24 rfl rfl ?_
        refine aw_getR dX6_faultAt_25 rfl fl_X6_9 (by first | assumption | rfl) (by rfl) ?_
        refine aw_alenI dX6_faultAt_28 rfl (by first | assumption | rfl) ?_
        refine aw_icmp_ge (tgt := 36) dX6_faultAt_29 (by decide) rfl (by omega) (by omega) (fun c29 => ?_) (fun c29 => ?_)
        · refine aw_iconst dX6_faultAt_36 rfl ?_
          refine aw_ireturn (ty := .int) dX6_faultAt_37 rfl rfl ?_
          refine kk _ ?_
          (repeat' split) <;> omega
        · refine aw_iconst dX6_faultAt_32 rfl ?_
          refine aw_goto (tgt := 37) dX6_faultAt_33 (by decide) ?_
          refine aw_ireturn (ty := .int) dX6_faultAt_37 rfl rfl ?_
          refine kk _ ?_
          (repeat' split) <;> omega
  · refine aw_iconst dX6_faultAt_9 rfl ?_
    refine aw_ireturn (ty := .int) dX6_faultAt_10 rfl rfl ?_
    refine kk _ ?_
    (repeat' split) <;> omega
theorem sC_pairFault {c : Nat} {l lk sz i : Int} {cl : Int → Int} (hG : ShG c) (h : Sh mem c lk sz cl) (hl : 0 ≤ l ∧ l ≤ 2) (hi : -2147483648 ≤ i ∧ i ≤ 2147483647) (k : Q (some (vI (reasonF l lk sz i))) mem) : AMet Γ mX6_pairFault [vR c, vI l, vI i] zG mem Q := by
  have hG' := hG
  obtain ⟨g0, g1⟩ := hG
  have r : (lk = -4 ∧ mem c 2 = -4) ∨ (¬ lk = -4 ∧ (0 ≤ lk ∧ lk ≤ 2) ∧ mem c 1 = lk ∧ mem c 2 = sz ∧ 0 ≤ sz ∧ sz ≤ 40) := by
    rcases h with h | h
    · exact Or.inl ⟨h.1, h.2.1⟩
    · exact Or.inr ⟨by omega, h.1, h.2.1, h.2.2.1, h.2.2.2.1⟩
  have r1 : -2147483648 ≤ mem c 1 ∧ mem c 1 ≤ 2147483647 := by
    rcases h with h | h
    · exact h.2.2
    · have := h.2.1; have := h.1; omega
  have kk : ∀ v : Int, v = reasonF l lk sz i → Q (some (vI v)) mem := fun v e => by rw [e]; exact k
  unfold reasonF at kk
  have fr : 0 ≤ ftF lk sz i ∧ ftF lk sz i ≤ 2 := by unfold ftF; ((repeat' split) <;> omega)
  have f0 : ftF lk sz i = 0 → (0 ≤ i ∧ i < sz) ∧ sz ≤ 40 ∧ ¬ lk = -4 := by
    unfold ftF
    intro z
    split at z
    · omega
    · split at z <;> omega
  refine AMet.of' 1 (ls := [some (vR (c)), some (vI (l)), some (vI (i)), none]) (by decide) rfl (Nat.le_of_ble_eq_true rfl) ?_
  refine aw_aload_n dX6_pairFault_0 rfl rfl ?_
  refine aw_getI (kI := 2) dX6_pairFault_1 rfl fl_X6_15 (by first | assumption | rfl) (by rfl) rfl ?_
  refine aw_bipush dX6_pairFault_4 rfl (by decide) ?_
  refine aw_icmp_eq (tgt := 19) dX6_pairFault_6 (by decide) rfl (by omega) (by omega) (fun c6 => ?_) (fun c6 => ?_)
  · refine aw_aload_n dX6_pairFault_19 rfl rfl ?_
    refine aw_iload_n dX6_pairFault_20 rfl rfl ?_
    refine aw_callV [_] _ dX6_pairFault_21 rfl clv_X6_28 (by decide) ⟨Nat.zero_le _, Nat.zero_le _⟩ (by first | assumption | rfl) (by rfl) (Nat.le_of_ble_eq_true rfl) rfl ?_
    refine sC_faultAt hG' h hi ?_
    refine aw_istore3 rfl dX6_pairFault_24 rfl (by decide) ?_
    refine aw_iload_n dX6_pairFault_25 rfl rfl ?_
    refine aw_if_eq (tgt := 33) dX6_pairFault_26 (by decide) rfl (by omega) (fun c26 => ?_) (fun c26 => ?_)
    · have i0 := f0 (by omega)
      refine aw_aload_n dX6_pairFault_33 rfl rfl ?_
      refine aw_iload_n dX6_pairFault_34 rfl rfl ?_
      refine aw_iconst dX6_pairFault_35 rfl ?_
      refine aw_iadd dX6_pairFault_36 rfl ?_
      refine aw_callV [_] _ dX6_pairFault_37 rfl clv_X6_28 (by decide) ⟨Nat.zero_le _, Nat.zero_le _⟩ (by first | assumption | rfl) (by rfl) (Nat.le_of_ble_eq_true rfl) rfl ?_
      refine sC_faultAt hG' h (by omega) ?_
      refine aw_ireturn (ty := .int) dX6_pairFault_40 rfl rfl ?_
      refine kk _ ?_
      unfold ftF at *
      (repeat' split) <;> omega
    · refine aw_iload_n dX6_pairFault_29 rfl rfl ?_
      refine aw_goto (tgt := 40) dX6_pairFault_30 (by decide) ?_
      refine aw_ireturn (ty := .int) dX6_pairFault_40 rfl rfl ?_
      refine kk _ ?_
      unfold ftF at *
      (repeat' split) <;> omega
  · refine aw_aload_n dX6_pairFault_9 rfl rfl ?_
    refine aw_getI (kI := 1) dX6_pairFault_10 rfl fl_X6_19 (by first | assumption | rfl) (by rfl) rfl ?_
    refine aw_iload_n dX6_pairFault_13 rfl rfl ?_
    refine aw_icmp_eq (tgt := 19) dX6_pairFault_14 (by decide) rfl (by omega) (by omega) (fun c14 => ?_) (fun c14 => ?_)
    · refine aw_aload_n dX6_pairFault_19 rfl rfl ?_
      refine aw_iload_n dX6_pairFault_20 rfl rfl ?_
      refine aw_callV [_] _ dX6_pairFault_21 rfl clv_X6_28 (by decide) ⟨Nat.zero_le _, Nat.zero_le _⟩ (by first | assumption | rfl) (by rfl) (Nat.le_of_ble_eq_true rfl) rfl ?_
      refine sC_faultAt hG' h hi ?_
      refine aw_istore3 rfl dX6_pairFault_24 rfl (by decide) ?_
      refine aw_iload_n dX6_pairFault_25 rfl rfl ?_
      refine aw_if_eq (tgt := 33) dX6_pairFault_26 (by decide) rfl (by omega) (fun c26 => ?_) (fun c26 => ?_)
      · have i0 := f0 (by omega)
        refine aw_aload_n dX6_pairFault_33 rfl rfl ?_
        refine aw_iload_n dX6_pairFault_34 rfl rfl ?_
        refine aw_iconst dX6_pairFault_35 rfl ?_
        refine aw_iadd dX6_pairFault_36 rfl ?_
        refine aw_callV [_] _ dX6_pairFault_37 rfl clv_X6_28 (by decide) ⟨Nat.zero_le _, Nat.zero_le _⟩ (by first | assumption | rfl) (by rfl) (Nat.le_of_ble_eq_true rfl) rfl ?_
        refine sC_faultAt hG' h (by omega) ?_
        refine aw_ireturn (ty := .int) dX6_pairFault_40 rfl rfl ?_
        refine kk _ ?_
        unfold ftF at *
        (repeat' split) <;> omega
      · refine aw_iload_n dX6_pairFault_29 rfl rfl ?_
        refine aw_goto (tgt := 40) dX6_pairFault_30 (by decide) ?_
        refine aw_ireturn (ty := .int) dX6_pairFault_40 rfl rfl ?_
        refine kk _ ?_
        unfold ftF at *
        (repeat' split) <;> omega
    · refine aw_iconst dX6_pairFault_17 rfl ?_
      refine aw_ireturn (ty := .int) dX6_pairFault_18 rfl rfl ?_
      refine kk _ ?_
      (repeat' split) <;> omega
theorem sC_valueAt {c : Nat} {lk sz i : Int} {cl : Int → Int} (hG : ShG c) (h : Sh mem c lk sz cl) (hi : 0 ≤ i ∧ i < sz) (hl : ¬ lk = -4) (k : Q (some (vI (cl i))) mem) : AMet Γ mX6_valueAt [vR c, vI i] zG mem Q := by
  have hG' := hG
  obtain ⟨g0, g1⟩ := hG
  have r : (0 ≤ sz ∧ sz ≤ 40) ∧ ∀ i : Int, 0 ≤ i → i < 40 → mem (c + 1) i = cl i := by
    rcases h with h | h
    · exact absurd h.1 hl
    · exact h.2.2.2
  have e : ftF lk sz i = 0 := by unfold ftF; rw [if_neg hl, if_pos hi]
  refine AMet.of' 0 (ls := [some (vR (c)), some (vI (i))]) (by decide) rfl (Nat.le_of_ble_eq_true rfl) ?_
  refine aw_aload_n dX6_valueAt_0 rfl rfl ?_
  refine aw_iload_n dX6_valueAt_1 rfl rfl ?_
  refine aw_callV [_] _ dX6_valueAt_2 rfl clv_X6_28 (by decide) ⟨Nat.zero_le _, Nat.zero_le _⟩ (by first | assumption | rfl) (by rfl) (Nat.le_of_ble_eq_true rfl) rfl ?_
  refine sC_faultAt hG' h (by omega) ?_
  rw [e]
  refine aw_if_ne (tgt := 17) dX6_valueAt_5 (by decide) rfl (by omega) (fun c5 => ?_) (fun c5 => ?_)
  · exfalso; omega
  · refine aw_aload_n dX6_valueAt_8 rfl rfl ?_
    refine aw_getR dX6_valueAt_9 rfl fl_X6_9 (by first | assumption | rfl) (by rfl) ?_
    refine aw_iload_n dX6_valueAt_12 rfl rfl ?_
    refine aw_iaload dX6_valueAt_13 rfl (by first | assumption | rfl) (by decide) (by omega) ?_
    refine aw_goto (tgt := 18) dX6_valueAt_14 (by decide) ?_
    refine aw_ireturn (ty := .int) dX6_valueAt_18 rfl rfl ?_
    rw [r.2 i (by omega) (by omega)]; exact k
theorem sC_renew {c : Nat} {l z : Int} (hG : ShG c) (k : Q none (mcell (mset (mset mem c 1 l) c 2 z) (c + 1) (fun i => if 0 ≤ i ∧ i < 40 then 0 else mem (c + 1) i))) : AMet Γ mX6_renew [vR c, vI l, vI z] zG mem Q := by
  obtain ⟨g0, g1⟩ := hG
  refine AMet.of' 0 (ls := [some (vR (c)), some (vI (l)), some (vI (z))]) (by decide) rfl (Nat.le_of_ble_eq_true rfl) ?_
  refine aw_aload_n dX6_renew_0 rfl rfl ?_
  refine aw_iload_n dX6_renew_1 rfl rfl ?_
  refine aw_putI (kI := 1) dX6_renew_2 rfl fp_X6_19 (by first | assumption | rfl) (by rfl) rfl ?_
  refine aw_aload_n dX6_renew_5 rfl rfl ?_
  refine aw_iload_n dX6_renew_6 rfl rfl ?_
  refine aw_putI (kI := 2) dX6_renew_7 rfl fp_X6_15 (by first | assumption | rfl) (by rfl) rfl ?_
  refine aw_aload_n dX6_renew_10 rfl rfl ?_
  refine aw_getR dX6_renew_11 rfl fl_X6_9 (by first | assumption | rfl) (by rfl) ?_
  refine aw_iconst dX6_renew_14 rfl ?_
  refine aw_callS [_, _] _ dX6_renew_15 rfl cls_X6_22 (by decide) ⟨Nat.zero_le _, Nat.zero_le _⟩ (Nat.le_of_ble_eq_true rfl) rfl ?_
  refine sC_fill (n := 40) (by assumption) (by decide) ?_
  refine aw_return dX6_renew_18 rfl ?_
  exact q_eq k rfl (by rw [mset_ne (show c + 1 ≠ c by omega), mset_ne (show c + 1 ≠ c by omega)]; rfl)
theorem sC_put {c : Nat} {lk sz i v : Int} {cl : Int → Int} (hG : ShG c) (h : Sh mem c lk sz cl) (hi : 0 ≤ i ∧ i < sz) (hl : ¬ lk = -4) (k : Q none (mset mem (c + 1) i (if lk = 0 then zi2b v else if lk = 1 then zi2s v else v))) : AMet Γ mX6_put [vR c, vI i, vI v] zG mem Q := by
  have hG' := hG
  obtain ⟨g0, g1⟩ := hG
  have r : (0 ≤ lk ∧ lk ≤ 2) ∧ mem c 1 = lk ∧ (0 ≤ sz ∧ sz ≤ 40) := by
    rcases h with h | h
    · exact absurd h.1 hl
    · exact ⟨h.1, h.2.1, h.2.2.2.1⟩
  have e : ftF lk sz i = 0 := by unfold ftF; rw [if_neg hl, if_pos hi]
  have r2 := r.2.1
  refine AMet.of' 0 (ls := [some (vR (c)), some (vI (i)), some (vI (v))]) (by decide) rfl (Nat.le_of_ble_eq_true rfl) ?_
  refine aw_aload_n dX6_put_0 rfl rfl ?_
  refine aw_iload_n dX6_put_1 rfl rfl ?_
  refine aw_callV [_] _ dX6_put_2 rfl clv_X6_28 (by decide) ⟨Nat.zero_le _, Nat.zero_le _⟩ (by first | assumption | rfl) (by rfl) (Nat.le_of_ble_eq_true rfl) rfl ?_
  refine sC_faultAt hG' h (by omega) ?_
  rw [e]
  refine aw_if_eq (tgt := 9) dX6_put_5 (by decide) rfl (by omega) (fun c5 => ?_) (fun c5 => ?_)
  · refine aw_aload_n dX6_put_9 rfl rfl ?_
    refine aw_getI (kI := 1) dX6_put_10 rfl fl_X6_19 (by first | assumption | rfl) (by rfl) rfl ?_
    refine aw_look2 (t1 := 40) (t2 := 51) (t3 := 62) dX6_put_13 (by omega) (by decide) (by decide) (by decide) (by decide) (fun c13 => ?_) (fun c13 => ?_) (fun c13 c13b => ?_)
    · rw [if_pos (by omega)] at k
      refine aw_aload_n dX6_put_40 rfl rfl ?_
      refine aw_getR dX6_put_41 rfl fl_X6_9 (by first | assumption | rfl) (by rfl) ?_
      refine aw_iload_n dX6_put_44 rfl rfl ?_
      refine aw_iload_n dX6_put_45 rfl rfl ?_
      refine aw_i2b dX6_put_46 rfl ?_
      refine aw_iastore dX6_put_47 rfl (by first | assumption | rfl) (by decide) (by omega) ?_
      refine aw_goto (tgt := 69) dX6_put_48 (by decide) ?_
      refine aw_return dX6_put_69 rfl ?_
      exact k
    · rw [if_neg (by omega), if_pos (by omega)] at k
      refine aw_aload_n dX6_put_51 rfl rfl ?_
      refine aw_getR dX6_put_52 rfl fl_X6_9 (by first | assumption | rfl) (by rfl) ?_
      refine aw_iload_n dX6_put_55 rfl rfl ?_
      refine aw_iload_n dX6_put_56 rfl rfl ?_
      refine aw_i2s dX6_put_57 rfl ?_
      refine aw_iastore dX6_put_58 rfl (by first | assumption | rfl) (by decide) (by omega) ?_
      refine aw_goto (tgt := 69) dX6_put_59 (by decide) ?_
      refine aw_return dX6_put_69 rfl ?_
      exact k
    · rw [if_neg (by omega), if_neg (by omega)] at k
      refine aw_aload_n dX6_put_62 rfl rfl ?_
      refine aw_getR dX6_put_63 rfl fl_X6_9 (by first | assumption | rfl) (by rfl) ?_
      refine aw_iload_n dX6_put_66 rfl rfl ?_
      refine aw_iload_n dX6_put_67 rfl rfl ?_
      refine aw_iastore dX6_put_68 rfl (by first | assumption | rfl) (by decide) (by omega) ?_
      refine aw_return dX6_put_69 rfl ?_
      exact k
  · exfalso; omega
theorem sC_isSheet {G : List GK} {j : Int} (hj : -2147483648 ≤ j ∧ j ≤ 2147483647) (k1 : 0 ≤ j ∧ j ≤ 3 → Q (some (vI 1)) mem) (k0 : ¬ (0 ≤ j ∧ j ≤ 3) → Q (some (vI 0)) mem) : AMet Γ mX10_isSheet [vI j] G mem Q := by
  refine AMet.of' 0 (ls := [some (vI (j))]) (by decide) rfl (Nat.le_of_ble_eq_true rfl) ?_
  refine aw_iload_n dX10_isSheet_0 rfl rfl ?_
  refine aw_if_lt (tgt := 13) dX10_isSheet_1 (by decide) rfl (by omega) (fun c1 => ?_) (fun c1 => ?_)
  · refine aw_iconst dX10_isSheet_13 rfl ?_
    refine aw_ireturn (ty := .boolean) dX10_isSheet_14 rfl (znarZ (by omega)).1 ?_
    first | exact k0 (by omega) | exact k1 (by omega)
  · refine aw_iload_n dX10_isSheet_4 rfl rfl ?_
    refine aw_iconst dX10_isSheet_5 rfl ?_
    refine aw_icmp_ge (tgt := 13) dX10_isSheet_6 (by decide) rfl (by omega) (by omega) (fun c6 => ?_) (fun c6 => ?_)
    · refine aw_iconst dX10_isSheet_13 rfl ?_
      refine aw_ireturn (ty := .boolean) dX10_isSheet_14 rfl (znarZ (by omega)).1 ?_
      first | exact k0 (by omega) | exact k1 (by omega)
    · refine aw_iconst dX10_isSheet_9 rfl ?_
      refine aw_goto (tgt := 14) dX10_isSheet_10 (by decide) ?_
      refine aw_ireturn (ty := .boolean) dX10_isSheet_14 rfl (znarZ (by omega)).1 ?_
      first | exact k0 (by omega) | exact k1 (by omega)
theorem sC_isLane {G : List GK} {j : Int} (hj : -2147483648 ≤ j ∧ j ≤ 2147483647) (k1 : 0 ≤ j ∧ j ≤ 2 → Q (some (vI 1)) mem) (k0 : ¬ (0 ≤ j ∧ j ≤ 2) → Q (some (vI 0)) mem) : AMet Γ mX10_isLane [vI j] G mem Q := by
  refine AMet.of' 0 (ls := [some (vI (j))]) (by decide) rfl (Nat.le_of_ble_eq_true rfl) ?_
  refine aw_iload_n dX10_isLane_0 rfl rfl ?_
  refine aw_if_lt (tgt := 13) dX10_isLane_1 (by decide) rfl (by omega) (fun c1 => ?_) (fun c1 => ?_)
  · refine aw_iconst dX10_isLane_13 rfl ?_
    refine aw_ireturn (ty := .boolean) dX10_isLane_14 rfl (znarZ (by omega)).1 ?_
    first | exact k0 (by omega) | exact k1 (by omega)
  · refine aw_iload_n dX10_isLane_4 rfl rfl ?_
    refine aw_iconst dX10_isLane_5 rfl ?_
    refine aw_icmp_gt (tgt := 13) dX10_isLane_6 (by decide) rfl (by omega) (by omega) (fun c6 => ?_) (fun c6 => ?_)
    · refine aw_iconst dX10_isLane_13 rfl ?_
      refine aw_ireturn (ty := .boolean) dX10_isLane_14 rfl (znarZ (by omega)).1 ?_
      first | exact k0 (by omega) | exact k1 (by omega)
    · refine aw_iconst dX10_isLane_9 rfl ?_
      refine aw_goto (tgt := 14) dX10_isLane_10 (by decide) ?_
      refine aw_ireturn (ty := .boolean) dX10_isLane_14 rfl (znarZ (by omega)).1 ?_
      first | exact k0 (by omega) | exact k1 (by omega)
theorem sC_sheet {j l z : Int} (hj : -2147483648 ≤ j ∧ j ≤ 2147483647) (hl : -2147483648 ≤ l ∧ l ≤ 2147483647) (hz : -2147483648 ≤ z ∧ z ≤ 2147483647) (kb : ¬ ((0 ≤ j ∧ j ≤ 3) ∧ (0 ≤ l ∧ l ≤ 2)) ∨ 40 < z → Q (some (vI (-1))) mem) (ks : (0 ≤ j ∧ j ≤ 3) ∧ (0 ≤ l ∧ l ≤ 2) → z < 0 → Q (some (vI (-14))) mem) (k : ∀ i : Nat, j = i → i < 4 → (0 ≤ l ∧ l ≤ 2) → 0 ≤ z ∧ z ≤ 40 → Q (some (vI 1)) (mcell (mset (mset mem (96 + 2 * i) 1 l) (96 + 2 * i) 2 z) (96 + 2 * i + 1) (fun y => if 0 ≤ y ∧ y < 40 then 0 else mem (96 + 2 * i + 1) y))) : AMet Γ mX10_sheet [vR 0, vI j, vI l, vI z] zG mem Q := by
  have s29 : (0 ≤ j ∧ j ≤ 3) → (0 ≤ l ∧ l ≤ 2) → 0 ≤ z ∧ z ≤ 40 → AW Γ mX10_sheet (zF Γ zG Q) zG 0 0 29 [some (vR 0), some (vI j), some (vI l), some (vI z)] [] mem := by
    intro hj2 hl2 hz2
    obtain ⟨i, rfl⟩ : ∃ i : Nat, j = i := ⟨j.toNat, by omega⟩
    have gs := ShG.of (j := i) (by omega)
    have gs0 := gs.1
    refine aw_aload_n dX10_sheet_29 rfl rfl ?_
    refine aw_getR dX10_sheet_30 rfl fl_X10_51 g0 (by rfl) ?_
    refine aw_iload_n dX10_sheet_33 rfl rfl ?_
    refine aw_aaload dX10_sheet_34 rfl g95 (by decide) (by omega) (four_get (by omega)) ?_
    refine aw_iload_n dX10_sheet_35 rfl rfl ?_
    refine aw_iload_n dX10_sheet_36 rfl rfl ?_
    refine aw_callV [_, _] _ dX10_sheet_37 rfl clv_X10_337 (by decide) ⟨Nat.zero_le _, Nat.zero_le _⟩ (by first | assumption | rfl) (by rfl) (Nat.le_of_ble_eq_true rfl) rfl ?_
    refine sC_renew gs ?_
    refine aw_iconst dX10_sheet_40 rfl ?_
    refine aw_ireturn (ty := .int) dX10_sheet_41 rfl rfl ?_
    exact k i rfl (by omega) hl2 hz2
  refine AMet.of' 0 (ls := [some (vR (0)), some (vI (j)), some (vI (l)), some (vI (z))]) (by decide) rfl (Nat.le_of_ble_eq_true rfl) ?_
  refine aw_iload_n dX10_sheet_0 rfl rfl ?_
  refine aw_callS [_] _ dX10_sheet_1 rfl cls_X10_331 (by decide) ⟨Nat.zero_le _, Nat.zero_le _⟩ (Nat.le_of_ble_eq_true rfl) rfl ?_
  refine sC_isSheet hj (fun c1 => ?_) (fun c1 => ?_)
  · refine aw_if_eq (tgt := 20) dX10_sheet_4 (by decide) rfl (by omega) (fun c => absurd c (by decide)) (fun _ => ?_)
    refine aw_iload_n dX10_sheet_7 rfl rfl ?_
    refine aw_callS [_] _ dX10_sheet_8 rfl cls_X10_334 (by decide) ⟨Nat.zero_le _, Nat.zero_le _⟩ (Nat.le_of_ble_eq_true rfl) rfl ?_
    refine sC_isLane hl (fun c8 => ?_) (fun c8 => ?_)
    · refine aw_if_eq (tgt := 20) dX10_sheet_11 (by decide) rfl (by omega) (fun c => absurd c (by decide)) (fun _ => ?_)
      refine aw_iload_n dX10_sheet_14 rfl rfl ?_
      refine aw_bipush dX10_sheet_15 rfl (by decide) ?_
      refine aw_icmp_le (tgt := 22) dX10_sheet_17 (by decide) rfl (by omega) (by omega) (fun c17 => ?_) (fun c17 => ?_)
      · refine aw_iload_n dX10_sheet_22 rfl rfl ?_
        refine aw_if_ge (tgt := 29) dX10_sheet_23 (by decide) rfl (by omega) (fun c23 => ?_) (fun c23 => ?_)
        · exact s29 c1 c8 (by omega)
        · refine aw_bipush dX10_sheet_26 rfl (by decide) ?_
          refine aw_ireturn (ty := .int) dX10_sheet_28 rfl rfl ?_
          exact ks ⟨c1, c8⟩ (by omega)
      · refine aw_iconst dX10_sheet_20 rfl ?_
        refine aw_ireturn (ty := .int) dX10_sheet_21 rfl rfl ?_
        exact kb (by omega)
    · refine aw_if_eq (tgt := 20) dX10_sheet_11 (by decide) rfl (by omega) (fun _ => ?_) (fun c => absurd c (by decide))
      refine aw_iconst dX10_sheet_20 rfl ?_
      refine aw_ireturn (ty := .int) dX10_sheet_21 rfl rfl ?_
      exact kb (by omega)
  · refine aw_if_eq (tgt := 20) dX10_sheet_4 (by decide) rfl (by omega) (fun _ => ?_) (fun c => absurd c (by decide))
    refine aw_iconst dX10_sheet_20 rfl ?_
    refine aw_ireturn (ty := .int) dX10_sheet_21 rfl rfl ?_
    exact kb (by omega)
theorem sC_lay {j i v : Int} {lk sz : Int → Int} {cl : Int → Int → Int} (hs : ∀ x : Nat, x < 4 → Sh mem (96 + 2 * x) (lk x) (sz x) (cl x)) (hj : -2147483648 ≤ j ∧ j ≤ 2147483647) (hi : -2147483648 ≤ i ∧ i ≤ 2147483647) (kb : ¬ (0 ≤ j ∧ j ≤ 3) → Q (some (vI (-1))) mem) (k1 : 0 ≤ j ∧ j ≤ 3 → lk j = -4 → Q (some (vI (-11))) mem) (k2 : 0 ≤ j ∧ j ≤ 3 → ¬ lk j = -4 → ¬ (0 ≤ i ∧ i < sz j) → Q (some (vI (-12))) mem) (k : ∀ x : Nat, j = x → x < 4 → ¬ lk j = -4 → (0 ≤ i ∧ i < sz j) → Q (some (vI 1)) (mset mem (96 + 2 * x + 1) i (if lk j = 0 then zi2b v else if lk j = 1 then zi2s v else v))) : AMet Γ mX10_lay [vR 0, vI j, vI i, vI v] zG mem Q := by
  have s9 : (0 ≤ j ∧ j ≤ 3) → AW Γ mX10_lay (zF Γ zG Q) zG 0 0 9 [some (vR 0), some (vI j), some (vI i), some (vI v), none] [] mem := by
    intro hj2
    obtain ⟨x, rfl⟩ : ∃ x : Nat, j = x := ⟨j.toNat, by omega⟩
    have gs := ShG.of (j := x) (by omega)
    have gs0 := gs.1
    have hsx := hs x (by omega)
    have fr : 0 ≤ ftF (lk x) (sz x) i ∧ ftF (lk x) (sz x) i ≤ 2 := by unfold ftF; ((repeat' split) <;> omega)
    have kr : ¬ ftF (lk x) (sz x) i = 0 → Q (some (vI (-10 - ftF (lk x) (sz x) i))) mem := by
      unfold ftF
      intro z
      split at z
      · next h4 => rw [if_pos h4]; exact k1 hj2 h4
      · next h4 =>
        rw [if_neg h4]
        split at z
        · exact absurd rfl z
        · next h5 => rw [if_neg h5]; exact k2 hj2 h4 h5
    have k0 : ftF (lk x) (sz x) i = 0 → ¬ lk x = -4 ∧ 0 ≤ i ∧ i < sz x := by
      unfold ftF
      intro z
      split at z
      · omega
      · next h4 =>
        split at z
        · next h5 => exact ⟨h4, h5⟩
        · omega
    refine aw_aload_n dX10_lay_9 rfl rfl ?_
    refine aw_getR dX10_lay_10 rfl fl_X10_51 g0 (by rfl) ?_
    refine aw_iload_n dX10_lay_13 rfl rfl ?_
    refine aw_aaload dX10_lay_14 rfl g95 (by decide) (by omega) (four_get (by omega)) ?_
    refine aw_iload_n dX10_lay_15 rfl rfl ?_
    refine aw_callV [_] _ dX10_lay_16 rfl clv_X10_340 (by decide) ⟨Nat.zero_le _, Nat.zero_le _⟩ (by first | assumption | rfl) (by rfl) (Nat.le_of_ble_eq_true rfl) rfl ?_
    refine sC_faultAt gs hsx hi ?_
    refine aw_istore4 rfl dX10_lay_19 rfl (by decide) ?_
    refine aw_iload dX10_lay_21 rfl rfl ?_
    refine aw_if_eq (tgt := 32) dX10_lay_23 (by decide) rfl (by omega) (fun c23 => ?_) (fun c23 => ?_)
    · obtain ⟨y1, y2⟩ := k0 (by omega)
      refine aw_aload_n dX10_lay_32 rfl rfl ?_
      refine aw_getR dX10_lay_33 rfl fl_X10_51 g0 (by rfl) ?_
      refine aw_iload_n dX10_lay_36 rfl rfl ?_
      refine aw_aaload dX10_lay_37 rfl g95 (by decide) (by omega) (four_get (by omega)) ?_
      refine aw_iload_n dX10_lay_38 rfl rfl ?_
      refine aw_iload_n dX10_lay_39 rfl rfl ?_
      refine aw_callV [_, _] _ dX10_lay_40 rfl clv_X10_343 (by decide) ⟨Nat.zero_le _, Nat.zero_le _⟩ (by first | assumption | rfl) (by rfl) (Nat.le_of_ble_eq_true rfl) rfl ?_
      refine sC_put gs hsx y2 y1 ?_
      refine aw_iconst dX10_lay_43 rfl ?_
      refine aw_ireturn (ty := .int) dX10_lay_44 rfl rfl ?_
      exact k x rfl (by omega) y1 y2
    · refine aw_bipush dX10_lay_26 rfl (by decide) ?_
      refine aw_iload dX10_lay_28 rfl rfl ?_
      refine aw_isub dX10_lay_30 rfl ?_
      refine aw_ireturn (ty := .int) dX10_lay_31 rfl rfl ?_
      exact kr (by omega)
  refine AMet.of' 1 (ls := [some (vR (0)), some (vI (j)), some (vI (i)), some (vI (v)), none]) (by decide) rfl (Nat.le_of_ble_eq_true rfl) ?_
  refine aw_iload_n dX10_lay_0 rfl rfl ?_
  refine aw_callS [_] _ dX10_lay_1 rfl cls_X10_331 (by decide) ⟨Nat.zero_le _, Nat.zero_le _⟩ (Nat.le_of_ble_eq_true rfl) rfl ?_
  refine sC_isSheet hj (fun c1 => ?_) (fun c1 => ?_)
  · refine aw_if_ne (tgt := 9) dX10_lay_4 (by decide) rfl (by omega) (fun _ => ?_) (fun c => absurd c (by decide))
    exact s9 c1
  · refine aw_if_ne (tgt := 9) dX10_lay_4 (by decide) rfl (by omega) (fun c => absurd c (by decide)) (fun _ => ?_)
    refine aw_iconst dX10_lay_7 rfl ?_
    refine aw_ireturn (ty := .int) dX10_lay_8 rfl rfl ?_
    exact kb c1
theorem sC_bringSort {s w : Int} (wf : Wf n f) (h : Ev mem 1 n f) (hs : -2147483648 ≤ s ∧ s ≤ 2147483647) (hw : -2147483648 ≤ w ∧ w ≤ 2147483647) (k0 : (addM f s w).1 < 0 → Q (some (vI 0)) mem) (k1 : ∀ m' : Mem, ¬ (addM f s w).1 < 0 → FrI m' mem 1 17 → Ev m' 1 n (addM f s w).2 → Q (some (vI 1)) m') : AMet Γ mX10_bringSort [vR 0, vI s, vI w] zG mem Q := by
  have w46 := wf.n46
  unfold addM at k0 k1
  refine AMet.of' 0 (ls := [some (vR (0)), some (vI (s)), some (vI (w))]) (by decide) rfl (Nat.le_of_ble_eq_true rfl) ?_
  refine aw_iload_n dX10_bringSort_0 rfl rfl ?_
  refine aw_iload_n dX10_bringSort_1 rfl rfl ?_
  refine aw_callS [_, _] _ dX10_bringSort_2 rfl cls_X10_171 (by decide) ⟨Nat.zero_le _, Nat.zero_le _⟩ (Nat.le_of_ble_eq_true rfl) rfl ?_
  refine sC_isSort hs hw (fun c2 => ?_) (fun c2 => ?_)
  · refine aw_if_eq (tgt := 24) dX10_bringSort_5 (by decide) rfl (by omega) (fun c => absurd c (by decide)) (fun _ => ?_)
    rw [if_pos c2] at k0 k1
    refine aw_aload_n dX10_bringSort_8 rfl rfl ?_
    refine aw_getR dX10_bringSort_9 rfl fl_X10_12 g0 (by rfl) ?_
    refine aw_iload_n dX10_bringSort_12 rfl rfl ?_
    refine aw_iload_n dX10_bringSort_13 rfl rfl ?_
    refine aw_callV [_, _] _ dX10_bringSort_14 rfl clv_X10_175 (by decide) ⟨Nat.zero_le _, Nat.zero_le _⟩ g1 (by rfl) (Nat.le_of_ble_eq_true rfl) rfl ?_
    refine sC_bring E1 wf h (fun h6 => ?_) (fun m1 h6 f1 v1 => ?_)
    · refine aw_if_eq (tgt := 24) dX10_bringSort_17 (by decide) rfl (by omega) (fun _ => ?_) (fun c => absurd c (by decide))
      refine aw_iconst dX10_bringSort_24 rfl ?_
      refine aw_ireturn (ty := .boolean) dX10_bringSort_25 rfl (znarZ (by omega)).1 ?_
      first | (rw [if_neg c2] at k0; exact k0 (show (-1 : Int) < 0 by decide)) | (rw [if_pos h6] at k0; exact k0 (show (-3 : Int) < 0 by decide)) | (rw [if_neg h6] at k1; exact k1 m1 (by show ¬ f 46 + 1 < 0; omega) f1 v1)
    · refine aw_if_eq (tgt := 24) dX10_bringSort_17 (by decide) rfl (by omega) (fun c => absurd c (by decide)) (fun _ => ?_)
      refine aw_iconst dX10_bringSort_20 rfl ?_
      refine aw_goto (tgt := 25) dX10_bringSort_21 (by decide) ?_
      refine aw_ireturn (ty := .boolean) dX10_bringSort_25 rfl (znarZ (by omega)).1 ?_
      first | (rw [if_neg c2] at k0; exact k0 (show (-1 : Int) < 0 by decide)) | (rw [if_pos h6] at k0; exact k0 (show (-3 : Int) < 0 by decide)) | (rw [if_neg h6] at k1; exact k1 m1 (by show ¬ f 46 + 1 < 0; omega) f1 v1)
  · refine aw_if_eq (tgt := 24) dX10_bringSort_5 (by decide) rfl (by omega) (fun _ => ?_) (fun c => absurd c (by decide))
    refine aw_iconst dX10_bringSort_24 rfl ?_
    refine aw_ireturn (ty := .boolean) dX10_bringSort_25 rfl (znarZ (by omega)).1 ?_
    first | (rw [if_neg c2] at k0; exact k0 (show (-1 : Int) < 0 by decide)) | (rw [if_pos h6] at k0; exact k0 (show (-3 : Int) < 0 by decide)) | (rw [if_neg h6] at k1; exact k1 m1 (by show ¬ f 46 + 1 < 0; omega) f1 v1)
end ZCmp10
