def TextC (mem : Mem) (r : Except Int (Int × PSt)) (m' : Mem) : Prop := (∀ d : Nat, 87 ≤ d ∨ (17 ≤ d ∧ d < 66) → m' d = mem d) ∧ m' 68 1 = 0 ∧ m' 69 = mem 69 ∧ (∀ p : Nat, p < 6 → -4 ≤ m' (80 + p) 2 ∧ m' (80 + p) 2 ≤ 23) ∧ (∀ j : Int, ¬ j = 10 → m' 0 j = mem 0 j) ∧ match r with
  | .error a => m' 0 10 = a % 8 ∧ (∀ d : Nat, 1 ≤ d → d < 17 → m' d = mem d) ∧ m' 66 = mem 66
  | .ok q => m' 0 10 = 0 ∧ Ev m' 1 (q.2.1 5) q.2.2 ∧ Dis q.2.2 ∧ (m' 66 0 = 0 ∧ m' 66 1 = 0)
section ZCmp32
variable {Γ : ZG} {mem m : Mem} {Q : Option AV → Mem → Prop}
theorem sC_text (hT : TpC mem) (hP : ∀ p : Nat, p < 6 → -4 ≤ mem (80 + p) 2 ∧ mem (80 + p) 2 ≤ 23) (k : ∀ m' : Mem, TextC mem (textP (mem 69) (mem 68 1)) m' → Q (some (vI (textA (textP (mem 69) (mem 68 1))))) m') : AMet Γ mX10_text [vR 0] zG mem Q := by
  have s15 : ∀ m1 : Mem, RdJ mem m1 → TextR (textP (mem 69) (mem 68 1)) m1 → AW Γ mX10_text (zF Γ zG Q) zG 0 0 15 [some (vR 0), some (vR 68)] [] m1 := by
    intro m1 j1 t1
    obtain ⟨f1, l1, e69, tc, tn, rn⟩ := j1
    have n5 := tn.2.2.2
    have nP := rn.2.2.2.1
    cases hr : textP (mem 69) (mem 68 1) with
    | error a =>
      rw [hr] at t1 k
      have b1 := t1.1
      have b2 := t1.2
      have m68 : mset (mset m1 68 1 0) 0 10 (m1 68 5) 0 10 = m1 68 5 := by rw [mset_same, fset_same]
      have k' : ∀ v : Int, v = -10 - a / 8 → Q (some (vI v)) (mset (mset m1 68 1 0) 0 10 (m1 68 5)) := by
        intro v hv
        rw [hv]
        refine k _ ⟨fun d hd => ?_, ?_, ?_, fun p hp => ?_, fun j hj => ?_, ?_, fun d d1 d2 => ?_, ?_⟩
        · rw [mset_ne (by omega), mset_ne (by omega)]; exact f1 d (by omega)
        · rw [mset_ne (by omega), mset_same, fset_same]
        · rw [mset_ne (by omega), mset_ne (by omega)]; exact e69
        · rw [mset_ne (by omega), mset_ne (by omega)]; exact nP p hp
        · rw [mset_same, fset_ne hj, mset_ne (by omega), f1 0 (by omega)]
        · rw [mset_same, fset_same]; omega
        · rw [mset_ne (by omega), mset_ne (by omega)]; exact f1 d (by omega)
        · rw [mset_ne (by omega), mset_ne (by omega)]; exact f1 66 (by omega)
      refine aw_aload_n dX10_text_15 rfl rfl ?_
      refine aw_iconst dX10_text_16 rfl ?_
      refine aw_putI (kI := 1) dX10_text_17 rfl fp_X10_79 g68 (by rfl) rfl ?_
      refine aw_aload_n dX10_text_20 rfl rfl ?_
      refine aw_aload_n dX10_text_21 rfl rfl ?_
      refine aw_getI (kI := 5) dX10_text_22 rfl fl_X10_86 g68 (by rfl) rfl ?_
      rw [mset_same, fset_ne (by decide)]
      refine aw_putI (kI := 10) dX10_text_25 rfl fp_X10_89 g0 (by rfl) rfl ?_
      refine aw_aload_n dX10_text_28 rfl rfl ?_
      refine aw_getI (kI := 10) dX10_text_29 rfl fl_X10_89 g0 (by rfl) rfl ?_
      rw [m68]
      refine aw_if_eq (tgt := 43) dX10_text_32 (by decide) rfl (by omega) (fun c32 => ?_) (fun c32 => ?_)
      · exfalso; omega
      · refine aw_bipush dX10_text_35 rfl (by decide) ?_
        refine aw_aload_n dX10_text_37 rfl rfl ?_
        refine aw_getI (kI := 6) dX10_text_38 rfl fl_X10_92 g68 (by rfl) rfl ?_
        rw [mset_ne (by decide), mset_same, fset_ne (by decide)]
        refine aw_isub dX10_text_41 rfl ?_
        refine aw_ireturn (ty := .int) dX10_text_42 rfl rfl ?_
        exact k' _ (by omega)
    | ok q =>
      rw [hr] at t1 k
      obtain ⟨t5, t3, tE, tD⟩ := t1
      have wf := (textP_wf hr).1
      have m68 : mset (mset m1 68 1 0) 0 10 (m1 68 5) 0 10 = m1 68 5 := by rw [mset_same, fset_same]
      have ev : Ev (mset (mset m1 68 1 0) 0 10 (m1 68 5)) 70 (q.2.1 5) q.2.2 := by
        refine tE.keep wf.n46.2 (fun d d1 d2 => ?_)
        rw [mset_ne (by omega), mset_ne (by omega)]
      have fin : ∀ m2 : Mem, FrI m2 (mset (mset m1 68 1 0) 0 10 (m1 68 5)) 1 17 → Ev m2 1 (q.2.1 5) q.2.2 → Q (some (vI q.1)) (mset (mset m2 66 0 0) 66 1 0) := by
        intro m2 f2 e2
        have o : ∀ d : Nat, ¬ d = 66 → mset (mset m2 66 0 0) 66 1 0 d = m2 d := fun d hd => by rw [mset_ne hd, mset_ne hd]
        refine k _ ⟨fun d hd => ?_, ?_, ?_, fun p hp => ?_, fun j hj => ?_, ?_, ?_, tD, ?_, ?_⟩
        · rw [o d (by omega), f2 d (by omega), mset_ne (by omega), mset_ne (by omega)]; exact f1 d (by omega)
        · rw [o 68 (by omega), f2 68 (by omega), mset_ne (by omega), mset_same, fset_same]
        · rw [o 69 (by omega), f2 69 (by omega), mset_ne (by omega), mset_ne (by omega)]; exact e69
        · rw [o (80 + p) (by omega), f2 (80 + p) (by omega), mset_ne (by omega), mset_ne (by omega)]; exact nP p hp
        · rw [o 0 (by omega), f2 0 (by omega), mset_same, fset_ne hj, mset_ne (by omega), f1 0 (by omega)]
        · rw [o 0 (by omega), f2 0 (by omega), mset_same, fset_same]; exact t5
        · exact e2.keep wf.n46.2 (fun d d1 d2 => o d (by omega))
        · rw [mset_same, fset_ne (by decide), mset_same, fset_same]
        · rw [mset_same, fset_same]
      refine aw_aload_n dX10_text_15 rfl rfl ?_
      refine aw_iconst dX10_text_16 rfl ?_
      refine aw_putI (kI := 1) dX10_text_17 rfl fp_X10_79 g68 (by rfl) rfl ?_
      refine aw_aload_n dX10_text_20 rfl rfl ?_
      refine aw_aload_n dX10_text_21 rfl rfl ?_
      refine aw_getI (kI := 5) dX10_text_22 rfl fl_X10_86 g68 (by rfl) rfl ?_
      rw [mset_same, fset_ne (by decide)]
      refine aw_putI (kI := 10) dX10_text_25 rfl fp_X10_89 g0 (by rfl) rfl ?_
      refine aw_aload_n dX10_text_28 rfl rfl ?_
      refine aw_getI (kI := 10) dX10_text_29 rfl fl_X10_89 g0 (by rfl) rfl ?_
      rw [m68]
      refine aw_if_eq (tgt := 43) dX10_text_32 (by decide) rfl (by omega) (fun c32 => ?_) (fun c32 => ?_)
      · refine aw_aload_n dX10_text_43 rfl rfl ?_
        refine aw_getR dX10_text_44 rfl fl_X10_12 g0 (by rfl) ?_
        refine aw_aload_n dX10_text_47 rfl rfl ?_
        refine aw_getR dX10_text_48 rfl fl_X10_30 g0 (by rfl) ?_
        refine aw_getR dX10_text_51 rfl fl_X10_95 g67 (by rfl) ?_
        refine aw_callV [_] _ dX10_text_54 rfl clv_X10_98 (by decide) ⟨Nat.zero_le _, Nat.zero_le _⟩ g1 (by rfl) (Nat.le_of_ble_eq_true rfl) rfl ?_
        refine sC_copyEv E1 E70 (by omega) wf ev (fun m2 f2 e2 => ?_)
        refine aw_aload_n dX10_text_57 rfl rfl ?_
        refine aw_getR dX10_text_58 rfl fl_X10_23 g0 (by rfl) ?_
        refine aw_iconst dX10_text_61 rfl ?_
        refine aw_iconst dX10_text_62 rfl ?_
        refine aw_zastore dX10_text_63 rfl g66 (by decide) (by omega) (by omega) ?_
        refine aw_aload_n dX10_text_64 rfl rfl ?_
        refine aw_getR dX10_text_65 rfl fl_X10_23 g0 (by rfl) ?_
        refine aw_iconst dX10_text_68 rfl ?_
        refine aw_iconst dX10_text_69 rfl ?_
        refine aw_zastore dX10_text_70 rfl g66 (by decide) (by omega) (by omega) ?_
        refine aw_aload_n dX10_text_71 rfl rfl ?_
        refine aw_getR dX10_text_72 rfl fl_X10_30 g0 (by rfl) ?_
        refine aw_getI (kI := 3) dX10_text_75 rfl fl_X10_102 g67 (by rfl) rfl ?_
        rw [mset_ne (by decide), mset_ne (by decide), f2 67 (by omega), mset_ne (by decide), mset_ne (by decide), t3]
        refine aw_ireturn (ty := .int) dX10_text_78 rfl rfl ?_
        exact fin m2 f2 e2
      · exfalso; omega
  refine AMet.of' 1 (ls := [some (vR (0)), none]) (by decide) rfl (Nat.le_of_ble_eq_true rfl) ?_
  refine aw_aload_n dX10_text_0 rfl rfl ?_
  refine aw_getR dX10_text_1 rfl fl_X10_30 g0 (by rfl) ?_
  refine aw_getR dX10_text_4 rfl fl_X10_69 g67 (by rfl) ?_
  refine aw_astore1 rfl dX10_text_7 rfl (by decide) ?_
  refine aw_aload_n dX10_text_8 rfl rfl ?_
  refine aw_getR dX10_text_9 rfl fl_X10_30 g0 (by rfl) ?_
  refine aw_callV [] _ dX10_text_12 rfl clv_X10_83 (by decide) ⟨Nat.zero_le _, Nat.zero_le _⟩ g67 (by rfl) (Nat.le_of_ble_eq_true rfl) rfl ?_
  refine sC_readAll hT hP (fun m1 j1 t1 => ?_)
  exact s15 m1 j1 t1
end ZCmp32
