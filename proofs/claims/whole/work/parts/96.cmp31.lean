/-! the whole text, read by the component -/
abbrev RdJ (mem m' : Mem) : Prop := FrI m' mem 67 87 ∧ m' 68 1 = mem 68 1 ∧ m' 69 = mem 69 ∧ RdS m'
theorem RdK.j {mem m m' : Mem} (h : RdJ mem m) (h' : RdK m m') : RdJ mem m' := ⟨h'.1.tr h.1, h'.2.2.1.trans h.2.1, h'.2.2.2.1.trans h.2.2.1, h'.2.2.2.2⟩
theorem RdF.ln {s : PSt} {m : Mem} {v : Int} (h : RdF s m) : RdF s (mset m 67 3 v) := by
  rw [mset_eq]
  obtain ⟨y4, y8, y5, y6, y7⟩ := h.1
  exact h.own ⟨by rw [fset_ne (by decide)]; exact y4, by rw [fset_ne (by decide)]; exact y8, by rw [fset_ne (by decide)]; exact y5, by rw [fset_ne (by decide)]; exact y6, by rw [fset_ne (by decide)]; exact y7⟩ rfl rfl
theorem CmpR.ln {r : Except Int PSt} {m : Mem} {v : Int} (h : CmpR r m) : CmpR r (mset m 67 3 v) := by
  cases r with
  | error a => exact TBad.fr h (mset_ne (by decide))
  | ok s =>
    obtain ⟨h1, h2, h3⟩ := h
    exact ⟨by rw [mset_ne (by decide)]; exact h1, by rw [mset_ne (by decide)]; exact h2, h3.ln⟩
theorem RdJ.ln {mem m : Mem} {v : Int} (h : RdJ mem m) : RdJ mem (mset m 67 3 v) := by
  obtain ⟨h1, h2, h3, h4⟩ := h
  have tp := TpS.set (c := 67) (k := 3) (v := v) ⟨h4.1, h4.2.1⟩ (by omega) (by omega)
  exact ⟨h1.set (by omega), by rw [mset_ne (by omega)]; exact h2, by rw [mset_ne (by omega)]; exact h3, tp.1, tp.2, h4.2.2.s67 (by omega)⟩
theorem P0_MI : MI P0 := by
  intro p hp
  have e : P0.2 (47 + 8 * (p : Int) + 7) = -4 := by
    show D0 _ = -4
    unfold D0
    rw [if_neg (by omega), if_pos (by omega)]
  rw [e]
  show zbt 0 p = true ↔ _
  rw [zbt_0]
  simp
theorem P0_Dis : Dis P0.2 := by
  intro p q _ hq
  have : P0.2 46 = 0 := rfl
  omega
/-- what a text read whole leaves -/
def TextR (r : Except Int (Int × PSt)) (m : Mem) : Prop := match r with
  | .error a => TBad a m
  | .ok q => m 68 5 = 0 ∧ m 67 3 = q.1 ∧ Ev m 70 (q.2.1 5) q.2.2 ∧ Dis q.2.2
section ZCmp31
variable {Γ : ZG} {mem m : Mem} {Q : Option AV → Mem → Prop}
theorem sC_rewind (k : Q none (mset (mset (mset (mset (mset mem 68 2 0) 68 3 0) 68 4 0) 68 5 0) 68 6 0)) : AMet Γ mX8_rewind [vR 68] zG mem Q := by
  refine AMet.of' 0 (ls := [some (vR (68))]) (by decide) rfl (Nat.le_of_ble_eq_true rfl) ?_
  refine aw_aload_n dX8_rewind_0 rfl rfl ?_
  refine aw_iconst dX8_rewind_1 rfl ?_
  refine aw_putI (kI := 2) dX8_rewind_2 rfl fp_X8_17 (by first | assumption | rfl) (by rfl) rfl ?_
  refine aw_aload_n dX8_rewind_5 rfl rfl ?_
  refine aw_iconst dX8_rewind_6 rfl ?_
  refine aw_putI (kI := 3) dX8_rewind_7 rfl fp_X8_20 (by first | assumption | rfl) (by rfl) rfl ?_
  refine aw_aload_n dX8_rewind_10 rfl rfl ?_
  refine aw_iconst dX8_rewind_11 rfl ?_
  refine aw_putI (kI := 4) dX8_rewind_12 rfl fp_X8_23 (by first | assumption | rfl) (by rfl) rfl ?_
  refine aw_aload_n dX8_rewind_15 rfl rfl ?_
  refine aw_iconst dX8_rewind_16 rfl ?_
  refine aw_putI (kI := 5) dX8_rewind_17 rfl fp_X8_26 (by first | assumption | rfl) (by rfl) rfl ?_
  refine aw_aload_n dX8_rewind_20 rfl rfl ?_
  refine aw_iconst dX8_rewind_21 rfl ?_
  refine aw_putI (kI := 6) dX8_rewind_22 rfl fp_X8_29 (by first | assumption | rfl) (by rfl) rfl ?_
  refine aw_return dX8_rewind_25 rfl ?_
  exact k
theorem sC_startRead (hT : TpC mem) (hP : ∀ p : Nat, p < 6 → -4 ≤ mem (80 + p) 2 ∧ mem (80 + p) 2 ≤ 23) (k : ∀ m' : Mem, RdJ mem m' → CmpR (.ok P0) m' → m' 67 3 = 0 → Q none m') : AMet Γ mX5_startAnew [vR 67] zG mem Q := by
  have fin : ∀ m1 m2 : Mem, FrI m1 mem 68 69 → m1 68 1 = mem 68 1 → (m1 68 2 = 0 ∧ m1 68 3 = 0 ∧ m1 68 4 = 0 ∧ m1 68 5 = 0) → FrI m2 m1 70 86 → (∀ d : Nat, 76 ≤ d → m2 d = m1 d) → Ev m2 70 3 D0 → Q none (mset (mset (mset (mset (mset (mset (mcell m2 86 (fun i => if 0 ≤ i ∧ i < (6 : Nat) then -4 else m2 86 i)) 67 3 0) 67 4 0) 67 5 0) 67 6 0) 67 7 (-4)) 67 8 0) := by
    intro m1 m2 f1 l1 z1 f2 u2 ev
    obtain ⟨m3, em⟩ : ∃ x : Mem, mset (mset (mset (mset (mset (mset (mcell m2 86 (fun i => if 0 ≤ i ∧ i < (6 : Nat) then -4 else m2 86 i)) 67 3 0) 67 4 0) 67 5 0) 67 6 0) 67 7 (-4)) 67 8 0 = x := ⟨_, rfl⟩
    rw [em]
    have o : ∀ d : Nat, ¬ d = 67 → ¬ d = 86 → m3 d = m2 d := fun d d1 d2 => by rw [← em, mset_ne d1, mset_ne d1, mset_ne d1, mset_ne d1, mset_ne d1, mset_ne d1, mcell_ne d2]
    have m86 : ∀ i : Int, 0 ≤ i → i < 6 → m3 86 i = -4 := fun i i0 i1 => by rw [← em, mset_ne (by decide), mset_ne (by decide), mset_ne (by decide), mset_ne (by decide), mset_ne (by decide), mset_ne (by decide), mcell_same]; exact if_pos ⟨i0, by omega⟩
    have m67 : m3 67 3 = 0 ∧ m3 67 4 = 0 ∧ m3 67 5 = 0 ∧ m3 67 6 = 0 ∧ m3 67 7 = -4 ∧ m3 67 8 = 0 := by
      rw [← em]
      simp only [mset_eq, mcell_same]
      exact ⟨rfl, rfl, rfl, rfl, rfl, rfl⟩
    have e68 : m3 68 = m1 68 := by rw [o 68 (by omega) (by omega)]; exact f2 68 (by omega)
    have e69 : m3 69 = mem 69 := by rw [o 69 (by omega) (by omega), f2 69 (by omega)]; exact f1 69 (by omega)
    obtain ⟨⟨a0, a1, a2, a3, ah, aw⟩, ⟨b2, b3, b4, b5⟩, -, -⟩ := ev
    obtain ⟨c3, c4, c5, c6, c7, c8⟩ := m67
    have x70 : m3 70 = m2 70 := o 70 (by omega) (by omega)
    have x71 : m3 71 = m2 71 := o 71 (by omega) (by omega)
    have d26 : D0 26 = 0 := rfl
    have d46 : D0 46 = 0 := rfl
    refine k m3 ⟨?_, by rw [e68]; exact l1, e69, ⟨?_, ?_, ?_⟩⟩ ⟨by rw [e68]; exact z1.2.2.2, by rw [e68]; exact z1.2.2.1, ?_⟩ c3
    · intro d hd
      rw [o d (by omega) (by omega), f2 d (by omega), f1 d (by omega)]
    · unfold TpC
      rw [e68, e69, l1]
      exact hT
    · unfold TpN
      rw [e68, z1.1, z1.2.1, z1.2.2.1, z1.2.2.2, l1]
      have := hT.1
      omega
    · refine ⟨?_, ?_, ?_, fun p hp => ?_, fun i i0 i1 => ?_, ?_, ?_, ?_, ?_⟩
      · rw [x71]; have h0 : m2 71 0 = 3 := a0; omega
      · rw [x71]; have h0 : m2 71 3 = D0 26 := a3; omega
      · rw [x70, b2]; omega
      · rw [o (80 + p) (by omega) (by omega), u2 (80 + p) (by omega), f1 (80 + p) (by omega)]; exact hP p hp
      · rw [m86 i i0 i1]; omega
      · omega
      · omega
      · omega
      · omega
    · refine ⟨⟨by rw [c4]; rfl, by rw [c8]; rfl, by rw [c5]; rfl, by rw [c6]; rfl, by rw [c7]; rfl⟩, ?_, ?_, fun p hp => ?_, fun p hp => ?_⟩
      · unfold FiR
        rw [x71, o (71 + 1) (by omega) (by omega), o (71 + 2) (by omega) (by omega), o (71 + 3) (by omega) (by omega), o (71 + 4) (by omega) (by omega)]
        exact ⟨a0, a1, a2, a3, ah, aw⟩
      · rw [x70]
        exact ⟨b2, b3, b4, b5⟩
      · have : P0.2 46 = 0 := rfl
        omega
      · rw [m86 p (by omega) (by omega)]
        show -4 = D0 _
        unfold D0
        rw [if_neg (by omega), if_pos (by omega)]
  refine AMet.of' 0 (ls := [some (vR (67))]) (by decide) rfl (Nat.le_of_ble_eq_true rfl) ?_
  refine aw_aload_n dX5_startAnew_0 rfl rfl ?_
  refine aw_getR dX5_startAnew_1 rfl fl_X5_12 g67 (by rfl) ?_
  refine aw_callV [] _ dX5_startAnew_4 rfl clv_X5_62 (by decide) ⟨Nat.zero_le _, Nat.zero_le _⟩ g68 (by rfl) (Nat.le_of_ble_eq_true rfl) rfl ?_
  refine sC_rewind ?_
  refine aw_aload_n dX5_startAnew_7 rfl rfl ?_
  refine aw_getR dX5_startAnew_8 rfl fl_X5_21 g67 (by rfl) ?_
  refine aw_callV [] _ dX5_startAnew_11 rfl clv_X5_65 (by decide) ⟨Nat.zero_le _, Nat.zero_le _⟩ (by first | assumption | rfl) (by rfl) (Nat.le_of_ble_eq_true rfl) rfl ?_
  refine sC_startAnew E70 (fun m2 f2 u2 ev => ?_)
  refine aw_aload_n dX5_startAnew_14 rfl rfl ?_
  refine aw_getR dX5_startAnew_15 rfl fl_X5_25 g67 (by rfl) ?_
  refine aw_bipush dX5_startAnew_18 rfl (by decide) ?_
  refine aw_callS [_, _] _ dX5_startAnew_20 rfl cls_X5_66 (by decide) ⟨Nat.zero_le _, Nat.zero_le _⟩ (Nat.le_of_ble_eq_true rfl) rfl ?_
  refine sC_fill g86 (by decide) ?_
  refine aw_aload_n dX5_startAnew_23 rfl rfl ?_
  refine aw_iconst dX5_startAnew_24 rfl ?_
  refine aw_putI (kI := 3) dX5_startAnew_25 rfl fp_X5_46 g67 (by rfl) rfl ?_
  refine aw_aload_n dX5_startAnew_28 rfl rfl ?_
  refine aw_iconst dX5_startAnew_29 rfl ?_
  refine aw_putI (kI := 4) dX5_startAnew_30 rfl fp_X5_72 g67 (by rfl) rfl ?_
  refine aw_aload_n dX5_startAnew_33 rfl rfl ?_
  refine aw_iconst dX5_startAnew_34 rfl ?_
  refine aw_putI (kI := 5) dX5_startAnew_35 rfl fp_X5_75 g67 (by rfl) rfl ?_
  refine aw_aload_n dX5_startAnew_38 rfl rfl ?_
  refine aw_iconst dX5_startAnew_39 rfl ?_
  refine aw_putI (kI := 6) dX5_startAnew_40 rfl fp_X5_78 g67 (by rfl) rfl ?_
  refine aw_aload_n dX5_startAnew_43 rfl rfl ?_
  refine aw_bipush dX5_startAnew_44 rfl (by decide) ?_
  refine aw_putI (kI := 7) dX5_startAnew_46 rfl fp_X5_81 g67 (by rfl) rfl ?_
  refine aw_aload_n dX5_startAnew_49 rfl rfl ?_
  refine aw_iconst dX5_startAnew_50 rfl ?_
  refine aw_putZ (kI := 8) dX5_startAnew_51 rfl fp_X5_84 (by omega) g67 (by rfl) rfl ?_
  refine aw_return dX5_startAnew_54 rfl ?_
  refine fin _ m2 (((((FrI.rf.set (by omega)).set (by omega)).set (by omega)).set (by omega)).set (by omega)) rfl ⟨rfl, rfl, rfl, rfl⟩ f2 u2 (ev D0 rfl rfl rfl rfl rfl rfl rfl (fun x x0 x1 => ?_))
  unfold D0
  rw [if_neg (by omega), if_neg (by omega)]
theorem sC_allIsThere {a b c n q : Int} (h5 : m 67 5 = a) (h6 : m 67 6 = b) (h7 : m 67 7 = c) (h0 : m 71 0 = n) (h2 : m 70 2 = q) (hn : 3 ≤ n ∧ n ≤ 8) (ha : 0 ≤ a ∧ a ≤ 99) (hb : 0 ≤ b ∧ b ≤ 99) (hc : -4 ≤ c ∧ c ≤ 99) (hq : 0 ≤ q ∧ q ≤ 6) (k1 : a < n ∧ b < 3 * n ∧ c < q → Q (some (vI 1)) m) (k0 : ¬ (a < n ∧ b < 3 * n ∧ c < q) → Q (some (vI 0)) m) : AMet Γ mX5_allIsThere [vR 67] zG m Q := by
  refine AMet.of' 0 (ls := [some (vR (67))]) (by decide) rfl (Nat.le_of_ble_eq_true rfl) ?_
  refine aw_aload_n dX5_allIsThere_0 rfl rfl ?_
  refine aw_getR dX5_allIsThere_1 rfl fl_X5_21 g67 (by rfl) ?_
  refine aw_getR dX5_allIsThere_4 rfl fl_X5_88 g70 (by rfl) ?_
  refine aw_aload_n dX5_allIsThere_7 rfl rfl ?_
  refine aw_getI (kI := 5) dX5_allIsThere_8 rfl fl_X5_75 g67 (by rfl) rfl ?_
  refine aw_callV [_] _ dX5_allIsThere_11 rfl clv_X5_92 (by decide) ⟨Nat.zero_le _, Nat.zero_le _⟩ (by first | assumption | rfl) (by rfl) (Nat.le_of_ble_eq_true rfl) rfl ?_
  refine sC_hasCell E70.2.1 (by omega) (by omega) (fun c11 => ?_) (fun c11 => ?_)
  · refine aw_if_eq (tgt := 52) dX5_allIsThere_14 (by decide) rfl (by omega) (fun c => absurd c (by decide)) (fun _ => ?_)
    refine aw_aload_n dX5_allIsThere_17 rfl rfl ?_
    refine aw_getR dX5_allIsThere_18 rfl fl_X5_21 g67 (by rfl) ?_
    refine aw_getR dX5_allIsThere_21 rfl fl_X5_88 g70 (by rfl) ?_
    refine aw_aload_n dX5_allIsThere_24 rfl rfl ?_
    refine aw_getI (kI := 6) dX5_allIsThere_25 rfl fl_X5_78 g67 (by rfl) rfl ?_
    refine aw_callV [_] _ dX5_allIsThere_28 rfl clv_X5_98 (by decide) ⟨Nat.zero_le _, Nat.zero_le _⟩ (by first | assumption | rfl) (by rfl) (Nat.le_of_ble_eq_true rfl) rfl ?_
    refine sC_hasPlace E70.2.1 (by omega) (by omega) (fun c28 => ?_) (fun c28 => ?_)
    · refine aw_if_eq (tgt := 52) dX5_allIsThere_31 (by decide) rfl (by omega) (fun c => absurd c (by decide)) (fun _ => ?_)
      refine aw_aload_n dX5_allIsThere_34 rfl rfl ?_
      refine aw_getI (kI := 7) dX5_allIsThere_35 rfl fl_X5_81 g67 (by rfl) rfl ?_
      refine aw_aload_n dX5_allIsThere_38 rfl rfl ?_
      refine aw_getR dX5_allIsThere_39 rfl fl_X5_21 g67 (by rfl) ?_
      refine aw_getI (kI := 2) dX5_allIsThere_42 rfl fl_X5_101 g70 (by rfl) rfl ?_
      refine aw_icmp_ge (tgt := 52) dX5_allIsThere_45 (by decide) rfl (by omega) (by omega) (fun c45 => ?_) (fun c45 => ?_)
      · refine aw_iconst dX5_allIsThere_52 rfl ?_
        refine aw_ireturn (ty := .boolean) dX5_allIsThere_53 rfl (znarZ (by omega)).1 ?_
        first | exact k1 (by omega) | exact k0 (by omega)
      · refine aw_iconst dX5_allIsThere_48 rfl ?_
        refine aw_goto (tgt := 53) dX5_allIsThere_49 (by decide) ?_
        refine aw_ireturn (ty := .boolean) dX5_allIsThere_53 rfl (znarZ (by omega)).1 ?_
        first | exact k1 (by omega) | exact k0 (by omega)
    · refine aw_if_eq (tgt := 52) dX5_allIsThere_31 (by decide) rfl (by omega) (fun _ => ?_) (fun c => absurd c (by decide))
      refine aw_iconst dX5_allIsThere_52 rfl ?_
      refine aw_ireturn (ty := .boolean) dX5_allIsThere_53 rfl (znarZ (by omega)).1 ?_
      first | exact k1 (by omega) | exact k0 (by omega)
  · refine aw_if_eq (tgt := 52) dX5_allIsThere_14 (by decide) rfl (by omega) (fun _ => ?_) (fun c => absurd c (by decide))
    refine aw_iconst dX5_allIsThere_52 rfl ?_
    refine aw_ireturn (ty := .boolean) dX5_allIsThere_53 rfl (znarZ (by omega)).1 ?_
    first | exact k1 (by omega) | exact k0 (by omega)
theorem sC_remember (h2 : 0 ≤ mem 70 2 ∧ mem 70 2 ≤ 6) (k : ∀ m' : Mem, FrI m' mem 80 86 → (∀ p : Nat, p < 6 → ∀ j : Int, ¬ j = 6 → m' (80 + p) j = mem (80 + p) j) → (∀ p : Nat, (p : Int) < mem 70 2 → m' (80 + p) 6 = mem 86 p) → Q none m') : AMet Γ mX5_rememberCells [vR 67] zG mem Q := by
  have eS := E70.2.2.2.2.2.2
  have loop : ∀ (d p : Nat) (m : Mem), (p : Int) + d = mem 70 2 → FrI m mem 80 86 → (∀ p : Nat, p < 6 → ∀ j : Int, ¬ j = 6 → m (80 + p) j = mem (80 + p) j) → (∀ q : Nat, q < p → m (80 + q) 6 = mem 86 q) → AW Γ mX5_rememberCells (zF Γ zG Q) zG 0 0 2 [some (vR 67), some (vI p)] [] m := by
    intro d
    induction d with
    | zero =>
      intro p m hp hF h1 h3
      have e70 : m 70 = mem 70 := hF 70 (by omega)
      refine aw_iload_n dX5_rememberCells_2 rfl rfl ?_
      refine aw_aload_n dX5_rememberCells_3 rfl rfl ?_
      refine aw_getR dX5_rememberCells_4 rfl fl_X5_21 g67 (by rfl) ?_
      refine aw_getI (kI := 2) dX5_rememberCells_7 rfl fl_X5_101 g70 (by rfl) rfl ?_
      rw [e70]
      refine aw_icmp_ge (tgt := 37) dX5_rememberCells_10 (by decide) rfl (by omega) (by omega) (fun c10 => ?_) (fun c10 => ?_)
      · refine aw_return dX5_rememberCells_37 rfl ?_
        exact k m hF h1 (fun q hq => h3 q (by omega))
      · exfalso; omega
    | succ d ih =>
      intro p m hp hF h1 h3
      push_cast at hp
      have e70 : m 70 = mem 70 := hF 70 (by omega)
      have e86 : m 86 = mem 86 := hF 86 (by omega)
      have gp := eS p (by omega)
      unfold SpG at gp
      refine aw_iload_n dX5_rememberCells_2 rfl rfl ?_
      refine aw_aload_n dX5_rememberCells_3 rfl rfl ?_
      refine aw_getR dX5_rememberCells_4 rfl fl_X5_21 g67 (by rfl) ?_
      refine aw_getI (kI := 2) dX5_rememberCells_7 rfl fl_X5_101 g70 (by rfl) rfl ?_
      rw [e70]
      refine aw_icmp_ge (tgt := 37) dX5_rememberCells_10 (by decide) rfl (by omega) (by omega) (fun c10 => ?_) (fun c10 => ?_)
      · exfalso; omega
      · refine aw_aload_n dX5_rememberCells_13 rfl rfl ?_
        refine aw_getR dX5_rememberCells_14 rfl fl_X5_21 g67 (by rfl) ?_
        refine aw_getR dX5_rememberCells_17 rfl fl_X5_104 g70 (by rfl) ?_
        refine aw_iload_n dX5_rememberCells_20 rfl rfl ?_
        refine aw_aaload dX5_rememberCells_21 rfl (by first | assumption | rfl) six_len (by omega) (six_getN (b := 70) (by omega)) ?_
        refine aw_aload_n dX5_rememberCells_22 rfl rfl ?_
        refine aw_getR dX5_rememberCells_23 rfl fl_X5_25 g67 (by rfl) ?_
        refine aw_iload_n dX5_rememberCells_26 rfl rfl ?_
        refine aw_iaload dX5_rememberCells_27 rfl g86 (by decide) (by omega) ?_
        refine aw_putI (kI := 6) dX5_rememberCells_28 rfl fp_X5_108 (by first | assumption | rfl) (by rfl) rfl ?_
        refine aw_iinc1 rfl dX5_rememberCells_31 rfl (by decide) ?_
        refine aw_goto (tgt := 2) dX5_rememberCells_34 (by decide) ?_
        refine ih (p + 1) _ (by push_cast; omega) (hF.set (by omega)) (fun q hq j hj => ?_) (fun q hq => ?_)
        · by_cases e : q = p
          · subst e
            show mset m (80 + q) 6 _ (80 + q) j = _
            rw [mset_same, fset_ne hj]; exact h1 q hq j hj
          · show mset m (80 + p) 6 _ (80 + q) j = _
            rw [mset_ne (by omega)]; exact h1 q hq j hj
        · by_cases e : q = p
          · subst e
            show mset m (80 + q) 6 _ (80 + q) 6 = _
            rw [mset_same, fset_same, e86]
          · show mset m (80 + p) 6 _ (80 + q) 6 = _
            rw [mset_ne (by omega)]; exact h3 q (by omega)
  obtain ⟨N, hN⟩ : ∃ N : Nat, mem 70 2 = N := ⟨(mem 70 2).toNat, by omega⟩
  refine AMet.of' 1 (ls := [some (vR (67)), none]) (by decide) rfl (Nat.le_of_ble_eq_true rfl) ?_
  refine aw_iconst dX5_rememberCells_0 rfl ?_
  refine aw_istore1 rfl dX5_rememberCells_1 rfl (by decide) ?_
  exact loop N 0 mem (by omega) FrI.rf (fun _ _ _ _ => rfl) (fun q hq => by omega)
/-- the draft with its memos is an evening -/
theorem RdF.ev {s : PSt} {m m' : Mem} (h : RdF s m) (dw : DW s) (hF : FrI m' m 80 86) (h1 : ∀ p : Nat, p < 6 → ∀ j : Int, ¬ j = 6 → m' (80 + p) j = m (80 + p) j) (h3 : ∀ p : Nat, (p : Int) < m 70 2 → m' (80 + p) 6 = m 86 p) : Ev m' 70 (s.1 5) s.2 := by
  obtain ⟨g1, g2, g3, g4, g5⟩ := h
  have z := dw.2.2.2.2.2.2.2.2
  have d46 := dw.2.2.2.2.2.1
  refine ⟨?_, ?_, fun p hp => ?_, fun i i0 i1 => by omega⟩
  · unfold FiR
    rw [hF (70 + 1) (by omega), hF (70 + 1 + 1) (by omega), hF (70 + 1 + 2) (by omega), hF (70 + 1 + 3) (by omega), hF (70 + 1 + 4) (by omega)]
    exact g2
  · rw [hF 70 (by omega), z.1, z.2.1, z.2.2]
    exact g3
  · obtain ⟨y0, y1, y2, y3, y4, y5⟩ := g4 p hp
    obtain ⟨-, -, ⟨u3, u4, u5, u6⟩, -⟩ := dw.2.2.2.2.2.2.2.1 p (by omega) (by omega)
    show SpR (m' (80 + p)) s.2 p
    refine ⟨?_, ?_, ?_, ?_, ?_, ?_, ?_⟩
    · rw [h1 p (by omega) 0 (by decide)]; exact y0
    · rw [h1 p (by omega) 1 (by decide)]; exact y1
    · rw [h1 p (by omega) 2 (by decide)]; exact y2
    · rw [h1 p (by omega) 3 (by decide), u3]; exact y3
    · rw [h1 p (by omega) 4 (by decide), u6, show (47 + 8 * (p : Int) + (4 + 0)) = 47 + 8 * (p : Int) + 4 by omega, u4]; exact y4
    · rw [h1 p (by omega) 5 (by decide), u6, show (47 + 8 * (p : Int) + (5 - 0)) = 47 + 8 * (p : Int) + 5 by omega, u5]; exact y5
    · rw [h3 p (by rw [g3.1]; exact hp)]; exact g5 p (by omega)
theorem RdJ.mem6 {m m' : Mem} (h : RdJ mem m) (hF : FrI m' m 80 86) (h1 : ∀ p : Nat, p < 6 → ∀ j : Int, ¬ j = 6 → m' (80 + p) j = m (80 + p) j) : RdJ mem m' := by
  obtain ⟨g1, g2, g3, g4, g5, g6⟩ := h
  have e68 : m' 68 = m 68 := hF 68 (by omega)
  have e69 : m' 69 = m 69 := hF 69 (by omega)
  refine ⟨(hF.wd (by omega) (by omega)).tr g1, by rw [e68]; exact g2, by rw [e69]; exact g3, ?_, ?_, ?_⟩
  · unfold TpC; rw [e68, e69]; exact g4
  · unfold TpN; rw [e68]; exact g5
  · obtain ⟨n1, n2, n3, n4, n5, n6⟩ := g6
    refine ⟨?_, ?_, ?_, fun p hp => ?_, ?_, ?_⟩
    · rw [hF 71 (by omega)]; exact n1
    · rw [hF 71 (by omega)]; exact n2
    · rw [hF 70 (by omega)]; exact n3
    · rw [h1 p hp 2 (by decide)]; exact n4 p hp
    · rw [hF 86 (by omega)]; exact n5
    · rw [hF 67 (by omega)]; exact n6
theorem sC_readAll (hT : TpC mem) (hP : ∀ p : Nat, p < 6 → -4 ≤ mem (80 + p) 2 ∧ mem (80 + p) 2 ≤ 23) (k : ∀ m' : Mem, RdJ mem m' → TextR (textP (mem 69) (mem 68 1)) m' → Q none m') : AMet Γ mX5_readAll [vR 67] zG mem Q := by
  have s86 : ∀ (i : Int) (m : Mem), RdJ mem m → (∀ m' : Mem, RdJ mem m' → FrI m' m 80 86 → (∀ p : Nat, p < 6 → ∀ j : Int, ¬ j = 6 → m' (80 + p) j = m (80 + p) j) → (∀ p : Nat, (p : Int) < m 70 2 → m' (80 + p) 6 = m 86 p) → Q none m') → AW Γ mX5_readAll (zF Γ zG Q) zG 0 0 86 [some (vR 67), some (vI i)] [] m := by
    intro i m hJ kk
    refine aw_aload_n dX5_readAll_86 rfl rfl ?_
    refine aw_callV [] _ dX5_readAll_87 rfl clv_X5_59 (by decide) ⟨Nat.zero_le _, Nat.zero_le _⟩ g67 (by rfl) (Nat.le_of_ble_eq_true rfl) rfl ?_
    refine sC_remember hJ.2.2.2.2.2.2.2.1 (fun m' hF h1 h3 => ?_)
    refine aw_return dX5_readAll_90 rfl ?_
    exact kk m' (hJ.mem6 hF h1) hF h1 h3
  have s63b : ∀ (i a : Int) (m : Mem), RdJ mem m → TBad a m → textP (mem 69) (mem 68 1) = .error a → AW Γ mX5_readAll (zF Γ zG Q) zG 0 0 63 [some (vR 67), some (vI i)] [] m := by
    intro i a m hJ hB he
    obtain ⟨n1, n2, n3, n4, n5, n6, n7, n8, n9⟩ := hJ.2.2.2.2.2
    have n10 := hJ.2.2.2.2.1.2.2.2
    have hb5 := hB.1.1
    have go := s86 i m hJ (fun m' j1 hF h1 h3 => k m' j1 (by rw [he]; exact hB.fr (hF 68 (by omega))))
    refine aw_aload_n dX5_readAll_63 rfl rfl ?_
    refine aw_callV [] _ dX5_readAll_64 rfl clv_X5_49 (by decide) ⟨Nat.zero_le _, Nat.zero_le _⟩ g67 (by rfl) (Nat.le_of_ble_eq_true rfl) rfl ?_
    refine sC_allIsThere rfl rfl rfl rfl rfl n1 n6 n7 n8 n3 (fun c64 => ?_) (fun c64 => ?_)
    · refine aw_if_ne (tgt := 86) dX5_readAll_67 (by decide) rfl (by omega) (fun _ => ?_) (fun c => absurd c (by decide))
      exact go
    · refine aw_if_ne (tgt := 86) dX5_readAll_67 (by decide) rfl (by omega) (fun c => absurd c (by decide)) (fun _ => ?_)
      refine aw_aload_n dX5_readAll_70 rfl rfl ?_
      refine aw_getR dX5_readAll_71 rfl fl_X5_12 g67 (by rfl) ?_
      refine aw_aload_n dX5_readAll_74 rfl rfl ?_
      refine aw_getR dX5_readAll_75 rfl fl_X5_12 g67 (by rfl) ?_
      refine aw_getI (kI := 1) dX5_readAll_78 rfl fl_X5_52 g68 (by rfl) rfl ?_
      refine aw_bipush dX5_readAll_81 rfl (by decide) ?_
      refine aw_callV [_, _] _ dX5_readAll_83 rfl clv_X5_55 (by decide) ⟨Nat.zero_le _, Nat.zero_le _⟩ g68 (by rfl) (Nat.le_of_ble_eq_true rfl) rfl ?_
      refine sC_failAt n10 (fun z => by exfalso; omega) (fun _ => ?_)
      exact go
  have s63g : ∀ (i : Int) (s : PSt) (m : Mem), RdJ mem m → m 68 5 = 0 → m 67 3 = i → RdF s m → PW (mem 68 1) s → DW s → Dis s.2 → textL (mem 69) (mem 68 1) 162 0 P0 = .ok (i, s) → AW Γ mX5_readAll (zF Γ zG Q) zG 0 0 63 [some (vR 67), some (vI i)] [] m := by
    intro i s m hJ h5 hi hF w dw ds he
    have eP : textP (mem 69) (mem 68 1) = if endC s then .ok (i, s) else .error (8 * mem 68 1 + 6) := by
      unfold textP
      rw [he]
      rfl
    obtain ⟨n1, n2, n3, n4, n5, n6, n7, n8, n9⟩ := hJ.2.2.2.2.2
    have n10 := hJ.2.2.2.2.1.2.2.2
    have e1 := hJ.2.1
    have tp := hJ.2.2.2.1.1
    obtain ⟨⟨y4, y8, y5, y6, y7⟩, g2, g3, g4, g5⟩ := id hF
    have y0 : m 71 0 = s.1 5 := g2.1
    have r5 := dw.1
    have r9 := w.1.2.1
    have r10 := w.1.2.2.1
    have r11 := w.1.2.2.2.1
    have r46 := w.1.2.2.2.2.2.1
    have eC : (m 67 5 < s.1 5 ∧ m 67 6 < 3 * s.1 5 ∧ m 67 7 < s.2 46) ↔ endC s := by
      unfold endC
      rw [y5, y6, y7]
      omega
    have good : endC s → AW Γ mX5_readAll (zF Γ zG Q) zG 0 0 86 [some (vR 67), some (vI i)] [] m := by
      intro hc
      refine s86 i m hJ (fun m' j1 hF1 h1 h3 => k m' j1 ?_)
      rw [eP, if_pos hc]
      refine ⟨by rw [hF1 68 (by omega)]; exact h5, by rw [hF1 67 (by omega)]; exact hi, hF.ev dw hF1 h1 h3, ds⟩
    have bad : ¬ endC s → AW Γ mX5_readAll (zF Γ zG Q) zG 0 0 86 [some (vR 67), some (vI i)] [] (mset (mset m 68 5 6) 68 6 (m 68 1)) := by
      intro hc
      obtain ⟨m3, em⟩ : ∃ x : Mem, mset (mset m 68 5 6) 68 6 (m 68 1) = x := ⟨_, rfl⟩
      rw [em]
      have f3 : FrI m3 m 68 69 := by rw [← em]; exact (FrI.rf.set (by omega)).set (by omega)
      have t3 : TBad (8 * mem 68 1 + 6) m3 := by
        rw [← em]
        refine ⟨?_, ?_⟩
        · show (0 : Int) < 6 ∧ (6 : Int) ≤ 6
          omega
        · show 8 * m 68 1 + 6 = _
          rw [e1]
      have j3 : RdJ mem m3 := by
        obtain ⟨a1, a2, a3, a4, a5, a6⟩ := hJ
        have l3 : m3 68 1 = m 68 1 := by rw [← em]; rfl
        refine ⟨(f3.wd (by omega) (by omega)).tr a1, by rw [l3]; exact a2, by rw [f3 69 (by omega)]; exact a3, ?_, ?_, a6.fr f3⟩
        · unfold TpC; rw [l3, f3 69 (by omega)]; exact a4
        · have b2 : m3 68 2 = m 68 2 := by rw [← em]; rfl
          have b3 : m3 68 3 = m 68 3 := by rw [← em]; rfl
          have b4 : m3 68 4 = m 68 4 := by rw [← em]; rfl
          have b5 : m3 68 5 = 6 := by rw [← em]; rfl
          unfold TpN
          rw [b2, b3, b4, b5, l3]
          exact ⟨a5.1, a5.2.1, a5.2.2.1, by omega⟩
      refine s86 i m3 j3 (fun m' j1 hF1 h1 h3 => k m' j1 ?_)
      rw [eP, if_neg hc]
      exact t3.fr (hF1 68 (by omega))
    refine aw_aload_n dX5_readAll_63 rfl rfl ?_
    refine aw_callV [] _ dX5_readAll_64 rfl clv_X5_49 (by decide) ⟨Nat.zero_le _, Nat.zero_le _⟩ g67 (by rfl) (Nat.le_of_ble_eq_true rfl) rfl ?_
    refine sC_allIsThere rfl rfl rfl y0 g3.1 r5 n6 n7 n8 r46 (fun c1 => ?_) (fun c0 => ?_)
    · refine aw_if_ne (tgt := 86) dX5_readAll_67 (by decide) rfl (by omega) (fun _ => ?_) (fun c => absurd c (by decide))
      first | (have hz := eC.mp c1; exact good hz) | exact bad (fun z => c0 (eC.mpr z))
    · refine aw_if_ne (tgt := 86) dX5_readAll_67 (by decide) rfl (by omega) (fun c => absurd c (by decide)) (fun _ => ?_)
      refine aw_aload_n dX5_readAll_70 rfl rfl ?_
      refine aw_getR dX5_readAll_71 rfl fl_X5_12 g67 (by rfl) ?_
      refine aw_aload_n dX5_readAll_74 rfl rfl ?_
      refine aw_getR dX5_readAll_75 rfl fl_X5_12 g67 (by rfl) ?_
      refine aw_getI (kI := 1) dX5_readAll_78 rfl fl_X5_52 g68 (by rfl) rfl ?_
      refine aw_bipush dX5_readAll_81 rfl (by decide) ?_
      refine aw_callV [_, _] _ dX5_readAll_83 rfl clv_X5_55 (by decide) ⟨Nat.zero_le _, Nat.zero_le _⟩ g68 (by rfl) (Nat.le_of_ble_eq_true rfl) rfl ?_
      refine sC_failAt n10 (fun _ => ?_) (fun z => absurd h5 z)
      first | (have hz := eC.mp c1; exact good hz) | exact bad (fun z => c0 (eC.mpr z))
  have loop : ∀ (d : Nat) (i : Int) (r : Except Int PSt) (m : Mem), i + d = 161 → 0 ≤ i → RdJ mem m → m 67 3 = i → CmpR r m → (∀ s, r = .ok s → PW (mem 68 1) s ∧ DW s ∧ MI s ∧ Dis s.2 ∧ i ≤ s.p) → (∀ a, r = .error a → textL (mem 69) (mem 68 1) 162 0 P0 = .error a) → (∀ s, r = .ok s → textL (mem 69) (mem 68 1) 162 0 P0 = textL (mem 69) (mem 68 1) (d + 1) i s) → AW Γ mX5_readAll (zF Γ zG Q) zG 0 0 6 [some (vR 67), some (vI i)] [] m := by
    have bad : ∀ (i a : Int) (m : Mem), (0 ≤ i ∧ i ≤ 161) → RdJ mem m → TBad a m → textL (mem 69) (mem 68 1) 162 0 P0 = .error a → AW Γ mX5_readAll (zF Γ zG Q) zG 0 0 6 [some (vR 67), some (vI i)] [] m := by
      intro i a m hi hJ hB he
      have hb5 := hB.1
      have go := s63b i a m hJ hB (by unfold textP; rw [he]; rfl)
      refine aw_iload_n dX5_readAll_6 rfl rfl ?_
      refine aw_sipush dX5_readAll_7 rfl (by decide) ?_
      refine aw_icmp_gt (tgt := 63) dX5_readAll_10 (by decide) rfl (by omega) (by omega) (fun c10 => ?_) (fun c10 => ?_)
      · exact go
      · refine aw_aload_n dX5_readAll_13 rfl rfl ?_
        refine aw_getR dX5_readAll_14 rfl fl_X5_12 g67 (by rfl) ?_
        refine aw_callV [] _ dX5_readAll_17 rfl clv_X5_32 (by decide) ⟨Nat.zero_le _, Nat.zero_le _⟩ g68 (by rfl) (Nat.le_of_ble_eq_true rfl) rfl ?_
        refine sC_advanceB (by omega) ?_
        refine aw_aload_n dX5_readAll_20 rfl rfl ?_
        refine aw_getR dX5_readAll_21 rfl fl_X5_12 g67 (by rfl) ?_
        refine aw_callV [] _ dX5_readAll_24 rfl clv_X5_35 (by decide) ⟨Nat.zero_le _, Nat.zero_le _⟩ g68 (by rfl) (Nat.le_of_ble_eq_true rfl) rfl ?_
        refine sC_isSound (by omega) (fun z => ?_) (fun z => ?_)
        · refine aw_if_eq (tgt := 63) dX5_readAll_27 (by decide) rfl (by omega) (fun c => absurd c (by decide)) (fun _ => ?_)
          exfalso; omega
        · refine aw_if_eq (tgt := 63) dX5_readAll_27 (by decide) rfl (by omega) (fun _ => ?_) (fun c => absurd c (by decide))
          exact go
    intro d
    induction d with
    | zero =>
      intro i r m hi i0 hJ h3 hC hw hE hO
      cases r with
      | error a => exact bad i a m (by omega) hJ hC (hE a rfl)
      | ok s =>
        exfalso
        obtain ⟨w, -, -, -, hp⟩ := hw s rfl
        have := w.2
        have := hT.1
        omega
    | succ d ih =>
      intro i r m hi i0 hJ h3 hC hw hE hO
      push_cast at hi
      cases r with
      | error a => exact bad i a m (by omega) hJ hC (hE a rfl)
      | ok s =>
        obtain ⟨w, dw, mi, ds, hp⟩ := hw s rfl
        have e := hO s rfl
        rw [textL_s (d + 1) i s] at e
        obtain ⟨h5, h4, hF⟩ := hC
        obtain ⟨j1, j2, j3, j4⟩ := id hJ
        have h46 := dw.2.2.2.2.2.1
        have s20 : ∀ m1 : Mem, FrI m1 m 68 69 → TkR m1 (mem 69) (mem 68 1) s.p → AW Γ mX5_readAll (zF Γ zG Q) zG 0 0 20 [some (vR 67), some (vI i)] [] m1 := by
          intro m1 f1 r1
          have hN := r1.n w.2
          obtain ⟨q1, q3, q4, q2, qx, qn⟩ := id r1
          have e69 : m1 69 = mem 69 := by rw [f1 69 (by omega)]; exact j3
          have J1 : RdJ mem m1 := ⟨(f1.wd (by omega) (by omega)).tr j1, q1, e69, ⟨by rw [q1]; exact hT.1, fun x x0 x1 => by rw [e69]; exact hT.2 x x0 (by omega)⟩, hN, j4.2.2.fr f1⟩
          have i3 : m1 67 3 = i := by rw [f1 67 (by omega)]; exact h3
          have F1 : RdF s m1 := hF.fr h46.2 f1
          have n5 := hN.2.2.2
          by_cases hx : tkX (mem 69) (mem 68 1) s.p
          · rw [if_pos hx] at e
            obtain ⟨x5, x6⟩ := qx hx
            have go := s63b i _ m1 J1 (show TBad (erX (mem 69) (mem 68 1) s.p) m1 from ⟨by omega, by unfold erX; omega⟩) (by unfold textP; rw [e]; rfl)
            refine aw_aload_n dX5_readAll_20 rfl rfl ?_
            refine aw_getR dX5_readAll_21 rfl fl_X5_12 g67 (by rfl) ?_
            refine aw_callV [] _ dX5_readAll_24 rfl clv_X5_35 (by decide) ⟨Nat.zero_le _, Nat.zero_le _⟩ g68 (by rfl) (Nat.le_of_ble_eq_true rfl) rfl ?_
            refine sC_isSound (by omega) (fun z => ?_) (fun z => ?_)
            · refine aw_if_eq (tgt := 63) dX5_readAll_27 (by decide) rfl (by omega) (fun c => absurd c (by decide)) (fun _ => ?_)
              exfalso; omega
            · refine aw_if_eq (tgt := 63) dX5_readAll_27 (by decide) rfl (by omega) (fun _ => ?_) (fun c => absurd c (by decide))
              exact go
          · rw [if_neg hx] at e
            have x5 := qn hx
            have kk := (kdF_K (t := mem 69) w.2).1
            rw [← q2] at kk
            have go : m1 68 2 = 0 → AW Γ mX5_readAll (zF Γ zG Q) zG 0 0 63 [some (vR 67), some (vI i)] [] m1 := by
              intro z
              rw [if_pos (kk.mp z)] at e
              exact s63g i s m1 J1 x5 i3 F1 w dw ds e
            have s43 : ¬ m1 68 2 = 0 → AW Γ mX5_readAll (zF Γ zG Q) zG 0 0 43 [some (vR 67), some (vI i)] [] m1 := by
              intro z
              rw [if_neg (fun y => z (kk.mpr y))] at e
              rw [← e69, ← q1] at r1 hx e
              rw [← q1] at w
              refine aw_aload_n dX5_readAll_43 rfl rfl ?_
              refine aw_callV [] _ dX5_readAll_44 rfl clv_X5_43 (by decide) ⟨Nat.zero_le _, Nat.zero_le _⟩ g67 (by rfl) (Nat.le_of_ble_eq_true rfl) rfl ?_
              refine sC_readLine s J1.2.2.2 r1 hx F1 w dw mi (fun m2 k2 c2 => ?_)
              have l3 : m2 67 3 = i := by rw [k2.2.1]; exact i3
              refine aw_aload_n dX5_readAll_47 rfl rfl ?_
              refine aw_dup dX5_readAll_48 rfl rfl ?_
              refine aw_getI (kI := 3) dX5_readAll_49 rfl fl_X5_46 g67 (by rfl) rfl ?_
              rw [l3]
              refine aw_iconst dX5_readAll_52 rfl ?_
              refine aw_iadd dX5_readAll_53 rfl ?_
              refine aw_putI (kI := 3) dX5_readAll_54 rfl fp_X5_46 g67 (by rfl) rfl ?_
              refine aw_iinc1 rfl dX5_readAll_57 rfl (by decide) ?_
              refine aw_goto (tgt := 6) dX5_readAll_60 (by decide) ?_
              refine ih (i + 1) (lineP (m1 69) (m1 68 1) s) _ (by omega) (by omega) (k2.j J1).ln (by rw [mset_same, fset_same]) c2.ln (fun s' es => ?_) (fun a ea => ?_) (fun s' es => ?_)
              · obtain ⟨w2, p2⟩ := lineP_keep w es
                obtain ⟨m3, d3⟩ := lineP_more dw mi ds es
                rw [q1] at w2
                exact ⟨w2, lineP_DW dw es, m3, d3, by omega⟩
              · rw [ea, e69, q1] at e
                exact e
              · rw [es, e69, q1] at e
                exact e
            refine aw_aload_n dX5_readAll_20 rfl rfl ?_
            refine aw_getR dX5_readAll_21 rfl fl_X5_12 g67 (by rfl) ?_
            refine aw_callV [] _ dX5_readAll_24 rfl clv_X5_35 (by decide) ⟨Nat.zero_le _, Nat.zero_le _⟩ g68 (by rfl) (Nat.le_of_ble_eq_true rfl) rfl ?_
            refine sC_isSound (by omega) (fun z => ?_) (fun z => ?_)
            · refine aw_if_eq (tgt := 63) dX5_readAll_27 (by decide) rfl (by omega) (fun c => absurd c (by decide)) (fun _ => ?_)
              refine aw_aload_n dX5_readAll_30 rfl rfl ?_
              refine aw_getR dX5_readAll_31 rfl fl_X5_12 g67 (by rfl) ?_
              refine aw_getI (kI := 2) dX5_readAll_34 rfl fl_X5_39 g68 (by rfl) rfl ?_
              refine aw_if_ne (tgt := 43) dX5_readAll_37 (by decide) rfl (by omega) (fun c37 => ?_) (fun c37 => ?_)
              · exact s43 (by omega)
              · refine aw_goto (tgt := 63) dX5_readAll_40 (by decide) ?_
                first | (exfalso; omega) | exact go (by omega)
            · refine aw_if_eq (tgt := 63) dX5_readAll_27 (by decide) rfl (by omega) (fun _ => ?_) (fun c => absurd c (by decide))
              first | (exfalso; omega) | exact go (by omega)
        refine aw_iload_n dX5_readAll_6 rfl rfl ?_
        refine aw_sipush dX5_readAll_7 rfl (by decide) ?_
        refine aw_icmp_gt (tgt := 63) dX5_readAll_10 (by decide) rfl (by omega) (by omega) (fun c10 => ?_) (fun c10 => ?_)
        · exfalso; omega
        · refine aw_aload_n dX5_readAll_13 rfl rfl ?_
          refine aw_getR dX5_readAll_14 rfl fl_X5_12 g67 (by rfl) ?_
          refine aw_callV [] _ dX5_readAll_17 rfl clv_X5_32 (by decide) ⟨Nat.zero_le _, Nat.zero_le _⟩ g68 (by rfl) (Nat.le_of_ble_eq_true rfl) rfl ?_
          refine sC_advance j4.1 h5 (by rw [h4, j2]; exact w.2) (fun m1 f1 r1 => ?_)
          rw [j2, j3, h4] at r1
          exact s20 m1 f1 r1
  refine AMet.of' 1 (ls := [some (vR (67)), none]) (by decide) rfl (Nat.le_of_ble_eq_true rfl) ?_
  refine aw_aload_n dX5_readAll_0 rfl rfl ?_
  refine aw_callV [] _ dX5_readAll_1 rfl clv_X5_29 (by decide) ⟨Nat.zero_le _, Nat.zero_le _⟩ g67 (by rfl) (Nat.le_of_ble_eq_true rfl) rfl ?_
  refine sC_startRead hT hP (fun m1 j1 c1 l1 => ?_)
  refine aw_iconst dX5_readAll_4 rfl ?_
  refine aw_istore1 rfl dX5_readAll_5 rfl (by decide) ?_
  exact loop 161 0 (.ok P0) m1 (by omega) (by omega) j1 l1 c1 (fun s es => by cases es; exact ⟨P0_PW hT.1.1, P0_DW, P0_MI, P0_Dis, by show (0 : Int) ≤ 0; omega⟩) (fun a ea => by cases ea) (fun s es => by cases es; rfl)
end ZCmp31
