theorem doneAt_stay {n : Int} {f : Int → Int} {p : Int} {i : Nat} (h : ¬ doneAt n f p i = -4) : ∀ d : Nat, doneAt n f p (i + d) = doneAt n f p i := by
  intro d
  induction d with
  | zero => rfl
  | succ d ih =>
    have hz : ¬ doneAt n f p (i + d) = -4 := by rw [ih]; exact h
    rw [← ih]; exact (doneAt_n1 hz).symm
theorem blackAt_stay {n : Int} {f : Int → Int} {p : Int} {i : Nat} (h : ¬ blackAt n f p i = -4) : ∀ d : Nat, blackAt n f p (i + d) = blackAt n f p i := by
  intro d
  induction d with
  | zero => rfl
  | succ d ih =>
    have hz : ¬ blackAt n f p (i + d) = -4 := by rw [ih]; exact h
    rw [← ih]; exact (blackAt_n1 hz).symm
theorem zbt_15 : ∀ i, i < 32 → zbt 32767 i = decide (i < 15) := by decide +kernel
theorem ushr_bits (v : Int) : zand (zushr v 16) 32767 = bitsF v := by
  unfold bitsF
  have h : Int32.ofInt (zushr v 16) &&& Int32.ofInt 32767 = Int32.ofInt (zshr v 16) &&& Int32.ofInt 32767 := by
    apply b_ext
    intro i hi
    rw [b_and, b_and]
    have h15 : bt (Int32.ofInt 32767) i = decide (i < 15) := zbt_15 i hi
    rw [h15]
    by_cases hl : i < 15
    · have e1 : bt (Int32.ofInt (zushr v 16)) i = bt (Int32.ofInt v) (16 + i) := by
        unfold zushr
        rw [Int32.ofInt_toInt]
        exact b_ushr 16 (by decide) _ i
      have e2 : bt (Int32.ofInt (zshr v 16)) i = bt (Int32.ofInt v) (16 + i) := by
        unfold zshr
        rw [Int32.ofInt_toInt]
        have := b_sshr 16 (by decide) (Int32.ofInt v) hi
        rw [if_pos (by omega)] at this
        exact this
      rw [e1, e2]
    · simp [hl]
  unfold zand
  rw [h]
section ZCmp8
variable {Γ : ZG} {mem : Mem} {Q : Option AV → Mem → Prop} {n : Int} {f : Int → Int}
theorem sC_rake {x b : Int} (wf : Wf n f) (h : Ev mem 1 n f) (hx : -2147483648 ≤ x ∧ x ≤ 2147483647) (hb : 0 ≤ b ∧ b ≤ 1) (k : ∀ m' : Mem, FrI m' mem 1 17 → Ev m' 1 n (rakeM n f x b).2 → Q (some (vI (rakeM n f x b).1)) m') : AMet Γ mX10_rake [vR 0, vI x, vI b] zG mem Q := by
  have a4 : mem 1 4 = f 95 := h.2.1.2.2.1
  have h0 : mem 2 0 = n := h.1.1
  have hn := wf.1
  unfold rakeM at k
  have fin : ∀ w : Int, 0 ≤ x ∧ x < 3 * n → w = zand (zshr (f 95) x) 1 → Q (some (vI w)) (mset mem 1 4 (if b = 0 then zand (f 95) (zxor (zshl 1 x) (-1)) else zor (f 95) (zshl 1 x))) := by
    intro w hz ew
    rw [if_pos hz] at k
    rw [ew, mset_eq]
    refine k _ (FrI.rf.cell (by decide)) ?_
    obtain ⟨b2, b3, b4, b5⟩ := h.2.1
    refine h.fld wf (fun j j1 j2 j3 j4 => by dsimp only; rw [fset_ne j3]) ⟨?_, ?_, ?_, ?_⟩ (by dsimp only; rw [fset_ne (by decide)]; omega) (by dsimp only; rw [fset_ne (by decide)]; omega)
    · rw [fset_ne (by decide)]; dsimp only; rw [fset_ne (by decide)]; exact b2
    · rw [fset_ne (by decide)]; dsimp only; rw [fset_ne (by decide)]; exact b3
    · rw [fset_same]; dsimp only; rw [fset_same]
    · rw [fset_ne (by decide)]; dsimp only; rw [fset_ne (by decide)]; exact b5
  have s37 : ∀ w : Int, 0 ≤ x ∧ x < 3 * n → w = zand (zshr (f 95) x) 1 → AW Γ mX10_rake (zF Γ zG Q) zG 0 0 37 [some (vR 0), some (vI x), some (vI b), some (vI (zshl 1 x)), none] [vI w] mem := by
    intro w hz ew
    have fw := fin w hz ew
    refine aw_istore4 rfl dX10_rake_37 rfl (by decide) ?_
    refine aw_aload_n dX10_rake_39 rfl rfl ?_
    refine aw_getR dX10_rake_40 rfl fl_X10_12 g0 (by rfl) ?_
    refine aw_iload_n dX10_rake_43 rfl rfl ?_
    refine aw_if_eq (tgt := 59) dX10_rake_44 (by decide) rfl (by omega) (fun c44 => ?_) (fun c44 => ?_)
    · refine aw_aload_n dX10_rake_59 rfl rfl ?_
      refine aw_getR dX10_rake_60 rfl fl_X10_12 g0 (by rfl) ?_
      refine aw_getI (kI := 4) dX10_rake_63 rfl fl_X10_129 g1 (by rfl) rfl ?_
      rw [a4]
      refine aw_iload_n dX10_rake_66 rfl rfl ?_
      refine aw_iconst dX10_rake_67 rfl ?_
      refine aw_ixor dX10_rake_68 rfl ?_
      refine aw_iand dX10_rake_69 rfl ?_
      refine aw_putI (kI := 4) dX10_rake_70 rfl fp_X10_129 g1 (by rfl) rfl ?_
      refine aw_iload dX10_rake_73 rfl rfl ?_
      refine aw_ireturn (ty := .int) dX10_rake_75 rfl rfl ?_
      first | (rw [if_neg (by omega)] at fw; exact fw) | (rw [if_pos (by omega)] at fw; exact fw)
    · refine aw_aload_n dX10_rake_47 rfl rfl ?_
      refine aw_getR dX10_rake_48 rfl fl_X10_12 g0 (by rfl) ?_
      refine aw_getI (kI := 4) dX10_rake_51 rfl fl_X10_129 g1 (by rfl) rfl ?_
      rw [a4]
      refine aw_iload_n dX10_rake_54 rfl rfl ?_
      refine aw_ior dX10_rake_55 rfl ?_
      refine aw_goto (tgt := 70) dX10_rake_56 (by decide) ?_
      refine aw_putI (kI := 4) dX10_rake_70 rfl fp_X10_129 g1 (by rfl) rfl ?_
      refine aw_iload dX10_rake_73 rfl rfl ?_
      refine aw_ireturn (ty := .int) dX10_rake_75 rfl rfl ?_
      first | (rw [if_neg (by omega)] at fw; exact fw) | (rw [if_pos (by omega)] at fw; exact fw)
  refine AMet.of' 2 (ls := [some (vR (0)), some (vI (x)), some (vI (b)), none, none]) (by decide) rfl (Nat.le_of_ble_eq_true rfl) ?_
  refine aw_aload_n dX10_rake_0 rfl rfl ?_
  refine aw_getR dX10_rake_1 rfl fl_X10_12 g0 (by rfl) ?_
  refine aw_getR dX10_rake_4 rfl fl_X10_105 g1 (by rfl) ?_
  refine aw_iload_n dX10_rake_7 rfl rfl ?_
  refine aw_callV [_] _ dX10_rake_8 rfl clv_X10_132 (by decide) ⟨Nat.zero_le _, Nat.zero_le _⟩ g2 (by rfl) (Nat.le_of_ble_eq_true rfl) rfl ?_
  refine sC_hasPlace E1.2.1 (by rw [h0]; exact hn) hx (fun c8 => ?_) (fun c8 => ?_)
  · refine aw_if_ne (tgt := 16) dX10_rake_11 (by decide) rfl (by omega) (fun _ => ?_) (fun c => absurd c (by decide))
    rw [h0] at c8
    obtain ⟨y, rfl⟩ : ∃ y : Nat, x = y := ⟨x.toNat, by omega⟩
    have zb := zbit3 (a := f 95) (x := y) (by omega)
    have z1 := zbit (a := f 95) (x := y) (by omega)
    have zr := zand_rng (f 95) (zshl 1 (y : Int))
    refine aw_iconst dX10_rake_16 rfl ?_
    refine aw_iload_n dX10_rake_17 rfl rfl ?_
    refine aw_ishl dX10_rake_18 rfl ?_
    refine aw_istore3 rfl dX10_rake_19 rfl (by decide) ?_
    refine aw_aload_n dX10_rake_20 rfl rfl ?_
    refine aw_getR dX10_rake_21 rfl fl_X10_12 g0 (by rfl) ?_
    refine aw_getI (kI := 4) dX10_rake_24 rfl fl_X10_129 g1 (by rfl) rfl ?_
    rw [a4]
    refine aw_iload_n dX10_rake_27 rfl rfl ?_
    refine aw_iand dX10_rake_28 rfl ?_
    refine aw_if_eq (tgt := 36) dX10_rake_29 (by decide) rfl (by omega) (fun c29 => ?_) (fun c29 => ?_)
    · refine aw_iconst dX10_rake_36 rfl ?_
      first | exact s37 0 c8 (zb.mp (by omega)).symm | (refine s37 1 c8 ?_; have hz : ¬ zand (zshr (f 95) (y : Int)) 1 = 0 := (fun z => c29 (zb.mpr z)); rw [z1] at hz ⊢; cases hh : zbt (f 95) y with | false => rw [hh] at hz; exact absurd rfl hz | true => rfl)
    · refine aw_iconst dX10_rake_32 rfl ?_
      refine aw_goto (tgt := 37) dX10_rake_33 (by decide) ?_
      first | exact s37 0 c8 (zb.mp (by omega)).symm | (refine s37 1 c8 ?_; have hz : ¬ zand (zshr (f 95) (y : Int)) 1 = 0 := (fun z => c29 (zb.mpr z)); rw [z1] at hz ⊢; cases hh : zbt (f 95) y with | false => rw [hh] at hz; exact absurd rfl hz | true => rfl)
  · refine aw_if_ne (tgt := 16) dX10_rake_11 (by decide) rfl (by omega) (fun c => absurd c (by decide)) (fun _ => ?_)
    refine aw_iconst dX10_rake_14 rfl ?_
    refine aw_ireturn (ty := .int) dX10_rake_15 rfl rfl ?_
    rw [h0] at c8; rw [if_neg c8] at k; exact k _ FrI.rf h
theorem sC_go {c : Int} (wf : Wf n f) (h : Ev mem 1 n f) (h45 : 0 ≤ f 45 ∧ f 45 ≤ 999) (hc : -2147483648 ≤ c ∧ c ≤ 2147483647) (k : ∀ m' : Mem, FrI m' mem 1 17 → Ev m' 1 n (goM n f c).2 → Q (some (vI (goM n f c).1)) m') : AMet Γ mX10_go [vR 0, vI c] zG mem Q := by
  have a3 : mem 1 3 = f 45 := h.2.1.2.1
  unfold goM at k
  refine AMet.of' 0 (ls := [some (vR (0)), some (vI (c))]) (by decide) rfl (Nat.le_of_ble_eq_true rfl) ?_
  refine aw_iload_n dX10_go_0 rfl rfl ?_
  refine aw_if_lt (tgt := 10) dX10_go_1 (by decide) rfl (by omega) (fun c1 => ?_) (fun c1 => ?_)
  · refine aw_iconst dX10_go_10 rfl ?_
    refine aw_ireturn (ty := .int) dX10_go_11 rfl rfl ?_
    rw [if_neg (by omega)] at k; exact k _ FrI.rf h
  · refine aw_iload_n dX10_go_4 rfl rfl ?_
    refine aw_bipush dX10_go_5 rfl (by decide) ?_
    refine aw_icmp_le (tgt := 12) dX10_go_7 (by decide) rfl (by omega) (by omega) (fun c7 => ?_) (fun c7 => ?_)
    · refine aw_aload_n dX10_go_12 rfl rfl ?_
      refine aw_getR dX10_go_13 rfl fl_X10_12 g0 (by rfl) ?_
      refine aw_getI (kI := 3) dX10_go_16 rfl fl_X10_123 g1 (by rfl) rfl ?_
      rw [a3]
      refine aw_iload_n dX10_go_19 rfl rfl ?_
      refine aw_iadd dX10_go_20 rfl ?_
      refine aw_sipush dX10_go_21 rfl (by decide) ?_
      refine aw_icmp_lt (tgt := 30) dX10_go_24 (by decide) rfl (by omega) (by omega) (fun c24 => ?_) (fun c24 => ?_)
      · rw [if_pos (by omega), if_pos (by omega)] at k
        obtain ⟨w1, w2, w3, w4⟩ := roundsF_Wf c.toNat f wf
        refine aw_aload_n dX10_go_30 rfl rfl ?_
        refine aw_getR dX10_go_31 rfl fl_X10_12 g0 (by rfl) ?_
        refine aw_iload_n dX10_go_34 rfl rfl ?_
        refine aw_callV [_] _ dX10_go_35 rfl clv_X10_196 (by decide) ⟨Nat.zero_le _, Nat.zero_le _⟩ g1 (by rfl) (Nat.le_of_ble_eq_true rfl) rfl ?_
        refine sC_passRounds E1 (by omega) wf h (fun m1 f1 v1 => ?_)
        refine aw_aload_n dX10_go_38 rfl rfl ?_
        refine aw_getR dX10_go_39 rfl fl_X10_12 g0 (by rfl) ?_
        refine aw_iconst dX10_go_42 rfl ?_
        refine aw_callV [_] _ dX10_go_43 rfl clv_X10_200 (by decide) ⟨Nat.zero_le _, Nat.zero_le _⟩ g1 (by rfl) (Nat.le_of_ble_eq_true rfl) rfl ?_
        refine sC_tally E1 (by omega) w1 v1 ?_
        refine aw_ireturn (ty := .int) dX10_go_46 rfl rfl ?_
        rw [cnt_good, w2]; exact k m1 f1 (v1.row w1 (fun j j0 j1 => by show fcopy _ _ 0 0 115 j = _; unfold fcopy; rw [if_pos (by omega), show (0 : Int) + (j - 0) = j by omega]))
      · refine aw_bipush dX10_go_27 rfl (by decide) ?_
        refine aw_ireturn (ty := .int) dX10_go_29 rfl rfl ?_
        rw [if_pos (by omega), if_neg (by omega)] at k; exact k _ FrI.rf h
    · refine aw_iconst dX10_go_10 rfl ?_
      refine aw_ireturn (ty := .int) dX10_go_11 rfl rfl ?_
      rw [if_neg (by omega)] at k; exact k _ FrI.rf h
theorem sC_ahead {p c w : Int} (wf : Wf n f) (h : Ev mem 1 n f) (hp : -2147483648 ≤ p ∧ p ≤ 2147483647) (hc : -2147483648 ≤ c ∧ c ≤ 2147483647) (hw : -2147483648 ≤ w ∧ w ≤ 2147483647) (k : ∀ m' : Mem, FrI m' mem 17 33 → Q (some (vI (aheadM n f p c w))) m') : AMet Γ mX10_ahead [vR 0, vI p, vI c, vI w] zG mem Q := by
  have a2 : mem 1 2 = f 46 := h.2.1.1
  have w46 := wf.n46
  have hn := wf.1
  unfold aheadM at k
  obtain ⟨w1, w2, w3, w4⟩ := roundsF_Wf c.toNat f wf
  have s23 : (0 ≤ p ∧ p < f 46) ∧ (0 ≤ c ∧ c ≤ 60) → AW Γ mX10_ahead (zF Γ zG Q) zG 0 0 23 [some (vR 0), some (vI p), some (vI c), some (vI w)] [] mem := by
    intro hz
    obtain ⟨q, rfl⟩ : ∃ q : Nat, p = q := ⟨p.toNat, by omega⟩
    have gp := E17.2.2.2.2.2.2 q (by omega)
    have gp0 := gp
    unfold SpG at gp0
    have wsp := w1.sp (p := q) (by omega)
    refine aw_aload_n dX10_ahead_23 rfl rfl ?_
    refine aw_getR dX10_ahead_24 rfl fl_X10_16 g0 (by rfl) ?_
    refine aw_aload_n dX10_ahead_27 rfl rfl ?_
    refine aw_getR dX10_ahead_28 rfl fl_X10_12 g0 (by rfl) ?_
    refine aw_callV [_] _ dX10_ahead_31 rfl clv_X10_98 (by decide) ⟨Nat.zero_le _, Nat.zero_le _⟩ g17 (by rfl) (Nat.le_of_ble_eq_true rfl) rfl ?_
    refine sC_copyEv E17 E1 (by omega) wf h (fun m1 f1 v1 => ?_)
    refine aw_aload_n dX10_ahead_34 rfl rfl ?_
    refine aw_getR dX10_ahead_35 rfl fl_X10_16 g0 (by rfl) ?_
    refine aw_iload_n dX10_ahead_38 rfl rfl ?_
    refine aw_callV [_] _ dX10_ahead_39 rfl clv_X10_196 (by decide) ⟨Nat.zero_le _, Nat.zero_le _⟩ g17 (by rfl) (Nat.le_of_ble_eq_true rfl) rfl ?_
    refine sC_passRounds E17 (by omega) wf v1 (fun m2 f2 v2 => ?_)
    refine aw_aload_n dX10_ahead_42 rfl rfl ?_
    refine aw_getR dX10_ahead_43 rfl fl_X10_16 g0 (by rfl) ?_
    refine aw_getR dX10_ahead_46 rfl fl_X10_151 g17 (by rfl) ?_
    refine aw_iload_n dX10_ahead_49 rfl rfl ?_
    refine aw_aaload dX10_ahead_50 rfl g23 six_len (by omega) (six_getN (b := 17) (by omega)) ?_
    refine aw_iload_n dX10_ahead_51 rfl rfl ?_
    refine aw_callV [_] _ dX10_ahead_52 rfl clv_X10_155 (by decide) ⟨Nat.zero_le _, Nat.zero_le _⟩ (by first | assumption | rfl) (by rfl) (Nat.le_of_ble_eq_true rfl) rfl ?_
    refine sC_tell gp hn (v2.2.2.1 q (by omega)) wsp hw ?_
    refine aw_ireturn (ty := .int) dX10_ahead_55 rfl rfl ?_
    by_cases hc9 : 0 ≤ w ∧ w ≤ 9
    · rw [if_pos ⟨hz.1, hz.2, hc9⟩] at k; rw [if_pos hc9]; exact k m2 (f2.tr f1)
    · rw [if_neg (fun z => hc9 z.2.2)] at k; rw [if_neg hc9]; exact k m2 (f2.tr f1)
  refine AMet.of' 0 (ls := [some (vR (0)), some (vI (p)), some (vI (c)), some (vI (w))]) (by decide) rfl (Nat.le_of_ble_eq_true rfl) ?_
  refine aw_aload_n dX10_ahead_0 rfl rfl ?_
  refine aw_getR dX10_ahead_1 rfl fl_X10_12 g0 (by rfl) ?_
  refine aw_iload_n dX10_ahead_4 rfl rfl ?_
  refine aw_callV [_] _ dX10_ahead_5 rfl clv_X10_148 (by decide) ⟨Nat.zero_le _, Nat.zero_le _⟩ g1 (by rfl) (Nat.le_of_ble_eq_true rfl) rfl ?_
  refine sC_hasSpud E1 (by rw [a2]; exact w46) hp (fun c5 => ?_) (fun c5 => ?_)
  · refine aw_if_eq (tgt := 21) dX10_ahead_8 (by decide) rfl (by omega) (fun c => absurd c (by decide)) (fun _ => ?_)
    refine aw_iload_n dX10_ahead_11 rfl rfl ?_
    refine aw_if_lt (tgt := 21) dX10_ahead_12 (by decide) rfl (by omega) (fun c12 => ?_) (fun c12 => ?_)
    · refine aw_iconst dX10_ahead_21 rfl ?_
      refine aw_ireturn (ty := .int) dX10_ahead_22 rfl rfl ?_
      rw [a2] at c5; rw [if_neg (by omega)] at k; exact k _ FrI.rf
    · refine aw_iload_n dX10_ahead_15 rfl rfl ?_
      refine aw_bipush dX10_ahead_16 rfl (by decide) ?_
      refine aw_icmp_le (tgt := 23) dX10_ahead_18 (by decide) rfl (by omega) (by omega) (fun c18 => ?_) (fun c18 => ?_)
      · exact s23 (by rw [a2] at c5; omega)
      · refine aw_iconst dX10_ahead_21 rfl ?_
        refine aw_ireturn (ty := .int) dX10_ahead_22 rfl rfl ?_
        rw [a2] at c5; rw [if_neg (by omega)] at k; exact k _ FrI.rf
  · refine aw_if_eq (tgt := 21) dX10_ahead_8 (by decide) rfl (by omega) (fun _ => ?_) (fun c => absurd c (by decide))
    refine aw_iconst dX10_ahead_21 rfl ?_
    refine aw_ireturn (ty := .int) dX10_ahead_22 rfl rfl ?_
    rw [a2] at c5; rw [if_neg (by omega)] at k; exact k _ FrI.rf
theorem sC_later {x c : Int} (wf : Wf n f) (h : Ev mem 1 n f) (hx : -2147483648 ≤ x ∧ x ≤ 2147483647) (hc : -2147483648 ≤ c ∧ c ≤ 2147483647) (k : ∀ m' : Mem, FrI m' mem 17 33 → Q (some (vI (laterM n f x c))) m') : AMet Γ mX10_later [vR 0, vI x, vI c] zG mem Q := by
  have h0 : mem 2 0 = n := h.1.1
  have hn := wf.1
  unfold laterM at k
  refine AMet.of' 0 (ls := [some (vR (0)), some (vI (x)), some (vI (c))]) (by decide) rfl (Nat.le_of_ble_eq_true rfl) ?_
  refine aw_aload_n dX10_later_0 rfl rfl ?_
  refine aw_getR dX10_later_1 rfl fl_X10_12 g0 (by rfl) ?_
  refine aw_getR dX10_later_4 rfl fl_X10_105 g1 (by rfl) ?_
  refine aw_iload_n dX10_later_7 rfl rfl ?_
  refine aw_callV [_] _ dX10_later_8 rfl clv_X10_132 (by decide) ⟨Nat.zero_le _, Nat.zero_le _⟩ g2 (by rfl) (Nat.le_of_ble_eq_true rfl) rfl ?_
  refine sC_hasPlace E1.2.1 (by rw [h0]; exact hn) hx (fun c8 => ?_) (fun c8 => ?_)
  · refine aw_if_eq (tgt := 24) dX10_later_11 (by decide) rfl (by omega) (fun c => absurd c (by decide)) (fun _ => ?_)
    refine aw_iload_n dX10_later_14 rfl rfl ?_
    refine aw_if_lt (tgt := 24) dX10_later_15 (by decide) rfl (by omega) (fun c15 => ?_) (fun c15 => ?_)
    · refine aw_iconst dX10_later_24 rfl ?_
      refine aw_ireturn (ty := .int) dX10_later_25 rfl rfl ?_
      rw [h0] at c8; rw [if_neg (by omega)] at k; exact k _ FrI.rf
    · refine aw_iload_n dX10_later_18 rfl rfl ?_
      refine aw_bipush dX10_later_19 rfl (by decide) ?_
      refine aw_icmp_le (tgt := 26) dX10_later_21 (by decide) rfl (by omega) (by omega) (fun c21 => ?_) (fun c21 => ?_)
      · rw [h0] at c8
        refine aw_aload_n dX10_later_26 rfl rfl ?_
        refine aw_getR dX10_later_27 rfl fl_X10_16 g0 (by rfl) ?_
        refine aw_aload_n dX10_later_30 rfl rfl ?_
        refine aw_getR dX10_later_31 rfl fl_X10_12 g0 (by rfl) ?_
        refine aw_callV [_] _ dX10_later_34 rfl clv_X10_98 (by decide) ⟨Nat.zero_le _, Nat.zero_le _⟩ g17 (by rfl) (Nat.le_of_ble_eq_true rfl) rfl ?_
        refine sC_copyEv E17 E1 (by omega) wf h (fun m1 f1 v1 => ?_)
        refine aw_aload_n dX10_later_37 rfl rfl ?_
        refine aw_getR dX10_later_38 rfl fl_X10_16 g0 (by rfl) ?_
        refine aw_iload_n dX10_later_41 rfl rfl ?_
        refine aw_callV [_] _ dX10_later_42 rfl clv_X10_196 (by decide) ⟨Nat.zero_le _, Nat.zero_le _⟩ g17 (by rfl) (Nat.le_of_ble_eq_true rfl) rfl ?_
        refine sC_passRounds E17 (by omega) wf v1 (fun m2 f2 v2 => ?_)
        refine aw_aload_n dX10_later_45 rfl rfl ?_
        refine aw_getR dX10_later_46 rfl fl_X10_16 g0 (by rfl) ?_
        refine aw_getR dX10_later_49 rfl fl_X10_105 g17 (by rfl) ?_
        refine aw_getR dX10_later_52 rfl fl_X10_135 g18 (by rfl) ?_
        refine aw_iload_n dX10_later_55 rfl rfl ?_
        refine aw_iaload dX10_later_56 rfl g19 (by decide) (by omega) ?_
        refine aw_ireturn (ty := .int) dX10_later_57 rfl rfl ?_
        have e : m2 19 x = roundsF n c.toNat f x := v2.1.2.2.2.2.1 x (by omega) (by omega)
        rw [if_pos (by omega)] at k
        rw [e]
        exact k m2 (f2.tr f1)
      · refine aw_iconst dX10_later_24 rfl ?_
        refine aw_ireturn (ty := .int) dX10_later_25 rfl rfl ?_
        rw [h0] at c8; rw [if_neg (by omega)] at k; exact k _ FrI.rf
  · refine aw_if_eq (tgt := 24) dX10_later_11 (by decide) rfl (by omega) (fun _ => ?_) (fun c => absurd c (by decide))
    refine aw_iconst dX10_later_24 rfl ?_
    refine aw_ireturn (ty := .int) dX10_later_25 rfl rfl ?_
    rw [h0] at c8; rw [if_neg (by omega)] at k; exact k _ FrI.rf
theorem sC_when {p w : Int} (wf : Wf n f) (h : Ev mem 1 n f) (hp : -2147483648 ≤ p ∧ p ≤ 2147483647) (hw : -2147483648 ≤ w ∧ w ≤ 2147483647) (k : ∀ m' : Mem, FrI m' mem 17 33 → Q (some (vI (whenM n f p w))) m') : AMet Γ mX10_when [vR 0, vI p, vI w] zG mem Q := by
  have a2 : mem 1 2 = f 46 := h.2.1.1
  have w46 := wf.n46
  have hn := wf.1
  unfold whenM at k
  have s22 : (0 ≤ p ∧ p < f 46) ∧ (0 ≤ w ∧ w ≤ 2) → AW Γ mX10_when (zF Γ zG Q) zG 0 0 22 [some (vR 0), some (vI p), some (vI w), none, none, none] [] mem := by
    intro hz
    rw [if_pos hz] at k
    obtain ⟨q, rfl⟩ : ∃ q : Nat, p = q := ⟨p.toNat, by omega⟩
    have gp := E17.2.2.2.2.2.2 q (by omega)
    have gp0 := gp
    unfold SpG at gp0
    have loop : ∀ (d i : Nat) (m : Mem), i + d = 41 → FrI m mem 17 33 → Ev m 17 n (roundsF n i f) → (w = 0 → doneAt n f q i = -4) → (w = 1 → blackAt n f q i = -4) → AW Γ mX10_when (zF Γ zG Q) zG 0 0 49 [some (vR 0), some (vI q), some (vI w), some (vR (17 + 10 + q)), some (vI (goodCnt n f q i)), some (vI i)] [] m := by
      intro d
      induction d with
      | zero =>
        intro i m hi hF hev hd hb
        obtain rfl : i = 41 := by omega
        refine aw_iload dX10_when_49 rfl rfl ?_
        refine aw_bipush dX10_when_51 rfl (by decide) ?_
        refine aw_icmp_gt (tgt := 105) dX10_when_53 (by decide) rfl (by omega) (by omega) (fun c53 => ?_) (fun c53 => ?_)
        · refine aw_iload_n dX10_when_105 rfl rfl ?_
          refine aw_iconst dX10_when_106 rfl ?_
          refine aw_icmp_ne (tgt := 115) dX10_when_107 (by decide) rfl (by omega) (by omega) (fun c107 => ?_) (fun c107 => ?_)
          · refine aw_bipush dX10_when_115 rfl (by decide) ?_
            refine aw_ireturn (ty := .int) dX10_when_117 rfl rfl ?_
            first | (rw [if_neg (by omega), if_neg (by omega)] at k; exact k m hF) | (have hw2 : w = 0 ∨ w = 1 := (by omega); rcases hw2 with e | e; (rw [if_pos e, hd e] at k; exact k m hF); (rw [if_neg (by omega), if_pos e, hb e] at k; exact k m hF))
          · refine aw_iload dX10_when_110 rfl rfl ?_
            refine aw_goto (tgt := 117) dX10_when_112 (by decide) ?_
            refine aw_ireturn (ty := .int) dX10_when_117 rfl rfl ?_
            first | (rw [if_neg (by omega), if_neg (by omega)] at k; exact k m hF) | (have hw2 : w = 0 ∨ w = 1 := (by omega); rcases hw2 with e | e; (rw [if_pos e, hd e] at k; exact k m hF); (rw [if_neg (by omega), if_pos e, hb e] at k; exact k m hF))
        · exfalso; omega
      | succ d ih =>
        intro i m hi hF hev hd hb
        obtain ⟨w1, w2, w3, w4⟩ := roundsF_Wf i f wf
        have hsp := hev.2.2.1 q (by omega)
        have wsp := w1.sp (p := q) (by omega)
        have hsc := hsp.c hn wsp
        have st := @doneAt_stay n f q (i + 1)
        have sb := @blackAt_stay n f q (i + 1)
        have nx : ∀ (g : Int), g = goodCnt n f q (i + 1) → (w = 0 → ¬ isDoneF (roundsF n i f) q) → (w = 1 → ¬ isBlackF (roundsF n i f) q) → AW Γ mX10_when (zF Γ zG Q) zG 0 0 92 [some (vR 0), some (vI q), some (vI w), some (vR (17 + 10 + q)), some (vI g), some (vI i)] [] m := by
          intro g hg nd nb
          subst hg
          have ihn := fun m1 f1 v1 => ih (i + 1) m1 (by omega) f1 v1 (fun e => by rw [← doneAt_n2 (nd e)]; exact hd e) (fun e => by rw [← blackAt_n2 (nb e)]; exact hb e)
          refine aw_aload_n dX10_when_92 rfl rfl ?_
          refine aw_getR dX10_when_93 rfl fl_X10_16 g0 (by rfl) ?_
          refine aw_callV [] _ dX10_when_96 rfl clv_X10_213 (by decide) ⟨Nat.zero_le _, Nat.zero_le _⟩ g17 (by rfl) (Nat.le_of_ble_eq_true rfl) rfl ?_
          refine sC_passRound E17 w1 hev (fun m1 f1 v1 => ?_)
          refine aw_iinc5 rfl dX10_when_99 rfl (by decide) ?_
          refine aw_goto (tgt := 49) dX10_when_102 (by decide) ?_
          exact ihn m1 (f1.tr hF) (by rw [roundsF_s]; exact v1)
        have s82 : (w = 0 → ¬ isDoneF (roundsF n i f) q) → (w = 1 → ¬ isBlackF (roundsF n i f) q) → AW Γ mX10_when (zF Γ zG Q) zG 0 0 82 [some (vR 0), some (vI q), some (vI w), some (vR (17 + 10 + q)), some (vI (goodCnt n f q i)), some (vI i)] [] m := by
          intro nd nb
          refine aw_aload_n dX10_when_82 rfl rfl ?_
          refine aw_callV [] _ dX10_when_83 rfl clv_X10_210 (by decide) ⟨Nat.zero_le _, Nat.zero_le _⟩ (by first | assumption | rfl) (by rfl) (Nat.le_of_ble_eq_true rfl) rfl ?_
          refine sC_isGood gp hsc (fun c83 => ?_) (fun c83 => ?_)
          · refine aw_if_eq (tgt := 92) dX10_when_86 (by decide) rfl (by omega) (fun c => absurd c (by decide)) (fun _ => ?_)
            refine aw_iinc4 rfl dX10_when_89 rfl (by decide) ?_
            first | exact nx _ (by rw [goodCnt, if_pos ((hsp.gd wsp).mp c83)]) nd nb | exact nx _ (by rw [goodCnt, if_neg (fun z => c83 ((hsp.gd wsp).mpr z)), Int.add_zero]) nd nb
          · refine aw_if_eq (tgt := 92) dX10_when_86 (by decide) rfl (by omega) (fun _ => ?_) (fun c => absurd c (by decide))
            first | exact nx _ (by rw [goodCnt, if_pos ((hsp.gd wsp).mp c83)]) nd nb | exact nx _ (by rw [goodCnt, if_neg (fun z => c83 ((hsp.gd wsp).mpr z)), Int.add_zero]) nd nb
        have s79 : (w = 0 ∧ isDoneF (roundsF n i f) q) ∨ (w = 1 ∧ isBlackF (roundsF n i f) q) → Q (some (vI i)) m := by
          intro hz2
          rcases hz2 with ⟨e, hdn⟩ | ⟨e, hbl⟩
          · have y := doneAt_y (hd e) hdn
            have e41 : doneAt n f q 41 = i := by
              have := st (by omega) d
              rw [show i + 1 + d = 41 by omega] at this
              omega
            rw [if_pos e, e41] at k
            exact k m hF
          · have y := blackAt_y (hb e) hbl
            have e41 : blackAt n f q 41 = i := by
              have := sb (by omega) d
              rw [show i + 1 + d = 41 by omega] at this
              omega
            rw [if_neg (by omega), if_pos e, e41] at k
            exact k m hF
        refine aw_iload dX10_when_49 rfl rfl ?_
        refine aw_bipush dX10_when_51 rfl (by decide) ?_
        refine aw_icmp_gt (tgt := 105) dX10_when_53 (by decide) rfl (by omega) (by omega) (fun c53 => ?_) (fun c53 => ?_)
        · exfalso; omega
        · refine aw_iload_n dX10_when_56 rfl rfl ?_
          refine aw_if_ne (tgt := 67) dX10_when_57 (by decide) rfl (by omega) (fun c57 => ?_) (fun c57 => ?_)
          · refine aw_iload_n dX10_when_67 rfl rfl ?_
            refine aw_iconst dX10_when_68 rfl ?_
            refine aw_icmp_ne (tgt := 82) dX10_when_69 (by decide) rfl (by omega) (by omega) (fun c69 => ?_) (fun c69 => ?_)
            · first | exact s82 (fun e => by omega) (fun e => by omega) | exact s82 (fun e z => c61 (hsp.dn.mpr z)) (fun e => by omega) | exact s82 (fun e => by omega) (fun e z => c73 ((hsp.bl wsp).mpr z))
            · refine aw_aload_n dX10_when_72 rfl rfl ?_
              refine aw_callV [] _ dX10_when_73 rfl clv_X10_207 (by decide) ⟨Nat.zero_le _, Nat.zero_le _⟩ (by first | assumption | rfl) (by rfl) (Nat.le_of_ble_eq_true rfl) rfl ?_
              refine sC_isBlack gp hsc (fun c73 => ?_) (fun c73 => ?_)
              · refine aw_if_eq (tgt := 82) dX10_when_76 (by decide) rfl (by omega) (fun c => absurd c (by decide)) (fun _ => ?_)
                refine aw_iload dX10_when_79 rfl rfl ?_
                refine aw_ireturn (ty := .int) dX10_when_81 rfl rfl ?_
                first | exact s79 (Or.inl ⟨by omega, hsp.dn.mp c61⟩) | exact s79 (Or.inr ⟨by omega, (hsp.bl wsp).mp c73⟩)
              · refine aw_if_eq (tgt := 82) dX10_when_76 (by decide) rfl (by omega) (fun _ => ?_) (fun c => absurd c (by decide))
                first | exact s82 (fun e => by omega) (fun e => by omega) | exact s82 (fun e z => c61 (hsp.dn.mpr z)) (fun e => by omega) | exact s82 (fun e => by omega) (fun e z => c73 ((hsp.bl wsp).mpr z))
          · refine aw_aload_n dX10_when_60 rfl rfl ?_
            refine aw_callV [] _ dX10_when_61 rfl clv_X10_203 (by decide) ⟨Nat.zero_le _, Nat.zero_le _⟩ (by first | assumption | rfl) (by rfl) (Nat.le_of_ble_eq_true rfl) rfl ?_
            refine sC_isDone gp hsc (fun c61 => ?_) (fun c61 => ?_)
            · refine aw_if_ne (tgt := 79) dX10_when_64 (by decide) rfl (by omega) (fun _ => ?_) (fun c => absurd c (by decide))
              refine aw_iload dX10_when_79 rfl rfl ?_
              refine aw_ireturn (ty := .int) dX10_when_81 rfl rfl ?_
              first | exact s79 (Or.inl ⟨by omega, hsp.dn.mp c61⟩) | exact s79 (Or.inr ⟨by omega, (hsp.bl wsp).mp c73⟩)
            · refine aw_if_ne (tgt := 79) dX10_when_64 (by decide) rfl (by omega) (fun c => absurd c (by decide)) (fun _ => ?_)
              refine aw_iload_n dX10_when_67 rfl rfl ?_
              refine aw_iconst dX10_when_68 rfl ?_
              refine aw_icmp_ne (tgt := 82) dX10_when_69 (by decide) rfl (by omega) (by omega) (fun c69 => ?_) (fun c69 => ?_)
              · first | exact s82 (fun e => by omega) (fun e => by omega) | exact s82 (fun e z => c61 (hsp.dn.mpr z)) (fun e => by omega) | exact s82 (fun e => by omega) (fun e z => c73 ((hsp.bl wsp).mpr z))
              · refine aw_aload_n dX10_when_72 rfl rfl ?_
                refine aw_callV [] _ dX10_when_73 rfl clv_X10_207 (by decide) ⟨Nat.zero_le _, Nat.zero_le _⟩ (by first | assumption | rfl) (by rfl) (Nat.le_of_ble_eq_true rfl) rfl ?_
                refine sC_isBlack gp hsc (fun c73 => ?_) (fun c73 => ?_)
                · refine aw_if_eq (tgt := 82) dX10_when_76 (by decide) rfl (by omega) (fun c => absurd c (by decide)) (fun _ => ?_)
                  refine aw_iload dX10_when_79 rfl rfl ?_
                  refine aw_ireturn (ty := .int) dX10_when_81 rfl rfl ?_
                  first | exact s79 (Or.inl ⟨by omega, hsp.dn.mp c61⟩) | exact s79 (Or.inr ⟨by omega, (hsp.bl wsp).mp c73⟩)
                · refine aw_if_eq (tgt := 82) dX10_when_76 (by decide) rfl (by omega) (fun _ => ?_) (fun c => absurd c (by decide))
                  first | exact s82 (fun e => by omega) (fun e => by omega) | exact s82 (fun e z => c61 (hsp.dn.mpr z)) (fun e => by omega) | exact s82 (fun e => by omega) (fun e z => c73 ((hsp.bl wsp).mpr z))
    refine aw_aload_n dX10_when_22 rfl rfl ?_
    refine aw_getR dX10_when_23 rfl fl_X10_16 g0 (by rfl) ?_
    refine aw_aload_n dX10_when_26 rfl rfl ?_
    refine aw_getR dX10_when_27 rfl fl_X10_12 g0 (by rfl) ?_
    refine aw_callV [_] _ dX10_when_30 rfl clv_X10_98 (by decide) ⟨Nat.zero_le _, Nat.zero_le _⟩ g17 (by rfl) (Nat.le_of_ble_eq_true rfl) rfl ?_
    refine sC_copyEv E17 E1 (by omega) wf h (fun m1 f1 v1 => ?_)
    refine aw_aload_n dX10_when_33 rfl rfl ?_
    refine aw_getR dX10_when_34 rfl fl_X10_16 g0 (by rfl) ?_
    refine aw_getR dX10_when_37 rfl fl_X10_151 g17 (by rfl) ?_
    refine aw_iload_n dX10_when_40 rfl rfl ?_
    refine aw_aaload dX10_when_41 rfl g23 six_len (by omega) (six_getN (b := 17) (by omega)) ?_
    refine aw_astore3 rfl dX10_when_42 rfl (by decide) ?_
    refine aw_iconst dX10_when_43 rfl ?_
    refine aw_istore4 rfl dX10_when_44 rfl (by decide) ?_
    refine aw_iconst dX10_when_46 rfl ?_
    refine aw_istore5 rfl dX10_when_47 rfl (by decide) ?_
    exact loop 41 0 m1 (by omega) f1 v1 (fun _ => rfl) (fun _ => rfl)
  refine AMet.of' 3 (ls := [some (vR (0)), some (vI (p)), some (vI (w)), none, none, none]) (by decide) rfl (Nat.le_of_ble_eq_true rfl) ?_
  refine aw_aload_n dX10_when_0 rfl rfl ?_
  refine aw_getR dX10_when_1 rfl fl_X10_12 g0 (by rfl) ?_
  refine aw_iload_n dX10_when_4 rfl rfl ?_
  refine aw_callV [_] _ dX10_when_5 rfl clv_X10_148 (by decide) ⟨Nat.zero_le _, Nat.zero_le _⟩ g1 (by rfl) (Nat.le_of_ble_eq_true rfl) rfl ?_
  refine sC_hasSpud E1 (by rw [a2]; exact w46) hp (fun c5 => ?_) (fun c5 => ?_)
  · refine aw_if_eq (tgt := 20) dX10_when_8 (by decide) rfl (by omega) (fun c => absurd c (by decide)) (fun _ => ?_)
    refine aw_iload_n dX10_when_11 rfl rfl ?_
    refine aw_if_lt (tgt := 20) dX10_when_12 (by decide) rfl (by omega) (fun c12 => ?_) (fun c12 => ?_)
    · refine aw_iconst dX10_when_20 rfl ?_
      refine aw_ireturn (ty := .int) dX10_when_21 rfl rfl ?_
      rw [a2] at c5; rw [if_neg (by omega)] at k; exact k _ FrI.rf
    · refine aw_iload_n dX10_when_15 rfl rfl ?_
      refine aw_iconst dX10_when_16 rfl ?_
      refine aw_icmp_le (tgt := 22) dX10_when_17 (by decide) rfl (by omega) (by omega) (fun c17 => ?_) (fun c17 => ?_)
      · exact s22 (by rw [a2] at c5; omega)
      · refine aw_iconst dX10_when_20 rfl ?_
        refine aw_ireturn (ty := .int) dX10_when_21 rfl rfl ?_
        rw [a2] at c5; rw [if_neg (by omega)] at k; exact k _ FrI.rf
  · refine aw_if_eq (tgt := 20) dX10_when_8 (by decide) rfl (by omega) (fun _ => ?_) (fun c => absurd c (by decide))
    refine aw_iconst dX10_when_20 rfl ?_
    refine aw_ireturn (ty := .int) dX10_when_21 rfl rfl ?_
    rw [a2] at c5; rw [if_neg (by omega)] at k; exact k _ FrI.rf
theorem sC_best {w : Int} (wf : Wf n f) (h : Ev mem 1 n f) (hw : -2147483648 ≤ w ∧ w ≤ 2147483647) (k : ∀ m' : Mem, FrI m' mem 17 33 → Q (some (vI (bestM n f w))) m') : AMet Γ mX10_best [vR 0, vI w] zG mem Q := by
  have w46 := wf.n46
  unfold bestM at k
  have loop : (0 ≤ w ∧ w ≤ 1) → ∀ (d i : Nat) (m : Mem) (br mo : Int) (x5 : Option AV), i + d = 21 → FrI m mem 17 33 → Ev m 17 n (roundsF n i f) → ((i = 0 ∧ br = 0 ∧ mo = 0) ∨ (0 < i ∧ br = (bestAt n f i).1 ∧ mo = (bestAt n f i).2 ∧ 0 ≤ mo)) → AW Γ mX10_best (zF Γ zG Q) zG 0 0 29 [some (vR 0), some (vI w), some (vI br), some (vI mo), some (vI i), x5] [] m := by
    intro hw1 d
    rw [if_pos hw1] at k
    induction d with
    | zero =>
      intro i m br mo x5 hi hF hev hr
      obtain rfl : i = 21 := by omega
      rcases hr with ⟨z, -⟩ | ⟨-, eb, em, -⟩
      · omega
      · skip
        refine aw_iload dX10_best_29 rfl rfl ?_
        refine aw_bipush dX10_best_31 rfl (by decide) ?_
        refine aw_icmp_gt (tgt := 71) dX10_best_33 (by decide) rfl (by omega) (by omega) (fun c33 => ?_) (fun c33 => ?_)
        · refine aw_iload_n dX10_best_71 rfl rfl ?_
          refine aw_if_ne (tgt := 79) dX10_best_72 (by decide) rfl (by omega) (fun c72 => ?_) (fun c72 => ?_)
          · refine aw_iload_n dX10_best_79 rfl rfl ?_
            refine aw_ireturn (ty := .int) dX10_best_80 rfl rfl ?_
            first | (rw [if_pos (by omega)] at k; rw [eb]; exact k m hF) | (rw [if_neg (by omega)] at k; rw [em]; exact k m hF)
          · refine aw_iload_n dX10_best_75 rfl rfl ?_
            refine aw_goto (tgt := 80) dX10_best_76 (by decide) ?_
            refine aw_ireturn (ty := .int) dX10_best_80 rfl rfl ?_
            first | (rw [if_pos (by omega)] at k; rw [eb]; exact k m hF) | (rw [if_neg (by omega)] at k; rw [em]; exact k m hF)
        · exfalso; omega
    | succ d ih =>
      intro i m br mo x5 hi hF hev hr
      obtain ⟨w1, w2, w3, w4⟩ := roundsF_Wf i f wf
      have gr := goodTo_rng (roundsF n i f) (f 46).toNat
      have br2 := bestAt_rng n f w46 i
      have hmo : 0 ≤ mo ∧ mo ≤ 6 := by rcases hr with ⟨_, _, e⟩ | ⟨_, _, e, e2⟩ <;> omega
      have nb : bestAt n f (i + 1) = if (bestAt n f i).2 < goodTo (f 46).toNat (roundsF n i f) then ((i : Int), goodTo (f 46).toNat (roundsF n i f)) else bestAt n f i := rfl
      have nx : ∀ (br' mo' : Int) (x5' : Option AV), br' = (bestAt n f (i + 1)).1 → mo' = (bestAt n f (i + 1)).2 → 0 ≤ mo' → AW Γ mX10_best (zF Γ zG Q) zG 0 0 58 [some (vR 0), some (vI w), some (vI br'), some (vI mo'), some (vI i), x5'] [] m := by
        intro br' mo' x5' e1 e2 e3
        refine aw_aload_n dX10_best_58 rfl rfl ?_
        refine aw_getR dX10_best_59 rfl fl_X10_16 g0 (by rfl) ?_
        refine aw_callV [] _ dX10_best_62 rfl clv_X10_213 (by decide) ⟨Nat.zero_le _, Nat.zero_le _⟩ g17 (by rfl) (Nat.le_of_ble_eq_true rfl) rfl ?_
        refine sC_passRound E17 w1 hev (fun m1 f1 v1 => ?_)
        refine aw_iinc4 rfl dX10_best_65 rfl (by decide) ?_
        refine aw_goto (tgt := 29) dX10_best_68 (by decide) ?_
        exact ih (i + 1) m1 br' mo' _ (by omega) (f1.tr hF) (by rw [roundsF_s]; exact v1) (Or.inr ⟨by omega, e1, e2, e3⟩)
      have up : mo < goodTo (f 46).toNat (roundsF n i f) → (i : Int) = (bestAt n f (i + 1)).1 ∧ goodTo (f 46).toNat (roundsF n i f) = (bestAt n f (i + 1)).2 := by
        intro hlt
        have hc : (bestAt n f i).2 < goodTo (f 46).toNat (roundsF n i f) := by
          rcases hr with ⟨e0, _, _⟩ | ⟨_, _, e, _⟩
          · subst e0
            have : (bestAt n f 0).2 = -1 := rfl
            omega
          · omega
        rw [nb, if_pos hc]
        exact ⟨rfl, rfl⟩
      have dn : ¬ mo < goodTo (f 46).toNat (roundsF n i f) → br = (bestAt n f (i + 1)).1 ∧ mo = (bestAt n f (i + 1)).2 := by
        intro hlt
        rcases hr with ⟨e0, eb, em⟩ | ⟨_, eb, em, _⟩
        · subst e0
          have h1 : (bestAt n f 0).2 = -1 := rfl
          rw [nb, if_pos (by omega)]
          exact ⟨eb, by show mo = goodTo _ _; omega⟩
        · rw [nb, if_neg (by omega)]
          exact ⟨eb, em⟩
      refine aw_iload dX10_best_29 rfl rfl ?_
      refine aw_bipush dX10_best_31 rfl (by decide) ?_
      refine aw_icmp_gt (tgt := 71) dX10_best_33 (by decide) rfl (by omega) (by omega) (fun c33 => ?_) (fun c33 => ?_)
      · exfalso; omega
      · refine aw_aload_n dX10_best_36 rfl rfl ?_
        refine aw_getR dX10_best_37 rfl fl_X10_16 g0 (by rfl) ?_
        refine aw_iconst dX10_best_40 rfl ?_
        refine aw_callV [_] _ dX10_best_41 rfl clv_X10_200 (by decide) ⟨Nat.zero_le _, Nat.zero_le _⟩ g17 (by rfl) (Nat.le_of_ble_eq_true rfl) rfl ?_
        refine sC_tally E17 (by omega) w1 hev ?_
        rw [cnt_good, w2]
        refine aw_istore5 rfl dX10_best_44 rfl (by decide) ?_
        refine aw_iload dX10_best_46 rfl rfl ?_
        refine aw_iload_n dX10_best_48 rfl rfl ?_
        refine aw_icmp_le (tgt := 58) dX10_best_49 (by decide) rfl (by omega) (by omega) (fun c49 => ?_) (fun c49 => ?_)
        · first | (have hz := up (by omega); exact nx _ _ _ hz.1 hz.2 (by omega)) | (have hz := dn (by omega); exact nx _ _ _ hz.1 hz.2 (by omega))
        · refine aw_iload dX10_best_52 rfl rfl ?_
          refine aw_istore3 rfl dX10_best_54 rfl (by decide) ?_
          refine aw_iload dX10_best_55 rfl rfl ?_
          refine aw_istore2 rfl dX10_best_57 rfl (by decide) ?_
          first | (have hz := up (by omega); exact nx _ _ _ hz.1 hz.2 (by omega)) | (have hz := dn (by omega); exact nx _ _ _ hz.1 hz.2 (by omega))
  refine AMet.of' 4 (ls := [some (vR (0)), some (vI (w)), none, none, none, none]) (by decide) rfl (Nat.le_of_ble_eq_true rfl) ?_
  refine aw_iload_n dX10_best_0 rfl rfl ?_
  refine aw_if_lt (tgt := 9) dX10_best_1 (by decide) rfl (by omega) (fun c1 => ?_) (fun c1 => ?_)
  · refine aw_iconst dX10_best_9 rfl ?_
    refine aw_ireturn (ty := .int) dX10_best_10 rfl rfl ?_
    rw [if_neg (by omega)] at k; exact k _ FrI.rf
  · refine aw_iload_n dX10_best_4 rfl rfl ?_
    refine aw_iconst dX10_best_5 rfl ?_
    refine aw_icmp_le (tgt := 11) dX10_best_6 (by decide) rfl (by omega) (by omega) (fun c6 => ?_) (fun c6 => ?_)
    · refine aw_aload_n dX10_best_11 rfl rfl ?_
      refine aw_getR dX10_best_12 rfl fl_X10_16 g0 (by rfl) ?_
      refine aw_aload_n dX10_best_15 rfl rfl ?_
      refine aw_getR dX10_best_16 rfl fl_X10_12 g0 (by rfl) ?_
      refine aw_callV [_] _ dX10_best_19 rfl clv_X10_98 (by decide) ⟨Nat.zero_le _, Nat.zero_le _⟩ g17 (by rfl) (Nat.le_of_ble_eq_true rfl) rfl ?_
      refine sC_copyEv E17 E1 (by omega) wf h (fun m1 f1 v1 => ?_)
      refine aw_iconst dX10_best_22 rfl ?_
      refine aw_istore2 rfl dX10_best_23 rfl (by decide) ?_
      refine aw_iconst dX10_best_24 rfl ?_
      refine aw_istore3 rfl dX10_best_25 rfl (by decide) ?_
      refine aw_iconst dX10_best_26 rfl ?_
      refine aw_istore4 rfl dX10_best_27 rfl (by decide) ?_
      exact loop (by omega) 21 0 m1 0 0 none (by omega) f1 v1 (Or.inl ⟨rfl, rfl, rfl⟩)
    · refine aw_iconst dX10_best_9 rfl ?_
      refine aw_ireturn (ty := .int) dX10_best_10 rfl rfl ?_
      rw [if_neg (by omega)] at k; exact k _ FrI.rf
theorem sC_feel {c x v : Int} (wf : Wf n f) (h : Ev mem 1 n f) (hc : -2147483648 ≤ c ∧ c ≤ 2147483647) (hx : -2147483648 ≤ x ∧ x ≤ 2147483647) (hv : -2147483648 ≤ v ∧ v ≤ 2147483647) (k : ∀ m' : Mem, FrI m' mem 1 17 → Ev m' 1 n (feelM n f c x v).2 → Q (some (vI (feelM n f c x v).1)) m') : AMet Γ mX10_feel [vR 0, vI c, vI x, vI v] zG mem Q := by
  have h0 : mem 2 0 = n := h.1.1
  have hn := wf.1
  unfold feelM at k
  refine AMet.of' 0 (ls := [some (vR (0)), some (vI (c)), some (vI (x)), some (vI (v))]) (by decide) rfl (Nat.le_of_ble_eq_true rfl) ?_
  refine aw_iload_n dX10_feel_0 rfl rfl ?_
  refine aw_if_lt (tgt := 31) dX10_feel_1 (by decide) rfl (by omega) (fun c1 => ?_) (fun c1 => ?_)
  · refine aw_iconst dX10_feel_31 rfl ?_
    refine aw_ireturn (ty := .int) dX10_feel_32 rfl rfl ?_
    first | (rw [if_neg (by omega)] at k; exact k _ FrI.rf h) | (rw [if_neg (fun z => c25 z.2.2)] at k; exact k _ FrI.rf h) | (rw [h0] at c18; rw [if_neg (fun z => c18 z.2.1)] at k; exact k _ FrI.rf h)
  · refine aw_iload_n dX10_feel_4 rfl rfl ?_
    refine aw_bipush dX10_feel_5 rfl (by decide) ?_
    refine aw_icmp_gt (tgt := 31) dX10_feel_7 (by decide) rfl (by omega) (by omega) (fun c7 => ?_) (fun c7 => ?_)
    · refine aw_iconst dX10_feel_31 rfl ?_
      refine aw_ireturn (ty := .int) dX10_feel_32 rfl rfl ?_
      first | (rw [if_neg (by omega)] at k; exact k _ FrI.rf h) | (rw [if_neg (fun z => c25 z.2.2)] at k; exact k _ FrI.rf h) | (rw [h0] at c18; rw [if_neg (fun z => c18 z.2.1)] at k; exact k _ FrI.rf h)
    · refine aw_aload_n dX10_feel_10 rfl rfl ?_
      refine aw_getR dX10_feel_11 rfl fl_X10_12 g0 (by rfl) ?_
      refine aw_getR dX10_feel_14 rfl fl_X10_105 g1 (by rfl) ?_
      refine aw_iload_n dX10_feel_17 rfl rfl ?_
      refine aw_callV [_] _ dX10_feel_18 rfl clv_X10_132 (by decide) ⟨Nat.zero_le _, Nat.zero_le _⟩ g2 (by rfl) (Nat.le_of_ble_eq_true rfl) rfl ?_
      refine sC_hasPlace E1.2.1 (by rw [h0]; exact hn) hx (fun c18 => ?_) (fun c18 => ?_)
      · refine aw_if_eq (tgt := 31) dX10_feel_21 (by decide) rfl (by omega) (fun c => absurd c (by decide)) (fun _ => ?_)
        refine aw_iload_n dX10_feel_24 rfl rfl ?_
        refine aw_callS [_] _ dX10_feel_25 rfl cls_X10_161 (by decide) ⟨Nat.zero_le _, Nat.zero_le _⟩ (Nat.le_of_ble_eq_true rfl) rfl ?_
        refine sC_isHeat hv (fun c25 => ?_) (fun c25 => ?_)
        · refine aw_if_ne (tgt := 33) dX10_feel_28 (by decide) rfl (by omega) (fun _ => ?_) (fun c => absurd c (by decide))
          rw [h0] at c18
          rw [if_pos ⟨by omega, c18, c25⟩] at k
          refine aw_aload_n dX10_feel_33 rfl rfl ?_
          refine aw_getR dX10_feel_34 rfl fl_X10_12 g0 (by rfl) ?_
          refine aw_iload_n dX10_feel_37 rfl rfl ?_
          refine aw_iload_n dX10_feel_38 rfl rfl ?_
          refine aw_iload_n dX10_feel_39 rfl rfl ?_
          refine aw_callV [_, _, _] _ dX10_feel_40 rfl clv_X10_268 (by decide) ⟨Nat.zero_le _, Nat.zero_le _⟩ g1 (by rfl) (Nat.le_of_ble_eq_true rfl) rfl ?_
          refine sC_noteFelt E1 wf h (fun h6 => ?_) (fun m1 h6 f1 v1 => ?_)
          · refine aw_if_eq (tgt := 56) dX10_feel_43 (by decide) rfl (by omega) (fun _ => ?_) (fun c => absurd c (by decide))
            rw [if_pos h6] at k
            refine aw_bipush dX10_feel_56 rfl (by decide) ?_
            refine aw_ireturn (ty := .int) dX10_feel_58 rfl rfl ?_
            first | exact k _ FrI.rf h | (rw [e2]; exact k m1 f1 v1)
          · refine aw_if_eq (tgt := 56) dX10_feel_43 (by decide) rfl (by omega) (fun c => absurd c (by decide)) (fun _ => ?_)
            rw [if_neg h6] at k
            have e2 : m1 1 5 = f 96 + 1 := by have e3 := v1.2.1.2.2.2; rw [e3]; unfold feelF; rw [fset_same]
            refine aw_aload_n dX10_feel_46 rfl rfl ?_
            refine aw_getR dX10_feel_47 rfl fl_X10_12 g0 (by rfl) ?_
            refine aw_getI (kI := 5) dX10_feel_50 rfl fl_X10_271 g1 (by rfl) rfl ?_
            refine aw_goto (tgt := 58) dX10_feel_53 (by decide) ?_
            refine aw_ireturn (ty := .int) dX10_feel_58 rfl rfl ?_
            first | exact k _ FrI.rf h | (rw [e2]; exact k m1 f1 v1)
        · refine aw_if_ne (tgt := 33) dX10_feel_28 (by decide) rfl (by omega) (fun c => absurd c (by decide)) (fun _ => ?_)
          refine aw_iconst dX10_feel_31 rfl ?_
          refine aw_ireturn (ty := .int) dX10_feel_32 rfl rfl ?_
          first | (rw [if_neg (by omega)] at k; exact k _ FrI.rf h) | (rw [if_neg (fun z => c25 z.2.2)] at k; exact k _ FrI.rf h) | (rw [h0] at c18; rw [if_neg (fun z => c18 z.2.1)] at k; exact k _ FrI.rf h)
      · refine aw_if_eq (tgt := 31) dX10_feel_21 (by decide) rfl (by omega) (fun _ => ?_) (fun c => absurd c (by decide))
        refine aw_iconst dX10_feel_31 rfl ?_
        refine aw_ireturn (ty := .int) dX10_feel_32 rfl rfl ?_
        first | (rw [if_neg (by omega)] at k; exact k _ FrI.rf h) | (rw [if_neg (fun z => c25 z.2.2)] at k; exact k _ FrI.rf h) | (rw [h0] at c18; rw [if_neg (fun z => c18 z.2.1)] at k; exact k _ FrI.rf h)
theorem sC_forget {c : Int} (wf : Wf n f) (h : Ev mem 1 n f) (hc : -2147483648 ≤ c ∧ c ≤ 2147483647) (k : ∀ m' : Mem, FrI m' mem 1 17 → Ev m' 1 n (forgetM f c).2 → Q (some (vI (forgetM f c).1)) m') : AMet Γ mX10_forget [vR 0, vI c] zG mem Q := by
  have a5 : mem 1 5 = f 96 := h.2.1.2.2.2
  have w96 := wf.2.2.2.2.2.2.2.2.2.1
  unfold forgetM at k
  refine AMet.of' 1 (ls := [some (vR (0)), some (vI (c)), none]) (by decide) rfl (Nat.le_of_ble_eq_true rfl) ?_
  refine aw_iload_n dX10_forget_0 rfl rfl ?_
  refine aw_if_lt (tgt := 15) dX10_forget_1 (by decide) rfl (by omega) (fun c1 => ?_) (fun c1 => ?_)
  · refine aw_iconst dX10_forget_15 rfl ?_
    refine aw_ireturn (ty := .int) dX10_forget_16 rfl rfl ?_
    rw [if_neg (by omega)] at k; exact k _ FrI.rf h
  · refine aw_iload_n dX10_forget_4 rfl rfl ?_
    refine aw_aload_n dX10_forget_5 rfl rfl ?_
    refine aw_getR dX10_forget_6 rfl fl_X10_12 g0 (by rfl) ?_
    refine aw_getI (kI := 5) dX10_forget_9 rfl fl_X10_271 g1 (by rfl) rfl ?_
    rw [a5]
    refine aw_icmp_le (tgt := 17) dX10_forget_12 (by decide) rfl (by omega) (by omega) (fun c12 => ?_) (fun c12 => ?_)
    · refine aw_aload_n dX10_forget_17 rfl rfl ?_
      refine aw_getR dX10_forget_18 rfl fl_X10_12 g0 (by rfl) ?_
      refine aw_getI (kI := 5) dX10_forget_21 rfl fl_X10_271 g1 (by rfl) rfl ?_
      rw [a5]
      refine aw_istore2 rfl dX10_forget_24 rfl (by decide) ?_
      refine aw_aload_n dX10_forget_25 rfl rfl ?_
      refine aw_getR dX10_forget_26 rfl fl_X10_12 g0 (by rfl) ?_
      refine aw_iload_n dX10_forget_29 rfl rfl ?_
      refine aw_putI (kI := 5) dX10_forget_30 rfl fp_X10_271 g1 (by rfl) rfl ?_
      refine aw_iload_n dX10_forget_33 rfl rfl ?_
      refine aw_ireturn (ty := .int) dX10_forget_34 rfl rfl ?_
      rw [if_pos (by omega)] at k
      rw [mset_eq]
      refine k _ (FrI.rf.cell (by decide)) ?_
      obtain ⟨b2, b3, b4, b5⟩ := h.2.1
      refine h.fld wf (fun j j1 j2 j3 j4 => by dsimp only; rw [fset_ne j4]) ⟨?_, ?_, ?_, ?_⟩ (by dsimp only; rw [fset_ne (by decide)]; omega) (by dsimp only; rw [fset_same]; omega)
      · rw [fset_ne (by decide)]; dsimp only; rw [fset_ne (by decide)]; exact b2
      · rw [fset_ne (by decide)]; dsimp only; rw [fset_ne (by decide)]; exact b3
      · rw [fset_ne (by decide)]; dsimp only; rw [fset_ne (by decide)]; exact b4
      · rw [fset_same]; dsimp only; rw [fset_same]
    · refine aw_iconst dX10_forget_15 rfl ?_
      refine aw_ireturn (ty := .int) dX10_forget_16 rfl rfl ?_
      rw [if_neg (by omega)] at k; exact k _ FrI.rf h
end ZCmp8
