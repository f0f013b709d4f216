def doneTo : Nat → (Int → Int) → Int
  | 0, _ => 0
  | p + 1, f => doneTo p f + (if isDoneF f p then 1 else 0)
def outTo : Nat → (Int → Int) → Int
  | 0, _ => 0
  | p + 1, f => outTo p f + (if f (47 + 8 * (p : Int) + 2) = -4 then 1 else 0)
def heatTo : Nat → (Int → Int) → Int
  | 0, _ => 0
  | x + 1, f => heatTo x f + f x
/-- why a pair can't be read: lane asked, the sheet's lane and size, the first cell -/
def reasonF (lane lk sz c : Int) : Int := if lk = -4 then 1 else if ¬ lk = lane then 3 else if 0 ≤ c ∧ c + 1 < sz then 0 else 2
def readGo (lane lk sz : Int) (cl : Int → Int) (f0 had : Int) : Nat → Int → (Int → Int) → Int × Option Int × (Int → Int)
  | 0, i, g => (i, some 0, g)
  | d + 1, i, g => if ¬ reasonF lane lk sz (f0 + 2 * i) = 0 then (i, some (reasonF lane lk sz (f0 + 2 * i)), g)
      else if (addM g (cl (f0 + 2 * i)) (cl (f0 + 2 * i + 1))).1 < 0 then (-20 - i, none, fset (addM g (cl (f0 + 2 * i)) (cl (f0 + 2 * i + 1))).2 46 had)
      else readGo lane lk sz cl f0 had d (i + 1) (addM g (cl (f0 + 2 * i)) (cl (f0 + 2 * i + 1))).2
section ZRef6
variable {Γ : ZG} {mem : Mem} {Q : Option AV → Mem → Prop}
theorem fcopy_step2 {f : Int → Int} {sp dp i : Int} (h : 0 ≤ i) (hd : sp + i < dp ∨ dp + i ≤ sp + i - 0 ∧ dp + 115 ≤ sp) : fset (fcopy f f sp dp i) (dp + i) (f (sp + i)) = fcopy f f sp dp (i + 1) := by
  funext j
  unfold fset fcopy
  by_cases ej : j = dp + i
  · subst ej
    rw [if_pos rfl, if_pos (by omega), show sp + (dp + i - dp) = sp + i by omega]
  · rw [if_neg ej]
    try dsimp only
    by_cases c : dp ≤ j ∧ j < dp + i
    · rw [if_pos c, if_pos (by omega)]
    · rw [if_neg c, if_neg (by omega)]
theorem sR_copies {to of : Int} (hto : 0 ≤ to ∧ to ≤ 230) (hof : 0 ≤ of ∧ of ≤ 230) (hd : of + 115 ≤ to ∨ to + 115 ≤ of) (k : Q none (mcell mem 110 (fcopy (mem 110) (mem 110) of to 115))) : AMet Γ mX11_copies [vR 109, vI to, vI of] zG mem Q := by
  have loop : ∀ (d : Nat) (i : Int), i + d = 115 → 0 ≤ i → AW Γ mX11_copies (zF Γ zG Q) zG 0 0 2 [some (vR 109), some (vI to), some (vI of), some (vI i)] [] (mcell mem 110 (fcopy (mem 110) (mem 110) of to i)) := by
    intro d
    induction d with
    | zero =>
      intro i hi h0
      obtain rfl : i = 115 := by omega
      refine aw_iload_n dX11_copies_2 rfl rfl ?_
      refine aw_bipush dX11_copies_3 rfl (by decide) ?_
      refine aw_icmp_ge (tgt := 30) dX11_copies_5 (by decide) rfl (by omega) (by omega) (fun c5 => ?_) (fun c5 => ?_)
      · refine aw_return dX11_copies_30 rfl ?_
        exact k
      · exfalso; omega
    | succ d ih =>
      intro i hi h0
      refine aw_iload_n dX11_copies_2 rfl rfl ?_
      refine aw_bipush dX11_copies_3 rfl (by decide) ?_
      refine aw_icmp_ge (tgt := 30) dX11_copies_5 (by decide) rfl (by omega) (by omega) (fun c5 => ?_) (fun c5 => ?_)
      · exfalso; omega
      · refine aw_aload_n dX11_copies_8 rfl rfl ?_
        refine aw_getR dX11_copies_9 rfl fl_X11_7 g109 (by rfl) ?_
        refine aw_iload_n dX11_copies_12 rfl rfl ?_
        refine aw_iload_n dX11_copies_13 rfl rfl ?_
        refine aw_iadd dX11_copies_14 rfl ?_
        refine aw_aload_n dX11_copies_15 rfl rfl ?_
        refine aw_getR dX11_copies_16 rfl fl_X11_7 g109 (by rfl) ?_
        refine aw_iload_n dX11_copies_19 rfl rfl ?_
        refine aw_iload_n dX11_copies_20 rfl rfl ?_
        refine aw_iadd dX11_copies_21 rfl ?_
        refine aw_iaload dX11_copies_22 rfl g110 (by decide) (by omega) ?_
        refine aw_iastore dX11_copies_23 rfl g110 (by decide) (by omega) ?_
        rw [mset_mcell, mcell_same, show fcopy (mem 110) (mem 110) of to i (of + i) = mem 110 (of + i) by unfold fcopy; rw [if_neg (by omega)], fcopy_step2 h0 (by omega)]
        refine aw_iinc3 rfl dX11_copies_24 rfl (by decide) ?_
        refine aw_goto (tgt := 2) dX11_copies_27 (by decide) ?_
        exact ih (i + 1) (by omega) (by omega)
  refine AMet.of' 1 (ls := [some (vR (109)), some (vI (to)), some (vI (of)), none]) (by decide) rfl (Nat.le_of_ble_eq_true rfl) ?_
  refine aw_iconst dX11_copies_0 rfl ?_
  refine aw_istore3 rfl dX11_copies_1 rfl (by decide) ?_
  have l0 := loop 115 0 (by omega) (by omega)
  rw [show fcopy (mem 110) (mem 110) of to 0 = mem 110 from funext (fun j => by unfold fcopy; rw [if_neg (by omega)]), mcell_self] at l0
  exact l0
theorem sR_keep {j : Int} (hk : ∀ i : Int, 0 ≤ i → i ≤ 1 → 0 ≤ mem 112 i ∧ mem 112 i ≤ 1) (hj : -2147483648 ≤ j ∧ j ≤ 2147483647) (kb : ¬ (0 ≤ j ∧ j ≤ 1) → Q (some (vI (-1))) mem) (k : 0 ≤ j ∧ j ≤ 1 → Q (some (vI (mem 112 j))) (mcell (mset mem 112 j 1) 110 (fcopy (mem 110) (mem 110) 0 (115 * (j + 1)) 115))) : AMet Γ mX11_keep [vR 109, vI j] zG mem Q := by
  refine AMet.of' 1 (ls := [some (vR (109)), some (vI (j)), none]) (by decide) rfl (Nat.le_of_ble_eq_true rfl) ?_
  refine aw_iload_n dX11_keep_0 rfl rfl ?_
  refine aw_i2l dX11_keep_1 rfl (by omega) ?_
  refine aw_lconst (a := 0) dX11_keep_2 rfl (by decide) ?_
  refine aw_lconst (a := 1) dX11_keep_3 rfl (by decide) ?_
  refine aw_callS [_, _, _] _ dX11_keep_4 rfl cls_X11_78 (by decide) ⟨Nat.zero_le _, Nat.zero_le _⟩ (Nat.le_of_ble_eq_true rfl) rfl ?_
  refine sR_in (by omega) (by omega) (by omega) (fun c4 => ?_) (fun c4 => ?_)
  · refine aw_if_ne (tgt := 12) dX11_keep_7 (by decide) rfl (by omega) (fun _ => ?_) (fun c => absurd c (by decide))
    have hkj := hk j c4.1 c4.2
    refine aw_aload_n dX11_keep_12 rfl rfl ?_
    refine aw_getR dX11_keep_13 rfl fl_X11_16 g109 (by rfl) ?_
    refine aw_iload_n dX11_keep_16 rfl rfl ?_
    refine aw_zaload dX11_keep_17 rfl g112 (by decide) (by omega) ?_
    refine aw_callS [_] _ dX11_keep_18 rfl cls_X11_208 (by decide) ⟨Nat.zero_le _, Nat.zero_le _⟩ (Nat.le_of_ble_eq_true rfl) rfl ?_
    refine sR_flag hkj ?_
    refine aw_istore2 rfl dX11_keep_21 rfl (by decide) ?_
    refine aw_aload_n dX11_keep_22 rfl rfl ?_
    refine aw_getR dX11_keep_23 rfl fl_X11_16 g109 (by rfl) ?_
    refine aw_iload_n dX11_keep_26 rfl rfl ?_
    refine aw_iconst dX11_keep_27 rfl ?_
    refine aw_zastore dX11_keep_28 rfl g112 (by decide) (by omega) (by omega) ?_
    refine aw_aload_n dX11_keep_29 rfl rfl ?_
    refine aw_bipush dX11_keep_30 rfl (by decide) ?_
    refine aw_iload_n dX11_keep_32 rfl rfl ?_
    refine aw_iconst dX11_keep_33 rfl ?_
    refine aw_iadd dX11_keep_34 rfl ?_
    refine aw_imul dX11_keep_35 rfl ?_
    refine aw_iconst dX11_keep_36 rfl ?_
    refine aw_callV [_, _] _ dX11_keep_37 rfl clv_X11_296 (by decide) ⟨Nat.zero_le _, Nat.zero_le _⟩ g109 (by rfl) (Nat.le_of_ble_eq_true rfl) rfl ?_
    refine sR_copies (by omega) (by omega) (by omega) ?_
    refine aw_iload_n dX11_keep_40 rfl rfl ?_
    refine aw_ireturn (ty := .int) dX11_keep_41 rfl rfl ?_
    exact k c4
  · refine aw_if_ne (tgt := 12) dX11_keep_7 (by decide) rfl (by omega) (fun c => absurd c (by decide)) (fun _ => ?_)
    refine aw_iconst dX11_keep_10 rfl ?_
    refine aw_ireturn (ty := .int) dX11_keep_11 rfl rfl ?_
    exact kb c4
theorem sR_back {j : Int} (hk : ∀ i : Int, 0 ≤ i → i ≤ 1 → 0 ≤ mem 112 i ∧ mem 112 i ≤ 1) (hj : -2147483648 ≤ j ∧ j ≤ 2147483647) (kb : ¬ (0 ≤ j ∧ j ≤ 1) → Q (some (vI (-1))) mem) (ks : 0 ≤ j ∧ j ≤ 1 → mem 112 j = 0 → Q (some (vI (-2))) mem) (k : 0 ≤ j ∧ j ≤ 1 → ¬ mem 112 j = 0 → Q (some (vI (mem 110 (115 * (j + 1) + 45)))) (mcell mem 110 (fcopy (mem 110) (mem 110) (115 * (j + 1)) 0 115))) : AMet Γ mX11_back [vR 109, vI j] zG mem Q := by
  refine AMet.of' 0 (ls := [some (vR (109)), some (vI (j))]) (by decide) rfl (Nat.le_of_ble_eq_true rfl) ?_
  refine aw_iload_n dX11_back_0 rfl rfl ?_
  refine aw_i2l dX11_back_1 rfl (by omega) ?_
  refine aw_lconst (a := 0) dX11_back_2 rfl (by decide) ?_
  refine aw_lconst (a := 1) dX11_back_3 rfl (by decide) ?_
  refine aw_callS [_, _, _] _ dX11_back_4 rfl cls_X11_78 (by decide) ⟨Nat.zero_le _, Nat.zero_le _⟩ (Nat.le_of_ble_eq_true rfl) rfl ?_
  refine sR_in (by omega) (by omega) (by omega) (fun c4 => ?_) (fun c4 => ?_)
  · refine aw_if_ne (tgt := 12) dX11_back_7 (by decide) rfl (by omega) (fun _ => ?_) (fun c => absurd c (by decide))
    have hkj := hk j c4.1 c4.2
    refine aw_aload_n dX11_back_12 rfl rfl ?_
    refine aw_getR dX11_back_13 rfl fl_X11_16 g109 (by rfl) ?_
    refine aw_iload_n dX11_back_16 rfl rfl ?_
    refine aw_zaload dX11_back_17 rfl g112 (by decide) (by omega) ?_
    refine aw_if_ne (tgt := 24) dX11_back_18 (by decide) rfl (by omega) (fun c18 => ?_) (fun c18 => ?_)
    · refine aw_aload_n dX11_back_24 rfl rfl ?_
      refine aw_iconst dX11_back_25 rfl ?_
      refine aw_bipush dX11_back_26 rfl (by decide) ?_
      refine aw_iload_n dX11_back_28 rfl rfl ?_
      refine aw_iconst dX11_back_29 rfl ?_
      refine aw_iadd dX11_back_30 rfl ?_
      refine aw_imul dX11_back_31 rfl ?_
      refine aw_callV [_, _] _ dX11_back_32 rfl clv_X11_296 (by decide) ⟨Nat.zero_le _, Nat.zero_le _⟩ g109 (by rfl) (Nat.le_of_ble_eq_true rfl) rfl ?_
      refine sR_copies (by omega) (by omega) (by omega) ?_
      refine aw_aload_n dX11_back_35 rfl rfl ?_
      refine aw_getR dX11_back_36 rfl fl_X11_7 g109 (by rfl) ?_
      refine aw_bipush dX11_back_39 rfl (by decide) ?_
      refine aw_iaload dX11_back_41 rfl g110 (by decide) (by omega) ?_
      rw [mcell_same, show fcopy (mem 110) (mem 110) (115 * (j + 1)) 0 115 45 = mem 110 (115 * (j + 1) + 45) by unfold fcopy; rw [if_pos (by omega)]; congr 1]
      refine aw_ireturn (ty := .int) dX11_back_42 rfl rfl ?_
      exact k c4 c18
    · refine aw_bipush dX11_back_21 rfl (by decide) ?_
      refine aw_ireturn (ty := .int) dX11_back_23 rfl rfl ?_
      exact ks c4 c18
  · refine aw_if_ne (tgt := 12) dX11_back_7 (by decide) rfl (by omega) (fun c => absurd c (by decide)) (fun _ => ?_)
    refine aw_iconst dX11_back_10 rfl ?_
    refine aw_ireturn (ty := .int) dX11_back_11 rfl rfl ?_
    exact kb c4
theorem sR_isSheet {G : List GK} {j l : Int} (hj : -2147483648 ≤ j ∧ j ≤ 2147483647) (hl : -2147483648 ≤ l ∧ l ≤ 2147483647) (k1 : (0 ≤ j ∧ j ≤ 3) ∧ (0 ≤ l ∧ l ≤ 2) → Q (some (vI 1)) mem) (k0 : ¬ ((0 ≤ j ∧ j ≤ 3) ∧ (0 ≤ l ∧ l ≤ 2)) → Q (some (vI 0)) mem) : AMet Γ mX11_isSheet [vI j, vI l] G mem Q := by
  refine AMet.of' 0 (ls := [some (vI (j)), some (vI (l))]) (by decide) rfl (Nat.le_of_ble_eq_true rfl) ?_
  refine aw_iload_n dX11_isSheet_0 rfl rfl ?_
  refine aw_i2l dX11_isSheet_1 rfl (by omega) ?_
  refine aw_lconst (a := 0) dX11_isSheet_2 rfl (by decide) ?_
  refine aw_ldc2 (a := 3) dX11_isSheet_3 rfl lc_X11_288 (by decide) ?_
  refine aw_callS [_, _, _] _ dX11_isSheet_6 rfl cls_X11_78 (by decide) ⟨Nat.zero_le _, Nat.zero_le _⟩ (Nat.le_of_ble_eq_true rfl) rfl ?_
  refine sR_in (by omega) (by omega) (by omega) (fun c6 => ?_) (fun c6 => ?_)
  · refine aw_if_eq (tgt := 28) dX11_isSheet_9 (by decide) rfl (by omega) (fun c => absurd c (by decide)) (fun _ => ?_)
    refine aw_iload_n dX11_isSheet_12 rfl rfl ?_
    refine aw_i2l dX11_isSheet_13 rfl (by omega) ?_
    refine aw_lconst (a := 0) dX11_isSheet_14 rfl (by decide) ?_
    refine aw_ldc2 (a := 2) dX11_isSheet_15 rfl lc_X11_215 (by decide) ?_
    refine aw_callS [_, _, _] _ dX11_isSheet_18 rfl cls_X11_78 (by decide) ⟨Nat.zero_le _, Nat.zero_le _⟩ (Nat.le_of_ble_eq_true rfl) rfl ?_
    refine sR_in (by omega) (by omega) (by omega) (fun c18 => ?_) (fun c18 => ?_)
    · refine aw_if_eq (tgt := 28) dX11_isSheet_21 (by decide) rfl (by omega) (fun c => absurd c (by decide)) (fun _ => ?_)
      refine aw_iconst dX11_isSheet_24 rfl ?_
      refine aw_goto (tgt := 29) dX11_isSheet_25 (by decide) ?_
      refine aw_ireturn (ty := .boolean) dX11_isSheet_29 rfl (znarZ (by omega)).1 ?_
      first | exact k1 ⟨by omega, by omega⟩ | exact k0 (by omega)
    · refine aw_if_eq (tgt := 28) dX11_isSheet_21 (by decide) rfl (by omega) (fun _ => ?_) (fun c => absurd c (by decide))
      refine aw_iconst dX11_isSheet_28 rfl ?_
      refine aw_ireturn (ty := .boolean) dX11_isSheet_29 rfl (znarZ (by omega)).1 ?_
      first | exact k1 ⟨by omega, by omega⟩ | exact k0 (by omega)
  · refine aw_if_eq (tgt := 28) dX11_isSheet_9 (by decide) rfl (by omega) (fun _ => ?_) (fun c => absurd c (by decide))
    refine aw_iconst dX11_isSheet_28 rfl ?_
    refine aw_ireturn (ty := .boolean) dX11_isSheet_29 rfl (znarZ (by omega)).1 ?_
    first | exact k1 ⟨by omega, by omega⟩ | exact k0 (by omega)
theorem sR_sheet {j l n : Int} (hj : -2147483648 ≤ j ∧ j ≤ 2147483647) (hl : -2147483648 ≤ l ∧ l ≤ 2147483647) (hn : -2147483648 ≤ n ∧ n ≤ 2147483647) (kb : ¬ ((0 ≤ j ∧ j ≤ 3) ∧ (0 ≤ l ∧ l ≤ 2)) ∨ 40 < n → Q (some (vI (-1))) mem) (ks : (0 ≤ j ∧ j ≤ 3) ∧ (0 ≤ l ∧ l ≤ 2) → n < 0 → Q (some (vI (-14))) mem) (k : (0 ≤ j ∧ j ≤ 3) ∧ (0 ≤ l ∧ l ≤ 2) → 0 ≤ n ∧ n ≤ 40 → Q (some (vI 1)) (mcell (mset (mset mem 118 j l) 119 j n) 120 (fun i => if 40 * j ≤ i ∧ i < 40 * j + 40 then 0 else mem 120 i))) : AMet Γ mX11_sheet [vR 109, vI j, vI l, vI n] zG mem Q := by
  have loop : ∀ (d : Nat) (i : Int), i + d = 40 → 0 ≤ i → (0 ≤ j ∧ j ≤ 3) ∧ (0 ≤ l ∧ l ≤ 2) → 0 ≤ n ∧ n ≤ 40 → AW Γ mX11_sheet (zF Γ zG Q) zG 0 0 40 [some (vR 109), some (vI j), some (vI l), some (vI n), some (vI i)] [] (mcell (mset (mset mem 118 j l) 119 j n) 120 (fun x => if 40 * j ≤ x ∧ x < 40 * j + i then 0 else mem 120 x)) := by
    intro d
    induction d with
    | zero =>
      intro i hi h0 ho hn2
      obtain rfl : i = 40 := by omega
      refine aw_iload dX11_sheet_40 rfl rfl ?_
      refine aw_bipush dX11_sheet_42 rfl (by decide) ?_
      refine aw_icmp_ge (tgt := 66) dX11_sheet_44 (by decide) rfl (by omega) (by omega) (fun c44 => ?_) (fun c44 => ?_)
      · refine aw_iconst dX11_sheet_66 rfl ?_
        refine aw_ireturn (ty := .int) dX11_sheet_67 rfl rfl ?_
        exact k ho hn2
      · exfalso; omega
    | succ d ih =>
      intro i hi h0 ho hn2
      refine aw_iload dX11_sheet_40 rfl rfl ?_
      refine aw_bipush dX11_sheet_42 rfl (by decide) ?_
      refine aw_icmp_ge (tgt := 66) dX11_sheet_44 (by decide) rfl (by omega) (by omega) (fun c44 => ?_) (fun c44 => ?_)
      · exfalso; omega
      · refine aw_aload_n dX11_sheet_47 rfl rfl ?_
        refine aw_getR dX11_sheet_48 rfl fl_X11_41 g109 (by rfl) ?_
        refine aw_bipush dX11_sheet_51 rfl (by decide) ?_
        refine aw_iload_n dX11_sheet_53 rfl rfl ?_
        refine aw_imul dX11_sheet_54 rfl ?_
        refine aw_iload dX11_sheet_55 rfl rfl ?_
        refine aw_iadd dX11_sheet_57 rfl ?_
        refine aw_iconst dX11_sheet_58 rfl ?_
        refine aw_iastore dX11_sheet_59 rfl g120 (by decide) (by omega) ?_
        rw [mset_mcell, show fset (fun x => if 40 * j ≤ x ∧ x < 40 * j + i then 0 else mem 120 x) (40 * j + i) 0 = (fun x => if 40 * j ≤ x ∧ x < 40 * j + (i + 1) then 0 else mem 120 x) from funext (fun x => by unfold fset; dsimp only; (repeat' split) <;> first | rfl | omega)]
        refine aw_iinc4 rfl dX11_sheet_60 rfl (by decide) ?_
        refine aw_goto (tgt := 40) dX11_sheet_63 (by decide) ?_
        exact ih (i + 1) (by omega) (by omega) ho hn2
  refine AMet.of' 1 (ls := [some (vR (109)), some (vI (j)), some (vI (l)), some (vI (n)), none]) (by decide) rfl (Nat.le_of_ble_eq_true rfl) ?_
  refine aw_iload_n dX11_sheet_0 rfl rfl ?_
  refine aw_iload_n dX11_sheet_1 rfl rfl ?_
  refine aw_callS [_, _] _ dX11_sheet_2 rfl cls_X11_299 (by decide) ⟨Nat.zero_le _, Nat.zero_le _⟩ (Nat.le_of_ble_eq_true rfl) rfl ?_
  refine sR_isSheet hj hl (fun c2 => ?_) (fun c2 => ?_)
  · refine aw_if_eq (tgt := 14) dX11_sheet_5 (by decide) rfl (by omega) (fun c => absurd c (by decide)) (fun _ => ?_)
    refine aw_iload_n dX11_sheet_8 rfl rfl ?_
    refine aw_bipush dX11_sheet_9 rfl (by decide) ?_
    refine aw_icmp_le (tgt := 16) dX11_sheet_11 (by decide) rfl (by omega) (by omega) (fun c11 => ?_) (fun c11 => ?_)
    · refine aw_iload_n dX11_sheet_16 rfl rfl ?_
      refine aw_if_ge (tgt := 23) dX11_sheet_17 (by decide) rfl (by omega) (fun c17 => ?_) (fun c17 => ?_)
      · refine aw_aload_n dX11_sheet_23 rfl rfl ?_
        refine aw_getR dX11_sheet_24 rfl fl_X11_35 g109 (by rfl) ?_
        refine aw_iload_n dX11_sheet_27 rfl rfl ?_
        refine aw_iload_n dX11_sheet_28 rfl rfl ?_
        refine aw_iastore dX11_sheet_29 rfl g118 (by decide) (by omega) ?_
        refine aw_aload_n dX11_sheet_30 rfl rfl ?_
        refine aw_getR dX11_sheet_31 rfl fl_X11_38 g109 (by rfl) ?_
        refine aw_iload_n dX11_sheet_34 rfl rfl ?_
        refine aw_iload_n dX11_sheet_35 rfl rfl ?_
        refine aw_iastore dX11_sheet_36 rfl g119 (by decide) (by omega) ?_
        refine aw_iconst dX11_sheet_37 rfl ?_
        refine aw_istore4 rfl dX11_sheet_38 rfl (by decide) ?_
        have l0 := loop 40 0 (by omega) (by omega) c2 (by omega)
        have e0 : mcell (mset (mset mem 118 j l) 119 j n) 120 (mem 120) = mset (mset mem 118 j l) 119 j n := mcell_self
        rw [show (fun x => if 40 * j ≤ x ∧ x < 40 * j + 0 then 0 else mem 120 x) = mem 120 from funext (fun x => if_neg (by omega)), e0] at l0
        exact l0
      · refine aw_bipush dX11_sheet_20 rfl (by decide) ?_
        refine aw_ireturn (ty := .int) dX11_sheet_22 rfl rfl ?_
        exact ks c2 (by omega)
    · refine aw_iconst dX11_sheet_14 rfl ?_
      refine aw_ireturn (ty := .int) dX11_sheet_15 rfl rfl ?_
      exact kb (by omega)
  · refine aw_if_eq (tgt := 14) dX11_sheet_5 (by decide) rfl (by omega) (fun _ => ?_) (fun c => absurd c (by decide))
    refine aw_iconst dX11_sheet_14 rfl ?_
    refine aw_ireturn (ty := .int) dX11_sheet_15 rfl rfl ?_
    exact kb (by omega)
theorem sR_lay {j i v : Int} (hs : ∀ x : Int, 0 ≤ x → x ≤ 3 → (-4 ≤ mem 118 x ∧ mem 118 x ≤ 2) ∧ (¬ mem 118 x = -4 → 0 ≤ mem 119 x ∧ mem 119 x ≤ 40)) (hj : -2147483648 ≤ j ∧ j ≤ 2147483647) (hi : -2147483648 ≤ i ∧ i ≤ 2147483647) (kb : ¬ (0 ≤ j ∧ j ≤ 3) → Q (some (vI (-1))) mem) (k1 : 0 ≤ j ∧ j ≤ 3 → mem 118 j = -4 → Q (some (vI (-11))) mem) (k2 : 0 ≤ j ∧ j ≤ 3 → ¬ mem 118 j = -4 → ¬ (0 ≤ i ∧ i < mem 119 j) → Q (some (vI (-12))) mem) (k : 0 ≤ j ∧ j ≤ 3 → ¬ mem 118 j = -4 → (0 ≤ i ∧ i < mem 119 j) → Q (some (vI 1)) (mset mem 120 (40 * j + i) (if mem 118 j = 0 then zi2b v else if mem 118 j = 1 then zi2s v else v))) : AMet Γ mX11_lay [vR 109, vI j, vI i, vI v] zG mem Q := by
  refine AMet.of' 0 (ls := [some (vR (109)), some (vI (j)), some (vI (i)), some (vI (v))]) (by decide) rfl (Nat.le_of_ble_eq_true rfl) ?_
  refine aw_iload_n dX11_lay_0 rfl rfl ?_
  refine aw_iconst dX11_lay_1 rfl ?_
  refine aw_callS [_, _] _ dX11_lay_2 rfl cls_X11_299 (by decide) ⟨Nat.zero_le _, Nat.zero_le _⟩ (Nat.le_of_ble_eq_true rfl) rfl ?_
  refine sR_isSheet hj (by omega) (fun c2 => ?_) (fun c2 => ?_)
  · refine aw_if_ne (tgt := 10) dX11_lay_5 (by decide) rfl (by omega) (fun _ => ?_) (fun c => absurd c (by decide))
    obtain ⟨hs1, hs2⟩ := hs j (by omega) (by omega)
    refine aw_aload_n dX11_lay_10 rfl rfl ?_
    refine aw_getR dX11_lay_11 rfl fl_X11_35 g109 (by rfl) ?_
    refine aw_iload_n dX11_lay_14 rfl rfl ?_
    refine aw_iaload dX11_lay_15 rfl g118 (by decide) (by omega) ?_
    refine aw_bipush dX11_lay_16 rfl (by decide) ?_
    refine aw_icmp_ne (tgt := 24) dX11_lay_18 (by decide) rfl (by omega) (by omega) (fun c18 => ?_) (fun c18 => ?_)
    · have hs3 := hs2 c18
      refine aw_iload_n dX11_lay_24 rfl rfl ?_
      refine aw_i2l dX11_lay_25 rfl (by omega) ?_
      refine aw_lconst (a := 0) dX11_lay_26 rfl (by decide) ?_
      refine aw_aload_n dX11_lay_27 rfl rfl ?_
      refine aw_getR dX11_lay_28 rfl fl_X11_38 g109 (by rfl) ?_
      refine aw_iload_n dX11_lay_31 rfl rfl ?_
      refine aw_iaload dX11_lay_32 rfl g119 (by decide) (by omega) ?_
      refine aw_iconst dX11_lay_33 rfl ?_
      refine aw_isub dX11_lay_34 rfl ?_
      refine aw_i2l dX11_lay_35 rfl (by omega) ?_
      refine aw_callS [_, _, _] _ dX11_lay_36 rfl cls_X11_78 (by decide) ⟨Nat.zero_le _, Nat.zero_le _⟩ (Nat.le_of_ble_eq_true rfl) rfl ?_
      refine sR_in (by omega) (by omega) (by omega) (fun c36 => ?_) (fun c36 => ?_)
      · refine aw_if_ne (tgt := 45) dX11_lay_39 (by decide) rfl (by omega) (fun _ => ?_) (fun c => absurd c (by decide))
        refine aw_aload_n dX11_lay_45 rfl rfl ?_
        refine aw_getR dX11_lay_46 rfl fl_X11_41 g109 (by rfl) ?_
        refine aw_bipush dX11_lay_49 rfl (by decide) ?_
        refine aw_iload_n dX11_lay_51 rfl rfl ?_
        refine aw_imul dX11_lay_52 rfl ?_
        refine aw_iload_n dX11_lay_53 rfl rfl ?_
        refine aw_iadd dX11_lay_54 rfl ?_
        refine aw_aload_n dX11_lay_55 rfl rfl ?_
        refine aw_getR dX11_lay_56 rfl fl_X11_35 g109 (by rfl) ?_
        refine aw_iload_n dX11_lay_59 rfl rfl ?_
        refine aw_iaload dX11_lay_60 rfl g118 (by decide) (by omega) ?_
        refine aw_if_ne (tgt := 69) dX11_lay_61 (by decide) rfl (by omega) (fun c61 => ?_) (fun c61 => ?_)
        · refine aw_aload_n dX11_lay_69 rfl rfl ?_
          refine aw_getR dX11_lay_70 rfl fl_X11_35 g109 (by rfl) ?_
          refine aw_iload_n dX11_lay_73 rfl rfl ?_
          refine aw_iaload dX11_lay_74 rfl g118 (by decide) (by omega) ?_
          refine aw_iconst dX11_lay_75 rfl ?_
          refine aw_icmp_ne (tgt := 84) dX11_lay_76 (by decide) rfl (by omega) (by omega) (fun c76 => ?_) (fun c76 => ?_)
          · refine aw_iload_n dX11_lay_84 rfl rfl ?_
            refine aw_iastore dX11_lay_85 rfl g120 (by decide) (by omega) ?_
            refine aw_iconst dX11_lay_86 rfl ?_
            refine aw_ireturn (ty := .int) dX11_lay_87 rfl rfl ?_
            first | exact q_eq (k (by omega) c18 (by omega)) rfl (by rw [if_pos c61]) | exact q_eq (k (by omega) c18 (by omega)) rfl (by rw [if_neg c61, if_pos c76]) | exact q_eq (k (by omega) c18 (by omega)) rfl (by rw [if_neg c61, if_neg c76])
          · refine aw_iload_n dX11_lay_79 rfl rfl ?_
            refine aw_i2s dX11_lay_80 rfl ?_
            refine aw_goto (tgt := 85) dX11_lay_81 (by decide) ?_
            refine aw_iastore dX11_lay_85 rfl g120 (by decide) (by omega) ?_
            refine aw_iconst dX11_lay_86 rfl ?_
            refine aw_ireturn (ty := .int) dX11_lay_87 rfl rfl ?_
            first | exact q_eq (k (by omega) c18 (by omega)) rfl (by rw [if_pos c61]) | exact q_eq (k (by omega) c18 (by omega)) rfl (by rw [if_neg c61, if_pos c76]) | exact q_eq (k (by omega) c18 (by omega)) rfl (by rw [if_neg c61, if_neg c76])
        · refine aw_iload_n dX11_lay_64 rfl rfl ?_
          refine aw_i2b dX11_lay_65 rfl ?_
          refine aw_goto (tgt := 85) dX11_lay_66 (by decide) ?_
          refine aw_iastore dX11_lay_85 rfl g120 (by decide) (by omega) ?_
          refine aw_iconst dX11_lay_86 rfl ?_
          refine aw_ireturn (ty := .int) dX11_lay_87 rfl rfl ?_
          first | exact q_eq (k (by omega) c18 (by omega)) rfl (by rw [if_pos c61]) | exact q_eq (k (by omega) c18 (by omega)) rfl (by rw [if_neg c61, if_pos c76]) | exact q_eq (k (by omega) c18 (by omega)) rfl (by rw [if_neg c61, if_neg c76])
      · refine aw_if_ne (tgt := 45) dX11_lay_39 (by decide) rfl (by omega) (fun c => absurd c (by decide)) (fun _ => ?_)
        refine aw_bipush dX11_lay_42 rfl (by decide) ?_
        refine aw_ireturn (ty := .int) dX11_lay_44 rfl rfl ?_
        exact k2 (by omega) c18 (by omega)
    · refine aw_bipush dX11_lay_21 rfl (by decide) ?_
      refine aw_ireturn (ty := .int) dX11_lay_23 rfl rfl ?_
      exact k1 (by omega) c18
  · refine aw_if_ne (tgt := 10) dX11_lay_5 (by decide) rfl (by omega) (fun c => absurd c (by decide)) (fun _ => ?_)
    refine aw_iconst dX11_lay_8 rfl ?_
    refine aw_ireturn (ty := .int) dX11_lay_9 rfl rfl ?_
    exact kb (by omega)
end ZRef6
