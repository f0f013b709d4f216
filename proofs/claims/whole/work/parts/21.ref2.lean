section ZRef2
variable {Γ : ZG} {mem : Mem} {Q : Option AV → Mem → Prop}
theorem sR_isGood {n p : Int} (h : 0 ≤ p ∧ p < 6) (hs : SpW n (mem 111) p) (k1 : isGoodF (mem 111) p → Q (some (vI 1)) mem) (k0 : ¬ isGoodF (mem 111) p → Q (some (vI 0)) mem) : AMet Γ mX11_isGood [vR 109, vI p] zG mem Q := by
  obtain ⟨h0, h1, h2, h3, h4, h5, h6, h7⟩ := hs
  refine AMet.of' 0 (ls := [some (vR (109)), some (vI (p))]) (by decide) rfl (Nat.le_of_ble_eq_true rfl) ?_
  refine aw_aload_n dX11_isGood_0 rfl rfl ?_
  refine aw_iload_n dX11_isGood_1 rfl rfl ?_
  refine aw_callV [_] _ dX11_isGood_2 rfl clv_X11_199 (by decide) ⟨Nat.zero_le _, Nat.zero_le _⟩ g109 (by rfl) (Nat.le_of_ble_eq_true rfl) rfl ?_
  refine sR_isDone h (by omega) (by omega) (fun c2 => ?_) (fun c2 => ?_)
  · refine aw_if_eq (tgt := 20) dX11_isGood_5 (by decide) rfl (by omega) (fun c => absurd c (by decide)) (fun _ => ?_)
    refine aw_aload_n dX11_isGood_8 rfl rfl ?_
    refine aw_iload_n dX11_isGood_9 rfl rfl ?_
    refine aw_callV [_] _ dX11_isGood_10 rfl clv_X11_202 (by decide) ⟨Nat.zero_le _, Nat.zero_le _⟩ g109 (by rfl) (Nat.le_of_ble_eq_true rfl) rfl ?_
    refine sR_isBlack h (by omega) (by omega) (fun c10 => ?_) (fun c10 => ?_)
    · refine aw_if_ne (tgt := 20) dX11_isGood_13 (by decide) rfl (by omega) (fun _ => ?_) (fun c => absurd c (by decide))
      refine aw_iconst dX11_isGood_20 rfl ?_
      refine aw_ireturn (ty := .boolean) dX11_isGood_21 rfl (znarZ (by omega)).1 ?_
      first | exact k1 ⟨c2, c10⟩ | exact k0 (fun z => z.2 c10) | exact k0 (fun z => c2 z.1)
    · refine aw_if_ne (tgt := 20) dX11_isGood_13 (by decide) rfl (by omega) (fun c => absurd c (by decide)) (fun _ => ?_)
      refine aw_iconst dX11_isGood_16 rfl ?_
      refine aw_goto (tgt := 21) dX11_isGood_17 (by decide) ?_
      refine aw_ireturn (ty := .boolean) dX11_isGood_21 rfl (znarZ (by omega)).1 ?_
      first | exact k1 ⟨c2, c10⟩ | exact k0 (fun z => z.2 c10) | exact k0 (fun z => c2 z.1)
  · refine aw_if_eq (tgt := 20) dX11_isGood_5 (by decide) rfl (by omega) (fun _ => ?_) (fun c => absurd c (by decide))
    refine aw_iconst dX11_isGood_20 rfl ?_
    refine aw_ireturn (ty := .boolean) dX11_isGood_21 rfl (znarZ (by omega)).1 ?_
    first | exact k1 ⟨c2, c10⟩ | exact k0 (fun z => z.2 c10) | exact k0 (fun z => c2 z.1)
theorem sR_bakes {n p : Int} (hn : 3 ≤ n ∧ n ≤ 8) (hp : 0 ≤ p ∧ p < 6) (hH : HtW (mem 111)) (hs : SpW n (mem 111) p) (k : Q none (mcell mem 111 (bakeF p (mem 111)))) : AMet Γ mX11_bakes [vR 109, vI p] zG mem Q := by
  obtain ⟨h0, h1, h2, h3, h4, h5, h6, h7⟩ := hs
  have key2 : ∀ co si : Int, ¬ mem 111 (47 + 8 * p + 2) = -4 → co = (if mem 111 (47 + 8 * p + 1) = 0 then 5 else if mem 111 (47 + 8 * p + 1) = 1 then 7 else 6) → si = (if mem 111 (47 + 8 * p + 1) = 0 then 8 else if mem 111 (47 + 8 * p + 1) = 1 then 16 else 12) → AW Γ mX11_bakes (zF Γ zG Q) zG 0 0 78 [some (vR 109), some (vI p), some (vI (mem 111 (0 + mem 111 (47 + 8 * p + 2)))), some (vI (mem 111 (47 + 8 * p + 1))), some (vI co), some (vI si), none] [] mem := by
    intro co si hne hco hsi
    rw [show (0 : Int) + mem 111 (47 + 8 * p + 2) = mem 111 (47 + 8 * p + 2) by omega]
    have hx := hH (mem 111 (47 + 8 * p + 2)) (by omega) (by omega)
    have hco2 : 0 < co ∧ co ≤ 7 := by rw [hco]; ((repeat' split) <;> omega)
    have hsi2 : 0 < si ∧ si ≤ 16 := by rw [hsi]; ((repeat' split) <;> omega)
    have q1 : 0 ≤ mem 111 (mem 111 (47 + 8 * p + 2)) / co ∧ mem 111 (mem 111 (47 + 8 * p + 2)) / co ≤ 99 := ⟨Int.ediv_nonneg hx.1 (by omega), Int.le_trans (Int.ediv_le_self _ hx.1) hx.2⟩
    have q2 : 0 ≤ mem 111 (mem 111 (47 + 8 * p + 2)) / si ∧ mem 111 (mem 111 (47 + 8 * p + 2)) / si ≤ 99 := ⟨Int.ediv_nonneg hx.1 (by omega), Int.le_trans (Int.ediv_le_self _ hx.1) hx.2⟩
    have q3 : 0 ≤ mem 111 (47 + 8 * p + (4 + mem 111 (47 + 8 * p + 6))) ∧ mem 111 (47 + 8 * p + (4 + mem 111 (47 + 8 * p + 6))) ≤ 99 := by
      obtain e | e : mem 111 (47 + 8 * p + 6) = 0 ∨ mem 111 (47 + 8 * p + 6) = 1 := by omega
      · rw [e]; exact h4
      · rw [e]; exact h5
    refine aw_iconst dX11_bakes_78 rfl ?_
    refine aw_aload_n dX11_bakes_79 rfl rfl ?_
    refine aw_iload_n dX11_bakes_80 rfl rfl ?_
    refine aw_bipush dX11_bakes_81 rfl (by decide) ?_
    refine aw_callV [_, _] _ dX11_bakes_83 rfl clv_X11_173 (by decide) ⟨Nat.zero_le _, Nat.zero_le _⟩ g109 (by rfl) (Nat.le_of_ble_eq_true rfl) rfl ?_
    refine sR_of (by omega) ?_
    refine aw_iadd dX11_bakes_86 rfl ?_
    refine aw_istore6 rfl dX11_bakes_87 rfl (by decide) ?_
    refine aw_aload_n dX11_bakes_89 rfl rfl ?_
    refine aw_iload_n dX11_bakes_90 rfl rfl ?_
    refine aw_iconst dX11_bakes_91 rfl ?_
    refine aw_aload_n dX11_bakes_92 rfl rfl ?_
    refine aw_iload_n dX11_bakes_93 rfl rfl ?_
    refine aw_iconst dX11_bakes_94 rfl ?_
    refine aw_callV [_, _] _ dX11_bakes_95 rfl clv_X11_173 (by decide) ⟨Nat.zero_le _, Nat.zero_le _⟩ g109 (by rfl) (Nat.le_of_ble_eq_true rfl) rfl ?_
    refine sR_of (by omega) ?_
    refine aw_iload_n dX11_bakes_98 rfl rfl ?_
    refine aw_iload dX11_bakes_99 rfl rfl ?_
    refine aw_idiv dX11_bakes_101 rfl (by omega) (by omega) ?_
    refine aw_iadd dX11_bakes_102 rfl ?_
    refine aw_callS [_] _ dX11_bakes_103 rfl cls_X11_176 (by decide) ⟨Nat.zero_le _, Nat.zero_le _⟩ (Nat.le_of_ble_eq_true rfl) rfl ?_
    refine sR_most (by omega) ?_
    refine aw_callV [_, _, _] _ dX11_bakes_106 rfl clv_X11_179 (by decide) ⟨Nat.zero_le _, Nat.zero_le _⟩ g109 (by rfl) (Nat.le_of_ble_eq_true rfl) rfl ?_
    refine sR_becomesOf (by omega) ?_
    refine aw_aload_n dX11_bakes_109 rfl rfl ?_
    refine aw_iload_n dX11_bakes_110 rfl rfl ?_
    refine aw_iload dX11_bakes_111 rfl rfl ?_
    refine aw_aload_n dX11_bakes_113 rfl rfl ?_
    refine aw_iload_n dX11_bakes_114 rfl rfl ?_
    refine aw_iload dX11_bakes_115 rfl rfl ?_
    refine aw_callV [_, _] _ dX11_bakes_117 rfl clv_X11_173 (by decide) ⟨Nat.zero_le _, Nat.zero_le _⟩ g109 (by rfl) (Nat.le_of_ble_eq_true rfl) rfl ?_
    refine sR_of (by omega) ?_
    rw [mset_same, fset_ne (by omega)]
    refine aw_iload_n dX11_bakes_120 rfl rfl ?_
    refine aw_iload dX11_bakes_121 rfl rfl ?_
    refine aw_idiv dX11_bakes_123 rfl (by omega) (by omega) ?_
    refine aw_iadd dX11_bakes_124 rfl ?_
    refine aw_callS [_] _ dX11_bakes_125 rfl cls_X11_176 (by decide) ⟨Nat.zero_le _, Nat.zero_le _⟩ (Nat.le_of_ble_eq_true rfl) rfl ?_
    refine sR_most (by omega) ?_
    refine aw_callV [_, _, _] _ dX11_bakes_128 rfl clv_X11_179 (by decide) ⟨Nat.zero_le _, Nat.zero_le _⟩ g109 (by rfl) (Nat.le_of_ble_eq_true rfl) rfl ?_
    refine sR_becomesOf (by omega) ?_
    refine aw_return dX11_bakes_131 rfl ?_
    exact q_eq k rfl (by unfold bakeF; rw [if_neg hne, ← hco, ← hsi]; simp only [mset_eq, mcell_same, mcell_mcell])
  have key1 : ∀ co : Int, ¬ mem 111 (47 + 8 * p + 2) = -4 → co = (if mem 111 (47 + 8 * p + 1) = 0 then 5 else if mem 111 (47 + 8 * p + 1) = 1 then 7 else 6) → AW Γ mX11_bakes (zF Γ zG Q) zG 0 0 55 [some (vR 109), some (vI p), some (vI (mem 111 (0 + mem 111 (47 + 8 * p + 2)))), some (vI (mem 111 (47 + 8 * p + 1))), some (vI co), none, none] [] mem := by
    intro co hne hco
    refine aw_iload_n dX11_bakes_55 rfl rfl ?_
    refine aw_if_ne (tgt := 64) dX11_bakes_56 (by decide) rfl (by omega) (fun c56 => ?_) (fun c56 => ?_)
    · refine aw_iload_n dX11_bakes_64 rfl rfl ?_
      refine aw_iconst dX11_bakes_65 rfl ?_
      refine aw_icmp_ne (tgt := 74) dX11_bakes_66 (by decide) rfl (by omega) (by omega) (fun c66 => ?_) (fun c66 => ?_)
      · refine aw_bipush dX11_bakes_74 rfl (by decide) ?_
        refine aw_istore5 rfl dX11_bakes_76 rfl (by decide) ?_
        exact key2 _ _ hne hco (by (repeat' split) <;> omega)
      · refine aw_bipush dX11_bakes_69 rfl (by decide) ?_
        refine aw_goto (tgt := 76) dX11_bakes_71 (by decide) ?_
        refine aw_istore5 rfl dX11_bakes_76 rfl (by decide) ?_
        exact key2 _ _ hne hco (by (repeat' split) <;> omega)
    · refine aw_bipush dX11_bakes_59 rfl (by decide) ?_
      refine aw_goto (tgt := 76) dX11_bakes_61 (by decide) ?_
      refine aw_istore5 rfl dX11_bakes_76 rfl (by decide) ?_
      exact key2 _ _ hne hco (by (repeat' split) <;> omega)
  refine AMet.of' 5 (ls := [some (vR (109)), some (vI (p)), none, none, none, none, none]) (by decide) rfl (Nat.le_of_ble_eq_true rfl) ?_
  refine aw_aload_n dX11_bakes_0 rfl rfl ?_
  refine aw_iload_n dX11_bakes_1 rfl rfl ?_
  refine aw_iconst dX11_bakes_2 rfl ?_
  refine aw_callV [_, _] _ dX11_bakes_3 rfl clv_X11_173 (by decide) ⟨Nat.zero_le _, Nat.zero_le _⟩ g109 (by rfl) (Nat.le_of_ble_eq_true rfl) rfl ?_
  refine sR_of (by omega) ?_
  refine aw_bipush dX11_bakes_6 rfl (by decide) ?_
  refine aw_icmp_ne (tgt := 12) dX11_bakes_8 (by decide) rfl (by omega) (by omega) (fun c8 => ?_) (fun c8 => ?_)
  · refine aw_aload_n dX11_bakes_12 rfl rfl ?_
    refine aw_getR dX11_bakes_13 rfl fl_X11_13 g109 (by rfl) ?_
    refine aw_iconst dX11_bakes_16 rfl ?_
    refine aw_aload_n dX11_bakes_17 rfl rfl ?_
    refine aw_iload_n dX11_bakes_18 rfl rfl ?_
    refine aw_iconst dX11_bakes_19 rfl ?_
    refine aw_callV [_, _] _ dX11_bakes_20 rfl clv_X11_173 (by decide) ⟨Nat.zero_le _, Nat.zero_le _⟩ g109 (by rfl) (Nat.le_of_ble_eq_true rfl) rfl ?_
    refine sR_of (by omega) ?_
    refine aw_iadd dX11_bakes_23 rfl ?_
    refine aw_iaload dX11_bakes_24 rfl g111 (by decide) (by omega) ?_
    refine aw_istore2 rfl dX11_bakes_25 rfl (by decide) ?_
    refine aw_aload_n dX11_bakes_26 rfl rfl ?_
    refine aw_iload_n dX11_bakes_27 rfl rfl ?_
    refine aw_iconst dX11_bakes_28 rfl ?_
    refine aw_callV [_, _] _ dX11_bakes_29 rfl clv_X11_173 (by decide) ⟨Nat.zero_le _, Nat.zero_le _⟩ g109 (by rfl) (Nat.le_of_ble_eq_true rfl) rfl ?_
    refine sR_of (by omega) ?_
    refine aw_istore3 rfl dX11_bakes_32 rfl (by decide) ?_
    refine aw_iload_n dX11_bakes_33 rfl rfl ?_
    refine aw_if_ne (tgt := 41) dX11_bakes_34 (by decide) rfl (by omega) (fun c34 => ?_) (fun c34 => ?_)
    · refine aw_iload_n dX11_bakes_41 rfl rfl ?_
      refine aw_iconst dX11_bakes_42 rfl ?_
      refine aw_icmp_ne (tgt := 51) dX11_bakes_43 (by decide) rfl (by omega) (by omega) (fun c43 => ?_) (fun c43 => ?_)
      · refine aw_bipush dX11_bakes_51 rfl (by decide) ?_
        refine aw_istore4 rfl dX11_bakes_53 rfl (by decide) ?_
        exact key1 _ c8 (by (repeat' split) <;> omega)
      · refine aw_bipush dX11_bakes_46 rfl (by decide) ?_
        refine aw_goto (tgt := 53) dX11_bakes_48 (by decide) ?_
        refine aw_istore4 rfl dX11_bakes_53 rfl (by decide) ?_
        exact key1 _ c8 (by (repeat' split) <;> omega)
    · refine aw_iconst dX11_bakes_37 rfl ?_
      refine aw_goto (tgt := 53) dX11_bakes_38 (by decide) ?_
      refine aw_istore4 rfl dX11_bakes_53 rfl (by decide) ?_
      exact key1 _ c8 (by (repeat' split) <;> omega)
  · refine aw_return dX11_bakes_11 rfl ?_
    exact q_eq k rfl (by unfold bakeF; rw [if_pos (by omega), mcell_self])
theorem sR_embers {c v : Int} (hc : 0 ≤ c ∧ c < 8) (hv : 0 ≤ v ∧ v ≤ 99) (hH : HtW (mem 111)) (k : Q none (mcell mem 111 (emberF c v (mem 111)))) : AMet Γ mX11_embers [vR 109, vI c, vI v] zG mem Q := by
  have h0 := hH (3 * c) (by omega) (by omega)
  have h1 := hH (3 * c + 1) (by omega) (by omega)
  have h2 := hH (3 * c + 2) (by omega) (by omega)
  have e0 : (0 : Int) + 3 * c + 0 = 3 * c := by omega
  have e1 : (0 : Int) + 3 * c + 1 = 3 * c + 1 := by omega
  have e2 : (0 : Int) + 3 * c + 2 = 3 * c + 2 := by omega
  refine AMet.of' 3 (ls := [some (vR (109)), some (vI (c)), some (vI (v)), none, none, none]) (by decide) rfl (Nat.le_of_ble_eq_true rfl) ?_
  refine aw_iload_n dX11_embers_0 rfl rfl ?_
  refine aw_istore3 rfl dX11_embers_1 rfl (by decide) ?_
  refine aw_iconst dX11_embers_2 rfl ?_
  refine aw_istore4 rfl dX11_embers_3 rfl (by decide) ?_
  have step : ∀ (part j : Int) (f : Int → Int) (x5 : Option AV), 0 ≤ j ∧ j < 3 → 0 ≤ part ∧ part ≤ 99 → 0 ≤ f (3 * c + j) ∧ f (3 * c + j) ≤ 99 → AW Γ mX11_embers (zF Γ zG Q) zG 0 0 5 [some (vR 109), some (vI c), some (vI v), some (vI (if j = 0 then v / 2 else v / 4)), some (vI (j + 1)), some (vI (3 * c + j))] [] (mcell mem 111 (fset f (3 * c + j) (min 99 (f (3 * c + j) + part)))) → AW Γ mX11_embers (zF Γ zG Q) zG 0 0 5 [some (vR 109), some (vI c), some (vI v), some (vI part), some (vI j), x5] [] (mcell mem 111 f) := by
    intro part j f x5 hj hpart hf hk
    have e : (0 : Int) + 3 * c + j = 3 * c + j := by omega
    refine aw_iload dX11_embers_5 rfl rfl ?_
    refine aw_iconst dX11_embers_7 rfl ?_
    refine aw_icmp_ge (tgt := 61) dX11_embers_8 (by decide) rfl (by omega) (by omega) (fun c8 => ?_) (fun c8 => ?_)
    · exfalso; omega
    · refine aw_iconst dX11_embers_11 rfl ?_
      refine aw_iconst dX11_embers_12 rfl ?_
      refine aw_iload_n dX11_embers_13 rfl rfl ?_
      refine aw_imul dX11_embers_14 rfl ?_
      refine aw_iadd dX11_embers_15 rfl ?_
      refine aw_iload dX11_embers_16 rfl rfl ?_
      refine aw_iadd dX11_embers_18 rfl ?_
      refine aw_istore5 rfl dX11_embers_19 rfl (by decide) ?_
      rw [e]
      refine aw_aload_n dX11_embers_21 rfl rfl ?_
      refine aw_getR dX11_embers_22 rfl fl_X11_13 g109 (by rfl) ?_
      refine aw_iload dX11_embers_25 rfl rfl ?_
      refine aw_aload_n dX11_embers_27 rfl rfl ?_
      refine aw_getR dX11_embers_28 rfl fl_X11_13 g109 (by rfl) ?_
      refine aw_iload dX11_embers_31 rfl rfl ?_
      refine aw_iaload dX11_embers_33 rfl g111 (by decide) (by omega) ?_
      rw [mcell_same]
      refine aw_iload_n dX11_embers_34 rfl rfl ?_
      refine aw_iadd dX11_embers_35 rfl ?_
      refine aw_callS [_] _ dX11_embers_36 rfl cls_X11_176 (by decide) ⟨Nat.zero_le _, Nat.zero_le _⟩ (Nat.le_of_ble_eq_true rfl) rfl ?_
      refine sR_most (by omega) ?_
      refine aw_iastore dX11_embers_39 rfl g111 (by decide) (by omega) ?_
      rw [mset_mcell]
      refine aw_iload dX11_embers_40 rfl rfl ?_
      refine aw_if_ne (tgt := 51) dX11_embers_42 (by decide) rfl (by omega) (fun c42 => ?_) (fun c42 => ?_)
      · refine aw_iload_n dX11_embers_51 rfl rfl ?_
        refine aw_iconst dX11_embers_52 rfl ?_
        refine aw_idiv dX11_embers_53 rfl (by omega) (by omega) ?_
        refine aw_istore3 rfl dX11_embers_54 rfl (by decide) ?_
        refine aw_iinc4 rfl dX11_embers_55 rfl (by decide) ?_
        refine aw_goto (tgt := 5) dX11_embers_58 (by decide) ?_
        first | (rw [if_pos (by omega)] at hk; exact hk) | (rw [if_neg (by omega)] at hk; exact hk)
      · refine aw_iload_n dX11_embers_45 rfl rfl ?_
        refine aw_iconst dX11_embers_46 rfl ?_
        refine aw_idiv dX11_embers_47 rfl (by omega) (by omega) ?_
        refine aw_goto (tgt := 54) dX11_embers_48 (by decide) ?_
        refine aw_istore3 rfl dX11_embers_54 rfl (by decide) ?_
        refine aw_iinc4 rfl dX11_embers_55 rfl (by decide) ?_
        refine aw_goto (tgt := 5) dX11_embers_58 (by decide) ?_
        first | (rw [if_pos (by omega)] at hk; exact hk) | (rw [if_neg (by omega)] at hk; exact hk)
  rw [← mcell_self (mem := mem) (c := 111)]
  refine step v 0 (mem 111) none (by omega) (by omega) (by rw [Int.add_zero]; exact h0) ?_
  refine step _ 1 _ _ (by omega) (by rw [if_pos rfl]; omega) (by rw [fset_ne (by omega)]; exact h1) ?_
  refine step _ 2 _ _ (by omega) (by rw [if_neg (by omega)]; omega) (by rw [fset_ne (by omega), fset_ne (by omega)]; exact h2) ?_
  refine aw_iload dX11_embers_5 rfl rfl ?_
  refine aw_iconst dX11_embers_7 rfl ?_
  refine aw_icmp_ge (tgt := 61) dX11_embers_8 (by decide) rfl (by omega) (by omega) (fun c8 => ?_) (fun c8 => ?_)
  · refine aw_return dX11_embers_61 rfl ?_
    refine q_eq k rfl ?_
    congr 1
    funext x
    unfold emberF
    simp only [fset, if_pos, Int.add_zero]
    (repeat' split) <;> first | omega | simp_all
  · exfalso; omega
end ZRef2
