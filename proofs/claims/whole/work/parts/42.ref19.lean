/-- the row of a new evening -/
def D0 : Int → Int := fun j => if j = 24 ∨ j = 25 then 1 else if (47 ≤ j ∧ j < 95) ∧ ((j - 47) % 8 = 2 ∨ (j - 47) % 8 = 7) then -4 else 0
section ZRef19
variable {Γ : ZG} {mem : Mem} {Q : Option AV → Mem → Prop}
theorem sR_firstDraft (k : ∀ m' : Mem, FrX m' mem [109, 113] → m' 113 = D0 → (m' 109 5 = 3 ∧ m' 109 6 = 0 ∧ m' 109 7 = 0 ∧ m' 109 8 = 0 ∧ m' 109 9 = -4 ∧ m' 109 10 = -4 ∧ m' 109 11 = -4) → (∀ j : Int, j < 5 ∨ 11 < j → m' 109 j = mem 109 j) → Q none m') : AMet Γ mX11_firstDraft [vR 109] zG mem Q := by
  have fin : ∀ f : Int → Int, (∀ j : Int, 0 ≤ j → j < 115 → fset (fset f 24 1) 25 1 j = D0 j) → AW Γ mX11_firstDraft (zF Γ zG Q) zG 0 0 68 [some (vR 109), some (vI 6)] [] (mcell mem 113 f) := by
    intro f hf
    refine aw_aload_n dX11_firstDraft_68 rfl rfl ?_
    refine aw_getR dX11_firstDraft_69 rfl fl_X11_20 g109 (by rfl) ?_
    refine aw_bipush dX11_firstDraft_72 rfl (by decide) ?_
    refine aw_iconst dX11_firstDraft_74 rfl ?_
    refine aw_iastore dX11_firstDraft_75 rfl g113 (by decide) (by omega) ?_
    rw [mset_mcell]
    refine aw_aload_n dX11_firstDraft_76 rfl rfl ?_
    refine aw_getR dX11_firstDraft_77 rfl fl_X11_20 g109 (by rfl) ?_
    refine aw_bipush dX11_firstDraft_80 rfl (by decide) ?_
    refine aw_iconst dX11_firstDraft_82 rfl ?_
    refine aw_iastore dX11_firstDraft_83 rfl g113 (by decide) (by omega) ?_
    rw [mset_mcell]
    refine aw_ext g113 hf ?_
    refine aw_aload_n dX11_firstDraft_84 rfl rfl ?_
    refine aw_iconst dX11_firstDraft_85 rfl ?_
    refine aw_putI (kI := 5) dX11_firstDraft_86 rfl fp_X11_50 g109 (by rfl) rfl ?_
    refine aw_aload_n dX11_firstDraft_89 rfl rfl ?_
    refine aw_iconst dX11_firstDraft_90 rfl ?_
    refine aw_putZ (kI := 6) dX11_firstDraft_91 rfl fp_X11_54 (by omega) g109 (by rfl) rfl ?_
    refine aw_aload_n dX11_firstDraft_94 rfl rfl ?_
    refine aw_iconst dX11_firstDraft_95 rfl ?_
    refine aw_putI (kI := 7) dX11_firstDraft_96 rfl fp_X11_58 g109 (by rfl) rfl ?_
    refine aw_aload_n dX11_firstDraft_99 rfl rfl ?_
    refine aw_iconst dX11_firstDraft_100 rfl ?_
    refine aw_putI (kI := 8) dX11_firstDraft_101 rfl fp_X11_61 g109 (by rfl) rfl ?_
    refine aw_aload_n dX11_firstDraft_104 rfl rfl ?_
    refine aw_bipush dX11_firstDraft_105 rfl (by decide) ?_
    refine aw_putI (kI := 9) dX11_firstDraft_107 rfl fp_X11_64 g109 (by rfl) rfl ?_
    refine aw_aload_n dX11_firstDraft_110 rfl rfl ?_
    refine aw_bipush dX11_firstDraft_111 rfl (by decide) ?_
    refine aw_putI (kI := 10) dX11_firstDraft_113 rfl fp_X11_67 g109 (by rfl) rfl ?_
    refine aw_aload_n dX11_firstDraft_116 rfl rfl ?_
    refine aw_bipush dX11_firstDraft_117 rfl (by decide) ?_
    refine aw_putI (kI := 11) dX11_firstDraft_119 rfl fp_X11_70 g109 (by rfl) rfl ?_
    refine aw_return dX11_firstDraft_122 rfl ?_
    refine k _ ?_ ?_ ?_ ?_
    · exact (((((((FrX.rf.cell (by decide)).set (by decide)).set (by decide)).set (by decide)).set (by decide)).set (by decide)).set (by decide)).set (by decide)
    · rfl
    · exact ⟨rfl, rfl, rfl, rfl, rfl, rfl, rfl⟩
    · intro j hj
      simp only [mset_same, mcell_ap, Nat.reduceEqDiff, reduceIte]
      rw [fset_ne (by omega), fset_ne (by omega), fset_ne (by omega), fset_ne (by omega), fset_ne (by omega), fset_ne (by omega), fset_ne (by omega)]
  have loop2 : ∀ (d : Nat) (i : Int), i + d = 6 → 0 ≤ i → AW Γ mX11_firstDraft (zF Γ zG Q) zG 0 0 23 [some (vR 109), some (vI i)] [] (mcell mem 113 (fun j => if 0 ≤ j ∧ j < 115 then (if (47 ≤ j ∧ j < 47 + 8 * i) ∧ ((j - 47) % 8 = 2 ∨ (j - 47) % 8 = 7) then -4 else 0) else mem 113 j)) := by
    intro d
    induction d with
    | zero =>
      intro i hi h0
      obtain rfl : i = 6 := by omega
      refine aw_iload_n dX11_firstDraft_23 rfl rfl ?_
      refine aw_bipush dX11_firstDraft_24 rfl (by decide) ?_
      refine aw_icmp_ge (tgt := 68) dX11_firstDraft_26 (by decide) rfl (by omega) (by omega) (fun c26 => ?_) (fun c26 => ?_)
      · refine fin _ (fun j a b => ?_)
        unfold fset D0
        dsimp only
        (repeat' split) <;> first | rfl | omega
      · exfalso; omega
    | succ d ih =>
      intro i hi h0
      refine aw_iload_n dX11_firstDraft_23 rfl rfl ?_
      refine aw_bipush dX11_firstDraft_24 rfl (by decide) ?_
      refine aw_icmp_ge (tgt := 68) dX11_firstDraft_26 (by decide) rfl (by omega) (by omega) (fun c26 => ?_) (fun c26 => ?_)
      · exfalso; omega
      · refine aw_aload_n dX11_firstDraft_29 rfl rfl ?_
        refine aw_getR dX11_firstDraft_30 rfl fl_X11_20 g109 (by rfl) ?_
        refine aw_bipush dX11_firstDraft_33 rfl (by decide) ?_
        refine aw_bipush dX11_firstDraft_35 rfl (by decide) ?_
        refine aw_iload_n dX11_firstDraft_37 rfl rfl ?_
        refine aw_imul dX11_firstDraft_38 rfl ?_
        refine aw_iadd dX11_firstDraft_39 rfl ?_
        refine aw_iconst dX11_firstDraft_40 rfl ?_
        refine aw_iadd dX11_firstDraft_41 rfl ?_
        refine aw_bipush dX11_firstDraft_42 rfl (by decide) ?_
        refine aw_iastore dX11_firstDraft_44 rfl g113 (by decide) (by omega) ?_
        rw [mset_mcell]
        refine aw_aload_n dX11_firstDraft_45 rfl rfl ?_
        refine aw_getR dX11_firstDraft_46 rfl fl_X11_20 g109 (by rfl) ?_
        refine aw_bipush dX11_firstDraft_49 rfl (by decide) ?_
        refine aw_bipush dX11_firstDraft_51 rfl (by decide) ?_
        refine aw_iload_n dX11_firstDraft_53 rfl rfl ?_
        refine aw_imul dX11_firstDraft_54 rfl ?_
        refine aw_iadd dX11_firstDraft_55 rfl ?_
        refine aw_bipush dX11_firstDraft_56 rfl (by decide) ?_
        refine aw_iadd dX11_firstDraft_58 rfl ?_
        refine aw_bipush dX11_firstDraft_59 rfl (by decide) ?_
        refine aw_iastore dX11_firstDraft_61 rfl g113 (by decide) (by omega) ?_
        rw [mset_mcell]
        refine aw_iinc1 rfl dX11_firstDraft_62 rfl (by decide) ?_
        refine aw_goto (tgt := 23) dX11_firstDraft_65 (by decide) ?_
        refine (congrArg (fun g => AW Γ mX11_firstDraft (zF Γ zG Q) zG 0 0 23 [some (vR 109), some (vI (i + 1))] [] (mcell mem 113 g)) ?_).mp (ih (i + 1) (by omega) (by omega))
        funext j
        unfold fset
        dsimp only
        by_cases e1 : j = 47 + 8 * i + 7
        · rw [if_pos e1, if_pos (by omega), if_pos (by omega)]
        · rw [if_neg e1]
          by_cases e2 : j = 47 + 8 * i + 2
          · rw [if_pos e2, if_pos (by omega), if_pos (by omega)]
          · rw [if_neg e2]
            by_cases e3 : 0 ≤ j ∧ j < 115
            · rw [if_pos e3, if_pos e3]
              by_cases e4 : (47 ≤ j ∧ j < 47 + 8 * i) ∧ ((j - 47) % 8 = 2 ∨ (j - 47) % 8 = 7)
              · rw [if_pos e4, if_pos (by omega)]
              · rw [if_neg e4, if_neg (by omega)]
            · rw [if_neg e3, if_neg e3]
  have loop1 : ∀ (d : Nat) (i : Int), i + d = 115 → 0 ≤ i → AW Γ mX11_firstDraft (zF Γ zG Q) zG 0 0 2 [some (vR 109), some (vI i)] [] (mcell mem 113 (fun j => if 0 ≤ j ∧ j < i then 0 else mem 113 j)) := by
    intro d
    induction d with
    | zero =>
      intro i hi h0
      obtain rfl : i = 115 := by omega
      have l2 := loop2 6 0 (by omega) (by omega)
      rw [show (fun j => if 0 ≤ j ∧ j < 115 then (if (47 ≤ j ∧ j < 47 + 8 * 0) ∧ ((j - 47) % 8 = 2 ∨ (j - 47) % 8 = 7) then (-4 : Int) else 0) else mem 113 j) = (fun j => if 0 ≤ j ∧ j < 115 then 0 else mem 113 j) from funext (fun j => by rw [if_neg (show ¬ ((47 ≤ j ∧ j < 47 + 8 * 0) ∧ ((j - 47) % 8 = 2 ∨ (j - 47) % 8 = 7)) by omega)])] at l2
      refine aw_iload_n dX11_firstDraft_2 rfl rfl ?_
      refine aw_bipush dX11_firstDraft_3 rfl (by decide) ?_
      refine aw_icmp_ge (tgt := 21) dX11_firstDraft_5 (by decide) rfl (by omega) (by omega) (fun c5 => ?_) (fun c5 => ?_)
      · refine aw_iconst dX11_firstDraft_21 rfl ?_
        refine aw_istore1 rfl dX11_firstDraft_22 rfl (by decide) ?_
        exact l2
      · exfalso; omega
    | succ d ih =>
      intro i hi h0
      refine aw_iload_n dX11_firstDraft_2 rfl rfl ?_
      refine aw_bipush dX11_firstDraft_3 rfl (by decide) ?_
      refine aw_icmp_ge (tgt := 21) dX11_firstDraft_5 (by decide) rfl (by omega) (by omega) (fun c5 => ?_) (fun c5 => ?_)
      · exfalso; omega
      · refine aw_aload_n dX11_firstDraft_8 rfl rfl ?_
        refine aw_getR dX11_firstDraft_9 rfl fl_X11_20 g109 (by rfl) ?_
        refine aw_iload_n dX11_firstDraft_12 rfl rfl ?_
        refine aw_iconst dX11_firstDraft_13 rfl ?_
        refine aw_iastore dX11_firstDraft_14 rfl g113 (by decide) (by omega) ?_
        rw [mset_mcell, show fset (fun j => if 0 ≤ j ∧ j < i then 0 else mem 113 j) i 0 = (fun j => if 0 ≤ j ∧ j < i + 1 then 0 else mem 113 j) from funext (fun x => by unfold fset; dsimp only; (repeat' split) <;> first | rfl | omega)]
        refine aw_iinc1 rfl dX11_firstDraft_15 rfl (by decide) ?_
        refine aw_goto (tgt := 2) dX11_firstDraft_18 (by decide) ?_
        exact ih (i + 1) (by omega) (by omega)
  refine AMet.of' 1 (ls := [some (vR (109)), none]) (by decide) rfl (Nat.le_of_ble_eq_true rfl) ?_
  refine aw_iconst dX11_firstDraft_0 rfl ?_
  refine aw_istore1 rfl dX11_firstDraft_1 rfl (by decide) ?_
  have l0 := loop1 115 0 (by omega) (by omega)
  rw [show (fun j => if 0 ≤ j ∧ j < (0 : Int) then 0 else mem 113 j) = mem 113 from funext (fun x => if_neg (by omega)), mcell_self] at l0
  exact l0
theorem sR_keepDraft (k : ∀ m' : Mem, FrX m' mem [109, 110, 112] → m' 110 = fcopy (mem 113) (mem 110) 0 0 115 → m' 109 3 = mem 109 5 → (∀ j : Int, j ≠ 3 → m' 109 j = mem 109 j) → (m' 112 0 = 0 ∧ m' 112 1 = 0) → Q none m') : AMet Γ mX11_keepDraft [vR 109] zG mem Q := by
  have loop : ∀ (d : Nat) (i : Int), i + d = 115 → 0 ≤ i → AW Γ mX11_keepDraft (zF Γ zG Q) zG 0 0 2 [some (vR 109), some (vI i)] [] (mcell mem 110 (fcopy (mem 113) (mem 110) 0 0 i)) := by
    intro d
    induction d with
    | zero =>
      intro i hi h0
      obtain rfl : i = 115 := by omega
      refine aw_iload_n dX11_keepDraft_2 rfl rfl ?_
      refine aw_bipush dX11_keepDraft_3 rfl (by decide) ?_
      refine aw_icmp_ge (tgt := 26) dX11_keepDraft_5 (by decide) rfl (by omega) (by omega) (fun c5 => ?_) (fun c5 => ?_)
      · refine aw_aload_n dX11_keepDraft_26 rfl rfl ?_
        refine aw_aload_n dX11_keepDraft_27 rfl rfl ?_
        refine aw_getI (kI := 5) dX11_keepDraft_28 rfl fl_X11_50 g109 (by rfl) rfl ?_
        refine aw_putI (kI := 3) dX11_keepDraft_31 rfl fp_X11_73 g109 (by rfl) rfl ?_
        refine aw_aload_n dX11_keepDraft_34 rfl rfl ?_
        refine aw_getR dX11_keepDraft_35 rfl fl_X11_16 g109 (by rfl) ?_
        refine aw_iconst dX11_keepDraft_38 rfl ?_
        refine aw_iconst dX11_keepDraft_39 rfl ?_
        refine aw_zastore dX11_keepDraft_40 rfl g112 (by decide) (by omega) (by omega) ?_
        refine aw_aload_n dX11_keepDraft_41 rfl rfl ?_
        refine aw_getR dX11_keepDraft_42 rfl fl_X11_16 g109 (by rfl) ?_
        refine aw_iconst dX11_keepDraft_45 rfl ?_
        refine aw_iconst dX11_keepDraft_46 rfl ?_
        refine aw_zastore dX11_keepDraft_47 rfl g112 (by decide) (by omega) (by omega) ?_
        refine aw_return dX11_keepDraft_48 rfl ?_
        refine k _ ?_ rfl rfl ?_ ⟨rfl, rfl⟩
        · exact (((FrX.rf.cell (by decide)).set (by decide)).set (by decide)).set (by decide)
        · intro j hj
          simp only [mset_same, mset_ap, mcell_ap, Nat.reduceEqDiff, reduceIte]
          rw [fset_ne hj]
      · exfalso; omega
    | succ d ih =>
      intro i hi h0
      refine aw_iload_n dX11_keepDraft_2 rfl rfl ?_
      refine aw_bipush dX11_keepDraft_3 rfl (by decide) ?_
      refine aw_icmp_ge (tgt := 26) dX11_keepDraft_5 (by decide) rfl (by omega) (by omega) (fun c5 => ?_) (fun c5 => ?_)
      · exfalso; omega
      · refine aw_aload_n dX11_keepDraft_8 rfl rfl ?_
        refine aw_getR dX11_keepDraft_9 rfl fl_X11_7 g109 (by rfl) ?_
        refine aw_iload_n dX11_keepDraft_12 rfl rfl ?_
        refine aw_aload_n dX11_keepDraft_13 rfl rfl ?_
        refine aw_getR dX11_keepDraft_14 rfl fl_X11_20 g109 (by rfl) ?_
        refine aw_iload_n dX11_keepDraft_17 rfl rfl ?_
        refine aw_iaload dX11_keepDraft_18 rfl g113 (by decide) (by omega) ?_
        refine aw_iastore dX11_keepDraft_19 rfl g110 (by decide) (by omega) ?_
        rw [mset_mcell, show mcell mem 110 (fcopy (mem 113) (mem 110) 0 0 i) 113 i = mem 113 i from rfl, fcopy_step h0]
        refine aw_iinc1 rfl dX11_keepDraft_20 rfl (by decide) ?_
        refine aw_goto (tgt := 2) dX11_keepDraft_23 (by decide) ?_
        exact ih (i + 1) (by omega) (by omega)
  refine AMet.of' 1 (ls := [some (vR (109)), none]) (by decide) rfl (Nat.le_of_ble_eq_true rfl) ?_
  refine aw_iconst dX11_keepDraft_0 rfl ?_
  refine aw_istore1 rfl dX11_keepDraft_1 rfl (by decide) ?_
  have l0 := loop 115 0 (by omega) (by omega)
  rw [fcopy_0, mcell_self] at l0
  exact l0
end ZRef19
