section ZRef3
variable {Γ : ZG} {mem : Mem} {Q : Option AV → Mem → Prop}
theorem sR_burns {n : Int} (h : Wf n (mem 111)) (k : Q none (mcell mem 111 (burnF (mem 111)))) : AMet Γ mX11_burns [vR 109] zG mem Q := by
  have h26 := h.2.2.2.2.1
  have hn := h.1
  have loop : ∀ (d i : Nat) (x3 x4 : Option AV), zlong x3 = false → i + d = (mem 111 26).toNat → AW Γ mX11_burns (zF Γ zG Q) zG 0 0 4 [some (vR 109), some (vI (burnTo i (mem 111)).1), some (vI i), x3, x4] [] (mcell mem 111 (burnTo i (mem 111)).2) := by
    intro d
    induction d with
    | zero =>
      intro i x3 x4 hx3 hi
      obtain ⟨a1, a2, -, a4, a5, a6⟩ := burn_I h i (by omega)
      have e26 := a6 26 (by omega)
      have e : i = (mem 111 26).toNat := by omega
      refine aw_iload_n dX11_burns_4 rfl rfl ?_
      refine aw_aload_n dX11_burns_5 rfl rfl ?_
      refine aw_getR dX11_burns_6 rfl fl_X11_13 g109 (by rfl) ?_
      refine aw_bipush dX11_burns_9 rfl (by decide) ?_
      refine aw_iaload dX11_burns_11 rfl g111 (by decide) (by omega) ?_
      rw [mcell_same, e26]
      refine aw_icmp_ge (tgt := 121) dX11_burns_12 (by decide) rfl (by omega) (by omega) (fun c12 => ?_) (fun c12 => ?_)
      · refine aw_aload_n dX11_burns_121 rfl rfl ?_
        refine aw_getR dX11_burns_122 rfl fl_X11_13 g109 (by rfl) ?_
        refine aw_bipush dX11_burns_125 rfl (by decide) ?_
        refine aw_iload_n dX11_burns_127 rfl rfl ?_
        refine aw_iastore dX11_burns_128 rfl g111 (by decide) (by omega) ?_
        refine aw_return dX11_burns_129 rfl ?_
        exact q_eq k rfl (by rw [mset_mcell]; unfold burnF; rw [← e])
      · exfalso; omega
    | succ d ih =>
      intro i x3 x4 hx3 hi
      obtain ⟨a1, a2, -, a4, a5, a6⟩ := burn_I h i (by omega)
      have e26 := a6 26 (by omega)
      obtain ⟨w1, w2, w3⟩ := a4 i (Int.le_refl _) (by omega)
      refine aw_iload_n dX11_burns_4 rfl rfl ?_
      refine aw_aload_n dX11_burns_5 rfl rfl ?_
      refine aw_getR dX11_burns_6 rfl fl_X11_13 g109 (by rfl) ?_
      refine aw_bipush dX11_burns_9 rfl (by decide) ?_
      refine aw_iaload dX11_burns_11 rfl g111 (by decide) (by omega) ?_
      rw [mcell_same, e26]
      refine aw_icmp_ge (tgt := 121) dX11_burns_12 (by decide) rfl (by omega) (by omega) (fun c12 => ?_) (fun c12 => ?_)
      · exfalso; omega
      · refine aw_bipush dX11_burns_15 rfl (by decide) ?_
        refine aw_iconst dX11_burns_17 rfl ?_
        refine aw_iload_n dX11_burns_18 rfl rfl ?_
        refine aw_imul dX11_burns_19 rfl ?_
        refine aw_iadd dX11_burns_20 rfl ?_
        refine aw_istore3 rfl dX11_burns_21 rfl (by decide) ?_
        refine aw_aload_n dX11_burns_22 rfl rfl ?_
        refine aw_getR dX11_burns_23 rfl fl_X11_13 g109 (by rfl) ?_
        refine aw_iload_n dX11_burns_26 rfl rfl ?_
        refine aw_iconst dX11_burns_27 rfl ?_
        refine aw_iadd dX11_burns_28 rfl ?_
        refine aw_iaload dX11_burns_29 rfl g111 (by decide) (by omega) ?_
        rw [mcell_same]
        refine aw_iconst dX11_burns_30 rfl ?_
        refine aw_icmp_ne (tgt := 55) dX11_burns_31 (by decide) rfl (by omega) (by omega) (fun c31 => ?_) (fun c31 => ?_)
        · refine aw_bipush dX11_burns_55 rfl (by decide) ?_
          refine aw_iconst dX11_burns_57 rfl ?_
          refine aw_iload_n dX11_burns_58 rfl rfl ?_
          refine aw_imul dX11_burns_59 rfl ?_
          refine aw_iadd dX11_burns_60 rfl ?_
          refine aw_istore4 rfl dX11_burns_61 rfl (by decide) ?_
          refine aw_aload_n dX11_burns_63 rfl rfl ?_
          refine aw_getR dX11_burns_64 rfl fl_X11_13 g109 (by rfl) ?_
          refine aw_iload dX11_burns_67 rfl rfl ?_
          refine aw_aload_n dX11_burns_69 rfl rfl ?_
          refine aw_getR dX11_burns_70 rfl fl_X11_13 g109 (by rfl) ?_
          refine aw_iload_n dX11_burns_73 rfl rfl ?_
          refine aw_iaload dX11_burns_74 rfl g111 (by decide) (by omega) ?_
          rw [mcell_same]
          refine aw_iastore dX11_burns_75 rfl g111 (by decide) (by omega) ?_
          rw [mset_mcell]
          refine aw_aload_n dX11_burns_76 rfl rfl ?_
          refine aw_getR dX11_burns_77 rfl fl_X11_13 g109 (by rfl) ?_
          refine aw_iload dX11_burns_80 rfl rfl ?_
          refine aw_iconst dX11_burns_82 rfl ?_
          refine aw_iadd dX11_burns_83 rfl ?_
          refine aw_aload_n dX11_burns_84 rfl rfl ?_
          refine aw_getR dX11_burns_85 rfl fl_X11_13 g109 (by rfl) ?_
          refine aw_iload_n dX11_burns_88 rfl rfl ?_
          refine aw_iconst dX11_burns_89 rfl ?_
          refine aw_iadd dX11_burns_90 rfl ?_
          refine aw_iaload dX11_burns_91 rfl g111 (by decide) (by omega) ?_
          rw [mcell_same, fset_ne (by omega)]
          refine aw_iastore dX11_burns_92 rfl g111 (by decide) (by omega) ?_
          rw [mset_mcell]
          refine aw_aload_n dX11_burns_93 rfl rfl ?_
          refine aw_getR dX11_burns_94 rfl fl_X11_13 g109 (by rfl) ?_
          refine aw_iload dX11_burns_97 rfl rfl ?_
          refine aw_iconst dX11_burns_99 rfl ?_
          refine aw_iadd dX11_burns_100 rfl ?_
          refine aw_aload_n dX11_burns_101 rfl rfl ?_
          refine aw_getR dX11_burns_102 rfl fl_X11_13 g109 (by rfl) ?_
          refine aw_iload_n dX11_burns_105 rfl rfl ?_
          refine aw_iconst dX11_burns_106 rfl ?_
          refine aw_iadd dX11_burns_107 rfl ?_
          refine aw_iaload dX11_burns_108 rfl g111 (by decide) (by omega) ?_
          rw [mcell_same, fset_ne (by omega), fset_ne (by omega)]
          refine aw_iconst dX11_burns_109 rfl ?_
          refine aw_isub dX11_burns_110 rfl ?_
          refine aw_iastore dX11_burns_111 rfl g111 (by decide) (by omega) ?_
          rw [mset_mcell]
          refine aw_iinc1 rfl dX11_burns_112 rfl (by decide) ?_
          refine aw_iinc2 rfl dX11_burns_115 rfl (by decide) ?_
          refine aw_goto (tgt := 4) dX11_burns_118 (by decide) ?_
          have ih2 := ih (i + 1) (some (vI (27 + 3 * (i : Int))))
          rw [show burnTo (i + 1) (mem 111) = burnStep i (burnTo i (mem 111)) from rfl] at ih2
          unfold burnStep at ih2
          first | (rw [if_pos c31] at ih2; exact ih2 _ rfl (by omega)) | (rw [if_neg c31] at ih2; exact ih2 _ rfl (by omega))
        · refine aw_aload_n dX11_burns_34 rfl rfl ?_
          refine aw_aload_n dX11_burns_35 rfl rfl ?_
          refine aw_getR dX11_burns_36 rfl fl_X11_13 g109 (by rfl) ?_
          refine aw_iload_n dX11_burns_39 rfl rfl ?_
          refine aw_iaload dX11_burns_40 rfl g111 (by decide) (by omega) ?_
          rw [mcell_same]
          refine aw_aload_n dX11_burns_41 rfl rfl ?_
          refine aw_getR dX11_burns_42 rfl fl_X11_13 g109 (by rfl) ?_
          refine aw_iload_n dX11_burns_45 rfl rfl ?_
          refine aw_iconst dX11_burns_46 rfl ?_
          refine aw_iadd dX11_burns_47 rfl ?_
          refine aw_iaload dX11_burns_48 rfl g111 (by decide) (by omega) ?_
          rw [mcell_same]
          refine aw_callV [_, _] _ dX11_burns_49 rfl clv_X11_183 (by decide) ⟨Nat.zero_le _, Nat.zero_le _⟩ g109 (by rfl) (Nat.le_of_ble_eq_true rfl) rfl ?_
          refine sR_embers (by omega) (by omega) (by rw [mcell_same]; exact a2) ?_
          rw [mcell_same, mcell_mcell]
          refine aw_goto (tgt := 115) dX11_burns_52 (by decide) ?_
          refine aw_iinc2 rfl dX11_burns_115 rfl (by decide) ?_
          refine aw_goto (tgt := 4) dX11_burns_118 (by decide) ?_
          have ih2 := ih (i + 1) (some (vI (27 + 3 * (i : Int))))
          rw [show burnTo (i + 1) (mem 111) = burnStep i (burnTo i (mem 111)) from rfl] at ih2
          unfold burnStep at ih2
          first | (rw [if_pos c31] at ih2; exact ih2 _ rfl (by omega)) | (rw [if_neg c31] at ih2; exact ih2 _ rfl (by omega))
  refine AMet.of' 4 (ls := [some (vR (109)), none, none, none, none]) (by decide) rfl (Nat.le_of_ble_eq_true rfl) ?_
  refine aw_iconst dX11_burns_0 rfl ?_
  refine aw_istore1 rfl dX11_burns_1 rfl (by decide) ?_
  refine aw_iconst dX11_burns_2 rfl ?_
  refine aw_istore2 rfl dX11_burns_3 rfl (by decide) ?_
  have l0 := loop (mem 111 26).toNat 0 none none rfl (by omega)
  rw [show burnTo 0 (mem 111) = (0, mem 111) from rfl] at l0
  dsimp only at l0
  rw [mcell_self] at l0
  exact l0
theorem sR_cools {n : Int} (h : Wf n (mem 111)) (hm : mem 109 3 = n) (k : Q none (mcell mem 111 (coolF n (mem 111)))) : AMet Γ mX11_cools [vR 109] zG mem Q := by
  obtain ⟨hn, hH, h24, h25, -⟩ := h
  have fin : ∀ (x less : Int), 0 ≤ x ∧ x < 3 * n → less = lessF n (mem 111) x → AW Γ mX11_cools (zF Γ zG Q) zG 0 0 2 [some (vR 109), some (vI (x + 1)), some (vI (x / 3)), some (vI less)] [] (mcell mem 111 (coolTo n (x + 1) (mem 111))) → AW Γ mX11_cools (zF Γ zG Q) zG 0 0 50 [some (vR 109), some (vI x), some (vI (x / 3)), some (vI less)] [] (mcell mem 111 (coolTo n x (mem 111))) := by
    intro x less hx hless hk
    have hx2 := hH x (by omega) (by omega)
    have hl2 := lessF_rng (n := n) h24 h25 x
    have ex : (0 : Int) + x = x := by omega
    have st : ∀ v : Int, v = max 0 (mem 111 x - less) → AW Γ mX11_cools (zF Γ zG Q) zG 0 0 83 [some (vR 109), some (vI x), some (vI (x / 3)), some (vI less)] [vI v, vI x, vR 111] (mcell mem 111 (coolTo n x (mem 111))) := by
      intro v hv
      refine aw_iastore dX11_cools_83 rfl g111 (by decide) (by omega) ?_
      rw [mset_mcell]
      refine aw_iinc1 rfl dX11_cools_84 rfl (by decide) ?_
      refine aw_goto (tgt := 2) dX11_cools_87 (by decide) ?_
      refine (congrArg (fun g => AW Γ mX11_cools (zF Γ zG Q) zG 0 0 2 [some (vR 109), some (vI (x + 1)), some (vI (x / 3)), some (vI less)] [] (mcell mem 111 g)) ?_).mp hk
      funext j
      unfold coolTo fset
      by_cases ej : j = x
      · subst ej
        rw [if_pos (by omega), if_pos rfl, hv, hless]
      · rw [if_neg ej]
        dsimp only
        by_cases c : 0 ≤ j ∧ j < x
        · rw [if_pos c, if_pos (by omega)]
        · rw [if_neg c, if_neg (by omega)]
    refine aw_aload_n dX11_cools_50 rfl rfl ?_
    refine aw_getR dX11_cools_51 rfl fl_X11_13 g109 (by rfl) ?_
    refine aw_iconst dX11_cools_54 rfl ?_
    refine aw_iload_n dX11_cools_55 rfl rfl ?_
    refine aw_iadd dX11_cools_56 rfl ?_
    rw [ex]
    refine aw_aload_n dX11_cools_57 rfl rfl ?_
    refine aw_getR dX11_cools_58 rfl fl_X11_13 g109 (by rfl) ?_
    refine aw_iconst dX11_cools_61 rfl ?_
    refine aw_iload_n dX11_cools_62 rfl rfl ?_
    refine aw_iadd dX11_cools_63 rfl ?_
    refine aw_iaload dX11_cools_64 rfl g111 (by decide) (by omega) ?_
    rw [ex, mcell_same, coolTo_out (by omega)]
    refine aw_iload_n dX11_cools_65 rfl rfl ?_
    refine aw_icmp_ge (tgt := 73) dX11_cools_66 (by decide) rfl (by omega) (by omega) (fun c66 => ?_) (fun c66 => ?_)
    · refine aw_aload_n dX11_cools_73 rfl rfl ?_
      refine aw_getR dX11_cools_74 rfl fl_X11_13 g109 (by rfl) ?_
      refine aw_iconst dX11_cools_77 rfl ?_
      refine aw_iload_n dX11_cools_78 rfl rfl ?_
      refine aw_iadd dX11_cools_79 rfl ?_
      refine aw_iaload dX11_cools_80 rfl g111 (by decide) (by omega) ?_
      rw [ex, mcell_same, coolTo_out (by omega)]
      refine aw_iload_n dX11_cools_81 rfl rfl ?_
      refine aw_isub dX11_cools_82 rfl ?_
      exact st _ (by omega)
    · refine aw_iconst dX11_cools_69 rfl ?_
      refine aw_goto (tgt := 83) dX11_cools_70 (by decide) ?_
      exact st _ (by omega)
  have loop : ∀ (d : Nat) (x : Int) (x2 x3 : Option AV), zlong x2 = false → 0 ≤ x → x + d = 3 * n → AW Γ mX11_cools (zF Γ zG Q) zG 0 0 2 [some (vR 109), some (vI x), x2, x3] [] (mcell mem 111 (coolTo n x (mem 111))) := by
    intro d
    induction d with
    | zero =>
      intro x x2 x3 hx2 h0 hx
      have hm2 : mcell mem 111 (coolTo n x (mem 111)) 109 3 = n := hm
      refine aw_iload_n dX11_cools_2 rfl rfl ?_
      refine aw_iconst dX11_cools_3 rfl ?_
      refine aw_aload_n dX11_cools_4 rfl rfl ?_
      refine aw_getI (kI := 3) dX11_cools_5 rfl fl_X11_73 g109 (by rfl) rfl ?_
      refine aw_imul dX11_cools_8 rfl ?_
      refine aw_icmp_ge (tgt := 90) dX11_cools_9 (by decide) rfl (by omega) (by omega) (fun c9 => ?_) (fun c9 => ?_)
      · refine aw_return dX11_cools_90 rfl ?_
        exact q_eq k rfl (by unfold coolF; rw [show x = 3 * n by omega])
      · exfalso; omega
    | succ d ih =>
      intro x x2 x3 hx2 h0 hx
      have hm2 : mcell mem 111 (coolTo n x (mem 111)) 109 3 = n := hm
      have a24 : coolTo n x (mem 111) 24 = mem 111 24 := coolTo_out (by omega)
      have a25 : coolTo n x (mem 111) 25 = mem 111 25 := coolTo_out (by omega)
      refine aw_iload_n dX11_cools_2 rfl rfl ?_
      refine aw_iconst dX11_cools_3 rfl ?_
      refine aw_aload_n dX11_cools_4 rfl rfl ?_
      refine aw_getI (kI := 3) dX11_cools_5 rfl fl_X11_73 g109 (by rfl) rfl ?_
      refine aw_imul dX11_cools_8 rfl ?_
      refine aw_icmp_ge (tgt := 90) dX11_cools_9 (by decide) rfl (by omega) (by omega) (fun c9 => ?_) (fun c9 => ?_)
      · exfalso; omega
      · refine aw_iload_n dX11_cools_12 rfl rfl ?_
        refine aw_iconst dX11_cools_13 rfl ?_
        refine aw_idiv dX11_cools_14 rfl (by omega) (by omega) ?_
        refine aw_istore2 rfl dX11_cools_15 rfl (by decide) ?_
        refine aw_aload_n dX11_cools_16 rfl rfl ?_
        refine aw_getR dX11_cools_17 rfl fl_X11_13 g109 (by rfl) ?_
        refine aw_bipush dX11_cools_20 rfl (by decide) ?_
        refine aw_iaload dX11_cools_22 rfl g111 (by decide) (by omega) ?_
        rw [mcell_same, a24]
        refine aw_iload_n dX11_cools_23 rfl rfl ?_
        refine aw_if_eq (tgt := 37) dX11_cools_24 (by decide) rfl (by omega) (fun c24 => ?_) (fun c24 => ?_)
        · refine aw_aload_n dX11_cools_37 rfl rfl ?_
          refine aw_getR dX11_cools_38 rfl fl_X11_13 g109 (by rfl) ?_
          refine aw_bipush dX11_cools_41 rfl (by decide) ?_
          refine aw_iaload dX11_cools_43 rfl g111 (by decide) (by omega) ?_
          rw [mcell_same, a25]
          refine aw_goto (tgt := 48) dX11_cools_44 (by decide) ?_
          refine aw_iadd dX11_cools_48 rfl ?_
          refine aw_istore3 rfl dX11_cools_49 rfl (by decide) ?_
          exact fin x _ (by omega) (by unfold lessF; split <;> omega) (ih _ _ _ rfl (by omega) (by omega))
        · refine aw_iload_n dX11_cools_27 rfl rfl ?_
          refine aw_aload_n dX11_cools_28 rfl rfl ?_
          refine aw_getI (kI := 3) dX11_cools_29 rfl fl_X11_73 g109 (by rfl) rfl ?_
          refine aw_iconst dX11_cools_32 rfl ?_
          refine aw_isub dX11_cools_33 rfl ?_
          refine aw_icmp_ne (tgt := 47) dX11_cools_34 (by decide) rfl (by omega) (by omega) (fun c34 => ?_) (fun c34 => ?_)
          · refine aw_iconst dX11_cools_47 rfl ?_
            refine aw_iadd dX11_cools_48 rfl ?_
            refine aw_istore3 rfl dX11_cools_49 rfl (by decide) ?_
            exact fin x _ (by omega) (by unfold lessF; split <;> omega) (ih _ _ _ rfl (by omega) (by omega))
          · refine aw_aload_n dX11_cools_37 rfl rfl ?_
            refine aw_getR dX11_cools_38 rfl fl_X11_13 g109 (by rfl) ?_
            refine aw_bipush dX11_cools_41 rfl (by decide) ?_
            refine aw_iaload dX11_cools_43 rfl g111 (by decide) (by omega) ?_
            rw [mcell_same, a25]
            refine aw_goto (tgt := 48) dX11_cools_44 (by decide) ?_
            refine aw_iadd dX11_cools_48 rfl ?_
            refine aw_istore3 rfl dX11_cools_49 rfl (by decide) ?_
            exact fin x _ (by omega) (by unfold lessF; split <;> omega) (ih _ _ _ rfl (by omega) (by omega))
  refine AMet.of' 3 (ls := [some (vR (109)), none, none, none]) (by decide) rfl (Nat.le_of_ble_eq_true rfl) ?_
  refine aw_iconst dX11_cools_0 rfl ?_
  refine aw_istore1 rfl dX11_cools_1 rfl (by decide) ?_
  have l0 := loop (3 * n).toNat 0 none none rfl (by omega) (by omega)
  rw [show coolTo n 0 (mem 111) = mem 111 from funext (fun j => coolTo_out (by omega)), mcell_self] at l0
  exact l0
theorem sR_rounds {n : Int} (h : Wf n (mem 111)) (hm : mem 109 3 = n) (k : Q none (mcell mem 111 (roundF n (mem 111)))) : AMet Γ mX11_rounds [vR 109] zG mem Q := by
  have h46 := h.2.2.2.2.2.2.1
  have loop : ∀ (d i : Nat), i + d = (mem 111 46).toNat → AW Γ mX11_rounds (zF Γ zG Q) zG 0 0 2 [some (vR 109), some (vI i)] [] (mcell mem 111 (bakeTo i (mem 111))) := by
    intro d
    induction d with
    | zero =>
      intro i hi
      obtain ⟨a1, a2, a3⟩ := bakeTo_Wf h i (by omega)
      have e : i = (mem 111 46).toNat := by omega
      obtain ⟨b1, b2⟩ := burnF_Wf a1
      obtain ⟨c1, c2⟩ := coolF_Wf b1
      refine aw_iload_n dX11_rounds_2 rfl rfl ?_
      refine aw_aload_n dX11_rounds_3 rfl rfl ?_
      refine aw_getR dX11_rounds_4 rfl fl_X11_13 g109 (by rfl) ?_
      refine aw_bipush dX11_rounds_7 rfl (by decide) ?_
      refine aw_iaload dX11_rounds_9 rfl g111 (by decide) (by omega) ?_
      rw [mcell_same, a2]
      refine aw_icmp_ge (tgt := 24) dX11_rounds_10 (by decide) rfl (by omega) (by omega) (fun c10 => ?_) (fun c10 => ?_)
      · refine aw_aload_n dX11_rounds_24 rfl rfl ?_
        refine aw_callV [] _ dX11_rounds_25 rfl clv_X11_190 (by decide) ⟨Nat.zero_le _, Nat.zero_le _⟩ g109 (by rfl) (Nat.le_of_ble_eq_true rfl) rfl ?_
        refine sR_burns (n := n) (by rw [mcell_same]; exact a1) ?_
        rw [mcell_same, mcell_mcell]
        refine aw_aload_n dX11_rounds_28 rfl rfl ?_
        refine aw_callV [] _ dX11_rounds_29 rfl clv_X11_193 (by decide) ⟨Nat.zero_le _, Nat.zero_le _⟩ g109 (by rfl) (Nat.le_of_ble_eq_true rfl) rfl ?_
        refine sR_cools (n := n) (by rw [mcell_same]; exact b1) hm ?_
        rw [mcell_same, mcell_mcell]
        refine aw_aload_n dX11_rounds_32 rfl rfl ?_
        refine aw_getR dX11_rounds_33 rfl fl_X11_13 g109 (by rfl) ?_
        refine aw_bipush dX11_rounds_36 rfl (by decide) ?_
        refine aw_dup2 dX11_rounds_38 rfl rfl rfl ?_
        refine aw_iaload dX11_rounds_39 rfl g111 (by decide) (by omega) ?_
        rw [mcell_same, c2 45 (by omega), b2 45 (by omega), a3 45 (by omega)]
        refine aw_iconst dX11_rounds_40 rfl ?_
        refine aw_iadd dX11_rounds_41 rfl ?_
        refine aw_iastore dX11_rounds_42 rfl g111 (by decide) (by omega) ?_
        refine aw_return dX11_rounds_43 rfl ?_
        exact q_eq k rfl (by rw [mset_mcell]; unfold roundF; rw [← e])
      · exfalso; omega
    | succ d ih =>
      intro i hi
      obtain ⟨a1, a2, a3⟩ := bakeTo_Wf h i (by omega)
      have hs := a1.2.2.2.2.2.2.2.1 i (by omega) (by omega)
      refine aw_iload_n dX11_rounds_2 rfl rfl ?_
      refine aw_aload_n dX11_rounds_3 rfl rfl ?_
      refine aw_getR dX11_rounds_4 rfl fl_X11_13 g109 (by rfl) ?_
      refine aw_bipush dX11_rounds_7 rfl (by decide) ?_
      refine aw_iaload dX11_rounds_9 rfl g111 (by decide) (by omega) ?_
      rw [mcell_same, a2]
      refine aw_icmp_ge (tgt := 24) dX11_rounds_10 (by decide) rfl (by omega) (by omega) (fun c10 => ?_) (fun c10 => ?_)
      · exfalso; omega
      · refine aw_aload_n dX11_rounds_13 rfl rfl ?_
        refine aw_iload_n dX11_rounds_14 rfl rfl ?_
        refine aw_callV [_] _ dX11_rounds_15 rfl clv_X11_187 (by decide) ⟨Nat.zero_le _, Nat.zero_le _⟩ g109 (by rfl) (Nat.le_of_ble_eq_true rfl) rfl ?_
        refine sR_bakes (n := n) h.1 (by omega) (by rw [mcell_same]; exact a1.2.1) (by rw [mcell_same]; exact hs) ?_
        rw [mcell_same, mcell_mcell]
        refine aw_iinc1 rfl dX11_rounds_18 rfl (by decide) ?_
        refine aw_goto (tgt := 2) dX11_rounds_21 (by decide) ?_
        exact ih (i + 1) (by omega)
  refine AMet.of' 1 (ls := [some (vR (109)), none]) (by decide) rfl (Nat.le_of_ble_eq_true rfl) ?_
  refine aw_iconst dX11_rounds_0 rfl ?_
  refine aw_istore1 rfl dX11_rounds_1 rfl (by decide) ?_
  have l0 := loop (mem 111 46).toNat 0 (by omega)
  rw [show bakeTo 0 (mem 111) = mem 111 from rfl, mcell_self] at l0
  exact l0
theorem sR_roundsAll {n c : Int} (hc : 0 ≤ c ∧ c ≤ 100) (h : Wf n (mem 111)) (hm : mem 109 3 = n) (k : Q none (mcell mem 111 (roundsF n c.toNat (mem 111)))) : AMet Γ mX11_roundsAll [vR 109, vI c] zG mem Q := by
  have loop : ∀ (d : Nat) (i : Int) (f : Int → Int), i + d = c → 0 ≤ i → Wf n f → roundsF n d f = roundsF n c.toNat (mem 111) → AW Γ mX11_roundsAll (zF Γ zG Q) zG 0 0 2 [some (vR 109), some (vI c), some (vI i)] [] (mcell mem 111 f) := by
    intro d
    induction d with
    | zero =>
      intro i f hi h0 hf e
      refine aw_iload_n dX11_roundsAll_2 rfl rfl ?_
      refine aw_iload_n dX11_roundsAll_3 rfl rfl ?_
      refine aw_icmp_ge (tgt := 17) dX11_roundsAll_4 (by decide) rfl (by omega) (by omega) (fun c4 => ?_) (fun c4 => ?_)
      · refine aw_return dX11_roundsAll_17 rfl ?_
        exact q_eq k rfl (by rw [← e]; rfl)
      · exfalso; omega
    | succ d ih =>
      intro i f hi h0 hf e
      refine aw_iload_n dX11_roundsAll_2 rfl rfl ?_
      refine aw_iload_n dX11_roundsAll_3 rfl rfl ?_
      refine aw_icmp_ge (tgt := 17) dX11_roundsAll_4 (by decide) rfl (by omega) (by omega) (fun c4 => ?_) (fun c4 => ?_)
      · exfalso; omega
      · refine aw_aload_n dX11_roundsAll_7 rfl rfl ?_
        refine aw_callV [] _ dX11_roundsAll_8 rfl clv_X11_196 (by decide) ⟨Nat.zero_le _, Nat.zero_le _⟩ g109 (by rfl) (Nat.le_of_ble_eq_true rfl) rfl ?_
        refine sR_rounds (n := n) (by rw [mcell_same]; exact hf) hm ?_
        rw [mcell_same, mcell_mcell]
        refine aw_iinc2 rfl dX11_roundsAll_11 rfl (by decide) ?_
        refine aw_goto (tgt := 2) dX11_roundsAll_14 (by decide) ?_
        exact ih (i + 1) _ (by omega) (by omega) (roundF_Wf hf).1 e
  refine AMet.of' 1 (ls := [some (vR (109)), some (vI (c)), none]) (by decide) rfl (Nat.le_of_ble_eq_true rfl) ?_
  refine aw_iconst dX11_roundsAll_0 rfl ?_
  refine aw_istore2 rfl dX11_roundsAll_1 rfl (by decide) ?_
  have l0 := loop c.toNat 0 (mem 111) (by omega) (by omega) h rfl
  rw [mcell_self] at l0
  exact l0
theorem fcopy_step {f g : Int → Int} {i : Int} (h : 0 ≤ i) : fset (fcopy f g 0 0 i) i (f i) = fcopy f g 0 0 (i + 1) := by
  funext j
  unfold fset fcopy
  by_cases ej : j = i
  · subst ej
    rw [if_pos rfl, if_pos (by omega), show (0 : Int) + (j - 0) = j by omega]
  · rw [if_neg ej]
    try dsimp only
    by_cases c : 0 ≤ j ∧ j < 0 + i
    · rw [if_pos c, if_pos (by omega)]
    · rw [if_neg c, if_neg (by omega)]
theorem fcopy_0 {f g : Int → Int} : fcopy f g 0 0 0 = g := funext (fun j => by unfold fcopy; rw [if_neg (by omega)])
theorem sR_starts (k : Q none (mcell mem 111 (fcopy (mem 110) (mem 111) 0 0 115))) : AMet Γ mX11_starts [vR 109] zG mem Q := by
  have loop : ∀ (d : Nat) (i : Int), i + d = 115 → 0 ≤ i → AW Γ mX11_starts (zF Γ zG Q) zG 0 0 2 [some (vR 109), some (vI i)] [] (mcell mem 111 (fcopy (mem 110) (mem 111) 0 0 i)) := by
    intro d
    induction d with
    | zero =>
      intro i hi h0
      refine aw_iload_n dX11_starts_2 rfl rfl ?_
      refine aw_bipush dX11_starts_3 rfl (by decide) ?_
      refine aw_icmp_ge (tgt := 26) dX11_starts_5 (by decide) rfl (by omega) (by omega) (fun c5 => ?_) (fun c5 => ?_)
      · refine aw_return dX11_starts_26 rfl ?_
        exact q_eq k rfl (by rw [show i = 115 by omega])
      · exfalso; omega
    | succ d ih =>
      intro i hi h0
      refine aw_iload_n dX11_starts_2 rfl rfl ?_
      refine aw_bipush dX11_starts_3 rfl (by decide) ?_
      refine aw_icmp_ge (tgt := 26) dX11_starts_5 (by decide) rfl (by omega) (by omega) (fun c5 => ?_) (fun c5 => ?_)
      · exfalso; omega
      · refine aw_aload_n dX11_starts_8 rfl rfl ?_
        refine aw_getR dX11_starts_9 rfl fl_X11_13 g109 (by rfl) ?_
        refine aw_iload_n dX11_starts_12 rfl rfl ?_
        refine aw_aload_n dX11_starts_13 rfl rfl ?_
        refine aw_getR dX11_starts_14 rfl fl_X11_7 g109 (by rfl) ?_
        refine aw_iload_n dX11_starts_17 rfl rfl ?_
        refine aw_iaload dX11_starts_18 rfl g110 (by decide) (by omega) ?_
        refine aw_iastore dX11_starts_19 rfl g111 (by decide) (by omega) ?_
        rw [mset_mcell]
        refine aw_iinc1 rfl dX11_starts_20 rfl (by decide) ?_
        refine aw_goto (tgt := 2) dX11_starts_23 (by decide) ?_
        refine (congrArg (fun g => AW Γ mX11_starts (zF Γ zG Q) zG 0 0 2 [some (vR 109), some (vI (i + 1))] [] (mcell mem 111 g)) ?_).mp (ih (i + 1) (by omega) (by omega))
        funext j
        unfold fcopy fset
        by_cases ej : j = i
        · subst ej
          rw [if_pos (by omega), if_pos rfl, show (0 : Int) + (j - 0) = j by omega]
          rfl
        · rw [if_neg ej]
          dsimp only
          by_cases c : 0 ≤ j ∧ j < 0 + i
          · rw [if_pos c, if_pos (by omega)]
          · rw [if_neg c, if_neg (by omega)]
  refine AMet.of' 1 (ls := [some (vR (109)), none]) (by decide) rfl (Nat.le_of_ble_eq_true rfl) ?_
  refine aw_iconst dX11_starts_0 rfl ?_
  refine aw_istore1 rfl dX11_starts_1 rfl (by decide) ?_
  have l0 := loop 115 0 (by omega) (by omega)
  rw [show fcopy (mem 110) (mem 111) 0 0 0 = mem 111 from funext (fun j => by unfold fcopy; rw [if_neg (by omega)]), mcell_self] at l0
  exact l0
end ZRef3
