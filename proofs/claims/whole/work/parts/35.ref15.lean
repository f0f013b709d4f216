section ZRef15
variable {Γ : ZG} {mem : Mem} {Q : Option AV → Mem → Prop}
theorem sR_least {n p c : Int} (h : Wf n (mem 110)) (hm : mem 109 3 = n) (hp : -2147483648 ≤ p ∧ p ≤ 2147483647) (hc : -2147483648 ≤ c ∧ c ≤ 2147483647) (k : ∀ g, Q (some (vI (leastM n (mem 110) p c))) (mcell mem 111 g)) : AMet Γ mX11_least [vR 109, vI p, vI c] zG mem Q := by
  have h46 := h.2.2.2.2.2.2.1
  have hn := h.1
  have bake : ∀ (x v kk : Int) (row : Int → Int), Wf n row → (∀ x6 : Option AV, AW Γ mX11_least (zF Γ zG Q) zG 0 0 96 [some (vR 109), some (vI p), some (vI c), some (vI x), some (vI v), some (vI kk), x6] [] (mcell mem 111 (bakeTo (row 46).toNat row))) → ∀ (d i : Nat), i + d = (row 46).toNat → AW Γ mX11_least (zF Γ zG Q) zG 0 0 72 [some (vR 109), some (vI p), some (vI c), some (vI x), some (vI v), some (vI kk), some (vI i)] [] (mcell mem 111 (bakeTo i row)) := by
    intro x v kk row hW hk d
    have hr46 := hW.2.2.2.2.2.2.1
    induction d with
    | zero =>
      intro i hi
      obtain rfl : i = (row 46).toNat := by omega
      obtain ⟨a1, a2, a3⟩ := bakeTo_Wf hW (row 46).toNat (by omega)
      refine aw_iload dX11_least_72 rfl rfl ?_
      refine aw_aload_n dX11_least_74 rfl rfl ?_
      refine aw_getR dX11_least_75 rfl fl_X11_13 g109 (by rfl) ?_
      refine aw_bipush dX11_least_78 rfl (by decide) ?_
      refine aw_iaload dX11_least_80 rfl g111 (by decide) (by omega) ?_
      rw [mcell_same, a2]
      refine aw_icmp_ge (tgt := 96) dX11_least_81 (by decide) rfl (by omega) (by omega) (fun c81 => ?_) (fun c81 => ?_)
      · exact hk _
      · exfalso; omega
    | succ d ih =>
      intro i hi
      obtain ⟨a1, a2, a3⟩ := bakeTo_Wf hW i (by omega)
      have hs := a1.2.2.2.2.2.2.2.1 i (by omega) (by omega)
      refine aw_iload dX11_least_72 rfl rfl ?_
      refine aw_aload_n dX11_least_74 rfl rfl ?_
      refine aw_getR dX11_least_75 rfl fl_X11_13 g109 (by rfl) ?_
      refine aw_bipush dX11_least_78 rfl (by decide) ?_
      refine aw_iaload dX11_least_80 rfl g111 (by decide) (by omega) ?_
      rw [mcell_same, a2]
      refine aw_icmp_ge (tgt := 96) dX11_least_81 (by decide) rfl (by omega) (by omega) (fun c81 => ?_) (fun c81 => ?_)
      · exfalso; omega
      · refine aw_aload_n dX11_least_84 rfl rfl ?_
        refine aw_iload dX11_least_85 rfl rfl ?_
        refine aw_callV [_] _ dX11_least_87 rfl clv_X11_187 (by decide) ⟨Nat.zero_le _, Nat.zero_le _⟩ g109 (by rfl) (Nat.le_of_ble_eq_true rfl) rfl ?_
        refine sR_bakes (n := n) hn (by omega) (by rw [mcell_same]; exact a1.2.1) (by rw [mcell_same]; exact hs) ?_
        rw [mcell_same, mcell_mcell]
        refine aw_iinc6 rfl dX11_least_90 rfl (by decide) ?_
        refine aw_goto (tgt := 72) dX11_least_93 (by decide) ?_
        exact ih (i + 1) (by omega)
  have rows : ∀ (x : Int) (v : Nat), 0 ≤ x ∧ x < 3 * n → (v : Int) ≤ 99 → (∀ x6 : Option AV, AW Γ mX11_least (zF Γ zG Q) zG 0 0 124 [some (vR 109), some (vI p), some (vI c), some (vI x), some (vI v), some (vI c), x6] [] (mcell mem 111 (leastRow n (mem 110) (x / 3) v c.toNat))) → ∀ (d i : Nat) (x6 : Option AV), (i : Int) + d = c → AW Γ mX11_least (zF Γ zG Q) zG 0 0 63 [some (vR 109), some (vI p), some (vI c), some (vI x), some (vI v), some (vI i), x6] [] (mcell mem 111 (leastRow n (mem 110) (x / 3) v i)) := by
    intro x v hx hv hk d
    induction d with
    | zero =>
      intro i x6 hi
      have e : i = c.toNat := by omega
      have ec : c = (i : Int) := by omega
      rw [← e] at hk
      refine aw_iload dX11_least_63 rfl rfl ?_
      refine aw_iload_n dX11_least_65 rfl rfl ?_
      refine aw_icmp_ge (tgt := 124) dX11_least_66 (by decide) rfl (by omega) (by omega) (fun c66 => ?_) (fun c66 => ?_)
      · have hk2 := hk x6
        rw [ec] at hk2 ⊢
        exact hk2
      · exfalso; omega
    | succ d ih =>
      intro i x6 hi
      obtain ⟨w1, w2⟩ := leastRow_Wf (c := x / 3) (v := v) h (by omega) (by omega) i
      obtain ⟨a1, a2, a3⟩ := bakeTo_Wf w1 ((leastRow n (mem 110) (x / 3) v i) 46).toNat (by have := w1.2.2.2.2.2.2.1; omega)
      obtain ⟨b1, b2⟩ := burnF_Wf a1
      obtain ⟨e1, e2⟩ := emberF_Wf (c := x / 3) (v := v) b1 (by omega) (by omega)
      have ih2 := fun x6 => ih (i + 1) x6 (by push_cast; omega)
      have tail : ∀ y6 : Option AV, AW Γ mX11_least (zF Γ zG Q) zG 0 0 96 [some (vR 109), some (vI p), some (vI c), some (vI x), some (vI v), some (vI i), y6] [] (mcell mem 111 (bakeTo ((leastRow n (mem 110) (x / 3) v i) 46).toNat (leastRow n (mem 110) (x / 3) v i))) := by
        intro y6
        refine aw_aload_n dX11_least_96 rfl rfl ?_
        refine aw_callV [] _ dX11_least_97 rfl clv_X11_190 (by decide) ⟨Nat.zero_le _, Nat.zero_le _⟩ g109 (by rfl) (Nat.le_of_ble_eq_true rfl) rfl ?_
        refine sR_burns (n := n) (by rw [mcell_same]; exact a1) ?_
        rw [mcell_same, mcell_mcell]
        refine aw_iload dX11_least_100 rfl rfl ?_
        refine aw_if_ne (tgt := 114) dX11_least_102 (by decide) rfl (by omega) (fun c102 => ?_) (fun c102 => ?_)
        · first | rw [mcell_same, mcell_mcell] | (have hcw : Wf n (mcell mem 111 (burnF (bakeTo ((leastRow n (mem 110) (x / 3) v i) 46).toNat (leastRow n (mem 110) (x / 3) v i))) 111) := by rw [mcell_same]; exact b1)
          refine aw_aload_n dX11_least_114 rfl rfl ?_
          refine aw_callV [] _ dX11_least_115 rfl clv_X11_193 (by decide) ⟨Nat.zero_le _, Nat.zero_le _⟩ g109 (by rfl) (Nat.le_of_ble_eq_true rfl) rfl ?_
          refine sR_cools (n := n) hcw hm ?_
          rw [mcell_same, mcell_mcell]
          refine aw_iinc5 rfl dX11_least_118 rfl (by decide) ?_
          refine aw_goto (tgt := 63) dX11_least_121 (by decide) ?_
          have hi3 := ih2 y6
          first | (have hz : (i : Int) = 0 := c102; obtain rfl : i = 0 := (by omega); exact hi3) | (obtain ⟨i2, rfl⟩ : ∃ i2, i = i2 + 1 := ⟨i - 1, by omega⟩; exact hi3)
        · have hcw : Wf n (mcell mem 111 (emberF (x / 3) v (burnF (bakeTo ((leastRow n (mem 110) (x / 3) v i) 46).toNat (leastRow n (mem 110) (x / 3) v i)))) 111) := by rw [mcell_same]; exact e1
          refine aw_aload_n dX11_least_105 rfl rfl ?_
          refine aw_iload_n dX11_least_106 rfl rfl ?_
          refine aw_iconst dX11_least_107 rfl ?_
          refine aw_idiv dX11_least_108 rfl (by omega) (by omega) ?_
          refine aw_iload dX11_least_109 rfl rfl ?_
          refine aw_callV [_, _] _ dX11_least_111 rfl clv_X11_183 (by decide) ⟨Nat.zero_le _, Nat.zero_le _⟩ g109 (by rfl) (Nat.le_of_ble_eq_true rfl) rfl ?_
          refine sR_embers (by omega) (by omega) (by rw [mcell_same]; exact b1.2.1) ?_
          first | rw [mcell_same, mcell_mcell] | (have hcw : Wf n (mcell mem 111 (burnF (bakeTo ((leastRow n (mem 110) (x / 3) v i) 46).toNat (leastRow n (mem 110) (x / 3) v i))) 111) := by rw [mcell_same]; exact b1)
          refine aw_aload_n dX11_least_114 rfl rfl ?_
          refine aw_callV [] _ dX11_least_115 rfl clv_X11_193 (by decide) ⟨Nat.zero_le _, Nat.zero_le _⟩ g109 (by rfl) (Nat.le_of_ble_eq_true rfl) rfl ?_
          refine sR_cools (n := n) hcw hm ?_
          rw [mcell_same, mcell_mcell]
          refine aw_iinc5 rfl dX11_least_118 rfl (by decide) ?_
          refine aw_goto (tgt := 63) dX11_least_121 (by decide) ?_
          have hi3 := ih2 y6
          first | (have hz : (i : Int) = 0 := c102; obtain rfl : i = 0 := (by omega); exact hi3) | (obtain ⟨i2, rfl⟩ : ∃ i2, i = i2 + 1 := ⟨i - 1, by omega⟩; exact hi3)
      refine aw_iload dX11_least_63 rfl rfl ?_
      refine aw_iload_n dX11_least_65 rfl rfl ?_
      refine aw_icmp_ge (tgt := 124) dX11_least_66 (by decide) rfl (by omega) (by omega) (fun c66 => ?_) (fun c66 => ?_)
      · exfalso; omega
      · refine aw_iconst dX11_least_69 rfl ?_
        refine aw_istore6 rfl dX11_least_70 rfl (by decide) ?_
        exact bake x v i _ w1 tail ((leastRow n (mem 110) (x / 3) v i) 46).toNat 0 (by omega)
  have loop : ∀ (x : Int), 0 ≤ x ∧ x < 3 * n → (0 ≤ p ∧ p < mem 110 46) ∧ (1 ≤ c ∧ c ≤ 20) → mem 110 (47 + 8 * p + 2) = x → ∀ (d v : Nat) (g : Int → Int) (x5 x6 : Option AV), zlong x5 = false → v + d = 100 → leastFrom n (mem 110) p (x / 3) c.toNat d v = leastFrom n (mem 110) p (x / 3) c.toNat 100 0 → AW Γ mX11_least (zF Γ zG Q) zG 0 0 49 [some (vR 109), some (vI p), some (vI c), some (vI x), some (vI v), x5, x6] [] (mcell mem 111 g) := by
    intro x hx hok hxe d
    induction d with
    | zero =>
      intro v g x5 x6 z5 hv e
      refine aw_iload dX11_least_49 rfl rfl ?_
      refine aw_bipush dX11_least_51 rfl (by decide) ?_
      refine aw_icmp_gt (tgt := 141) dX11_least_53 (by decide) rfl (by omega) (by omega) (fun c53 => ?_) (fun c53 => ?_)
      · refine aw_bipush dX11_least_141 rfl (by decide) ?_
        refine aw_ireturn (ty := .int) dX11_least_143 rfl rfl ?_
        exact q_eq (k _) (by unfold leastM; rw [if_pos hok, if_neg (by omega), hxe, ← e]; rfl) rfl
      · exfalso; omega
    | succ d ih =>
      intro v g x5 x6 z5 hv e
      obtain ⟨w1, w2⟩ := leastRow_Wf (c := x / 3) (v := v) h (by omega) (by omega) c.toNat
      obtain ⟨s0, s1, s2, s3, s4, s5, s6, s7⟩ := w1.2.2.2.2.2.2.2.1 p (by omega) (by omega)
      rw [leastFrom] at e
      have tail : ∀ x6 : Option AV, AW Γ mX11_least (zF Γ zG Q) zG 0 0 124 [some (vR 109), some (vI p), some (vI c), some (vI x), some (vI v), some (vI c), x6] [] (mcell mem 111 (leastRow n (mem 110) (x / 3) v c.toNat)) := by
        intro y6
        refine aw_aload_n dX11_least_124 rfl rfl ?_
        refine aw_iload_n dX11_least_125 rfl rfl ?_
        refine aw_callV [_] _ dX11_least_126 rfl clv_X11_199 (by decide) ⟨Nat.zero_le _, Nat.zero_le _⟩ g109 (by rfl) (Nat.le_of_ble_eq_true rfl) rfl ?_
        refine sR_isDone (by omega) (by rw [mcell_same]; exact ⟨by omega, by omega⟩) (by rw [mcell_same]; exact s3) (fun c126 => ?_) (fun c126 => ?_)
        · rw [mcell_same] at c126
          refine aw_if_eq (tgt := 135) dX11_least_129 (by decide) rfl (by omega) (fun c => absurd c (by decide)) (fun _ => ?_)
          refine aw_iload dX11_least_132 rfl rfl ?_
          refine aw_ireturn (ty := .int) dX11_least_134 rfl rfl ?_
          exact q_eq (k _) (by unfold leastM; rw [if_pos hok, if_neg (by omega), hxe, ← e, if_pos c126]) rfl
        · rw [mcell_same] at c126
          refine aw_if_eq (tgt := 135) dX11_least_129 (by decide) rfl (by omega) (fun _ => ?_) (fun c => absurd c (by decide))
          refine aw_iinc4 rfl dX11_least_135 rfl (by decide) ?_
          refine aw_goto (tgt := 49) dX11_least_138 (by decide) ?_
          rw [if_neg c126] at e
          exact ih (v + 1) _ _ _ rfl (by omega) e
      refine aw_iload dX11_least_49 rfl rfl ?_
      refine aw_bipush dX11_least_51 rfl (by decide) ?_
      refine aw_icmp_gt (tgt := 141) dX11_least_53 (by decide) rfl (by omega) (by omega) (fun c53 => ?_) (fun c53 => ?_)
      · exfalso; omega
      · refine aw_aload_n dX11_least_56 rfl rfl ?_
        refine aw_callV [] _ dX11_least_57 rfl clv_X11_222 (by decide) ⟨Nat.zero_le _, Nat.zero_le _⟩ g109 (by rfl) (Nat.le_of_ble_eq_true rfl) rfl ?_
        refine sR_starts2 ?_
        rw [mcell_mcell, show mcell mem 111 g 110 = mem 110 from rfl]
        refine aw_iconst dX11_least_60 rfl ?_
        refine aw_istore5 rfl dX11_least_61 rfl (by decide) ?_
        exact rows x v hx (by omega) tail c.toNat 0 _ (by omega)
  refine AMet.of' 4 (ls := [some (vR (109)), some (vI (p)), some (vI (c)), none, none, none, none]) (by decide) rfl (Nat.le_of_ble_eq_true rfl) ?_
  refine aw_aload_n dX11_least_0 rfl rfl ?_
  refine aw_iload_n dX11_least_1 rfl rfl ?_
  refine aw_callV [_] _ dX11_least_2 rfl clv_X11_217 (by decide) ⟨Nat.zero_le _, Nat.zero_le _⟩ g109 (by rfl) (Nat.le_of_ble_eq_true rfl) rfl ?_
  refine sR_isSpud h46 hp (fun c2 => ?_) (fun c2 => ?_)
  · refine aw_if_eq (tgt := 20) dX11_least_5 (by decide) rfl (by omega) (fun c => absurd c (by decide)) (fun _ => ?_)
    refine aw_iload_n dX11_least_8 rfl rfl ?_
    refine aw_i2l dX11_least_9 rfl (by omega) ?_
    refine aw_lconst (a := 1) dX11_least_10 rfl (by decide) ?_
    refine aw_ldc2 (a := 20) dX11_least_11 rfl lc_X11_250 (by decide) ?_
    refine aw_callS [_, _, _] _ dX11_least_14 rfl cls_X11_78 (by decide) ⟨Nat.zero_le _, Nat.zero_le _⟩ (Nat.le_of_ble_eq_true rfl) rfl ?_
    refine sR_in (by omega) (by omega) (by omega) (fun c14 => ?_) (fun c14 => ?_)
    · refine aw_if_ne (tgt := 22) dX11_least_17 (by decide) rfl (by omega) (fun _ => ?_) (fun c => absurd c (by decide))
      obtain ⟨s0, s1, s2, s3, s4, s5, s6, s7⟩ := h.2.2.2.2.2.2.2.1 p (by omega) (by omega)
      refine aw_aload_n dX11_least_22 rfl rfl ?_
      refine aw_getR dX11_least_23 rfl fl_X11_7 g109 (by rfl) ?_
      refine aw_bipush dX11_least_26 rfl (by decide) ?_
      refine aw_bipush dX11_least_28 rfl (by decide) ?_
      refine aw_iload_n dX11_least_30 rfl rfl ?_
      refine aw_imul dX11_least_31 rfl ?_
      refine aw_iadd dX11_least_32 rfl ?_
      refine aw_iconst dX11_least_33 rfl ?_
      refine aw_iadd dX11_least_34 rfl ?_
      refine aw_iaload dX11_least_35 rfl g110 (by decide) (by omega) ?_
      refine aw_istore3 rfl dX11_least_36 rfl (by decide) ?_
      refine aw_iload_n dX11_least_37 rfl rfl ?_
      refine aw_bipush dX11_least_38 rfl (by decide) ?_
      refine aw_icmp_ne (tgt := 46) dX11_least_40 (by decide) rfl (by omega) (by omega) (fun c40 => ?_) (fun c40 => ?_)
      · refine aw_iconst dX11_least_46 rfl ?_
        refine aw_istore4 rfl dX11_least_47 rfl (by decide) ?_
        have l0 := loop (mem 110 (47 + 8 * p + 2)) (by omega) (by omega) rfl 100 0 (mem 111) none none rfl (by omega) rfl
        rw [mcell_self] at l0
        exact l0
      · refine aw_bipush dX11_least_43 rfl (by decide) ?_
        refine aw_ireturn (ty := .int) dX11_least_45 rfl rfl ?_
        exact q_eq (k (mem 111)) (by unfold leastM; rw [if_pos (by omega), if_pos c40]) mcell_self
    · refine aw_if_ne (tgt := 22) dX11_least_17 (by decide) rfl (by omega) (fun c => absurd c (by decide)) (fun _ => ?_)
      refine aw_iconst dX11_least_20 rfl ?_
      refine aw_ireturn (ty := .int) dX11_least_21 rfl rfl ?_
      exact q_eq (k (mem 111)) (by unfold leastM; rw [if_neg (by omega)]) mcell_self
  · refine aw_if_eq (tgt := 20) dX11_least_5 (by decide) rfl (by omega) (fun _ => ?_) (fun c => absurd c (by decide))
    refine aw_iconst dX11_least_20 rfl ?_
    refine aw_ireturn (ty := .int) dX11_least_21 rfl rfl ?_
    exact q_eq (k (mem 111)) (by unfold leastM; rw [if_neg (by omega)]) mcell_self
end ZRef15
