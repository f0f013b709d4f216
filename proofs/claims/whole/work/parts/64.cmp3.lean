section ZCmp3
variable {Γ : ZG} {mem : Mem} {Q : Option AV → Mem → Prop} {c : Nat}
theorem sC_burnWood {n : Int} {f : Int → Int} (hG : FiG zG c) (w : Wf n f) (h : FiR mem c n f) (k : ∀ m' : Mem, FrI m' mem c (c + 5) → FiR m' c n (burnF f) → Q none m') : AMet Γ mX2_burnWood [vR c] zG mem Q := by
  have hG' := hG
  obtain ⟨g0, g1, g2, g3, g4⟩ := hG
  obtain ⟨h0, h1, h2, h3, hh, hw⟩ := h
  have hn := w.1
  have h26 := w.2.2.2.2.1
  have loop : ∀ (d i : Nat) (m : Mem), (i : Int) + d = f 26 → FrI m mem c (c + 5) → m c = mem c → (∀ x : Int, 0 ≤ x → x < 24 → m (c + 1) x = (burnTo i f).2 x) → (∀ j : Int, 0 ≤ j → j < f 26 → m (c + 2) j = (burnTo i f).2 (27 + 3 * j) ∧ m (c + 3) j = (burnTo i f).2 (27 + 3 * j + 1) ∧ m (c + 4) j = (burnTo i f).2 (27 + 3 * j + 2)) → AW Γ mX2_burnWood (zF Γ zG Q) zG 0 0 4 [some (vR c), some (vI (burnTo i f).1), some (vI i)] [] m := by
    intro d
    induction d with
    | zero =>
      intro i m hi hF hc hx hj
      obtain ⟨a1, a2, -, a4, a5, a6⟩ := burn_I w i (by omega)
      have e : i = (f 26).toNat := by omega
      refine aw_iload_n dX2_burnWood_4 rfl rfl ?_
      refine aw_aload_n dX2_burnWood_5 rfl rfl ?_
      refine aw_getI (kI := 3) dX2_burnWood_6 rfl fl_X2_34 (by first | assumption | rfl) (by rfl) rfl ?_
      rw [hc]
      refine aw_icmp_ge (tgt := 88) dX2_burnWood_9 (by decide) rfl (by omega) (by omega) (fun c9 => ?_) (fun c9 => ?_)
      · refine aw_aload_n dX2_burnWood_88 rfl rfl ?_
        refine aw_iload_n dX2_burnWood_89 rfl rfl ?_
        refine aw_putI (kI := 3) dX2_burnWood_90 rfl fp_X2_34 (by first | assumption | rfl) (by rfl) rfl ?_
        refine aw_return dX2_burnWood_93 rfl ?_
        refine k _ (hF.set (by omega)) ?_
        have eb : ∀ j : Int, ¬ j = 26 → burnF f j = (burnTo i f).2 j := by
          intro j h
          unfold burnF
          rw [← e, fset_ne h]
        have eb26 : burnF f 26 = (burnTo i f).1 := by
          unfold burnF
          rw [← e, fset_same]
        refine ⟨?_, ?_, ?_, ?_, fun x x0 x1 => ?_, fun j j0 j1 => ?_⟩
        · rw [mset_same, fset_ne (by decide), hc]; exact h0
        · rw [mset_same, fset_ne (by decide), hc, eb 24 (by decide), a6 24 (by omega)]; exact h1
        · rw [mset_same, fset_ne (by decide), hc, eb 25 (by decide), a6 25 (by omega)]; exact h2
        · rw [mset_same, fset_same, eb26]
        · rw [mset_ne (by omega), eb x (by omega)]; exact hx x x0 x1
        · rw [eb26] at j1
          rw [mset_ne (by omega), mset_ne (by omega), mset_ne (by omega), eb _ (by omega), eb _ (by omega), eb _ (by omega)]
          exact hj j j0 (by omega)
      · exfalso; omega
    | succ d ih =>
      intro i m hi hF hc hx hj
      obtain ⟨a1, a2, -, a4, a5, a6⟩ := burn_I w i (by omega)
      obtain ⟨w1, w2, w3⟩ := a4 i (Int.le_refl _) (by omega)
      obtain ⟨j1, j2, j3⟩ := hj i (by omega) (by omega)
      have hc0 : m c 0 = n := by rw [hc]; exact h0
      have e4 : m (c + 4) i = (burnTo i f).2 (27 + 3 * (i : Int) + 2) := j3
      have st : burnTo (i + 1) f = burnStep i (burnTo i f) := rfl
      unfold burnStep at st
      have ihn := ih (i + 1)
      rw [st] at ihn
      have s41 : ¬ (burnTo i f).2 (27 + 3 * (i : Int) + 2) = 1 → AW Γ mX2_burnWood (zF Γ zG Q) zG 0 0 41 [some (vR c), some (vI (burnTo i f).1), some (vI i)] [] m := by
        intro hne
        rw [if_neg hne] at ihn
        have q2 : ∀ v : Int, mset m (c + 2) (burnTo i f).1 v (c + 3) = m (c + 3) := fun v => mset_ne (by omega)
        have q3 : ∀ v u : Int, mset (mset m (c + 2) (burnTo i f).1 v) (c + 3) (burnTo i f).1 u (c + 4) = m (c + 4) := fun v u => by rw [mset_ne (by omega), mset_ne (by omega)]
        refine aw_aload_n dX2_burnWood_41 rfl rfl ?_
        refine aw_getR dX2_burnWood_42 rfl fl_X2_15 (by first | assumption | rfl) (by rfl) ?_
        refine aw_iload_n dX2_burnWood_45 rfl rfl ?_
        refine aw_aload_n dX2_burnWood_46 rfl rfl ?_
        refine aw_getR dX2_burnWood_47 rfl fl_X2_15 (by first | assumption | rfl) (by rfl) ?_
        refine aw_iload_n dX2_burnWood_50 rfl rfl ?_
        refine aw_iaload dX2_burnWood_51 rfl (by first | assumption | rfl) (by decide) (by omega) ?_
        rw [j1]
        refine aw_iastore dX2_burnWood_52 rfl (by first | assumption | rfl) (by decide) (by omega) ?_
        refine aw_aload_n dX2_burnWood_53 rfl rfl ?_
        refine aw_getR dX2_burnWood_54 rfl fl_X2_18 (by first | assumption | rfl) (by rfl) ?_
        refine aw_iload_n dX2_burnWood_57 rfl rfl ?_
        refine aw_aload_n dX2_burnWood_58 rfl rfl ?_
        refine aw_getR dX2_burnWood_59 rfl fl_X2_18 (by first | assumption | rfl) (by rfl) ?_
        refine aw_iload_n dX2_burnWood_62 rfl rfl ?_
        refine aw_iaload dX2_burnWood_63 rfl (by first | assumption | rfl) (by decide) (by omega) ?_
        rw [q2, j2]
        refine aw_iastore dX2_burnWood_64 rfl (by first | assumption | rfl) (by decide) (by omega) ?_
        refine aw_aload_n dX2_burnWood_65 rfl rfl ?_
        refine aw_getR dX2_burnWood_66 rfl fl_X2_21 (by first | assumption | rfl) (by rfl) ?_
        refine aw_iload_n dX2_burnWood_69 rfl rfl ?_
        refine aw_aload_n dX2_burnWood_70 rfl rfl ?_
        refine aw_getR dX2_burnWood_71 rfl fl_X2_21 (by first | assumption | rfl) (by rfl) ?_
        refine aw_iload_n dX2_burnWood_74 rfl rfl ?_
        refine aw_iaload dX2_burnWood_75 rfl (by first | assumption | rfl) (by decide) (by omega) ?_
        rw [q3, j3]
        refine aw_iconst dX2_burnWood_76 rfl ?_
        refine aw_isub dX2_burnWood_77 rfl ?_
        refine aw_iastore dX2_burnWood_78 rfl (by first | assumption | rfl) (by decide) (by omega) ?_
        refine aw_iinc1 rfl dX2_burnWood_79 rfl (by decide) ?_
        refine aw_iinc2 rfl dX2_burnWood_82 rfl (by decide) ?_
        refine aw_goto (tgt := 4) dX2_burnWood_85 (by decide) ?_
        refine ihn _ (by push_cast; omega) (((hF.set (by omega)).set (by omega)).set (by omega)) ?_ ?_ ?_
        · rw [mset_ne (by omega), mset_ne (by omega), mset_ne (by omega)]; exact hc
        · intro x x0 x1
          dsimp only
          rw [mset_ne (by omega), mset_ne (by omega), mset_ne (by omega), fset_ne (by omega), fset_ne (by omega), fset_ne (by omega)]
          exact hx x x0 x1
        · intro j y0 y1
          dsimp only
          obtain ⟨u1, u2, u3⟩ := hj j y0 y1
          refine ⟨?_, ?_, ?_⟩
          · by_cases e : j = (burnTo i f).1
            · rw [mset_ne (by omega), mset_ne (by omega), mset_same, e, fset_same, fset_ne (by omega), fset_ne (by omega), fset_same]
            · rw [mset_ne (by omega), mset_ne (by omega), mset_same, fset_ne e, fset_ne (by omega), fset_ne (by omega), fset_ne (by omega)]; exact u1
          · by_cases e : j = (burnTo i f).1
            · rw [mset_ne (by omega), mset_same, q2, e, fset_same, fset_ne (by omega), fset_same]
            · rw [mset_ne (by omega), mset_same, q2, fset_ne e, fset_ne (by omega), fset_ne (by omega), fset_ne (by omega)]; exact u2
          · by_cases e : j = (burnTo i f).1
            · rw [mset_same, q3, e, fset_same, fset_same]
            · rw [mset_same, q3, fset_ne e, fset_ne (by omega), fset_ne (by omega), fset_ne (by omega)]; exact u3
      have s22 : (burnTo i f).2 (27 + 3 * (i : Int) + 2) = 1 → AW Γ mX2_burnWood (zF Γ zG Q) zG 0 0 22 [some (vR c), some (vI (burnTo i f).1), some (vI i)] [] m := by
        intro heq
        rw [if_pos heq] at ihn
        refine aw_aload_n dX2_burnWood_22 rfl rfl ?_
        refine aw_aload_n dX2_burnWood_23 rfl rfl ?_
        refine aw_getR dX2_burnWood_24 rfl fl_X2_15 (by first | assumption | rfl) (by rfl) ?_
        refine aw_iload_n dX2_burnWood_27 rfl rfl ?_
        refine aw_iaload dX2_burnWood_28 rfl (by first | assumption | rfl) (by decide) (by omega) ?_
        rw [j1]
        refine aw_aload_n dX2_burnWood_29 rfl rfl ?_
        refine aw_getR dX2_burnWood_30 rfl fl_X2_18 (by first | assumption | rfl) (by rfl) ?_
        refine aw_iload_n dX2_burnWood_33 rfl rfl ?_
        refine aw_iaload dX2_burnWood_34 rfl (by first | assumption | rfl) (by decide) (by omega) ?_
        rw [j2]
        refine aw_callV [_, _] _ dX2_burnWood_35 rfl clv_X2_60 (by decide) ⟨Nat.zero_le _, Nat.zero_le _⟩ (by first | assumption | rfl) (by rfl) (Nat.le_of_ble_eq_true rfl) rfl ?_
        refine sC_becomeEmber hG' (by rw [hc0]; exact hn) (by rw [hc0]; exact w1) (by omega) (fun x x0 x1 => by rw [hx x x0 x1]; exact a2 x x0 x1) ?_
        refine aw_goto (tgt := 82) dX2_burnWood_38 (by decide) ?_
        refine aw_iinc2 rfl dX2_burnWood_82 rfl (by decide) ?_
        refine aw_goto (tgt := 4) dX2_burnWood_85 (by decide) ?_
        refine ihn _ (by push_cast; omega) (hF.cell (by omega)) ?_ ?_ ?_
        · rw [mcell_ne (by omega)]; exact hc
        · intro x x0 x1
          rw [mcell_same]
          show emberF _ _ (m (c + 1)) x = emberF _ _ (burnTo i f).2 x
          unfold emberF
          rw [hx x x0 x1]
        · intro j y0 y1
          dsimp only
          rw [mcell_ne (by omega), mcell_ne (by omega), mcell_ne (by omega), emberF_out (by omega), emberF_out (by omega), emberF_out (by omega)]
          exact hj j y0 y1
      refine aw_iload_n dX2_burnWood_4 rfl rfl ?_
      refine aw_aload_n dX2_burnWood_5 rfl rfl ?_
      refine aw_getI (kI := 3) dX2_burnWood_6 rfl fl_X2_34 (by first | assumption | rfl) (by rfl) rfl ?_
      rw [hc]
      refine aw_icmp_ge (tgt := 88) dX2_burnWood_9 (by decide) rfl (by omega) (by omega) (fun c9 => ?_) (fun c9 => ?_)
      · exfalso; omega
      · refine aw_aload_n dX2_burnWood_12 rfl rfl ?_
        refine aw_getR dX2_burnWood_13 rfl fl_X2_21 (by first | assumption | rfl) (by rfl) ?_
        refine aw_iload_n dX2_burnWood_16 rfl rfl ?_
        refine aw_iaload dX2_burnWood_17 rfl (by first | assumption | rfl) (by decide) (by omega) ?_
        rw [j3]
        refine aw_iconst dX2_burnWood_18 rfl ?_
        refine aw_icmp_gt (tgt := 41) dX2_burnWood_19 (by decide) rfl (by omega) (by omega) (fun c19 => ?_) (fun c19 => ?_)
        · exact s41 (by omega)
        · exact s22 (by omega)
  refine AMet.of' 2 (ls := [some (vR (c)), none, none]) (by decide) rfl (Nat.le_of_ble_eq_true rfl) ?_
  refine aw_iconst dX2_burnWood_0 rfl ?_
  refine aw_istore1 rfl dX2_burnWood_1 rfl (by decide) ?_
  refine aw_iconst dX2_burnWood_2 rfl ?_
  refine aw_istore2 rfl dX2_burnWood_3 rfl (by decide) ?_
  exact loop (f 26).toNat 0 mem (by omega) FrI.rf rfl hh hw
theorem sC_coolDown {n : Int} {f : Int → Int} (hG : FiG zG c) (w : Wf n f) (h : FiR mem c n f) (k : ∀ m' : Mem, FrI m' mem c (c + 5) → FiR m' c n (coolF n f) → Q none m') : AMet Γ mX2_coolDown [vR c] zG mem Q := by
  have hG' := hG
  obtain ⟨g0, g1, g2, g3, g4⟩ := hG
  obtain ⟨h0, h1, h2, h3, hh, hw⟩ := h
  obtain ⟨hn, hH, w24, w25, -⟩ := w
  have loop : ∀ (d : Nat) (x : Int) (m : Mem), x + d = 3 * n → 0 ≤ x → FrI m mem (c + 1) (c + 2) → (∀ y : Int, 0 ≤ y → y < 24 → m (c + 1) y = coolTo n x f y) → AW Γ mX2_coolDown (zF Γ zG Q) zG 0 0 2 [some (vR c), some (vI x)] [] m := by
    intro d
    induction d with
    | zero =>
      intro x m hx x0 hF hy
      have hc : m c = mem c := hF c (by omega)
      have q2 : m (c + 2) = mem (c + 2) := hF _ (by omega)
      have q3 : m (c + 3) = mem (c + 3) := hF _ (by omega)
      have q4 : m (c + 4) = mem (c + 4) := hF _ (by omega)
      have ec : ∀ j : Int, 24 ≤ j → coolF n f j = f j := fun j hj => by unfold coolF; exact coolTo_out (by omega)
      refine aw_iload_n dX2_coolDown_2 rfl rfl ?_
      refine aw_aload_n dX2_coolDown_3 rfl rfl ?_
      refine aw_callV [] _ dX2_coolDown_4 rfl clv_X2_49 (by decide) ⟨Nat.zero_le _, Nat.zero_le _⟩ (by first | assumption | rfl) (by rfl) (Nat.le_of_ble_eq_true rfl) rfl ?_
      refine sC_placeCount hG' ?_
      rw [hc, h0]
      refine aw_icmp_ge (tgt := 38) dX2_coolDown_7 (by decide) rfl (by omega) (by omega) (fun c7 => ?_) (fun c7 => ?_)
      · refine aw_return dX2_coolDown_38 rfl ?_
        refine k m (hF.wd (by omega) (by omega)) ?_
        unfold FiR
        rw [hc, q2, q3, q4, ec 24 (by omega), ec 25 (by omega), ec 26 (by omega)]
        refine ⟨h0, h1, h2, h3, fun y y0 y1 => ?_, fun i i0 i1 => ?_⟩
        · rw [hy y y0 y1, show x = 3 * n by omega]; rfl
        · rw [ec _ (by omega), ec _ (by omega), ec _ (by omega)]; exact hw i i0 i1
      · exfalso; omega
    | succ d ih =>
      intro x m hx x0 hF hy
      have hc : m c = mem c := hF c (by omega)
      have ex := hy x (by omega) (by omega)
      rw [coolTo_out (by omega)] at ex
      have rx := hH x (by omega) (by omega)
      have hl2 := lessF_rng (n := n) w24 w25 x
      have el : m c 1 + (if x / 3 = 0 ∨ x / 3 = m c 0 - 1 then m c 2 else 0) = lessF n f x := by
        rw [hc, h0, h1, h2]; rfl
      refine aw_iload_n dX2_coolDown_2 rfl rfl ?_
      refine aw_aload_n dX2_coolDown_3 rfl rfl ?_
      refine aw_callV [] _ dX2_coolDown_4 rfl clv_X2_49 (by decide) ⟨Nat.zero_le _, Nat.zero_le _⟩ (by first | assumption | rfl) (by rfl) (Nat.le_of_ble_eq_true rfl) rfl ?_
      refine sC_placeCount hG' ?_
      rw [hc, h0]
      refine aw_icmp_ge (tgt := 38) dX2_coolDown_7 (by decide) rfl (by omega) (by omega) (fun c7 => ?_) (fun c7 => ?_)
      · exfalso; omega
      · refine aw_aload_n dX2_coolDown_10 rfl rfl ?_
        refine aw_getR dX2_coolDown_11 rfl fl_X2_9 (by first | assumption | rfl) (by rfl) ?_
        refine aw_iload_n dX2_coolDown_14 rfl rfl ?_
        refine aw_iconst dX2_coolDown_15 rfl ?_
        refine aw_aload_n dX2_coolDown_16 rfl rfl ?_
        refine aw_getR dX2_coolDown_17 rfl fl_X2_9 (by first | assumption | rfl) (by rfl) ?_
        refine aw_iload_n dX2_coolDown_20 rfl rfl ?_
        refine aw_iaload dX2_coolDown_21 rfl (by first | assumption | rfl) (by decide) (by omega) ?_
        rw [ex]
        refine aw_aload_n dX2_coolDown_22 rfl rfl ?_
        refine aw_iload_n dX2_coolDown_23 rfl rfl ?_
        refine aw_callV [_] _ dX2_coolDown_24 rfl clv_X2_73 (by decide) ⟨Nat.zero_le _, Nat.zero_le _⟩ (by first | assumption | rfl) (by rfl) (Nat.le_of_ble_eq_true rfl) rfl ?_
        refine sC_lossAt hG' (by rw [hc, h0]; exact hn) (by omega) ?_
        rw [el]
        refine aw_isub dX2_coolDown_27 rfl ?_
        refine aw_max dX2_coolDown_28 rfl clm_X2_77 (by decide) (Nat.le_of_ble_eq_true rfl) ⟨Nat.zero_le _, Nat.zero_le _⟩ (by omega) (by omega) ?_
        refine aw_iastore dX2_coolDown_31 rfl (by first | assumption | rfl) (by decide) (by omega) ?_
        refine aw_iinc1 rfl dX2_coolDown_32 rfl (by decide) ?_
        refine aw_goto (tgt := 2) dX2_coolDown_35 (by decide) ?_
        refine ih (x + 1) _ (by omega) (by omega) (hF.set (by omega)) (fun y y0 y1 => ?_)
        rw [mset_same]
        by_cases e : y = x
        · subst e
          rw [fset_same]
          unfold coolTo
          rw [if_pos (by omega)]
        · rw [fset_ne e, hy y y0 y1]
          unfold coolTo
          by_cases e2 : 0 ≤ y ∧ y < x
          · rw [if_pos e2, if_pos (by omega)]
          · rw [if_neg e2, if_neg (by omega)]
  refine AMet.of' 1 (ls := [some (vR (c)), none]) (by decide) rfl (Nat.le_of_ble_eq_true rfl) ?_
  refine aw_iconst dX2_coolDown_0 rfl ?_
  refine aw_istore1 rfl dX2_coolDown_1 rfl (by decide) ?_
  exact loop (3 * n).toNat 0 mem (by omega) (by omega) FrI.rf (fun y y0 y1 => by rw [coolTo_out (by omega)]; exact hh y y0 y1)
theorem sC_allHeat {n : Int} {f : Int → Int} (hG : FiG zG c) (w : Wf n f) (h : FiR mem c n f) (k : Q (some (vI (heatTo (3 * n).toNat f))) mem) : AMet Γ mX2_allHeat [vR c] zG mem Q := by
  have hG' := hG
  obtain ⟨g0, g1, g2, g3, g4⟩ := hG
  obtain ⟨h0, h1, h2, h3, hh, hw⟩ := h
  have hn := w.1
  have loop : ∀ (d i : Nat), (i : Int) + d = 3 * n → AW Γ mX2_allHeat (zF Γ zG Q) zG 0 0 4 [some (vR c), some (vI (heatTo i f)), some (vI i)] [] mem := by
    intro d
    induction d with
    | zero =>
      intro i hi
      have e : i = (3 * n).toNat := by omega
      refine aw_iload_n dX2_allHeat_4 rfl rfl ?_
      refine aw_aload_n dX2_allHeat_5 rfl rfl ?_
      refine aw_callV [] _ dX2_allHeat_6 rfl clv_X2_49 (by decide) ⟨Nat.zero_le _, Nat.zero_le _⟩ (by first | assumption | rfl) (by rfl) (Nat.le_of_ble_eq_true rfl) rfl ?_
      refine sC_placeCount hG' ?_
      rw [h0]
      refine aw_icmp_ge (tgt := 27) dX2_allHeat_9 (by decide) rfl (by omega) (by omega) (fun c9 => ?_) (fun c9 => ?_)
      · refine aw_iload_n dX2_allHeat_27 rfl rfl ?_
        refine aw_ireturn (ty := .int) dX2_allHeat_28 rfl rfl ?_
        rw [e]; exact k
      · exfalso; omega
    | succ d ih =>
      intro i hi
      have hz := ih (i + 1) (by push_cast at hi ⊢; omega)
      rw [show heatTo (i + 1) f = heatTo i f + f i from rfl] at hz
      refine aw_iload_n dX2_allHeat_4 rfl rfl ?_
      refine aw_aload_n dX2_allHeat_5 rfl rfl ?_
      refine aw_callV [] _ dX2_allHeat_6 rfl clv_X2_49 (by decide) ⟨Nat.zero_le _, Nat.zero_le _⟩ (by first | assumption | rfl) (by rfl) (Nat.le_of_ble_eq_true rfl) rfl ?_
      refine sC_placeCount hG' ?_
      rw [h0]
      refine aw_icmp_ge (tgt := 27) dX2_allHeat_9 (by decide) rfl (by omega) (by omega) (fun c9 => ?_) (fun c9 => ?_)
      · exfalso; push_cast at hi; omega
      · refine aw_iload_n dX2_allHeat_12 rfl rfl ?_
        refine aw_aload_n dX2_allHeat_13 rfl rfl ?_
        refine aw_getR dX2_allHeat_14 rfl fl_X2_9 (by first | assumption | rfl) (by rfl) ?_
        refine aw_iload_n dX2_allHeat_17 rfl rfl ?_
        refine aw_iaload dX2_allHeat_18 rfl (by first | assumption | rfl) (by decide) (by omega) ?_
        rw [hh i (by omega) (by omega)]
        refine aw_iadd dX2_allHeat_19 rfl ?_
        refine aw_istore1 rfl dX2_allHeat_20 rfl (by decide) ?_
        refine aw_iinc2 rfl dX2_allHeat_21 rfl (by decide) ?_
        refine aw_goto (tgt := 4) dX2_allHeat_24 (by decide) ?_
        exact hz
  refine AMet.of' 2 (ls := [some (vR (c)), none, none]) (by decide) rfl (Nat.le_of_ble_eq_true rfl) ?_
  refine aw_iconst dX2_allHeat_0 rfl ?_
  refine aw_istore1 rfl dX2_allHeat_1 rfl (by decide) ?_
  refine aw_iconst dX2_allHeat_2 rfl ?_
  refine aw_istore2 rfl dX2_allHeat_3 rfl (by decide) ?_
  exact loop (3 * n).toNat 0 (by omega)
theorem sC_becomeCold (hG : FiG zG c) (k : ∀ m' : Mem, FrI m' mem c (c + 5) → (∀ f : Int → Int, f 24 = 1 → f 25 = 1 → f 26 = 0 → (∀ x : Int, 0 ≤ x → x < 24 → f x = 0) → FiR m' c 3 f) → Q none m') : AMet Γ mX2_becomeCold [vR c] zG mem Q := by
  obtain ⟨g0, g1, g2, g3, g4⟩ := hG
  refine AMet.of' 0 (ls := [some (vR (c))]) (by decide) rfl (Nat.le_of_ble_eq_true rfl) ?_
  refine aw_aload_n dX2_becomeCold_0 rfl rfl ?_
  refine aw_iconst dX2_becomeCold_1 rfl ?_
  refine aw_putI (kI := 0) dX2_becomeCold_2 rfl fp_X2_24 (by first | assumption | rfl) (by rfl) rfl ?_
  refine aw_aload_n dX2_becomeCold_5 rfl rfl ?_
  refine aw_iconst dX2_becomeCold_6 rfl ?_
  refine aw_putI (kI := 1) dX2_becomeCold_7 rfl fp_X2_28 (by first | assumption | rfl) (by rfl) rfl ?_
  refine aw_aload_n dX2_becomeCold_10 rfl rfl ?_
  refine aw_iconst dX2_becomeCold_11 rfl ?_
  refine aw_putI (kI := 2) dX2_becomeCold_12 rfl fp_X2_31 (by first | assumption | rfl) (by rfl) rfl ?_
  refine aw_aload_n dX2_becomeCold_15 rfl rfl ?_
  refine aw_iconst dX2_becomeCold_16 rfl ?_
  refine aw_putI (kI := 3) dX2_becomeCold_17 rfl fp_X2_34 (by first | assumption | rfl) (by rfl) rfl ?_
  refine aw_aload_n dX2_becomeCold_20 rfl rfl ?_
  refine aw_getR dX2_becomeCold_21 rfl fl_X2_9 (by first | assumption | rfl) (by rfl) ?_
  refine aw_iconst dX2_becomeCold_24 rfl ?_
  refine aw_callS [_, _] _ dX2_becomeCold_25 rfl cls_X2_37 (by decide) ⟨Nat.zero_le _, Nat.zero_le _⟩ (Nat.le_of_ble_eq_true rfl) rfl ?_
  refine sC_fill (n := 24) (by assumption) (by decide) ?_
  refine aw_return dX2_becomeCold_28 rfl ?_
  refine k _ (((((FrI.rf.set (by omega)).set (by omega)).set (by omega)).set (by omega)).cell (by omega)) ?_
  intro f f24 f25 f26 fx
  have e : ∀ g : Int → Int, mcell (mset (mset (mset (mset mem c 0 3) c 1 1) c 2 1) c 3 0) (c + 1) g c = fset (fset (fset (fset (mem c) 0 3) 1 1) 2 1) 3 0 := by
    intro g
    rw [mcell_ne (by omega)]
    simp only [mset_eq, mcell_same]
  unfold FiR
  rw [e, f24, f25, f26]
  refine ⟨rfl, rfl, rfl, rfl, fun x x0 x1 => ?_, fun i i0 i1 => by omega⟩
  rw [mcell_same, fx x x0 x1]
  exact if_pos ⟨x0, by omega⟩
theorem sC_copyFire {n : Int} {f : Int → Int} {d : Nat} (hG : FiG zG c) (hD : FiG zG d) (hcd : d + 5 ≤ c ∨ c + 5 ≤ d) (w : 0 ≤ f 26 ∧ f 26 ≤ 6) (h : FiR mem d n f) (k : ∀ m' : Mem, FrI m' mem c (c + 5) → FiR m' c n f → Q none m') : AMet Γ mX2_copyFrom [vR c, vR d] zG mem Q := by
  obtain ⟨g0, g1, g2, g3, g4⟩ := hG
  obtain ⟨b0, b1, b2, b3, b4⟩ := hD
  obtain ⟨h0, h1, h2, h3, hh, hw⟩ := h
  have n0 : d ≠ c := by omega
  have fc : ∀ (a b : Int → Int) (z i : Int), 0 ≤ i → i < z → fcopy a b 0 0 z i = a i := by
    intro a b z i i0 i1
    unfold fcopy
    rw [if_pos (by omega), show (0 : Int) + (i - 0) = i by omega]
  refine AMet.of' 0 (ls := [some (vR (c)), some (vR (d))]) (by decide) rfl (Nat.le_of_ble_eq_true rfl) ?_
  refine aw_aload_n dX2_copyFrom_0 rfl rfl ?_
  refine aw_aload_n dX2_copyFrom_1 rfl rfl ?_
  refine aw_getI (kI := 0) dX2_copyFrom_2 rfl fl_X2_24 (by first | assumption | rfl) (by rfl) rfl ?_
  refine aw_putI (kI := 0) dX2_copyFrom_5 rfl fp_X2_24 (by first | assumption | rfl) (by rfl) rfl ?_
  refine aw_aload_n dX2_copyFrom_8 rfl rfl ?_
  refine aw_aload_n dX2_copyFrom_9 rfl rfl ?_
  refine aw_getI (kI := 1) dX2_copyFrom_10 rfl fl_X2_28 (by first | assumption | rfl) (by rfl) rfl ?_
  rw [mset_ne n0]
  refine aw_putI (kI := 1) dX2_copyFrom_13 rfl fp_X2_28 (by first | assumption | rfl) (by rfl) rfl ?_
  refine aw_aload_n dX2_copyFrom_16 rfl rfl ?_
  refine aw_aload_n dX2_copyFrom_17 rfl rfl ?_
  refine aw_getI (kI := 2) dX2_copyFrom_18 rfl fl_X2_31 (by first | assumption | rfl) (by rfl) rfl ?_
  rw [mset_ne n0, mset_ne n0]
  refine aw_putI (kI := 2) dX2_copyFrom_21 rfl fp_X2_31 (by first | assumption | rfl) (by rfl) rfl ?_
  refine aw_aload_n dX2_copyFrom_24 rfl rfl ?_
  refine aw_aload_n dX2_copyFrom_25 rfl rfl ?_
  refine aw_getI (kI := 3) dX2_copyFrom_26 rfl fl_X2_34 (by first | assumption | rfl) (by rfl) rfl ?_
  rw [mset_ne n0, mset_ne n0, mset_ne n0]
  refine aw_putI (kI := 3) dX2_copyFrom_29 rfl fp_X2_34 (by first | assumption | rfl) (by rfl) rfl ?_
  refine aw_aload_n dX2_copyFrom_32 rfl rfl ?_
  refine aw_getR dX2_copyFrom_33 rfl fl_X2_9 (by first | assumption | rfl) (by rfl) ?_
  refine aw_iconst dX2_copyFrom_36 rfl ?_
  refine aw_aload_n dX2_copyFrom_37 rfl rfl ?_
  refine aw_getR dX2_copyFrom_38 rfl fl_X2_9 (by first | assumption | rfl) (by rfl) ?_
  refine aw_iconst dX2_copyFrom_41 rfl ?_
  refine aw_bipush dX2_copyFrom_42 rfl (by decide) ?_
  refine aw_copy dX2_copyFrom_44 rfl clc_X2_43 (by first | assumption | rfl) (by first | assumption | rfl) (by decide) (by decide) (by decide) (by decide) (by decide) (by decide) (by decide) (by decide) (Nat.le_of_ble_eq_true rfl) ?_
  refine aw_aload_n dX2_copyFrom_47 rfl rfl ?_
  refine aw_getR dX2_copyFrom_48 rfl fl_X2_15 (by first | assumption | rfl) (by rfl) ?_
  refine aw_iconst dX2_copyFrom_51 rfl ?_
  refine aw_aload_n dX2_copyFrom_52 rfl rfl ?_
  refine aw_getR dX2_copyFrom_53 rfl fl_X2_15 (by first | assumption | rfl) (by rfl) ?_
  refine aw_iconst dX2_copyFrom_56 rfl ?_
  refine aw_bipush dX2_copyFrom_57 rfl (by decide) ?_
  refine aw_copy dX2_copyFrom_59 rfl clc_X2_43 (by first | assumption | rfl) (by first | assumption | rfl) (by decide) (by decide) (by decide) (by decide) (by decide) (by decide) (by decide) (by decide) (Nat.le_of_ble_eq_true rfl) ?_
  refine aw_aload_n dX2_copyFrom_62 rfl rfl ?_
  refine aw_getR dX2_copyFrom_63 rfl fl_X2_18 (by first | assumption | rfl) (by rfl) ?_
  refine aw_iconst dX2_copyFrom_66 rfl ?_
  refine aw_aload_n dX2_copyFrom_67 rfl rfl ?_
  refine aw_getR dX2_copyFrom_68 rfl fl_X2_18 (by first | assumption | rfl) (by rfl) ?_
  refine aw_iconst dX2_copyFrom_71 rfl ?_
  refine aw_bipush dX2_copyFrom_72 rfl (by decide) ?_
  refine aw_copy dX2_copyFrom_74 rfl clc_X2_43 (by first | assumption | rfl) (by first | assumption | rfl) (by decide) (by decide) (by decide) (by decide) (by decide) (by decide) (by decide) (by decide) (Nat.le_of_ble_eq_true rfl) ?_
  refine aw_aload_n dX2_copyFrom_77 rfl rfl ?_
  refine aw_getR dX2_copyFrom_78 rfl fl_X2_21 (by first | assumption | rfl) (by rfl) ?_
  refine aw_iconst dX2_copyFrom_81 rfl ?_
  refine aw_aload_n dX2_copyFrom_82 rfl rfl ?_
  refine aw_getR dX2_copyFrom_83 rfl fl_X2_21 (by first | assumption | rfl) (by rfl) ?_
  refine aw_iconst dX2_copyFrom_86 rfl ?_
  refine aw_bipush dX2_copyFrom_87 rfl (by decide) ?_
  refine aw_copy dX2_copyFrom_89 rfl clc_X2_43 (by first | assumption | rfl) (by first | assumption | rfl) (by decide) (by decide) (by decide) (by decide) (by decide) (by decide) (by decide) (by decide) (Nat.le_of_ble_eq_true rfl) ?_
  refine aw_return dX2_copyFrom_92 rfl ?_
  refine k _ ((((((((FrI.rf.set (by omega)).set (by omega)).set (by omega)).set (by omega)).cell (by omega)).cell (by omega)).cell (by omega)).cell (by omega)) ?_
  refine ⟨?_, ?_, ?_, ?_, fun x x0 x1 => ?_, fun i i0 i1 => ⟨?_, ?_, ?_⟩⟩
  · rw [mcell_ne (by omega), mcell_ne (by omega), mcell_ne (by omega), mcell_ne (by omega)]; simp only [mset_eq, mcell_same]; exact h0
  · rw [mcell_ne (by omega), mcell_ne (by omega), mcell_ne (by omega), mcell_ne (by omega)]; simp only [mset_eq, mcell_same]; exact h1
  · rw [mcell_ne (by omega), mcell_ne (by omega), mcell_ne (by omega), mcell_ne (by omega)]; simp only [mset_eq, mcell_same]; exact h2
  · rw [mcell_ne (by omega), mcell_ne (by omega), mcell_ne (by omega), mcell_ne (by omega)]; simp only [mset_eq, mcell_same]; exact h3
  · rw [mcell_ne (by omega), mcell_ne (by omega), mcell_ne (by omega), mcell_same, fc _ _ 24 x x0 x1]
    exact (congrFun (((((FrI.rf.set (by omega)).set (by omega)).set (by omega)).set (by omega) : FrI _ mem c (c + 5)) (d + 1) (by omega)) x).trans (hh x x0 x1)
  · rw [mcell_ne (by omega), mcell_ne (by omega), mcell_same, fc _ _ 6 i i0 (by omega)]
    exact (congrFun ((((((FrI.rf.set (by omega)).set (by omega)).set (by omega)).set (by omega)).cell (by omega) : FrI _ mem c (c + 5)) (d + 2) (by omega)) i).trans (hw i i0 i1).1
  · rw [mcell_ne (by omega), mcell_same, fc _ _ 6 i i0 (by omega)]
    exact (congrFun (((((((FrI.rf.set (by omega)).set (by omega)).set (by omega)).set (by omega)).cell (by omega)).cell (by omega) : FrI _ mem c (c + 5)) (d + 3) (by omega)) i).trans (hw i i0 i1).2.1
  · rw [mcell_same, fc _ _ 6 i i0 (by omega)]
    exact (congrFun ((((((((FrI.rf.set (by omega)).set (by omega)).set (by omega)).set (by omega)).cell (by omega)).cell (by omega)).cell (by omega) : FrI _ mem c (c + 5)) (d + 4) (by omega)) i).trans (hw i i0 i1).2.2
end ZCmp3
