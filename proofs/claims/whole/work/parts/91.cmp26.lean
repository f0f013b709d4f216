theorem chk_err {t : Int → Int} {L lo hi a : Int} {s : PSt} (h : numP t L lo hi s = .error a) : chkP (numD t L) t L (numC t L lo hi) s = .error a := by
  rw [numP_eq] at h
  unfold chkP
  by_cases hx : tkX t L s.p
  · rw [if_pos hx] at h ⊢; exact h
  · rw [if_neg hx] at h ⊢
    by_cases hc : numC t L lo hi s
    · rw [if_pos hc] at h; cases h
    · rw [if_neg hc] at h ⊢; exact h
theorem heat_err {t : Int → Int} {L a : Int} {s : PSt} (h : numP t L 0 7 s = .error a) : heatP t L s = .error a := by
  unfold heatP heatA cellL
  rw [chk_err h]
  rfl
/-- behind the cell's number -/
theorem heat_eq {t : Int → Int} {L v : Int} {s : PSt} (hx : ¬ tkX t L s.p) (hk : tkK t L s.p = 2) (hv : v = tkV t L s.p) (hr : 0 ≤ v ∧ v ≤ 7) : (heatA t L s).bind (advP t L) = if zand (zshr (s.1 7) v) 1 = 0 then .ok (fset (fset (fset (fset (fset s.1 1 v) 9 (if s.1 9 < v then v else s.1 9)) 2 v) 7 (zor (s.1 7) (zshl 1 v))) 0 (tkE t L s.p), s.2) else .error (8 * tkB t L s.p + 4) := by
  unfold heatA cellL
  rw [chkP_y hx ⟨hk, by omega⟩]
  show ((chkP k4 t L (toldC 7) (cellG t L s)).bind (stP (toldG 7))).bind (advP t L) = _
  rw [chk_adv (G := toldG 7) (fun _ => rfl)]
  have e : cellG t L s = (fset (fset s.1 1 v) 9 (if s.1 9 < v then v else s.1 9), s.2) := by unfold cellG; rw [← hv]
  rw [e]
  show (if tkX t L s.p then _ else if zand (zshr (s.1 7) v) 1 = 0 then _ else _) = _
  rw [if_neg hx]
  rfl
section ZCmp26
variable {Γ : ZG} {mem m : Mem} {Q : Option AV → Mem → Prop}
theorem lineA_ok2 {t : Int → Int} {L : Int} {s : PSt} (hx : ¬ tkX t L s.p) (hl : 1 ≤ lineC t L s) (hf : ¬ fullC (lineC t L s) s) : lineA t L s = .ok (fset (fireG t L s).1 0 (tkE t L s.p), s.2) := by
  rw [lineA_eq hx (by omega), if_neg hf, if_neg (by omega)]
/-- a line that isn't the fire's begins -/
theorem RdF.line {t : Int → Int} {L : Int} {s : PSt} (h : RdF s m) (w : s.1 6 = 0 ∨ s.1 6 = 1) (hl : 1 ≤ lineC t L s) : RdF (fset (fireG t L s).1 0 (tkE t L s.p), s.2) m := by
  obtain ⟨⟨z4, z8, z5, z6, z7⟩, g2, g3, g4, g5⟩ := h
  refine ⟨⟨z4, ?_, z5, z6, z7⟩, g2, g3, g4, g5⟩
  show m 67 8 = (if ¬ s.1 6 = 0 ∨ lineC t L s = 0 then 1 else 0)
  rw [z8]
  rcases w with w | w
  · rw [w, if_neg (by omega)]
  · rw [w, if_pos (by omega)]
theorem sC_readHeat (s : PSt) (hS : RdS mem) (hR : TkR mem (mem 69) (mem 68 1) s.p) (hx : ¬ tkX (mem 69) (mem 68 1) s.p) (hF : RdF s mem) (w : PW (mem 68 1) s) (dw : DW s) (hl : lineC (mem 69) (mem 68 1) s = 1) (k : ∀ m' : Mem, RdK mem m' → CmpR (lineP (mem 69) (mem 68 1) s) m' → Q none m') : AMet Γ mX5_readHeat [vR 67] zG mem Q := by
  obtain ⟨e1, e3, e4, e2, ex, en⟩ := id hR
  have e5 := en hx
  have K0 : RdK mem mem := ⟨FrI.rf, rfl, rfl, rfl, hS⟩
  have h46 := dw.2.2.2.2.2.1
  have kb : ∀ (m' : Mem) (a : Int), RdK mem m' → TBad a m' → lineP (mem 69) (mem 68 1) s = .error a → Q none m' := fun m' a hK hB e => k m' hK (by rw [e]; exact hB)
  have la := lineA_ok2 (t := mem 69) (L := mem 68 1) hx (by omega) (by rw [hl]; unfold fullC; omega)
  have lp := lineP_of la
  rw [hl] at lp
  have lp2 : lineP (mem 69) (mem 68 1) s = (heatP (mem 69) (mem 68 1) (fset (fireG (mem 69) (mem 68 1) s).1 0 (tkE (mem 69) (mem 68 1) s.p), s.2)).bind (markP (mem 69) (mem 68 1)) := lp
  clear lp
  have F0 := hF.line (t := mem 69) (L := mem 68 1) w.1.1 (by omega)
  obtain ⟨sA, hsA⟩ : ∃ x : PSt, ((fset (fireG (mem 69) (mem 68 1) s).1 0 (tkE (mem 69) (mem 68 1) s.p), s.2) : PSt) = x := ⟨_, rfl⟩
  rw [hsA] at lp2 F0
  have pA : sA.p = tkE (mem 69) (mem 68 1) s.p := by rw [← hsA]; rfl
  have dA : sA.2 = s.2 := by rw [← hsA]
  have d46 : sA.2 46 ≤ 6 := by rw [dA]; exact h46.2
  have a9 : sA.1 9 = s.1 9 := by rw [← hsA]; rfl
  have w9 := w.1.2.1
  -- bad loop
  have t56 : ∀ (v : Int), 0 ≤ v ∧ v ≤ 7 → ∀ (d : Nat) (z : Int) (m : Mem) (a : Int), z + d = 3 → 0 ≤ z → RdK mem m → TBad a m → lineP (mem 69) (mem 68 1) s = .error a → AW Γ mX5_readHeat (zF Γ zG Q) zG 0 0 56 [some (vR 67), some (vI v), some (vI z)] [] m := by
    intro v hv d
    induction d with
    | zero =>
      intro z m a hz z0 hK hB he
      refine aw_iload_n dX5_readHeat_56 rfl rfl ?_
      refine aw_iconst dX5_readHeat_57 rfl ?_
      refine aw_icmp_ge (tgt := 93) dX5_readHeat_58 (by decide) rfl (by omega) (by omega) (fun c58 => ?_) (fun c58 => ?_)
      · refine aw_aload_n dX5_readHeat_93 rfl rfl ?_
        refine aw_getR dX5_readHeat_94 rfl fl_X5_12 g67 (by rfl) ?_
        refine aw_callV [] _ dX5_readHeat_97 rfl clv_X5_160 (by decide) ⟨Nat.zero_le _, Nat.zero_le _⟩ g68 (by rfl) (Nat.le_of_ble_eq_true rfl) rfl ?_
        refine sC_markB hK hB ?_
        refine aw_return dX5_readHeat_100 rfl ?_
        exact kb _ a hK hB he
      · exfalso; omega
    | succ d ih =>
      intro z m a hz z0 hK hB he
      refine aw_iload_n dX5_readHeat_56 rfl rfl ?_
      refine aw_iconst dX5_readHeat_57 rfl ?_
      refine aw_icmp_ge (tgt := 93) dX5_readHeat_58 (by decide) rfl (by omega) (by omega) (fun c58 => ?_) (fun c58 => ?_)
      · exfalso; omega
      · refine aw_aload_n dX5_readHeat_61 rfl rfl ?_
        refine aw_getR dX5_readHeat_62 rfl fl_X5_21 g67 (by rfl) ?_
        refine aw_getR dX5_readHeat_65 rfl fl_X5_88 g70 (by rfl) ?_
        refine aw_getR dX5_readHeat_68 rfl fl_X5_168 g71 (by rfl) ?_
        refine aw_iconst dX5_readHeat_71 rfl ?_
        refine aw_iload_n dX5_readHeat_72 rfl rfl ?_
        refine aw_imul dX5_readHeat_73 rfl ?_
        refine aw_iload_n dX5_readHeat_74 rfl rfl ?_
        refine aw_iadd dX5_readHeat_75 rfl ?_
        refine aw_aload_n dX5_readHeat_76 rfl rfl ?_
        refine aw_getR dX5_readHeat_77 rfl fl_X5_12 g67 (by rfl) ?_
        refine aw_iconst dX5_readHeat_80 rfl ?_
        refine aw_bipush dX5_readHeat_81 rfl (by decide) ?_
        refine aw_callV [_, _] _ dX5_readHeat_83 rfl clv_X5_147 (by decide) ⟨Nat.zero_le _, Nat.zero_le _⟩ g68 (by rfl) (Nat.le_of_ble_eq_true rfl) rfl ?_
        refine sC_numB hK hB ?_
        refine aw_iastore dX5_readHeat_86 rfl g72 (by omega) (by omega) ?_
        refine aw_iinc2 rfl dX5_readHeat_87 rfl (by decide) ?_
        refine aw_goto (tgt := 56) dX5_readHeat_90 (by decide) ?_
        exact ih (z + 1) _ a (by omega) (by omega) (hK.set (by omega) (hK.2.2.2.2.2.2.arr (by omega))) (hB.fr (mset_ne (by decide))) he
  have t42 : ∀ (v : Int) (m : Mem) (a : Int), 0 ≤ v ∧ v ≤ 7 → RdK mem m → TBad a m → lineP (mem 69) (mem 68 1) s = .error a → AW Γ mX5_readHeat (zF Γ zG Q) zG 0 0 42 [some (vR 67), some (vI v), none] [] m := by
    intro v m a hv hK hB he
    refine aw_aload_n dX5_readHeat_42 rfl rfl ?_
    refine aw_dup dX5_readHeat_43 rfl rfl ?_
    refine aw_getI (kI := 4) dX5_readHeat_44 rfl fl_X5_72 g67 (by rfl) rfl ?_
    refine aw_iconst dX5_readHeat_47 rfl ?_
    refine aw_iload_n dX5_readHeat_48 rfl rfl ?_
    refine aw_ishl dX5_readHeat_49 rfl ?_
    refine aw_ior dX5_readHeat_50 rfl ?_
    refine aw_putI (kI := 4) dX5_readHeat_51 rfl fp_X5_72 g67 (by rfl) rfl ?_
    refine aw_iconst dX5_readHeat_54 rfl ?_
    refine aw_istore2 rfl dX5_readHeat_55 rfl (by decide) ?_
    exact t56 v hv 3 0 _ a (by omega) (by omega) (hK.set (by omega) (hK.2.2.2.2.2.2.s67 (by omega))) (hB.fr (mset_ne (by decide))) he
  have t10 : ∀ (m : Mem) (a : Int), RdK mem m → TBad a m → lineP (mem 69) (mem 68 1) s = .error a → AW Γ mX5_readHeat (zF Γ zG Q) zG 0 0 10 [some (vR 67), none, none] [vI 0] m := by
    intro m a hK hB he
    have r5 := hK.2.2.2.2.2.2.2.2.2.2.2.1
    have zr := zand_rng (mset m 67 5 (max (m 67 5) 0) 67 4) (zshl 1 0)
    have K1 := hK.set (c := 67) (k := 5) (v := max (m 67 5) 0) (by omega) (hK.2.2.2.2.2.2.s67 (by omega))
    have B1 : TBad a (mset m 67 5 (max (m 67 5) 0)) := hB.fr (mset_ne (by decide))
    refine aw_istore1 rfl dX5_readHeat_10 rfl (by decide) ?_
    refine aw_aload_n dX5_readHeat_11 rfl rfl ?_
    refine aw_aload_n dX5_readHeat_12 rfl rfl ?_
    refine aw_getI (kI := 5) dX5_readHeat_13 rfl fl_X5_75 g67 (by rfl) rfl ?_
    refine aw_iload_n dX5_readHeat_16 rfl rfl ?_
    refine aw_max dX5_readHeat_17 rfl clm_X5_163 (by decide) (Nat.le_of_ble_eq_true rfl) ⟨Nat.zero_le _, Nat.zero_le _⟩ (by omega) (by omega) ?_
    refine aw_putI (kI := 5) dX5_readHeat_20 rfl fp_X5_75 g67 (by rfl) rfl ?_
    refine aw_aload_n dX5_readHeat_23 rfl rfl ?_
    refine aw_getI (kI := 4) dX5_readHeat_24 rfl fl_X5_72 g67 (by rfl) rfl ?_
    refine aw_iconst dX5_readHeat_27 rfl ?_
    refine aw_iload_n dX5_readHeat_28 rfl rfl ?_
    refine aw_ishl dX5_readHeat_29 rfl ?_
    refine aw_iand dX5_readHeat_30 rfl ?_
    refine aw_if_eq (tgt := 42) dX5_readHeat_31 (by decide) rfl (by omega) (fun c31 => ?_) (fun c31 => ?_)
    · exact t42 0 _ a (by omega) K1 B1 he
    · refine aw_aload_n dX5_readHeat_34 rfl rfl ?_
      refine aw_getR dX5_readHeat_35 rfl fl_X5_12 g67 (by rfl) ?_
      refine aw_iconst dX5_readHeat_38 rfl ?_
      refine aw_callV [_] _ dX5_readHeat_39 rfl clv_X5_143 (by decide) ⟨Nat.zero_le _, Nat.zero_le _⟩ g68 (by rfl) (Nat.le_of_ble_eq_true rfl) rfl ?_
      refine sC_fltB K1 B1 ?_
      exact t42 0 _ a (by omega) K1 B1 he
  -- good loop
  have g56 : ∀ (v : Int), 0 ≤ v ∧ v ≤ 7 → ∀ (d : Nat) (z : Int) (m : Mem) (sz : PSt), z + d = 3 → 0 ≤ z → RdK mem m → m 68 5 = 0 → m 68 4 = sz.p → RdF sz m → sz.1 2 = v → sz.2 46 ≤ 6 → (lineP (mem 69) (mem 68 1) s = (if z = 0 then (((heatS (mem 69) (mem 68 1) 0 sz).bind (heatS (mem 69) (mem 68 1) 1)).bind (heatS (mem 69) (mem 68 1) 2)).bind (markP (mem 69) (mem 68 1)) else if z = 1 then ((heatS (mem 69) (mem 68 1) 1 sz).bind (heatS (mem 69) (mem 68 1) 2)).bind (markP (mem 69) (mem 68 1)) else if z = 2 then (heatS (mem 69) (mem 68 1) 2 sz).bind (markP (mem 69) (mem 68 1)) else markP (mem 69) (mem 68 1) sz)) → AW Γ mX5_readHeat (zF Γ zG Q) zG 0 0 56 [some (vR 67), some (vI v), some (vI z)] [] m := by
    intro v hv d
    induction d with
    | zero =>
      intro z m sz hz z0 hK h5 h4 hFz h2 hd he
      rw [if_neg (by omega), if_neg (by omega), if_neg (by omega)] at he
      refine aw_iload_n dX5_readHeat_56 rfl rfl ?_
      refine aw_iconst dX5_readHeat_57 rfl ?_
      refine aw_icmp_ge (tgt := 93) dX5_readHeat_58 (by decide) rfl (by omega) (by omega) (fun c58 => ?_) (fun c58 => ?_)
      · refine aw_aload_n dX5_readHeat_93 rfl rfl ?_
        refine aw_getR dX5_readHeat_94 rfl fl_X5_12 g67 (by rfl) ?_
        refine aw_callV [] _ dX5_readHeat_97 rfl clv_X5_160 (by decide) ⟨Nat.zero_le _, Nat.zero_le _⟩ g68 (by rfl) (Nat.le_of_ble_eq_true rfl) rfl ?_
        refine sC_mark sz hK h5 h4 (fun m8 a f8 k8 b8 n8 => ?_) (fun m8 f8 k8 w5 w4 n8 => ?_)
        · refine aw_return dX5_readHeat_100 rfl ?_
          first | exact kb m8 a k8 b8 (by rw [he]; exact n8) | (refine k m8 k8 ?_; rw [he, n8]; exact ⟨w5, w4, hFz.fr hd f8⟩)
        · refine aw_return dX5_readHeat_100 rfl ?_
          first | exact kb m8 a k8 b8 (by rw [he]; exact n8) | (refine k m8 k8 ?_; rw [he, n8]; exact ⟨w5, w4, hFz.fr hd f8⟩)
      · exfalso; omega
    | succ d ih =>
      intro z m sz hz z0 hK h5 h4 hFz h2 hd he
      push_cast at hz
      have he2 : lineP (mem 69) (mem 68 1) s = (heatS (mem 69) (mem 68 1) z sz).bind (fun sy => if z + 1 = 1 then ((heatS (mem 69) (mem 68 1) 1 sy).bind (heatS (mem 69) (mem 68 1) 2)).bind (markP (mem 69) (mem 68 1)) else if z + 1 = 2 then (heatS (mem 69) (mem 68 1) 2 sy).bind (markP (mem 69) (mem 68 1)) else markP (mem 69) (mem 68 1) sy) := by
        rw [he]
        obtain rfl | rfl | rfl : z = 0 ∨ z = 1 ∨ z = 2 := by omega
        · rw [if_pos rfl]; cases heatS (mem 69) (mem 68 1) 0 sz <;> rfl
        · rw [if_neg (by decide), if_pos rfl]; cases heatS (mem 69) (mem 68 1) 1 sz <;> rfl
        · rw [if_neg (by decide), if_neg (by decide), if_pos rfl]; cases heatS (mem 69) (mem 68 1) 2 sz <;> rfl
      have t86 : ∀ (m : Mem) (a : Int), RdK mem m → TBad a m → lineP (mem 69) (mem 68 1) s = .error a → AW Γ mX5_readHeat (zF Γ zG Q) zG 0 0 86 [some (vR 67), some (vI v), some (vI z)] [vI 0, vI (3 * v + z), vR 72] m := by
        intro m a hK hB he
        refine aw_iastore dX5_readHeat_86 rfl g72 (by omega) (by omega) ?_
        refine aw_iinc2 rfl dX5_readHeat_87 rfl (by decide) ?_
        refine aw_goto (tgt := 56) dX5_readHeat_90 (by decide) ?_
        exact t56 v hv d (z + 1) _ a (by omega) (by omega) (hK.set (by omega) (hK.2.2.2.2.2.2.arr (by omega))) (hB.fr (mset_ne (by decide))) he
      refine aw_iload_n dX5_readHeat_56 rfl rfl ?_
      refine aw_iconst dX5_readHeat_57 rfl ?_
      refine aw_icmp_ge (tgt := 93) dX5_readHeat_58 (by decide) rfl (by omega) (by omega) (fun c58 => ?_) (fun c58 => ?_)
      · exfalso; omega
      · refine aw_aload_n dX5_readHeat_61 rfl rfl ?_
        refine aw_getR dX5_readHeat_62 rfl fl_X5_21 g67 (by rfl) ?_
        refine aw_getR dX5_readHeat_65 rfl fl_X5_88 g70 (by rfl) ?_
        refine aw_getR dX5_readHeat_68 rfl fl_X5_168 g71 (by rfl) ?_
        refine aw_iconst dX5_readHeat_71 rfl ?_
        refine aw_iload_n dX5_readHeat_72 rfl rfl ?_
        refine aw_imul dX5_readHeat_73 rfl ?_
        refine aw_iload_n dX5_readHeat_74 rfl rfl ?_
        refine aw_iadd dX5_readHeat_75 rfl ?_
        refine aw_aload_n dX5_readHeat_76 rfl rfl ?_
        refine aw_getR dX5_readHeat_77 rfl fl_X5_12 g67 (by rfl) ?_
        refine aw_iconst dX5_readHeat_80 rfl ?_
        refine aw_bipush dX5_readHeat_81 rfl (by decide) ?_
        refine aw_callV [_, _] _ dX5_readHeat_83 rfl clv_X5_147 (by decide) ⟨Nat.zero_le _, Nat.zero_le _⟩ g68 (by rfl) (Nat.le_of_ble_eq_true rfl) rfl ?_
        refine sC_num sz hK h5 h4 (by omega) (fun m2 a f2 k2 b2 n2 => t86 m2 a k2 b2 (by rw [he2]; unfold heatS; rw [n2]; rfl)) (fun m2 v2 f2 k2 z5 z3 z4 zx zk vr zr n2 => ?_)
        refine aw_iastore dX5_readHeat_86 rfl g72 (by omega) (by omega) ?_
        refine aw_iinc2 rfl dX5_readHeat_87 rfl (by decide) ?_
        refine aw_goto (tgt := 56) dX5_readHeat_90 (by decide) ?_
        have hh : heatS (mem 69) (mem 68 1) z sz = .ok (heatG z (fset (fset sz.1 1 v2) 0 (tkE (mem 69) (mem 68 1) sz.p), sz.2)) := by unfold heatS; rw [n2]; rfl
        rw [hh] at he2
        have F2 : RdF sz m2 := hFz.fr hd f2
        have F3 : RdF (heatG z (fset (fset sz.1 1 v2) 0 (tkE (mem 69) (mem 68 1) sz.p), sz.2)) (mset m2 72 (3 * v + z) v2) := by
          refine F2.fire hd (FrI.rf.set (by decide)) ?_ rfl rfl rfl rfl rfl (fun j hj => ?_)
          · have := F2.2.1.ht (x := 3 * v + z) (v := v2) (by omega)
            rw [← h2] at this ⊢
            exact this
          · show fset sz.2 (3 * sz.1 2 + z) v2 j = _
            rw [fset_ne (by omega)]
        refine ih (z + 1) _ _ (by omega) (by omega) (k2.set (by omega) (k2.2.2.2.2.2.2.arr (by omega))) (by rw [mset_ne (by decide)]; exact z5) (by rw [mset_ne (by decide), z4]; rfl) F3 h2 (by show fset sz.2 (3 * sz.1 2 + z) v2 46 ≤ 6; rw [fset_ne (by omega)]; exact hd) ?_
        rw [if_neg (by omega)]
        exact he2
  have s10 : ∀ (m2 : Mem) (v : Int), FrI m2 mem 68 69 → RdK mem m2 → m2 68 5 = 0 → m2 68 3 = tkB (mem 69) (mem 68 1) sA.p → m2 68 4 = tkE (mem 69) (mem 68 1) sA.p → ¬ tkX (mem 69) (mem 68 1) sA.p → (tkK (mem 69) (mem 68 1) sA.p = 2 ∧ v = tkV (mem 69) (mem 68 1) sA.p) → (0 ≤ v ∧ v ≤ 7) → AW Γ mX5_readHeat (zF Γ zG Q) zG 0 0 10 [some (vR 67), none, none] [vI v] m2 := by
    intro m2 v f2 k2 z5 z3 z4 zx zk vr
    have he := heat_eq (t := mem 69) (L := mem 68 1) (s := sA) zx zk.1 zk.2 (by omega)
    have hp : heatP (mem 69) (mem 68 1) sA = ((((heatA (mem 69) (mem 68 1) sA).bind (advP (mem 69) (mem 68 1))).bind (heatS (mem 69) (mem 68 1) 0)).bind (heatS (mem 69) (mem 68 1) 1)).bind (heatS (mem 69) (mem 68 1) 2) := rfl
    rw [he] at hp
    have F2 : RdF sA m2 := F0.fr d46 f2
    obtain ⟨y4, y8, y5, y6, y7⟩ := F2.1
    have r5 : 0 ≤ m2 67 5 ∧ m2 67 5 ≤ 99 := by rw [y5, a9]; omega
    have K3 := k2.set (c := 67) (k := 5) (v := max (m2 67 5) v) (by omega) (k2.2.2.2.2.2.2.s67 (by omega))
    obtain ⟨q, hq⟩ : ∃ q : Nat, v = q := ⟨v.toNat, by omega⟩
    have zb := zbit3 (a := sA.1 7) (x := q) (by omega)
    rw [← hq] at zb
    have zr2 := zand_rng (sA.1 7) (zshl 1 v)
    have m4 : mset m2 67 5 (max (m2 67 5) v) 67 4 = sA.1 7 := by rw [mset_same, fset_ne (by decide)]; exact y4
    have g42 : zand (zshr (sA.1 7) v) 1 = 0 → AW Γ mX5_readHeat (zF Γ zG Q) zG 0 0 42 [some (vR 67), some (vI v), none] [] (mset m2 67 5 (max (m2 67 5) v)) := by
      intro h0
      rw [if_pos h0] at hp
      have K4 := K3.set (c := 67) (k := 4) (v := zor (sA.1 7) (zshl 1 v)) (by omega) (K3.2.2.2.2.2.2.s67 (by omega))
      have F4 : RdF (fset (fset (fset (fset (fset sA.1 1 v) 9 (if sA.1 9 < v then v else sA.1 9)) 2 v) 7 (zor (sA.1 7) (zshl 1 v))) 0 (tkE (mem 69) (mem 68 1) sA.p), sA.2) (mset (mset m2 67 5 (max (m2 67 5) v)) 67 4 (zor (sA.1 7) (zshl 1 v))) := by
        rw [mset_eq (c := 67), mset_eq (c := 67), mcell_mcell, mcell_same]
        refine F2.own ⟨?_, ?_, ?_, ?_, ?_⟩ rfl rfl
        · rw [fset_same]; rfl
        · rw [fset_ne (by decide), fset_ne (by decide)]; exact y8
        · rw [fset_ne (by decide), fset_same, y5]
          show max (max 0 (sA.1 9)) v = max 0 (if sA.1 9 < v then v else sA.1 9)
          split <;> omega
        · rw [fset_ne (by decide), fset_ne (by decide)]; exact y6
        · rw [fset_ne (by decide), fset_ne (by decide)]; exact y7
      have go := g56 v vr 3 0 _ _ (by omega) (by omega) K4 (by rw [mset_ne (by decide), mset_ne (by decide)]; exact z5) (by rw [mset_ne (by decide), mset_ne (by decide), z4]; rfl) F4 rfl d46 (by rw [if_pos rfl, lp2, hp]; rfl)
      refine aw_aload_n dX5_readHeat_42 rfl rfl ?_
      refine aw_dup dX5_readHeat_43 rfl rfl ?_
      refine aw_getI (kI := 4) dX5_readHeat_44 rfl fl_X5_72 g67 (by rfl) rfl ?_
      rw [m4]
      refine aw_iconst dX5_readHeat_47 rfl ?_
      refine aw_iload_n dX5_readHeat_48 rfl rfl ?_
      refine aw_ishl dX5_readHeat_49 rfl ?_
      refine aw_ior dX5_readHeat_50 rfl ?_
      refine aw_putI (kI := 4) dX5_readHeat_51 rfl fp_X5_72 g67 (by rfl) rfl ?_
      refine aw_iconst dX5_readHeat_54 rfl ?_
      refine aw_istore2 rfl dX5_readHeat_55 rfl (by decide) ?_
      exact go
    have b34 : ¬ zand (zshr (sA.1 7) v) 1 = 0 → AW Γ mX5_readHeat (zF Γ zG Q) zG 0 0 34 [some (vR 67), some (vI v), none] [] (mset m2 67 5 (max (m2 67 5) v)) := by
      intro h0
      rw [if_neg h0] at hp
      refine aw_aload_n dX5_readHeat_34 rfl rfl ?_
      refine aw_getR dX5_readHeat_35 rfl fl_X5_12 g67 (by rfl) ?_
      refine aw_iconst dX5_readHeat_38 rfl ?_
      refine aw_callV [_] _ dX5_readHeat_39 rfl clv_X5_143 (by decide) ⟨Nat.zero_le _, Nat.zero_le _⟩ g68 (by rfl) (Nat.le_of_ble_eq_true rfl) rfl ?_
      refine sC_flt K3 (by omega) (by rw [mset_ne (by decide)]; exact z5) (fun m5 f5 k5 b5 => ?_)
      refine t42 v m5 _ vr k5 b5 ?_
      rw [lp2, hp, mset_ne (by decide), z3]
      rfl
    refine aw_istore1 rfl dX5_readHeat_10 rfl (by decide) ?_
    refine aw_aload_n dX5_readHeat_11 rfl rfl ?_
    refine aw_aload_n dX5_readHeat_12 rfl rfl ?_
    refine aw_getI (kI := 5) dX5_readHeat_13 rfl fl_X5_75 g67 (by rfl) rfl ?_
    refine aw_iload_n dX5_readHeat_16 rfl rfl ?_
    refine aw_max dX5_readHeat_17 rfl clm_X5_163 (by decide) (Nat.le_of_ble_eq_true rfl) ⟨Nat.zero_le _, Nat.zero_le _⟩ (by omega) (by omega) ?_
    refine aw_putI (kI := 5) dX5_readHeat_20 rfl fp_X5_75 g67 (by rfl) rfl ?_
    refine aw_aload_n dX5_readHeat_23 rfl rfl ?_
    refine aw_getI (kI := 4) dX5_readHeat_24 rfl fl_X5_72 g67 (by rfl) rfl ?_
    rw [m4]
    refine aw_iconst dX5_readHeat_27 rfl ?_
    refine aw_iload_n dX5_readHeat_28 rfl rfl ?_
    refine aw_ishl dX5_readHeat_29 rfl ?_
    refine aw_iand dX5_readHeat_30 rfl ?_
    refine aw_if_eq (tgt := 42) dX5_readHeat_31 (by decide) rfl (by omega) (fun c31 => ?_) (fun c31 => ?_)
    · exact g42 (zb.mp (by omega))
    · exact b34 (fun z => c31 (zb.mpr z))
  refine AMet.of' 2 (ls := [some (vR (67)), none, none]) (by decide) rfl (Nat.le_of_ble_eq_true rfl) ?_
  refine aw_aload_n dX5_readHeat_0 rfl rfl ?_
  refine aw_getR dX5_readHeat_1 rfl fl_X5_12 g67 (by rfl) ?_
  refine aw_iconst dX5_readHeat_4 rfl ?_
  refine aw_bipush dX5_readHeat_5 rfl (by decide) ?_
  refine aw_callV [_, _] _ dX5_readHeat_7 rfl clv_X5_147 (by decide) ⟨Nat.zero_le _, Nat.zero_le _⟩ g68 (by rfl) (Nat.le_of_ble_eq_true rfl) rfl ?_
  refine sC_num sA K0 e5 (by rw [e4, pA]) (by omega) (fun m2 a f2 k2 b2 n2 => t10 m2 a k2 b2 (by rw [lp2, heat_err n2]; rfl)) (fun m2 v f2 k2 z5 z3 z4 zx zk vr zr n2 => ?_)
  exact s10 m2 v f2 k2 z5 z3 z4 zx zk vr
end ZCmp26
