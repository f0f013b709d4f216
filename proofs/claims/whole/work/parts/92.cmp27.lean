theorem FiR.up {m : Mem} {c : Nat} {n : Int} {d d' : Int → Int} (h : FiR m c n d) (h26 : 0 ≤ d 26) (hd : ∀ j : Int, j < 27 + 3 * d 26 → d' j = d j) : FiR m c n d' := by
  obtain ⟨h0, h1, h2, h3, hh, hw⟩ := h
  refine ⟨h0, by rw [hd 24 (by omega)]; exact h1, by rw [hd 25 (by omega)]; exact h2, by rw [hd 26 (by omega)]; exact h3, fun x x0 x1 => by rw [hd x (by omega)]; exact hh x x0 x1, fun i i0 i1 => ?_⟩
  rw [hd 26 (by omega)] at i1
  rw [hd _ (by omega), hd _ (by omega), hd _ (by omega)]
  exact hw i i0 i1
theorem FiR.lay {m : Mem} {n a v r : Int} {d d' : Int → Int} (h : FiR m 71 n d) (h26 : 0 ≤ d 26) (hd : ∀ j : Int, j < 27 + 3 * d 26 → ¬ j = 26 → d' j = d j) (e26 : d' 26 = d 26 + 1) (e0 : d' (27 + 3 * d 26) = a) (e1 : d' (27 + 3 * d 26 + 1) = v) (e2 : d' (27 + 3 * d 26 + 2) = r) : FiR (mset (mset (mset (mset m (71 + 2) (d 26) a) (71 + 3) (d 26) v) (71 + 4) (d 26) r) 71 3 (d 26 + 1)) 71 n d' := by
  obtain ⟨h0, h1, h2, h3, hh, hw⟩ := h
  refine ⟨?_, ?_, ?_, ?_, fun y y0 y1 => ?_, fun i i0 i1 => ?_⟩
  · rw [mset_same, fset_ne (by omega), mset_ne (by omega), mset_ne (by omega), mset_ne (by omega)]; exact h0
  · rw [mset_same, fset_ne (by omega), mset_ne (by omega), mset_ne (by omega), mset_ne (by omega), hd 24 (by omega) (by omega)]; exact h1
  · rw [mset_same, fset_ne (by omega), mset_ne (by omega), mset_ne (by omega), mset_ne (by omega), hd 25 (by omega) (by omega)]; exact h2
  · rw [mset_same, fset_same, e26]
  · rw [mset_ne (by omega), mset_ne (by omega), mset_ne (by omega), mset_ne (by omega), hd y (by omega) (by omega)]; exact hh y y0 y1
  · rw [e26] at i1
    rw [mset_ne (d := 71 + 2) (by omega), mset_ne (d := 71 + 2) (by omega), mset_ne (d := 71 + 2) (by omega), mset_same, mset_ne (d := 71 + 3) (by omega), mset_ne (d := 71 + 3) (by omega), mset_same, mset_ne (d := 71 + 3) (by omega), mset_ne (d := 71 + 4) (by omega), mset_same, mset_ne (d := 71 + 4) (by omega), mset_ne (d := 71 + 4) (by omega)]
    by_cases e : i = d 26
    · rw [e, fset_same, fset_same, fset_same]
      exact ⟨e0.symm, e1.symm, e2.symm⟩
    · rw [fset_ne e, fset_ne e, fset_ne e, hd _ (by omega) (by omega), hd _ (by omega) (by omega), hd _ (by omega) (by omega)]; exact hw i i0 (by omega)
theorem cellP_err {t : Int → Int} {L a : Int} {s : PSt} (h : numP t L 0 7 s = .error a) : cellP t L s = .error a := by
  unfold cellP cellL
  rw [chk_err h]
  rfl
theorem cellP_okv {t : Int → Int} {L v : Int} {s : PSt} (hx : ¬ tkX t L s.p) (hk : tkK t L s.p = 2) (hv : v = tkV t L s.p) (hr : 0 ≤ v ∧ v ≤ 7) : cellP t L s = .ok (fset (fset (fset s.1 1 v) 9 (if s.1 9 < v then v else s.1 9)) 0 (tkE t L s.p), s.2) := by
  unfold cellP cellL
  rw [chk_adv (G := cellG t L) (fun _ => rfl), if_neg hx, if_pos ⟨hk, by omega⟩]
  unfold cellG
  rw [← hv]
section ZCmp27
variable {Γ : ZG} {mem m : Mem} {Q : Option AV → Mem → Prop}
/-- the draft's wood that isn't counted yet -/
theorem RdF.upw {s s' : PSt} (h : RdF s m) (h26 : 0 ≤ s.2 26 ∧ s.2 26 ≤ 5) (h5 : s'.1 5 = s.1 5) (h6 : s'.1 6 = s.1 6) (h7 : s'.1 7 = s.1 7) (h9 : s'.1 9 = s.1 9) (h10 : s'.1 10 = s.1 10) (h11 : s'.1 11 = s.1 11) (hd : ∀ j : Int, j < 27 + 3 * s.2 26 ∨ 45 ≤ j → s'.2 j = s.2 j) : RdF s' m := by
  obtain ⟨g1, g2, g3, g4, g5⟩ := h
  refine ⟨by rw [h6, h7, h9, h10, h11]; exact g1, by rw [h5]; exact g2.up h26.1 (fun j hj => hd j (by omega)), by rw [hd 46 (by omega)]; exact g3, fun p hp => ?_, fun p hp => by rw [hd _ (by omega)]; exact g5 p hp⟩
  rw [hd 46 (by omega)] at hp
  rw [hd _ (by omega), hd _ (by omega), hd _ (by omega)]
  exact g4 p hp
theorem sC_readWood (s : PSt) (hS : RdS mem) (hR : TkR mem (mem 69) (mem 68 1) s.p) (hx : ¬ tkX (mem 69) (mem 68 1) s.p) (hF : RdF s mem) (w : PW (mem 68 1) s) (dw : DW s) (hl : lineC (mem 69) (mem 68 1) s = 2) (k : ∀ m' : Mem, RdK mem m' → CmpR (lineP (mem 69) (mem 68 1) s) m' → Q none m') : AMet Γ mX5_readWood [vR 67] zG mem Q := by
  obtain ⟨e1, e3, e4, e2, ex, en⟩ := id hR
  have e5 := en hx
  have K0 : RdK mem mem := ⟨FrI.rf, rfl, rfl, rfl, hS⟩
  have h46 := dw.2.2.2.2.2.1
  have h26 := dw.2.2.2.2.1
  have w9 := w.1.2.1
  have m26 : mem 71 3 = s.2 26 := hF.2.1.2.2.2.1
  have kb : ∀ (m' : Mem) (a : Int), RdK mem m' → TBad a m' → lineP (mem 69) (mem 68 1) s = .error a → Q none m' := fun m' a hK hB e => k m' hK (by rw [e]; exact hB)
  -- bad tails, backwards
  have t75 : ∀ (c v r : Int) (m : Mem) (a : Int), RdK mem m → TBad a m → lineP (mem 69) (mem 68 1) s = .error a → AW Γ mX5_readWood (zF Γ zG Q) zG 0 0 75 [some (vR 67), some (vI c), some (vI v), some (vI r)] [] m := by
    intro c v r m a hK hB he
    have hn := hK.2.2.2.2.2.2
    have fin : ∀ m' : Mem, ¬ m 71 3 = 6 → m' = mset (mset (mset (mset m (71 + 2) (m 71 3) c) (71 + 3) (m 71 3) v) (71 + 4) (m 71 3) r) 71 3 (m 71 3 + 1) → Q none m' := by
      intro m' h6 em
      have K1 := hK.set (c := 73) (k := m 71 3) (v := c) (by omega) (hn.arr (by omega))
      have K2 := K1.set (c := 74) (k := m 71 3) (v := v) (by omega) (K1.2.2.2.2.2.2.arr (by omega))
      have K3 := K2.set (c := 75) (k := m 71 3) (v := r) (by omega) (K2.2.2.2.2.2.2.arr (by omega))
      have K4 := K3.set (c := 71) (k := 3) (v := m 71 3 + 1) (by omega) (K3.2.2.2.2.2.2.s71 (by omega) (fun _ => by have := hn.2.1; omega))
      rw [em]
      exact kb _ a K4 (hB.fr (by rw [mset_ne (by decide), mset_ne (by decide), mset_ne (by decide), mset_ne (by decide)])) he
    refine aw_aload_n dX5_readWood_75 rfl rfl ?_
    refine aw_getR dX5_readWood_76 rfl fl_X5_21 g67 (by rfl) ?_
    refine aw_getR dX5_readWood_79 rfl fl_X5_88 g70 (by rfl) ?_
    refine aw_iload_n dX5_readWood_82 rfl rfl ?_
    refine aw_iload_n dX5_readWood_83 rfl rfl ?_
    refine aw_iload_n dX5_readWood_84 rfl rfl ?_
    refine aw_callV [_, _, _] _ dX5_readWood_85 rfl clv_X5_174 (by decide) ⟨Nat.zero_le _, Nat.zero_le _⟩ g71 (by rfl) (Nat.le_of_ble_eq_true rfl) rfl ?_
    refine sC_layWood E70.2.1 hn.2.1 (fun h6 => ?_) (fun m1 h6 em => ?_)
    · refine aw_pop dX5_readWood_88 rfl rfl ?_
      refine aw_return dX5_readWood_89 rfl ?_
      first | exact kb m a hK hB he | exact fin m1 h6 em
    · refine aw_pop dX5_readWood_88 rfl rfl ?_
      refine aw_return dX5_readWood_89 rfl ?_
      first | exact kb m a hK hB he | exact fin m1 h6 em
  have g75 : ∀ (c v r : Int) (sC sD : PSt) (m : Mem), RdK mem m → m 68 5 = 0 → m 68 4 = tkE (mem 69) (mem 68 1) sD.p → RdF sC m → (0 ≤ sC.2 26 ∧ sC.2 26 ≤ 5) → sC.2 46 ≤ 6 → (∀ j : Int, j < 27 + 3 * sC.2 26 → ¬ j = 26 → sD.2 j = sC.2 j) → sD.2 26 = sC.2 26 + 1 → sD.2 (27 + 3 * sC.2 26) = c → sD.2 (27 + 3 * sC.2 26 + 1) = v → sD.2 (27 + 3 * sC.2 26 + 2) = r → sD.1 5 = sC.1 5 → sD.1 6 = sC.1 6 → sD.1 7 = sC.1 7 → sD.1 9 = sC.1 9 → sD.1 10 = sC.1 10 → sD.1 11 = sC.1 11 → (∀ j : Int, 45 ≤ j → sD.2 j = sC.2 j) → lineP (mem 69) (mem 68 1) s = .ok (fset sD.1 0 (tkE (mem 69) (mem 68 1) sD.p), sD.2) → AW Γ mX5_readWood (zF Γ zG Q) zG 0 0 75 [some (vR 67), some (vI c), some (vI v), some (vI r)] [] m := by
    intro c v r sC sD m hK h5 h4 hFC hc26 hc46 hd e26 e0 e1 e2 q5 q6 q7 q9 q10 q11 hd2 he
    have hn := hK.2.2.2.2.2.2
    have m3 : m 71 3 = sC.2 26 := hFC.2.1.2.2.2.1
    have fin : ∀ m' : Mem, m' = mset (mset (mset (mset m (71 + 2) (m 71 3) c) (71 + 3) (m 71 3) v) (71 + 4) (m 71 3) r) 71 3 (m 71 3 + 1) → Q none m' := by
      intro m' em
      have K1 := hK.set (c := 73) (k := m 71 3) (v := c) (by omega) (hn.arr (by omega))
      have K2 := K1.set (c := 74) (k := m 71 3) (v := v) (by omega) (K1.2.2.2.2.2.2.arr (by omega))
      have K3 := K2.set (c := 75) (k := m 71 3) (v := r) (by omega) (K2.2.2.2.2.2.2.arr (by omega))
      have K4 := K3.set (c := 71) (k := 3) (v := m 71 3 + 1) (by omega) (K3.2.2.2.2.2.2.s71 (by omega) (fun _ => by omega))
      have e8 : m' 68 = m 68 := by rw [em, mset_ne (by decide), mset_ne (by decide), mset_ne (by decide), mset_ne (by decide)]
      have hr := hFC.2.1.lay (d' := sD.2) hc26.1 hd e26 e0 e1 e2
      have KK : RdK mem m' := by rw [em]; exact K4
      refine k m' KK ?_
      rw [he]
      refine ⟨by rw [e8]; exact h5, by rw [e8]; exact h4, ?_⟩
      have hFD : RdF sD m' := by
        refine hFC.fire hc46 ?_ ?_ q6 q7 q9 q10 q11 hd2
        · rw [em]; exact (((FrI.rf.set (by decide)).set (by decide)).set (by decide)).set (by decide)
        · rw [em, m3, q5]; exact hr
      exact hFD
    refine aw_aload_n dX5_readWood_75 rfl rfl ?_
    refine aw_getR dX5_readWood_76 rfl fl_X5_21 g67 (by rfl) ?_
    refine aw_getR dX5_readWood_79 rfl fl_X5_88 g70 (by rfl) ?_
    refine aw_iload_n dX5_readWood_82 rfl rfl ?_
    refine aw_iload_n dX5_readWood_83 rfl rfl ?_
    refine aw_iload_n dX5_readWood_84 rfl rfl ?_
    refine aw_callV [_, _, _] _ dX5_readWood_85 rfl clv_X5_174 (by decide) ⟨Nat.zero_le _, Nat.zero_le _⟩ g71 (by rfl) (Nat.le_of_ble_eq_true rfl) rfl ?_
    refine sC_layWood E70.2.1 hn.2.1 (fun h6 => ?_) (fun m1 h6 em => ?_)
    · refine aw_pop dX5_readWood_88 rfl rfl ?_
      refine aw_return dX5_readWood_89 rfl ?_
      first | exact fin m1 em | (exfalso; omega)
    · refine aw_pop dX5_readWood_88 rfl rfl ?_
      refine aw_return dX5_readWood_89 rfl ?_
      first | exact fin m1 em | (exfalso; omega)
  have t67 : ∀ (c v r : Int) (m : Mem) (a : Int), RdK mem m → TBad a m → lineP (mem 69) (mem 68 1) s = .error a → AW Γ mX5_readWood (zF Γ zG Q) zG 0 0 67 [some (vR 67), some (vI c), some (vI v), none] [vI r] m := by
    intro c v r m a hK hB he
    refine aw_istore3 rfl dX5_readWood_67 rfl (by decide) ?_
    refine aw_aload_n dX5_readWood_68 rfl rfl ?_
    refine aw_getR dX5_readWood_69 rfl fl_X5_12 g67 (by rfl) ?_
    refine aw_callV [] _ dX5_readWood_72 rfl clv_X5_160 (by decide) ⟨Nat.zero_le _, Nat.zero_le _⟩ g68 (by rfl) (Nat.le_of_ble_eq_true rfl) rfl ?_
    refine sC_markB hK hB ?_
    exact t75 c v r m a hK hB he
  have t56 : ∀ (c v : Int) (m : Mem) (a : Int), RdK mem m → TBad a m → lineP (mem 69) (mem 68 1) s = .error a → AW Γ mX5_readWood (zF Γ zG Q) zG 0 0 56 [some (vR 67), some (vI c), none, none] [vI v] m := by
    intro c v m a hK hB he
    refine aw_istore2 rfl dX5_readWood_56 rfl (by decide) ?_
    refine aw_aload_n dX5_readWood_57 rfl rfl ?_
    refine aw_getR dX5_readWood_58 rfl fl_X5_12 g67 (by rfl) ?_
    refine aw_iconst dX5_readWood_61 rfl ?_
    refine aw_bipush dX5_readWood_62 rfl (by decide) ?_
    refine aw_callV [_, _] _ dX5_readWood_64 rfl clv_X5_147 (by decide) ⟨Nat.zero_le _, Nat.zero_le _⟩ g68 (by rfl) (Nat.le_of_ble_eq_true rfl) rfl ?_
    refine sC_numB hK hB ?_
    exact t67 c v 1 m a hK hB he
  have t33 : ∀ (c : Int) (m : Mem) (a : Int), (0 ≤ c ∧ c ≤ 7) → RdK mem m → TBad a m → lineP (mem 69) (mem 68 1) s = .error a → AW Γ mX5_readWood (zF Γ zG Q) zG 0 0 33 [some (vR 67), none, none, none] [vI c] m := by
    intro c m a hc hK hB he
    have r5 := hK.2.2.2.2.2.2.2.2.2.2.2.1
    have K1 := hK.set (c := 67) (k := 5) (v := max (m 67 5) c) (by omega) (hK.2.2.2.2.2.2.s67 (by omega))
    have B1 : TBad a (mset m 67 5 (max (m 67 5) c)) := hB.fr (mset_ne (by decide))
    refine aw_istore1 rfl dX5_readWood_33 rfl (by decide) ?_
    refine aw_aload_n dX5_readWood_34 rfl rfl ?_
    refine aw_aload_n dX5_readWood_35 rfl rfl ?_
    refine aw_getI (kI := 5) dX5_readWood_36 rfl fl_X5_75 g67 (by rfl) rfl ?_
    refine aw_iload_n dX5_readWood_39 rfl rfl ?_
    refine aw_max dX5_readWood_40 rfl clm_X5_163 (by decide) (Nat.le_of_ble_eq_true rfl) ⟨Nat.zero_le _, Nat.zero_le _⟩ (by omega) (by omega) ?_
    refine aw_putI (kI := 5) dX5_readWood_43 rfl fp_X5_75 g67 (by rfl) rfl ?_
    refine aw_aload_n dX5_readWood_46 rfl rfl ?_
    refine aw_getR dX5_readWood_47 rfl fl_X5_12 g67 (by rfl) ?_
    refine aw_iconst dX5_readWood_50 rfl ?_
    refine aw_bipush dX5_readWood_51 rfl (by decide) ?_
    refine aw_callV [_, _] _ dX5_readWood_53 rfl clv_X5_147 (by decide) ⟨Nat.zero_le _, Nat.zero_le _⟩ g68 (by rfl) (Nat.le_of_ble_eq_true rfl) rfl ?_
    refine sC_numB K1 B1 ?_
    exact t56 c 1 _ a K1 B1 he
  have t23 : ∀ (m : Mem) (a : Int), RdK mem m → TBad a m → lineP (mem 69) (mem 68 1) s = .error a → AW Γ mX5_readWood (zF Γ zG Q) zG 0 0 23 [some (vR 67), none, none, none] [] m := by
    intro m a hK hB he
    refine aw_aload_n dX5_readWood_23 rfl rfl ?_
    refine aw_getR dX5_readWood_24 rfl fl_X5_12 g67 (by rfl) ?_
    refine aw_iconst dX5_readWood_27 rfl ?_
    refine aw_bipush dX5_readWood_28 rfl (by decide) ?_
    refine aw_callV [_, _] _ dX5_readWood_30 rfl clv_X5_147 (by decide) ⟨Nat.zero_le _, Nat.zero_le _⟩ g68 (by rfl) (Nat.le_of_ble_eq_true rfl) rfl ?_
    refine sC_numB hK hB ?_
    exact t33 0 m a (by omega) hK hB he
  have s15 : s.2 26 = 6 → AW Γ mX5_readWood (zF Γ zG Q) zG 0 0 15 [some (vR 67), none, none, none] [] mem := by
    intro h6
    have la := lineA_eq (t := mem 69) (L := mem 68 1) hx (by omega)
    rw [if_pos (by rw [hl]; exact Or.inl ⟨rfl, h6⟩)] at la
    have lp := lineP_err la
    refine aw_aload_n dX5_readWood_15 rfl rfl ?_
    refine aw_getR dX5_readWood_16 rfl fl_X5_12 g67 (by rfl) ?_
    refine aw_iconst dX5_readWood_19 rfl ?_
    refine aw_callV [_] _ dX5_readWood_20 rfl clv_X5_143 (by decide) ⟨Nat.zero_le _, Nat.zero_le _⟩ g68 (by rfl) (Nat.le_of_ble_eq_true rfl) rfl ?_
    refine sC_flt K0 (by omega) e5 (fun m1 f1 k1 b1 => ?_)
    exact t23 m1 _ k1 b1 (by rw [lp, e3])
  have s23 : ¬ s.2 26 = 6 → AW Γ mX5_readWood (zF Γ zG Q) zG 0 0 23 [some (vR 67), none, none, none] [] mem := by
    intro h6
    have la := lineA_ok2 (t := mem 69) (L := mem 68 1) hx (by omega) (by rw [hl]; unfold fullC; omega)
    have lp := lineP_of la
    rw [hl] at lp
    have lp2 : lineP (mem 69) (mem 68 1) s = (woodP (mem 69) (mem 68 1) (fset (fireG (mem 69) (mem 68 1) s).1 0 (tkE (mem 69) (mem 68 1) s.p), s.2)).bind (markP (mem 69) (mem 68 1)) := lp
    clear lp
    have F0 := hF.line (t := mem 69) (L := mem 68 1) w.1.1 (by omega)
    obtain ⟨sA, hsA⟩ : ∃ x : PSt, ((fset (fireG (mem 69) (mem 68 1) s).1 0 (tkE (mem 69) (mem 68 1) s.p), s.2) : PSt) = x := ⟨_, rfl⟩
    rw [hsA] at lp2 F0
    have pA : sA.p = tkE (mem 69) (mem 68 1) s.p := by rw [← hsA]; rfl
    have dA : sA.2 = s.2 := by rw [← hsA]
    have d46 : sA.2 46 ≤ 6 := by rw [dA]; exact h46.2
    have d26 : 0 ≤ sA.2 26 ∧ sA.2 26 ≤ 5 := by rw [dA]; omega
    have a9 : sA.1 9 = s.1 9 := by rw [← hsA]; rfl
    have wd : woodP (mem 69) (mem 68 1) sA = ((((((cellP (mem 69) (mem 68 1) sA).bind (stP (woodG 0))).bind (numP (mem 69) (mem 68 1) 1 99)).bind (stP (woodG 1))).bind (numP (mem 69) (mem 68 1) 1 9)).bind (stP (woodG 2))).bind (stP (incG 26)) := rfl
    refine aw_aload_n dX5_readWood_23 rfl rfl ?_
    refine aw_getR dX5_readWood_24 rfl fl_X5_12 g67 (by rfl) ?_
    refine aw_iconst dX5_readWood_27 rfl ?_
    refine aw_bipush dX5_readWood_28 rfl (by decide) ?_
    refine aw_callV [_, _] _ dX5_readWood_30 rfl clv_X5_147 (by decide) ⟨Nat.zero_le _, Nat.zero_le _⟩ g68 (by rfl) (Nat.le_of_ble_eq_true rfl) rfl ?_
    refine sC_num sA K0 e5 (by rw [e4, pA]) (by omega) (fun m2 a f2 k2 b2 n2 => t33 0 m2 a (by omega) k2 b2 (by rw [lp2, wd, cellP_err n2]; rfl)) (fun m2 v f2 k2 z5 z3 z4 zx zk vr zr n2 => ?_)
    rw [cellP_okv zx zk.1 zk.2 vr] at wd
    have F2 : RdF sA m2 := F0.fr d46 f2
    obtain ⟨y4, y8, y5, y6, y7⟩ := F2.1
    have r5 : 0 ≤ m2 67 5 ∧ m2 67 5 ≤ 99 := by rw [y5, a9]; omega
    have K3 := k2.set (c := 67) (k := 5) (v := max (m2 67 5) v) (by omega) (k2.2.2.2.2.2.2.s67 (by omega))
    have F3' : RdF (fset (fset (fset sA.1 1 v) 9 (if sA.1 9 < v then v else sA.1 9)) 0 (tkE (mem 69) (mem 68 1) sA.p), sA.2) (mset m2 67 5 (max (m2 67 5) v)) := by
      rw [mset_eq]
      refine F2.own ⟨?_, ?_, ?_, ?_, ?_⟩ rfl rfl
      · rw [fset_ne (by decide)]; exact y4
      · rw [fset_ne (by decide)]; exact y8
      · rw [fset_same, y5]
        show max (max 0 (sA.1 9)) v = max 0 (if sA.1 9 < v then v else sA.1 9)
        split <;> omega
      · rw [fset_ne (by decide)]; exact y6
      · rw [fset_ne (by decide)]; exact y7
    have F3 : RdF (woodG 0 (fset (fset (fset sA.1 1 v) 9 (if sA.1 9 < v then v else sA.1 9)) 0 (tkE (mem 69) (mem 68 1) sA.p), sA.2)) (mset m2 67 5 (max (m2 67 5) v)) := F3'.upw d26 rfl rfl rfl rfl rfl rfl (fun j hj => by have hj2 : j < 27 + 3 * sA.2 26 ∨ 45 ≤ j := hj; exact fset_ne (by show ¬ j = 27 + 3 * sA.2 26 + 0; omega))
    have wd2 : woodP (mem 69) (mem 68 1) sA = ((((numP (mem 69) (mem 68 1) 1 99 (woodG 0 (fset (fset (fset sA.1 1 v) 9 (if sA.1 9 < v then v else sA.1 9)) 0 (tkE (mem 69) (mem 68 1) sA.p), sA.2))).bind (stP (woodG 1))).bind (numP (mem 69) (mem 68 1) 1 9)).bind (stP (woodG 2))).bind (stP (incG 26)) := wd
    obtain ⟨sB, hsB⟩ : ∃ x : PSt, woodG 0 (fset (fset (fset sA.1 1 v) 9 (if sA.1 9 < v then v else sA.1 9)) 0 (tkE (mem 69) (mem 68 1) sA.p), sA.2) = x := ⟨_, rfl⟩
    rw [hsB] at F3 wd2
    have pB : sB.p = tkE (mem 69) (mem 68 1) sA.p := by rw [← hsB]; rfl
    have sB2 : sB.2 = fset sA.2 (27 + 3 * sA.2 26 + 0) v := by rw [← hsB]; rfl
    have b26 : sB.2 26 = sA.2 26 := by rw [sB2, fset_ne (by omega)]
    have b46 : sB.2 46 = sA.2 46 := by rw [sB2, fset_ne (by omega)]
    refine aw_istore1 rfl dX5_readWood_33 rfl (by decide) ?_
    refine aw_aload_n dX5_readWood_34 rfl rfl ?_
    refine aw_aload_n dX5_readWood_35 rfl rfl ?_
    refine aw_getI (kI := 5) dX5_readWood_36 rfl fl_X5_75 g67 (by rfl) rfl ?_
    refine aw_iload_n dX5_readWood_39 rfl rfl ?_
    refine aw_max dX5_readWood_40 rfl clm_X5_163 (by decide) (Nat.le_of_ble_eq_true rfl) ⟨Nat.zero_le _, Nat.zero_le _⟩ (by omega) (by omega) ?_
    refine aw_putI (kI := 5) dX5_readWood_43 rfl fp_X5_75 g67 (by rfl) rfl ?_
    refine aw_aload_n dX5_readWood_46 rfl rfl ?_
    refine aw_getR dX5_readWood_47 rfl fl_X5_12 g67 (by rfl) ?_
    refine aw_iconst dX5_readWood_50 rfl ?_
    refine aw_bipush dX5_readWood_51 rfl (by decide) ?_
    refine aw_callV [_, _] _ dX5_readWood_53 rfl clv_X5_147 (by decide) ⟨Nat.zero_le _, Nat.zero_le _⟩ g68 (by rfl) (Nat.le_of_ble_eq_true rfl) rfl ?_
    refine sC_num sB K3 (by rw [mset_ne (by decide)]; exact z5) (by rw [mset_ne (by decide), z4, pB]) (by omega) (fun m4 a f4 k4 b4 n4 => t56 v 1 m4 a k4 b4 (by rw [lp2, wd2, n4]; rfl)) (fun m4 v4 f4 k4 y5' y3 y4' yx yk vr4 zr4 n4 => ?_)
    rw [n4] at wd2
    have F4 : RdF sB m4 := F3.fr (by omega) f4
    have F5 : RdF (woodG 1 (fset (fset sB.1 1 v4) 0 (tkE (mem 69) (mem 68 1) sB.p), sB.2)) m4 := F4.upw (by omega) rfl rfl rfl rfl rfl rfl (fun j hj => fset_ne (by show ¬ j = 27 + 3 * sB.2 26 + 1; omega))
    have wd3 : woodP (mem 69) (mem 68 1) sA = ((numP (mem 69) (mem 68 1) 1 9 (woodG 1 (fset (fset sB.1 1 v4) 0 (tkE (mem 69) (mem 68 1) sB.p), sB.2))).bind (stP (woodG 2))).bind (stP (incG 26)) := wd2
    obtain ⟨sC, hsC⟩ : ∃ x : PSt, woodG 1 (fset (fset sB.1 1 v4) 0 (tkE (mem 69) (mem 68 1) sB.p), sB.2) = x := ⟨_, rfl⟩
    rw [hsC] at F5 wd3
    have pC : sC.p = tkE (mem 69) (mem 68 1) sB.p := by rw [← hsC]; rfl
    have sC2 : sC.2 = fset sB.2 (27 + 3 * sB.2 26 + 1) v4 := by rw [← hsC]; rfl
    have c26 : sC.2 26 = sA.2 26 := by rw [sC2, fset_ne (by omega), b26]
    have c46 : sC.2 46 = sA.2 46 := by rw [sC2, fset_ne (by omega), b46]
    refine aw_istore2 rfl dX5_readWood_56 rfl (by decide) ?_
    refine aw_aload_n dX5_readWood_57 rfl rfl ?_
    refine aw_getR dX5_readWood_58 rfl fl_X5_12 g67 (by rfl) ?_
    refine aw_iconst dX5_readWood_61 rfl ?_
    refine aw_bipush dX5_readWood_62 rfl (by decide) ?_
    refine aw_callV [_, _] _ dX5_readWood_64 rfl clv_X5_147 (by decide) ⟨Nat.zero_le _, Nat.zero_le _⟩ g68 (by rfl) (Nat.le_of_ble_eq_true rfl) rfl ?_
    refine sC_num sC k4 y5' (by rw [y4', pC]) (by omega) (fun m6 a f6 k6 b6 n6 => t67 v v4 1 m6 a k6 b6 (by rw [lp2, wd3, n6]; rfl)) (fun m6 v6 f6 k6 x5 x3 x4 xx xk vr6 zr6 n6 => ?_)
    rw [n6] at wd3
    have F6 : RdF sC m6 := F5.fr (by omega) f6
    have wd4 : woodP (mem 69) (mem 68 1) sA = .ok (incG 26 (woodG 2 (fset (fset sC.1 1 v6) 0 (tkE (mem 69) (mem 68 1) sC.p), sC.2))) := wd3
    obtain ⟨sD, hsD⟩ : ∃ x : PSt, incG 26 (woodG 2 (fset (fset sC.1 1 v6) 0 (tkE (mem 69) (mem 68 1) sC.p), sC.2)) = x := ⟨_, rfl⟩
    rw [hsD] at wd4
    have pD : sD.p = tkE (mem 69) (mem 68 1) sC.p := by rw [← hsD]; rfl
    have sD2 : sD.2 = fset (fset sC.2 (27 + 3 * sC.2 26 + 2) v6) 26 (sC.2 26 + 1) := by rw [← hsD]; show fset (fset sC.2 (27 + 3 * sC.2 26 + 2) v6) 26 (fset sC.2 (27 + 3 * sC.2 26 + 2) v6 26 + 1) = _; rw [fset_ne (by omega)]
    have sD1 : sD.1 = fset (fset sC.1 1 v6) 0 (tkE (mem 69) (mem 68 1) sC.p) := by rw [← hsD]; rfl
    refine aw_istore3 rfl dX5_readWood_67 rfl (by decide) ?_
    refine aw_aload_n dX5_readWood_68 rfl rfl ?_
    refine aw_getR dX5_readWood_69 rfl fl_X5_12 g67 (by rfl) ?_
    refine aw_callV [] _ dX5_readWood_72 rfl clv_X5_160 (by decide) ⟨Nat.zero_le _, Nat.zero_le _⟩ g68 (by rfl) (Nat.le_of_ble_eq_true rfl) rfl ?_
    refine sC_mark sD k6 x5 (by rw [x4, pD]) (fun m8 a f8 k8 b8 n8 => ?_) (fun m8 f8 k8 w5 w4 n8 => ?_)
    · first | exact t75 v v4 v6 m8 a k8 b8 (by rw [lp2, wd4]; exact n8) | exact g75 v v4 v6 sC sD m8 k8 w5 w4 (F6.fr (by omega) f8) (by omega) (by omega) (fun j j0 j1 => by rw [sD2, fset_ne j1, fset_ne (by omega)]) (by rw [sD2, fset_same]) (by rw [c26, sD2, fset_ne (by omega), fset_ne (by omega), sC2, fset_ne (by omega), sB2, Int.add_zero, fset_same]) (by rw [c26, sD2, fset_ne (by omega), fset_ne (by omega), sC2, b26, fset_same]) (by rw [c26, sD2, fset_ne (by omega), c26, fset_same]) (by rw [sD1]; rfl) (by rw [sD1]; rfl) (by rw [sD1]; rfl) (by rw [sD1]; rfl) (by rw [sD1]; rfl) (by rw [sD1]; rfl) (fun j hj => by rw [sD2, fset_ne (by omega), fset_ne (by omega)]) (by rw [lp2, wd4]; exact n8)
    · first | exact t75 v v4 v6 m8 a k8 b8 (by rw [lp2, wd4]; exact n8) | exact g75 v v4 v6 sC sD m8 k8 w5 w4 (F6.fr (by omega) f8) (by omega) (by omega) (fun j j0 j1 => by rw [sD2, fset_ne j1, fset_ne (by omega)]) (by rw [sD2, fset_same]) (by rw [c26, sD2, fset_ne (by omega), fset_ne (by omega), sC2, fset_ne (by omega), sB2, Int.add_zero, fset_same]) (by rw [c26, sD2, fset_ne (by omega), fset_ne (by omega), sC2, b26, fset_same]) (by rw [c26, sD2, fset_ne (by omega), c26, fset_same]) (by rw [sD1]; rfl) (by rw [sD1]; rfl) (by rw [sD1]; rfl) (by rw [sD1]; rfl) (by rw [sD1]; rfl) (by rw [sD1]; rfl) (fun j hj => by rw [sD2, fset_ne (by omega), fset_ne (by omega)]) (by rw [lp2, wd4]; exact n8)
  refine AMet.of' 3 (ls := [some (vR (67)), none, none, none]) (by decide) rfl (Nat.le_of_ble_eq_true rfl) ?_
  refine aw_aload_n dX5_readWood_0 rfl rfl ?_
  refine aw_getR dX5_readWood_1 rfl fl_X5_21 g67 (by rfl) ?_
  refine aw_getR dX5_readWood_4 rfl fl_X5_88 g70 (by rfl) ?_
  refine aw_getI (kI := 3) dX5_readWood_7 rfl fl_X5_171 g71 (by rfl) rfl ?_
  rw [m26]
  refine aw_bipush dX5_readWood_10 rfl (by decide) ?_
  refine aw_icmp_lt (tgt := 23) dX5_readWood_12 (by decide) rfl (by omega) (by omega) (fun c12 => ?_) (fun c12 => ?_)
  · exact s23 (by omega)
  · exact s15 (by omega)
end ZCmp27
