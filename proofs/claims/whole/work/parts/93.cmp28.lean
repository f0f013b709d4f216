theorem memo_err {t : Int → Int} {L a : Int} {s : PSt} (h : numP t L 0 5 s = .error a) : memoP t L s = .error a := by
  unfold memoP memoA
  rw [chk_err h]
  rfl
theorem memo_eq {t : Int → Int} {L v : Int} {s : PSt} (hx : ¬ tkX t L s.p) (hk : tkK t L s.p = 2) (hv : v = tkV t L s.p) (hr : 0 ≤ v ∧ v ≤ 5) : (memoA t L s).bind (advP t L) = if zand (zshr (s.1 8) v) 1 = 0 then .ok (fset (fset (fset (fset (fset s.1 1 v) 2 v) 8 (zor (s.1 8) (zshl 1 v))) 11 (if s.1 11 < v then v else s.1 11)) 0 (tkE t L s.p), s.2) else .error (8 * tkB t L s.p + 4) := by
  unfold memoA
  rw [chkP_y hx ⟨hk, by omega⟩]
  show ((chkP k4 t L (toldC 8) (ghV t L s)).bind (stP memoG)).bind (advP t L) = _
  rw [chk_adv (G := memoG) (fun _ => rfl)]
  have e : ghV t L s = (fset s.1 1 v, s.2) := by unfold ghV; rw [← hv]
  rw [e]
  show (if tkX t L s.p then _ else if zand (zshr (s.1 8) v) 1 = 0 then _ else _) = _
  rw [if_neg hx]
  rfl
section ZCmp28
variable {Γ : ZG} {mem m : Mem} {Q : Option AV → Mem → Prop}
theorem RdF.memo {s s' : PSt} {q : Nat} {v : Int} (h : RdF s m) (h26 : 0 ≤ s.2 26 ∧ s.2 26 ≤ 6) (h46 : s.2 46 ≤ 6) (h1 : s'.1 = s.1) (hd : s'.2 = fset s.2 (47 + 8 * (q : Int) + 7) v) : RdF s' (mset m 86 (q : Int) v) := by
  obtain ⟨g1, g2, g3, g4, g5⟩ := h
  have hne : ∀ j : Int, ¬ j = 47 + 8 * (q : Int) + 7 → s'.2 j = s.2 j := fun j hj => by rw [hd, fset_ne hj]
  refine ⟨by rw [mset_ne (by decide), h1]; exact g1, ?_, by rw [mset_ne (by decide), hne 46 (by omega)]; exact g3, fun p hp => ?_, fun p hp => ?_⟩
  · unfold FiR
    rw [mset_ne (d := 71) (by decide), mset_ne (d := 71 + 1) (by decide), mset_ne (d := 71 + 2) (by decide), mset_ne (d := 71 + 3) (by decide), mset_ne (d := 71 + 4) (by decide), h1]
    exact g2.up h26.1 (fun j hj => hne j (by omega))
  · rw [hne 46 (by omega)] at hp
    rw [mset_ne (by omega), hne _ (by omega), hne _ (by omega), hne _ (by omega)]
    exact g4 p hp
  · rw [mset_same]
    by_cases e : p = q
    · subst e
      rw [fset_same, hd, fset_same]
    · rw [fset_ne (by omega), hne _ (by omega)]
      exact g5 p hp
theorem sC_readMemo (s : PSt) (hS : RdS mem) (hR : TkR mem (mem 69) (mem 68 1) s.p) (hx : ¬ tkX (mem 69) (mem 68 1) s.p) (hF : RdF s mem) (w : PW (mem 68 1) s) (dw : DW s) (mi : MI s) (hl : lineC (mem 69) (mem 68 1) s = 5) (k : ∀ m' : Mem, RdK mem m' → CmpR (lineP (mem 69) (mem 68 1) s) m' → Q none m') : AMet Γ mX5_readMemo [vR 67] zG mem Q := by
  obtain ⟨e1, e3, e4, e2, ex, en⟩ := id hR
  have e5 := en hx
  have K0 : RdK mem mem := ⟨FrI.rf, rfl, rfl, rfl, hS⟩
  have h46 := dw.2.2.2.2.2.1
  have h26 := dw.2.2.2.2.1
  have w9 := w.1.2.1
  have w11 := w.1.2.2.2.1
  have kb : ∀ (m' : Mem) (a : Int), RdK mem m' → TBad a m' → lineP (mem 69) (mem 68 1) s = .error a → Q none m' := fun m' a hK hB e => k m' hK (by rw [e]; exact hB)
  have la := lineA_ok2 (t := mem 69) (L := mem 68 1) hx (by omega) (by rw [hl]; unfold fullC; omega)
  have lp := lineP_of la
  rw [hl] at lp
  have lp2 : lineP (mem 69) (mem 68 1) s = (memoP (mem 69) (mem 68 1) (fset (fireG (mem 69) (mem 68 1) s).1 0 (tkE (mem 69) (mem 68 1) s.p), s.2)).bind (markP (mem 69) (mem 68 1)) := lp
  clear lp
  have F0 := hF.line (t := mem 69) (L := mem 68 1) w.1.1 (by omega)
  obtain ⟨sA, hsA⟩ : ∃ x : PSt, ((fset (fireG (mem 69) (mem 68 1) s).1 0 (tkE (mem 69) (mem 68 1) s.p), s.2) : PSt) = x := ⟨_, rfl⟩
  rw [hsA] at lp2 F0
  have pA : sA.p = tkE (mem 69) (mem 68 1) s.p := by rw [← hsA]; rfl
  have dA : sA.2 = s.2 := by rw [← hsA]
  have d46 : sA.2 46 ≤ 6 := by rw [dA]; exact h46.2
  have d26 : 0 ≤ sA.2 26 ∧ sA.2 26 ≤ 6 := by rw [dA]; exact h26
  have a9 : sA.1 9 = s.1 9 := by rw [← hsA]; rfl
  have a8 : sA.1 8 = s.1 8 := by rw [← hsA]; rfl
  have a11 : sA.1 11 = s.1 11 := by rw [← hsA]; rfl
  -- bad tails
  have t57 : ∀ (p : Nat) (m : Mem) (a : Int), p < 6 → RdK mem m → TBad a m → lineP (mem 69) (mem 68 1) s = .error a → AW Γ mX5_readMemo (zF Γ zG Q) zG 0 0 57 [some (vR 67), some (vI p)] [] m := by
    intro p m a hp hK hB he
    have hn := hK.2.2.2.2.2.2
    have r5 := hn.2.2.2.2.2.1
    have r86 := hn.2.2.2.2.1 p (by omega) (by omega)
    have K1 := hK.set (c := 67) (k := 5) (v := max (m 67 5) (m 86 p)) (by omega) (hn.s67 (by omega))
    have B1 : TBad a (mset m 67 5 (max (m 67 5) (m 86 p))) := hB.fr (mset_ne (by decide))
    refine aw_aload_n dX5_readMemo_57 rfl rfl ?_
    refine aw_aload_n dX5_readMemo_58 rfl rfl ?_
    refine aw_getI (kI := 5) dX5_readMemo_59 rfl fl_X5_75 g67 (by rfl) rfl ?_
    refine aw_aload_n dX5_readMemo_62 rfl rfl ?_
    refine aw_getR dX5_readMemo_63 rfl fl_X5_25 g67 (by rfl) ?_
    refine aw_iload_n dX5_readMemo_66 rfl rfl ?_
    refine aw_iaload dX5_readMemo_67 rfl g86 (by decide) (by omega) ?_
    refine aw_max dX5_readMemo_68 rfl clm_X5_163 (by decide) (Nat.le_of_ble_eq_true rfl) ⟨Nat.zero_le _, Nat.zero_le _⟩ (by omega) (by omega) ?_
    refine aw_putI (kI := 5) dX5_readMemo_71 rfl fp_X5_75 g67 (by rfl) rfl ?_
    refine aw_aload_n dX5_readMemo_74 rfl rfl ?_
    refine aw_getR dX5_readMemo_75 rfl fl_X5_12 g67 (by rfl) ?_
    refine aw_callV [] _ dX5_readMemo_78 rfl clv_X5_160 (by decide) ⟨Nat.zero_le _, Nat.zero_le _⟩ g68 (by rfl) (Nat.le_of_ble_eq_true rfl) rfl ?_
    refine sC_markB K1 B1 ?_
    refine aw_return dX5_readMemo_81 rfl ?_
    exact kb _ a K1 B1 he
  have t56 : ∀ (p : Nat) (m : Mem) (a : Int), p < 6 → RdK mem m → TBad a m → lineP (mem 69) (mem 68 1) s = .error a → AW Γ mX5_readMemo (zF Γ zG Q) zG 0 0 56 [some (vR 67), some (vI p)] [vI 0, vI p, vR 86] m := by
    intro p m a hp hK hB he
    refine aw_iastore dX5_readMemo_56 rfl g86 (by omega) (by omega) ?_
    exact t57 p _ a hp (hK.set (by omega) (hK.2.2.2.2.2.2.s86 (by omega))) (hB.fr (mset_ne (by decide))) he
  have t29 : ∀ (p : Nat) (m : Mem) (a : Int), p < 6 → RdK mem m → TBad a m → lineP (mem 69) (mem 68 1) s = .error a → AW Γ mX5_readMemo (zF Γ zG Q) zG 0 0 29 [some (vR 67), some (vI p)] [] m := by
    intro p m a hp hK hB he
    have hn := hK.2.2.2.2.2.2
    have r7 := hn.2.2.2.2.2.2.2.1
    have K1 := hK.set (c := 67) (k := 7) (v := max (m 67 7) p) (by omega) (hn.s67 (by omega))
    have B1 : TBad a (mset m 67 7 (max (m 67 7) p)) := hB.fr (mset_ne (by decide))
    refine aw_aload_n dX5_readMemo_29 rfl rfl ?_
    refine aw_aload_n dX5_readMemo_30 rfl rfl ?_
    refine aw_getI (kI := 7) dX5_readMemo_31 rfl fl_X5_81 g67 (by rfl) rfl ?_
    refine aw_iload_n dX5_readMemo_34 rfl rfl ?_
    refine aw_max dX5_readMemo_35 rfl clm_X5_163 (by decide) (Nat.le_of_ble_eq_true rfl) ⟨Nat.zero_le _, Nat.zero_le _⟩ (by omega) (by omega) ?_
    refine aw_putI (kI := 7) dX5_readMemo_38 rfl fp_X5_81 g67 (by rfl) rfl ?_
    refine aw_aload_n dX5_readMemo_41 rfl rfl ?_
    refine aw_getR dX5_readMemo_42 rfl fl_X5_25 g67 (by rfl) ?_
    refine aw_iload_n dX5_readMemo_45 rfl rfl ?_
    refine aw_aload_n dX5_readMemo_46 rfl rfl ?_
    refine aw_getR dX5_readMemo_47 rfl fl_X5_12 g67 (by rfl) ?_
    refine aw_iconst dX5_readMemo_50 rfl ?_
    refine aw_bipush dX5_readMemo_51 rfl (by decide) ?_
    refine aw_callV [_, _] _ dX5_readMemo_53 rfl clv_X5_147 (by decide) ⟨Nat.zero_le _, Nat.zero_le _⟩ g68 (by rfl) (Nat.le_of_ble_eq_true rfl) rfl ?_
    refine sC_numB K1 B1 ?_
    exact t56 p _ a hp K1 B1 he
  have t9 : ∀ (m : Mem) (a : Int), RdK mem m → TBad a m → lineP (mem 69) (mem 68 1) s = .error a → AW Γ mX5_readMemo (zF Γ zG Q) zG 0 0 9 [some (vR 67), none] [vI 0] m := by
    intro m a hK hB he
    have hn := hK.2.2.2.2.2.2
    have r86 := hn.2.2.2.2.1 0 (by omega) (by omega)
    refine aw_istore1 rfl dX5_readMemo_9 rfl (by decide) ?_
    refine aw_aload_n dX5_readMemo_10 rfl rfl ?_
    refine aw_getR dX5_readMemo_11 rfl fl_X5_25 g67 (by rfl) ?_
    refine aw_iload_n dX5_readMemo_14 rfl rfl ?_
    refine aw_iaload dX5_readMemo_15 rfl g86 (by decide) (by omega) ?_
    refine aw_bipush dX5_readMemo_16 rfl (by decide) ?_
    refine aw_icmp_eq (tgt := 29) dX5_readMemo_18 (by decide) rfl (by omega) (by omega) (fun c18 => ?_) (fun c18 => ?_)
    · exact t29 0 m a (by omega) hK hB he
    · refine aw_aload_n dX5_readMemo_21 rfl rfl ?_
      refine aw_getR dX5_readMemo_22 rfl fl_X5_12 g67 (by rfl) ?_
      refine aw_iconst dX5_readMemo_25 rfl ?_
      refine aw_callV [_] _ dX5_readMemo_26 rfl clv_X5_143 (by decide) ⟨Nat.zero_le _, Nat.zero_le _⟩ g68 (by rfl) (Nat.le_of_ble_eq_true rfl) rfl ?_
      refine sC_fltB hK hB ?_
      exact t29 0 m a (by omega) hK hB he
  have s9 : ∀ (m2 : Mem) (p : Nat), FrI m2 mem 68 69 → RdK mem m2 → m2 68 5 = 0 → m2 68 3 = tkB (mem 69) (mem 68 1) sA.p → m2 68 4 = tkE (mem 69) (mem 68 1) sA.p → ¬ tkX (mem 69) (mem 68 1) sA.p → (tkK (mem 69) (mem 68 1) sA.p = 2 ∧ (p : Int) = tkV (mem 69) (mem 68 1) sA.p) → p < 6 → AW Γ mX5_readMemo (zF Γ zG Q) zG 0 0 9 [some (vR 67), none] [vI p] m2 := by
    intro m2 p f2 k2 z5 z3 z4 zx zk vr
    have he := memo_eq (t := mem 69) (L := mem 68 1) (s := sA) zx zk.1 zk.2 (by omega)
    have hp : memoP (mem 69) (mem 68 1) sA = (((memoA (mem 69) (mem 68 1) sA).bind (advP (mem 69) (mem 68 1))).bind (cellP (mem 69) (mem 68 1))).bind (stP memoW) := rfl
    rw [he] at hp
    have F2 : RdF sA m2 := F0.fr d46 f2
    obtain ⟨y4, y8, y5, y6, y7⟩ := F2.1
    have y86 := F2.2.2.2.2 p vr
    have hn := k2.2.2.2.2.2.2
    have r86 := hn.2.2.2.2.1 p (by omega) (by omega)
    have told : m2 86 p = -4 ↔ zand (zshr (sA.1 8) (p : Int)) 1 = 0 := by
      rw [zbit (by omega), y86, dA, a8]
      have := mi p vr
      cases hb : zbt (s.1 8) p with
      | true =>
        rw [hb] at this
        constructor
        · intro z; exact absurd z (this.mp rfl)
        · intro z; exact absurd z (by decide)
      | false =>
        rw [hb] at this
        constructor
        · intro _; rfl
        · intro _; exact Classical.byContradiction (fun y => absurd (this.mpr y) (by decide))
    have b21 : ¬ zand (zshr (sA.1 8) (p : Int)) 1 = 0 → AW Γ mX5_readMemo (zF Γ zG Q) zG 0 0 21 [some (vR 67), some (vI p)] [] m2 := by
      intro h0
      rw [if_neg h0] at hp
      refine aw_aload_n dX5_readMemo_21 rfl rfl ?_
      refine aw_getR dX5_readMemo_22 rfl fl_X5_12 g67 (by rfl) ?_
      refine aw_iconst dX5_readMemo_25 rfl ?_
      refine aw_callV [_] _ dX5_readMemo_26 rfl clv_X5_143 (by decide) ⟨Nat.zero_le _, Nat.zero_le _⟩ g68 (by rfl) (Nat.le_of_ble_eq_true rfl) rfl ?_
      refine sC_flt k2 (by omega) z5 (fun m5 f5 k5 b5 => ?_)
      refine t29 p m5 _ vr k5 b5 ?_
      rw [lp2, hp, z3]
      rfl
    have g29 : zand (zshr (sA.1 8) (p : Int)) 1 = 0 → AW Γ mX5_readMemo (zF Γ zG Q) zG 0 0 29 [some (vR 67), some (vI p)] [] m2 := by
      intro h0
      rw [if_pos h0] at hp
      have r7 : -4 ≤ m2 67 7 ∧ m2 67 7 ≤ 99 := by rw [y7, a11]; exact w11
      have K3 := k2.set (c := 67) (k := 7) (v := max (m2 67 7) p) (by omega) (hn.s67 (by omega))
      have F3 : RdF (fset (fset (fset (fset (fset sA.1 1 (p : Int)) 2 (p : Int)) 8 (zor (sA.1 8) (zshl 1 (p : Int)))) 11 (if sA.1 11 < (p : Int) then (p : Int) else sA.1 11)) 0 (tkE (mem 69) (mem 68 1) sA.p), sA.2) (mset m2 67 7 (max (m2 67 7) p)) := by
        rw [mset_eq (c := 67)]
        refine F2.own ⟨?_, ?_, ?_, ?_, ?_⟩ rfl rfl
        · rw [fset_ne (by decide)]; exact y4
        · rw [fset_ne (by decide)]; exact y8
        · rw [fset_ne (by decide)]; exact y5
        · rw [fset_ne (by decide)]; exact y6
        · rw [fset_same, y7]
          show max (sA.1 11) (p : Int) = (if sA.1 11 < (p : Int) then (p : Int) else sA.1 11)
          split <;> omega
      have hp2 : memoP (mem 69) (mem 68 1) sA = (cellP (mem 69) (mem 68 1) (fset (fset (fset (fset (fset sA.1 1 (p : Int)) 2 (p : Int)) 8 (zor (sA.1 8) (zshl 1 (p : Int)))) 11 (if sA.1 11 < (p : Int) then (p : Int) else sA.1 11)) 0 (tkE (mem 69) (mem 68 1) sA.p), sA.2)).bind (stP memoW) := hp
      obtain ⟨sB, hsB⟩ : ∃ x : PSt, ((fset (fset (fset (fset (fset sA.1 1 (p : Int)) 2 (p : Int)) 8 (zor (sA.1 8) (zshl 1 (p : Int)))) 11 (if sA.1 11 < (p : Int) then (p : Int) else sA.1 11)) 0 (tkE (mem 69) (mem 68 1) sA.p), sA.2) : PSt) = x := ⟨_, rfl⟩
      rw [hsB] at F3 hp2
      have pB : sB.p = tkE (mem 69) (mem 68 1) sA.p := by rw [← hsB]; rfl
      have b2 : sB.1 2 = p := by rw [← hsB]; rfl
      have b9 : sB.1 9 = s.1 9 := by rw [← hsB]; exact a9
      have dB : sB.2 = sA.2 := by rw [← hsB]
      refine aw_aload_n dX5_readMemo_29 rfl rfl ?_
      refine aw_aload_n dX5_readMemo_30 rfl rfl ?_
      refine aw_getI (kI := 7) dX5_readMemo_31 rfl fl_X5_81 g67 (by rfl) rfl ?_
      refine aw_iload_n dX5_readMemo_34 rfl rfl ?_
      refine aw_max dX5_readMemo_35 rfl clm_X5_163 (by decide) (Nat.le_of_ble_eq_true rfl) ⟨Nat.zero_le _, Nat.zero_le _⟩ (by omega) (by omega) ?_
      refine aw_putI (kI := 7) dX5_readMemo_38 rfl fp_X5_81 g67 (by rfl) rfl ?_
      refine aw_aload_n dX5_readMemo_41 rfl rfl ?_
      refine aw_getR dX5_readMemo_42 rfl fl_X5_25 g67 (by rfl) ?_
      refine aw_iload_n dX5_readMemo_45 rfl rfl ?_
      refine aw_aload_n dX5_readMemo_46 rfl rfl ?_
      refine aw_getR dX5_readMemo_47 rfl fl_X5_12 g67 (by rfl) ?_
      refine aw_iconst dX5_readMemo_50 rfl ?_
      refine aw_bipush dX5_readMemo_51 rfl (by decide) ?_
      refine aw_callV [_, _] _ dX5_readMemo_53 rfl clv_X5_147 (by decide) ⟨Nat.zero_le _, Nat.zero_le _⟩ g68 (by rfl) (Nat.le_of_ble_eq_true rfl) rfl ?_
      refine sC_num sB K3 (by rw [mset_ne (by decide)]; exact z5) (by rw [mset_ne (by decide), z4, pB]) (by omega) (fun m4 a f4 k4 b4 n4 => t56 p m4 a vr k4 b4 (by rw [lp2, hp2, cellP_err n4]; rfl)) (fun m4 v4 f4 k4 x5 x3 x4 xx xk vr4 zr4 n4 => ?_)
      rw [cellP_okv xx xk.1 xk.2 vr4] at hp2
      have F4 : RdF sB m4 := F3.fr (by rw [dB]; exact d46) f4
      have K5 := k4.set (c := 86) (k := (p : Int)) (v := v4) (by omega) (k4.2.2.2.2.2.2.s86 (by omega))
      have F5 : RdF (sB.1, fset sB.2 (47 + 8 * (p : Int) + 7) v4) (mset m4 86 (p : Int) v4) := F4.memo (by rw [dB]; exact d26) (by rw [dB]; exact d46) rfl rfl
      have hp3 : memoP (mem 69) (mem 68 1) sA = .ok (fset (fset (fset sB.1 1 v4) 9 (if sB.1 9 < v4 then v4 else sB.1 9)) 0 (tkE (mem 69) (mem 68 1) sB.p), fset sB.2 (47 + 8 * (p : Int) + 7) v4) := by rw [← b2]; exact hp2
      obtain ⟨u4, u8, u5, u6, u7⟩ := F5.1
      have u5' : (mset m4 86 (p : Int) v4) 67 5 = max 0 (s.1 9) := by rw [← b9]; exact u5
      have m86 : mset m4 86 (p : Int) v4 86 p = v4 := by rw [mset_same, fset_same]
      have K6 := K5.set (c := 67) (k := 5) (v := max ((mset m4 86 (p : Int) v4) 67 5) v4) (by omega) (K5.2.2.2.2.2.2.s67 (by omega))
      have F6 : RdF (fset (fset (fset sB.1 1 v4) 9 (if sB.1 9 < v4 then v4 else sB.1 9)) 0 (tkE (mem 69) (mem 68 1) sB.p), fset sB.2 (47 + 8 * (p : Int) + 7) v4) (mset (mset m4 86 (p : Int) v4) 67 5 (max ((mset m4 86 (p : Int) v4) 67 5) v4)) := by
        rw [mset_eq (c := 67)]
        refine F5.own ⟨?_, ?_, ?_, ?_, ?_⟩ rfl rfl
        · rw [fset_ne (by decide)]; exact u4
        · rw [fset_ne (by decide)]; exact u8
        · rw [fset_same, u5']
          show max (max 0 (s.1 9)) v4 = max 0 (if sB.1 9 < v4 then v4 else sB.1 9)
          rw [b9]
          split <;> omega
        · rw [fset_ne (by decide)]; exact u6
        · rw [fset_ne (by decide)]; exact u7
      refine aw_iastore dX5_readMemo_56 rfl g86 (by omega) (by omega) ?_
      refine aw_aload_n dX5_readMemo_57 rfl rfl ?_
      refine aw_aload_n dX5_readMemo_58 rfl rfl ?_
      refine aw_getI (kI := 5) dX5_readMemo_59 rfl fl_X5_75 g67 (by rfl) rfl ?_
      refine aw_aload_n dX5_readMemo_62 rfl rfl ?_
      refine aw_getR dX5_readMemo_63 rfl fl_X5_25 g67 (by rfl) ?_
      refine aw_iload_n dX5_readMemo_66 rfl rfl ?_
      refine aw_iaload dX5_readMemo_67 rfl g86 (by decide) (by omega) ?_
      rw [m86]
      refine aw_max dX5_readMemo_68 rfl clm_X5_163 (by decide) (Nat.le_of_ble_eq_true rfl) ⟨Nat.zero_le _, Nat.zero_le _⟩ (by omega) (by omega) ?_
      refine aw_putI (kI := 5) dX5_readMemo_71 rfl fp_X5_75 g67 (by rfl) rfl ?_
      refine aw_aload_n dX5_readMemo_74 rfl rfl ?_
      refine aw_getR dX5_readMemo_75 rfl fl_X5_12 g67 (by rfl) ?_
      refine aw_callV [] _ dX5_readMemo_78 rfl clv_X5_160 (by decide) ⟨Nat.zero_le _, Nat.zero_le _⟩ g68 (by rfl) (Nat.le_of_ble_eq_true rfl) rfl ?_
      refine sC_mark (fset (fset (fset sB.1 1 v4) 9 (if sB.1 9 < v4 then v4 else sB.1 9)) 0 (tkE (mem 69) (mem 68 1) sB.p), fset sB.2 (47 + 8 * (p : Int) + 7) v4) K6 (by rw [mset_ne (by decide), mset_ne (by decide)]; exact x5) (by rw [mset_ne (by decide), mset_ne (by decide), x4]; rfl) (fun m8 a f8 k8 b8 n8 => ?_) (fun m8 f8 k8 q5 q4 n8 => ?_)
      · refine aw_return dX5_readMemo_81 rfl ?_
        first | exact kb m8 a k8 b8 (by rw [lp2, hp3]; exact n8) | (refine k m8 k8 ?_; rw [lp2, hp3]; show CmpR (markP (mem 69) (mem 68 1) _) m8; rw [n8]; exact ⟨q5, q4, F6.fr (by show fset sB.2 (47 + 8 * (p : Int) + 7) v4 46 ≤ 6; rw [fset_ne (by omega), dB]; exact d46) f8⟩)
      · refine aw_return dX5_readMemo_81 rfl ?_
        first | exact kb m8 a k8 b8 (by rw [lp2, hp3]; exact n8) | (refine k m8 k8 ?_; rw [lp2, hp3]; show CmpR (markP (mem 69) (mem 68 1) _) m8; rw [n8]; exact ⟨q5, q4, F6.fr (by show fset sB.2 (47 + 8 * (p : Int) + 7) v4 46 ≤ 6; rw [fset_ne (by omega), dB]; exact d46) f8⟩)
    refine aw_istore1 rfl dX5_readMemo_9 rfl (by decide) ?_
    refine aw_aload_n dX5_readMemo_10 rfl rfl ?_
    refine aw_getR dX5_readMemo_11 rfl fl_X5_25 g67 (by rfl) ?_
    refine aw_iload_n dX5_readMemo_14 rfl rfl ?_
    refine aw_iaload dX5_readMemo_15 rfl g86 (by decide) (by omega) ?_
    refine aw_bipush dX5_readMemo_16 rfl (by decide) ?_
    refine aw_icmp_eq (tgt := 29) dX5_readMemo_18 (by decide) rfl (by omega) (by omega) (fun c18 => ?_) (fun c18 => ?_)
    · exact g29 (told.mp (by omega))
    · exact b21 (fun z => c18 (told.mpr z))
  refine AMet.of' 1 (ls := [some (vR (67)), none]) (by decide) rfl (Nat.le_of_ble_eq_true rfl) ?_
  refine aw_aload_n dX5_readMemo_0 rfl rfl ?_
  refine aw_getR dX5_readMemo_1 rfl fl_X5_12 g67 (by rfl) ?_
  refine aw_iconst dX5_readMemo_4 rfl ?_
  refine aw_iconst dX5_readMemo_5 rfl ?_
  refine aw_callV [_, _] _ dX5_readMemo_6 rfl clv_X5_147 (by decide) ⟨Nat.zero_le _, Nat.zero_le _⟩ g68 (by rfl) (Nat.le_of_ble_eq_true rfl) rfl ?_
  refine sC_num sA K0 e5 (by rw [e4, pA]) (by omega) (fun m2 a f2 k2 b2 n2 => t9 m2 a k2 b2 (by rw [lp2, memo_err n2]; rfl)) (fun m2 v f2 k2 z5 z3 z4 zx zk vr zr n2 => ?_)
  obtain ⟨p, rfl⟩ : ∃ p : Nat, v = p := ⟨v.toNat, by omega⟩
  exact s9 m2 p f2 k2 z5 z3 z4 zx zk (by omega)
end ZCmp28
