theorem place_eq {t : Int → Int} {L v : Int} {s : PSt} (hx : ¬ tkX t L s.p) (hk : tkK t L s.p = 2) (hv : v = tkV t L s.p) (hr : 0 ≤ v ∧ v ≤ 23) : (placeA t L s).bind (advP t L) = if ¬ freshF s.2 v (s.2 46).toNat = 0 then .ok (fset (fset (fset s.1 1 v) 10 (if s.1 10 < v then v else s.1 10)) 0 (tkE t L s.p), fset s.2 (47 + 8 * s.2 46 + 2) v) else .error (8 * tkB t L s.p + 4) := by
  unfold placeA
  rw [chkP_y hx ⟨hk, by omega⟩]
  show ((chkP k4 t L freshC (ghV t L s)).bind (stP placeG)).bind (advP t L) = _
  rw [chk_adv (G := placeG) (fun _ => rfl)]
  have e : ghV t L s = (fset s.1 1 v, s.2) := by unfold ghV; rw [← hv]
  rw [e]
  show (if tkX t L s.p then _ else if ¬ freshF s.2 v (s.2 46).toNat = 0 then _ else _) = _
  rw [if_neg hx]
  rfl
theorem place_err {t : Int → Int} {L a : Int} {s : PSt} (h : numP t L 0 23 s = .error a) : placeA t L s = .error a := by
  unfold placeA
  rw [chk_err h]
  rfl
section
variable {mem m m' : Mem}
/-- what lies behind the potatoes told changes -/
theorem RdF.ups {s s' : PSt} {c : Int} (h : RdF s m) (h26 : 0 ≤ s.2 26 ∧ s.2 26 ≤ 6) (hc : s.2 46 = c) (c0 : 0 ≤ c) (h5 : s'.1 5 = s.1 5) (h6 : s'.1 6 = s.1 6) (h7 : s'.1 7 = s.1 7) (h9 : s'.1 9 = s.1 9) (h10 : s'.1 10 = s.1 10) (h11 : s'.1 11 = s.1 11) (hd : ∀ j : Int, ¬ (47 + 8 * c ≤ j ∧ j ≤ 47 + 8 * c + 2) → s'.2 j = s.2 j) : RdF s' m := by
  obtain ⟨g1, g2, g3, g4, g5⟩ := h
  refine ⟨by rw [h6, h7, h9, h10, h11]; exact g1, ?_, by rw [hd 46 (by omega)]; exact g3, fun p hp => ?_, fun p hp => ?_⟩
  · rw [h5]
    exact g2.up h26.1 (fun j hj => hd j (by omega))
  · rw [hd 46 (by omega)] at hp
    rw [hd _ (by omega), hd _ (by omega), hd _ (by omega)]
    exact g4 p hp
  · rw [hd _ (by omega)]
    exact g5 p hp
/-- a potato is brought and laid -/
theorem RdK.spud {c : Nat} {sz wr pl : Int} (h : RdK mem m) (hc : c < 6) (hp : -4 ≤ pl ∧ pl ≤ 23) : RdK mem (mset (mset (mcell m (80 + c) (rawG sz wr (m (80 + c)))) 70 2 ((c : Int) + 1)) (80 + c) 2 pl) := by
  obtain ⟨h1, h2, h3, h4, h5⟩ := h
  have o : ∀ d : Nat, ¬ d = 70 → ¬ d = 80 + c → mset (mset (mcell m (80 + c) (rawG sz wr (m (80 + c)))) 70 2 ((c : Int) + 1)) (80 + c) 2 pl d = m d := fun d d1 d2 => by rw [mset_ne d2, mset_ne d1, mcell_ne d2]
  refine ⟨((h1.cell (by omega)).set (by omega)).set (by omega), by rw [o 67 (by omega) (by omega)]; exact h2, by rw [o 68 (by omega) (by omega)]; exact h3, by rw [o 69 (by omega) (by omega)]; exact h4, ?_, ?_, ?_⟩
  · unfold TpC
    rw [o 68 (by omega) (by omega), o 69 (by omega) (by omega)]
    exact h5.1
  · unfold TpN
    rw [o 68 (by omega) (by omega)]
    exact h5.2.1
  · obtain ⟨g1, g2, g3, g4, g5, g6⟩ := h5.2.2
    refine ⟨?_, ?_, ?_, fun p _hq => ?_, ?_, ?_⟩
    · rw [o 71 (by omega) (by omega)]; exact g1
    · rw [o 71 (by omega) (by omega)]; exact g2
    · rw [mset_ne (by omega), mset_same, fset_same]; omega
    · by_cases e : p = c
      · subst e
        rw [mset_same, fset_same]; exact hp
      · rw [o _ (by omega) (by omega)]; exact g4 p (by omega)
    · rw [o 86 (by omega) (by omega)]; exact g5
    · rw [o 67 (by omega) (by omega)]; exact g6
theorem RdF.spud {c : Nat} {sz wr pl : Int} {s s' : PSt} (h : RdF s m) (hc : c < 6) (h26 : 0 ≤ s.2 26 ∧ s.2 26 ≤ 6) (h46 : s.2 46 = c) (e0 : s'.2 (47 + 8 * (c : Int) + 0) = sz) (e1 : s'.2 (47 + 8 * (c : Int) + 1) = wr) (e2 : s'.2 (47 + 8 * (c : Int) + 2) = pl) (e46 : s'.2 46 = (c : Int) + 1) (h5 : s'.1 5 = s.1 5) (h6 : s'.1 6 = s.1 6) (h7 : s'.1 7 = s.1 7) (h9 : s'.1 9 = s.1 9) (h10 : s'.1 10 = s.1 10) (h11 : s'.1 11 = s.1 11) (hd : ∀ j : Int, ¬ j = 46 → ¬ (47 + 8 * (c : Int) ≤ j ∧ j ≤ 47 + 8 * (c : Int) + 2) → s'.2 j = s.2 j) : RdF s' (mset (mset (mcell m (80 + c) (rawG sz wr (m (80 + c)))) 70 2 ((c : Int) + 1)) (80 + c) 2 pl) := by
  obtain ⟨g1, g2, g3, g4, g5⟩ := h
  have o : ∀ d : Nat, ¬ d = 70 → ¬ d = 80 + c → mset (mset (mcell m (80 + c) (rawG sz wr (m (80 + c)))) 70 2 ((c : Int) + 1)) (80 + c) 2 pl d = m d := fun d d1 d2 => by rw [mset_ne d2, mset_ne d1, mcell_ne d2]
  refine ⟨?_, ?_, ?_, fun p hp => ?_, fun p hp => ?_⟩
  · rw [o 67 (by omega) (by omega), h6, h7, h9, h10, h11]; exact g1
  · have : FiR m 71 (s.1 5) s'.2 := g2.up h26.1 (fun j hj => hd j (by omega) (by omega))
    unfold FiR at this ⊢
    rw [o 71 (by omega) (by omega), o (71 + 1) (by omega) (by omega), o (71 + 2) (by omega) (by omega), o (71 + 3) (by omega) (by omega), o (71 + 4) (by omega) (by omega), h5]
    exact this
  · rw [mset_ne (by omega), mset_same, fset_same, fset_ne (by omega), fset_ne (by omega), fset_ne (by omega), mcell_ne (by omega), e46]
    exact ⟨rfl, g3.2⟩
  · rw [e46] at hp
    by_cases e : p = c
    · subst e
      rw [mset_same, mset_ne (by omega), mcell_same, e0, e1, e2]
      exact ⟨rfl, rfl, rfl, rfl, rfl, rfl⟩
    · rw [o _ (by omega) (by omega), hd _ (by omega) (by omega), hd _ (by omega) (by omega), hd _ (by omega) (by omega)]
      exact g4 p (by omega)
  · rw [o 86 (by omega) (by omega), hd _ (by omega) (by omega)]; exact g5 p hp
end
section ZCmp29
variable {Γ : ZG} {mem m : Mem} {Q : Option AV → Mem → Prop}
theorem sC_wrapT (s : PSt) (hK : RdK mem m) (h5 : m 68 5 = 0) (h4 : m 68 4 = s.p)
    (kb : ∀ (m' : Mem) (a : Int), FrI m' m 68 69 → RdK mem m' → TBad a m' → wrapP (mem 69) (mem 68 1) s = .error a → Q (some (vI 0)) m')
    (kg : ∀ (m' : Mem) (v : Int), FrI m' m 68 69 → RdK mem m' → m' 68 5 = 0 → m' 68 4 = tkE (mem 69) (mem 68 1) s.p → (0 ≤ v ∧ v ≤ 2) → wrapP (mem 69) (mem 68 1) s = .ok (fset (fset s.1 1 v) 0 (tkE (mem 69) (mem 68 1) s.p), s.2) → Q (some (vI v)) m') : AMet Γ mX8_takeWrap [vR 68] zG m Q := by
  obtain ⟨q1, q2, q3, q4, q5⟩ := id hK
  have hp := q5.2.1.2.2.1
  refine sC_takeWrap q5.1 h5 hp (fun m' a f1 l1 b1 n1 e1 => kb m' a f1 (hK.tape f1 l1 n1) b1 ?_) (fun v m' f1 l1 z5 z4 n1 vr e1 => kg m' v f1 (hK.tape f1 l1 n1) z5 ?_ vr ?_)
  · have := e1 s h4.symm
    rw [q3, q4] at this
    exact this
  · rw [z4, q3, q4, h4]
  · have := e1 s h4.symm
    rw [q3, q4, h4] at this
    exact this
theorem rs_bad {ip a : Int} (hip : ip = 0 ∨ ip = 1) (kb : ∀ m' : Mem, RdK mem m' → TBad a m' → Q none m') : (∀ (sz wr pl : Int) (m : Mem), RdK mem m → TBad a m → AW Γ mX5_readSpud (zF Γ zG Q) zG 0 0 106 [some (vR 67), some (vI ip), some (vI sz), some (vI wr), some (vI pl)] [] m) ∧ (∀ (sz wr pl : Int) (m : Mem), (-4 ≤ pl ∧ pl ≤ 23) → RdK mem m → TBad a m → AW Γ mX5_readSpud (zF Γ zG Q) zG 0 0 86 [some (vR 67), some (vI ip), some (vI sz), some (vI wr), some (vI pl)] [] m) ∧ (∀ (sz wr pl : Int) (m : Mem), (-4 ≤ pl ∧ pl ≤ 23) → RdK mem m → TBad a m → AW Γ mX5_readSpud (zF Γ zG Q) zG 0 0 58 [some (vR 67), some (vI ip), some (vI sz), some (vI wr), none] [vI pl] m) ∧ (∀ (sz wr : Int) (m : Mem), RdK mem m → TBad a m → AW Γ mX5_readSpud (zF Γ zG Q) zG 0 0 38 [some (vR 67), some (vI ip), some (vI sz), none, none] [vI wr] m) ∧ (∀ (sz : Int) (m : Mem), RdK mem m → TBad a m → AW Γ mX5_readSpud (zF Γ zG Q) zG 0 0 30 [some (vR 67), some (vI ip), none, none, none] [vI sz] m) ∧ (∀ (m : Mem), RdK mem m → TBad a m → AW Γ mX5_readSpud (zF Γ zG Q) zG 0 0 20 [some (vR 67), some (vI ip), none, none, none] [] m) := by
  have t106 : ∀ (sz wr pl : Int) (m : Mem), RdK mem m → TBad a m → AW Γ mX5_readSpud (zF Γ zG Q) zG 0 0 106 [some (vR 67), some (vI ip), some (vI sz), some (vI wr), some (vI pl)] [] m := by
    intro sz wr pl m hK hB
    have n5 := hK.2.2.2.2.2.1.2.2.2
    have b5 := hB.1.1
    refine aw_aload_n dX5_readSpud_106 rfl rfl ?_
    refine aw_getR dX5_readSpud_107 rfl fl_X5_12 g67 (by rfl) ?_
    refine aw_callV [] _ dX5_readSpud_110 rfl clv_X5_35 (by decide) ⟨Nat.zero_le _, Nat.zero_le _⟩ g68 (by rfl) (Nat.le_of_ble_eq_true rfl) rfl ?_
    refine sC_isSound (by omega) (fun z5 => ?_) (fun z5 => ?_)
    · refine aw_if_eq (tgt := 150) dX5_readSpud_113 (by decide) rfl (by omega) (fun c => absurd c (by decide)) (fun _ => ?_)
      exfalso; omega
    · refine aw_if_eq (tgt := 150) dX5_readSpud_113 (by decide) rfl (by omega) (fun _ => ?_) (fun c => absurd c (by decide))
      refine aw_return dX5_readSpud_150 rfl ?_
      exact kb m hK hB
  have t86 : ∀ (sz wr pl : Int) (m : Mem), (-4 ≤ pl ∧ pl ≤ 23) → RdK mem m → TBad a m → AW Γ mX5_readSpud (zF Γ zG Q) zG 0 0 86 [some (vR 67), some (vI ip), some (vI sz), some (vI wr), some (vI pl)] [] m := by
    intro sz wr pl m hp hK hB
    have hn := hK.2.2.2.2.2.2
    have r6 := hn.2.2.2.2.2.2.1
    have K1 := hK.set (c := 67) (k := 6) (v := max (m 67 6) pl) (by omega) (hn.s67 (by omega))
    have B1 : TBad a (mset m 67 6 (max (m 67 6) pl)) := hB.fr (mset_ne (by decide))
    refine aw_aload_n dX5_readSpud_86 rfl rfl ?_
    refine aw_aload_n dX5_readSpud_87 rfl rfl ?_
    refine aw_getI (kI := 6) dX5_readSpud_88 rfl fl_X5_78 g67 (by rfl) rfl ?_
    refine aw_iload dX5_readSpud_91 rfl rfl ?_
    refine aw_max dX5_readSpud_93 rfl clm_X5_163 (by decide) (Nat.le_of_ble_eq_true rfl) ⟨Nat.zero_le _, Nat.zero_le _⟩ (by omega) (by omega) ?_
    refine aw_putI (kI := 6) dX5_readSpud_96 rfl fp_X5_78 g67 (by rfl) rfl ?_
    refine aw_aload_n dX5_readSpud_99 rfl rfl ?_
    refine aw_getR dX5_readSpud_100 rfl fl_X5_12 g67 (by rfl) ?_
    refine aw_callV [] _ dX5_readSpud_103 rfl clv_X5_160 (by decide) ⟨Nat.zero_le _, Nat.zero_le _⟩ g68 (by rfl) (Nat.le_of_ble_eq_true rfl) rfl ?_
    refine sC_markB K1 B1 ?_
    exact t106 sz wr pl _ K1 B1
  have t58 : ∀ (sz wr pl : Int) (m : Mem), (-4 ≤ pl ∧ pl ≤ 23) → RdK mem m → TBad a m → AW Γ mX5_readSpud (zF Γ zG Q) zG 0 0 58 [some (vR 67), some (vI ip), some (vI sz), some (vI wr), none] [vI pl] m := by
    intro sz wr pl m hp hK hB
    have hn := hK.2.2.2.2.2.2
    have r3 := hn.2.2.1
    obtain ⟨N, hN⟩ : ∃ N : Nat, m 70 2 = N := ⟨(m 70 2).toNat, by omega⟩
    have wr2 := whoC_rng (fun p => m (70 + 10 + p) 2) pl N 0
    refine aw_istore4 rfl dX5_readSpud_58 rfl (by decide) ?_
    refine aw_iload_n dX5_readSpud_60 rfl rfl ?_
    refine aw_if_eq (tgt := 86) dX5_readSpud_61 (by decide) rfl (by omega) (fun c61 => ?_) (fun c61 => ?_)
    · exact t86 sz wr pl m hp hK hB
    · refine aw_aload_n dX5_readSpud_64 rfl rfl ?_
      refine aw_getR dX5_readSpud_65 rfl fl_X5_21 g67 (by rfl) ?_
      refine aw_iload dX5_readSpud_68 rfl rfl ?_
      refine aw_callV [_] _ dX5_readSpud_70 rfl clv_X5_182 (by decide) ⟨Nat.zero_le _, Nat.zero_le _⟩ (by first | assumption | rfl) (by rfl) (Nat.le_of_ble_eq_true rfl) rfl ?_
      refine sC_who0 E70 hN (by omega) (by omega) hn.2.2.2.1 ?_
      refine aw_bipush dX5_readSpud_73 rfl (by decide) ?_
      refine aw_icmp_eq (tgt := 86) dX5_readSpud_75 (by decide) rfl (by omega) (by omega) (fun c75 => ?_) (fun c75 => ?_)
      · exact t86 sz wr pl m hp hK hB
      · refine aw_aload_n dX5_readSpud_78 rfl rfl ?_
        refine aw_getR dX5_readSpud_79 rfl fl_X5_12 g67 (by rfl) ?_
        refine aw_iconst dX5_readSpud_82 rfl ?_
        refine aw_callV [_] _ dX5_readSpud_83 rfl clv_X5_143 (by decide) ⟨Nat.zero_le _, Nat.zero_le _⟩ g68 (by rfl) (Nat.le_of_ble_eq_true rfl) rfl ?_
        refine sC_fltB hK hB ?_
        exact t86 sz wr pl m hp hK hB
  have t38 : ∀ (sz wr : Int) (m : Mem), RdK mem m → TBad a m → AW Γ mX5_readSpud (zF Γ zG Q) zG 0 0 38 [some (vR 67), some (vI ip), some (vI sz), none, none] [vI wr] m := by
    intro sz wr m hK hB
    refine aw_istore3 rfl dX5_readSpud_38 rfl (by decide) ?_
    refine aw_iload_n dX5_readSpud_39 rfl rfl ?_
    refine aw_if_eq (tgt := 56) dX5_readSpud_40 (by decide) rfl (by omega) (fun c40 => ?_) (fun c40 => ?_)
    · refine aw_bipush dX5_readSpud_56 rfl (by decide) ?_
      first | (have hz : ¬ ip = 0 := c40; exact t58 sz wr 0 m (by omega) hK hB) | exact t58 sz wr (-4) m (by omega) hK hB
    · refine aw_aload_n dX5_readSpud_43 rfl rfl ?_
      refine aw_getR dX5_readSpud_44 rfl fl_X5_12 g67 (by rfl) ?_
      refine aw_iconst dX5_readSpud_47 rfl ?_
      refine aw_bipush dX5_readSpud_48 rfl (by decide) ?_
      refine aw_callV [_, _] _ dX5_readSpud_50 rfl clv_X5_147 (by decide) ⟨Nat.zero_le _, Nat.zero_le _⟩ g68 (by rfl) (Nat.le_of_ble_eq_true rfl) rfl ?_
      refine sC_numB hK hB ?_
      refine aw_goto (tgt := 58) dX5_readSpud_53 (by decide) ?_
      first | (have hz : ¬ ip = 0 := c40; exact t58 sz wr 0 m (by omega) hK hB) | exact t58 sz wr (-4) m (by omega) hK hB
  have t30 : ∀ (sz : Int) (m : Mem), RdK mem m → TBad a m → AW Γ mX5_readSpud (zF Γ zG Q) zG 0 0 30 [some (vR 67), some (vI ip), none, none, none] [vI sz] m := by
    intro sz m hK hB
    refine aw_istore2 rfl dX5_readSpud_30 rfl (by decide) ?_
    refine aw_aload_n dX5_readSpud_31 rfl rfl ?_
    refine aw_getR dX5_readSpud_32 rfl fl_X5_12 g67 (by rfl) ?_
    refine aw_callV [] _ dX5_readSpud_35 rfl clv_X5_178 (by decide) ⟨Nat.zero_le _, Nat.zero_le _⟩ g68 (by rfl) (Nat.le_of_ble_eq_true rfl) rfl ?_
    refine sC_takeWrapB hK.2.2.2.2.1 hK.2.2.2.2.2.1 hB.1.1 (fun wr hwr => ?_)
    exact t38 sz wr m hK hB
  have t20 : ∀ (m : Mem), RdK mem m → TBad a m → AW Γ mX5_readSpud (zF Γ zG Q) zG 0 0 20 [some (vR 67), some (vI ip), none, none, none] [] m := by
    intro m hK hB
    refine aw_aload_n dX5_readSpud_20 rfl rfl ?_
    refine aw_getR dX5_readSpud_21 rfl fl_X5_12 g67 (by rfl) ?_
    refine aw_iconst dX5_readSpud_24 rfl ?_
    refine aw_bipush dX5_readSpud_25 rfl (by decide) ?_
    refine aw_callV [_, _] _ dX5_readSpud_27 rfl clv_X5_147 (by decide) ⟨Nat.zero_le _, Nat.zero_le _⟩ g68 (by rfl) (Nat.le_of_ble_eq_true rfl) rfl ?_
    refine sC_numB hK hB ?_
    exact t30 1 m hK hB
  exact ⟨t106, t86, t58, t38, t30, t20⟩
theorem rs_g106 {c : Nat} {ip : Int} (c6 : c < 6) : ∀ (sz wr pl : Int) (sD sE : PSt) (m : Mem), (-4 ≤ pl ∧ pl ≤ 23) → RdK mem m → m 68 5 = 0 → m 68 4 = tkE (mem 69) (mem 68 1) sE.p → RdF sD m → sD.2 46 = c → (0 ≤ sD.2 26 ∧ sD.2 26 ≤ 6) → sD.2 (47 + 8 * (c : Int) + 0) = sz → sD.2 (47 + 8 * (c : Int) + 1) = wr → sD.2 (47 + 8 * (c : Int) + 2) = pl → sE = incG 46 sD → (∀ m' : Mem, RdK mem m' → CmpR (.ok (fset sE.1 0 (tkE (mem 69) (mem 68 1) sE.p), sE.2)) m' → Q none m') → AW Γ mX5_readSpud (zF Γ zG Q) zG 0 0 106 [some (vR 67), some (vI ip), some (vI sz), some (vI wr), some (vI pl)] [] m := by
  intro sz wr pl sD sE m hp hK h5 h4 hFD d46 d26 d0 d1 d2 hE k
  have m2c : m 70 2 = c := by rw [hFD.2.2.1.1, d46]
  have gp := E70.2.2.2.2.2.2 c c6
  unfold SpG at gp
  have sE2 : sE.2 = fset sD.2 46 ((c : Int) + 1) := by rw [hE]; show fset sD.2 46 (sD.2 46 + 1) = _; rw [d46]
  have sE1 : sE.1 = sD.1 := by rw [hE]; rfl
  have K1 := hK.spud (sz := sz) (wr := wr) (pl := pl) c6 hp
  have F1 : RdF (fset sE.1 0 (tkE (mem 69) (mem 68 1) sE.p), sE.2) (mset (mset (mcell m (80 + c) (rawG sz wr (m (80 + c)))) 70 2 ((c : Int) + 1)) (80 + c) 2 pl) := by
    refine hFD.spud c6 d26 d46 ?_ ?_ ?_ ?_ ?_ ?_ ?_ ?_ ?_ ?_ (fun j j1 j2 => ?_)
    · show sE.2 _ = _; rw [sE2, fset_ne (by omega)]; exact d0
    · show sE.2 _ = _; rw [sE2, fset_ne (by omega)]; exact d1
    · show sE.2 _ = _; rw [sE2, fset_ne (by omega)]; exact d2
    · show sE.2 _ = _; rw [sE2, fset_same]
    · show sE.1 5 = _; rw [sE1]
    · show sE.1 6 = _; rw [sE1]
    · show sE.1 7 = _; rw [sE1]
    · show sE.1 9 = _; rw [sE1]
    · show sE.1 10 = _; rw [sE1]
    · show sE.1 11 = _; rw [sE1]
    · show sE.2 j = _; rw [sE2, fset_ne j1]
  have fin : Q none (mset (mset (mcell m (80 + c) (rawG sz wr (m (80 + c)))) 70 2 ((c : Int) + 1)) (80 + c) 2 pl) := by
    refine k _ K1 ?_
    refine ⟨?_, ?_, F1⟩
    · rw [mset_ne (by omega), mset_ne (by omega), mcell_ne (by omega)]; exact h5
    · rw [mset_ne (by omega), mset_ne (by omega), mcell_ne (by omega), h4]; rfl
  refine aw_aload_n dX5_readSpud_106 rfl rfl ?_
  refine aw_getR dX5_readSpud_107 rfl fl_X5_12 g67 (by rfl) ?_
  refine aw_callV [] _ dX5_readSpud_110 rfl clv_X5_35 (by decide) ⟨Nat.zero_le _, Nat.zero_le _⟩ g68 (by rfl) (Nat.le_of_ble_eq_true rfl) rfl ?_
  refine sC_isSound (by omega) (fun z5 => ?_) (fun z5 => ?_)
  · refine aw_if_eq (tgt := 150) dX5_readSpud_113 (by decide) rfl (by omega) (fun c => absurd c (by decide)) (fun _ => ?_)
    refine aw_aload_n dX5_readSpud_116 rfl rfl ?_
    refine aw_getR dX5_readSpud_117 rfl fl_X5_21 g67 (by rfl) ?_
    refine aw_iload_n dX5_readSpud_120 rfl rfl ?_
    refine aw_iload_n dX5_readSpud_121 rfl rfl ?_
    refine aw_callV [_, _] _ dX5_readSpud_122 rfl clv_X5_186 (by decide) ⟨Nat.zero_le _, Nat.zero_le _⟩ (by first | assumption | rfl) (by rfl) (Nat.le_of_ble_eq_true rfl) rfl ?_
    refine sC_bring0 E70 m2c c6 ?_
    refine aw_if_eq (tgt := 150) dX5_readSpud_125 (by decide) rfl (by omega) (fun c125 => ?_) (fun c125 => ?_)
    · refine aw_return dX5_readSpud_150 rfl ?_
      first | exact fin | (exfalso; omega)
    · refine aw_aload_n dX5_readSpud_128 rfl rfl ?_
      refine aw_getR dX5_readSpud_129 rfl fl_X5_21 g67 (by rfl) ?_
      refine aw_getR dX5_readSpud_132 rfl fl_X5_104 g70 (by rfl) ?_
      refine aw_aload_n dX5_readSpud_135 rfl rfl ?_
      refine aw_getR dX5_readSpud_136 rfl fl_X5_21 g67 (by rfl) ?_
      refine aw_getI (kI := 2) dX5_readSpud_139 rfl fl_X5_101 g70 (by rfl) rfl ?_
      refine aw_iconst dX5_readSpud_142 rfl ?_
      refine aw_isub dX5_readSpud_143 rfl ?_
      rw [mset_same, fset_same, show ((c : Int) + 1 - 1) = (c : Int) by omega]
      refine aw_aaload dX5_readSpud_144 rfl (by first | assumption | rfl) six_len (by omega) (six_getN (b := 70) (by omega)) ?_
      refine aw_iload dX5_readSpud_145 rfl rfl ?_
      refine aw_putI (kI := 2) dX5_readSpud_147 rfl fp_X5_190 (by first | assumption | rfl) (by rfl) rfl ?_
      refine aw_return dX5_readSpud_150 rfl ?_
      first | exact fin | (exfalso; omega)
  · refine aw_if_eq (tgt := 150) dX5_readSpud_113 (by decide) rfl (by omega) (fun _ => ?_) (fun c => absurd c (by decide))
    refine aw_return dX5_readSpud_150 rfl ?_
    first | exact fin | (exfalso; omega)
theorem rs_g86 {c : Nat} {ip : Int} (hip : ip = 0 ∨ ip = 1) (s : PSt) (k : ∀ m' : Mem, RdK mem m' → CmpR (lineP (mem 69) (mem 68 1) s) m' → Q none m') : c < 6 → ∀ (sz wr pl : Int) (sC sD : PSt) (m : Mem), (-4 ≤ pl ∧ pl ≤ 23) → RdK mem m → m 68 5 = 0 → m 68 4 = sD.p → RdF sC m → sC.2 46 = c → (0 ≤ sC.2 26 ∧ sC.2 26 ≤ 6) → sD.2 (47 + 8 * (c : Int) + 0) = sz → sD.2 (47 + 8 * (c : Int) + 1) = wr → sD.2 (47 + 8 * (c : Int) + 2) = pl → (sD.1 5 = sC.1 5 ∧ sD.1 6 = sC.1 6 ∧ sD.1 7 = sC.1 7 ∧ sD.1 9 = sC.1 9 ∧ sD.1 11 = sC.1 11) → max 0 (sD.1 10) = max (max 0 (sC.1 10)) pl → (∀ j : Int, ¬ j = 47 + 8 * (c : Int) + 2 → sD.2 j = sC.2 j) → (-4 ≤ sC.1 10 ∧ sC.1 10 ≤ 99) → lineP (mem 69) (mem 68 1) s = markP (mem 69) (mem 68 1) (incG 46 sD) → AW Γ mX5_readSpud (zF Γ zG Q) zG 0 0 86 [some (vR 67), some (vI ip), some (vI sz), some (vI wr), some (vI pl)] [] m := by
  have kb : ∀ (m' : Mem) (a : Int), RdK mem m' → TBad a m' → lineP (mem 69) (mem 68 1) s = .error a → Q none m' := fun m' a hK hB e => k m' hK (by rw [e]; exact hB)
  have t106 : ∀ (sz wr pl : Int) (m : Mem) (a : Int), RdK mem m → TBad a m → lineP (mem 69) (mem 68 1) s = .error a → AW Γ mX5_readSpud (zF Γ zG Q) zG 0 0 106 [some (vR 67), some (vI ip), some (vI sz), some (vI wr), some (vI pl)] [] m := fun sz wr pl m a hK hB he => (rs_bad hip (fun m' x y => kb m' a x y he)).1 sz wr pl m hK hB
  have t86 : ∀ (sz wr pl : Int) (m : Mem) (a : Int), (-4 ≤ pl ∧ pl ≤ 23) → RdK mem m → TBad a m → lineP (mem 69) (mem 68 1) s = .error a → AW Γ mX5_readSpud (zF Γ zG Q) zG 0 0 86 [some (vR 67), some (vI ip), some (vI sz), some (vI wr), some (vI pl)] [] m := fun sz wr pl m a hp hK hB he => (rs_bad hip (fun m' x y => kb m' a x y he)).2.1 sz wr pl m hp hK hB
  have t58 : ∀ (sz wr pl : Int) (m : Mem) (a : Int), (-4 ≤ pl ∧ pl ≤ 23) → RdK mem m → TBad a m → lineP (mem 69) (mem 68 1) s = .error a → AW Γ mX5_readSpud (zF Γ zG Q) zG 0 0 58 [some (vR 67), some (vI ip), some (vI sz), some (vI wr), none] [vI pl] m := fun sz wr pl m a hp hK hB he => (rs_bad hip (fun m' x y => kb m' a x y he)).2.2.1 sz wr pl m hp hK hB
  have t38 : ∀ (sz wr : Int) (m : Mem) (a : Int), RdK mem m → TBad a m → lineP (mem 69) (mem 68 1) s = .error a → AW Γ mX5_readSpud (zF Γ zG Q) zG 0 0 38 [some (vR 67), some (vI ip), some (vI sz), none, none] [vI wr] m := fun sz wr m a hK hB he => (rs_bad hip (fun m' x y => kb m' a x y he)).2.2.2.1 sz wr m hK hB
  have t30 : ∀ (sz : Int) (m : Mem) (a : Int), RdK mem m → TBad a m → lineP (mem 69) (mem 68 1) s = .error a → AW Γ mX5_readSpud (zF Γ zG Q) zG 0 0 30 [some (vR 67), some (vI ip), none, none, none] [vI sz] m := fun sz m a hK hB he => (rs_bad hip (fun m' x y => kb m' a x y he)).2.2.2.2.1 sz m hK hB
  have t20 : ∀ (m : Mem) (a : Int), RdK mem m → TBad a m → lineP (mem 69) (mem 68 1) s = .error a → AW Γ mX5_readSpud (zF Γ zG Q) zG 0 0 20 [some (vR 67), some (vI ip), none, none, none] [] m := fun m a hK hB he => (rs_bad hip (fun m' x y => kb m' a x y he)).2.2.2.2.2 m hK hB
  have g106 : c < 6 → ∀ (sz wr pl : Int) (sD sE : PSt) (m : Mem), (-4 ≤ pl ∧ pl ≤ 23) → RdK mem m → m 68 5 = 0 → m 68 4 = tkE (mem 69) (mem 68 1) sE.p → RdF sD m → sD.2 46 = c → (0 ≤ sD.2 26 ∧ sD.2 26 ≤ 6) → sD.2 (47 + 8 * (c : Int) + 0) = sz → sD.2 (47 + 8 * (c : Int) + 1) = wr → sD.2 (47 + 8 * (c : Int) + 2) = pl → sE = incG 46 sD → lineP (mem 69) (mem 68 1) s = .ok (fset sE.1 0 (tkE (mem 69) (mem 68 1) sE.p), sE.2) → AW Γ mX5_readSpud (zF Γ zG Q) zG 0 0 106 [some (vR 67), some (vI ip), some (vI sz), some (vI wr), some (vI pl)] [] m := fun c6 sz wr pl sD sE m hp hK h5 h4 hFD d46 d26 d0 d1 d2 hE he => rs_g106 c6 sz wr pl sD sE m hp hK h5 h4 hFD d46 d26 d0 d1 d2 hE (fun m' x y => k m' x (by rw [he]; exact y))
  have g86 : c < 6 → ∀ (sz wr pl : Int) (sC sD : PSt) (m : Mem), (-4 ≤ pl ∧ pl ≤ 23) → RdK mem m → m 68 5 = 0 → m 68 4 = sD.p → RdF sC m → sC.2 46 = c → (0 ≤ sC.2 26 ∧ sC.2 26 ≤ 6) → sD.2 (47 + 8 * (c : Int) + 0) = sz → sD.2 (47 + 8 * (c : Int) + 1) = wr → sD.2 (47 + 8 * (c : Int) + 2) = pl → (sD.1 5 = sC.1 5 ∧ sD.1 6 = sC.1 6 ∧ sD.1 7 = sC.1 7 ∧ sD.1 9 = sC.1 9 ∧ sD.1 11 = sC.1 11) → max 0 (sD.1 10) = max (max 0 (sC.1 10)) pl → (∀ j : Int, ¬ j = 47 + 8 * (c : Int) + 2 → sD.2 j = sC.2 j) → (-4 ≤ sC.1 10 ∧ sC.1 10 ≤ 99) → lineP (mem 69) (mem 68 1) s = markP (mem 69) (mem 68 1) (incG 46 sD) → AW Γ mX5_readSpud (zF Γ zG Q) zG 0 0 86 [some (vR 67), some (vI ip), some (vI sz), some (vI wr), some (vI pl)] [] m := by
    intro c6 sz wr pl sC sD m hp hK h5 h4 hFC d46 d26 d0 d1 d2 ds d10 dd c10 he
    obtain ⟨s5, s6, s7, s9, s11⟩ := ds
    have hn := hK.2.2.2.2.2.2
    obtain ⟨y4, y8, y5, y6, y7⟩ := hFC.1
    have r6 := hn.2.2.2.2.2.2.1
    have K1 := hK.set (c := 67) (k := 6) (v := max (m 67 6) pl) (by omega) (hn.s67 (by omega))
    have F0 : RdF (fset sC.1 10 (sD.1 10), sC.2) (mset m 67 6 (max (m 67 6) pl)) := by
      rw [mset_eq (c := 67)]
      refine hFC.own ⟨?_, ?_, ?_, ?_, ?_⟩ rfl rfl
      · rw [fset_ne (by decide)]; exact y4
      · rw [fset_ne (by decide)]; exact y8
      · rw [fset_ne (by decide)]; exact y5
      · rw [fset_same, y6]; exact d10.symm
      · rw [fset_ne (by decide)]; exact y7
    have F1 : RdF sD (mset m 67 6 (max (m 67 6) pl)) := by
      refine F0.ups (c := (c : Int)) d26 d46 (by omega) ?_ ?_ ?_ ?_ ?_ ?_ (fun j hj => dd j (by omega))
      · exact s5
      · exact s6
      · exact s7
      · exact s9
      · show sD.1 10 = fset sC.1 10 (sD.1 10) 10; rw [fset_same]
      · exact s11
    have e46 : sD.2 46 = c := by rw [dd 46 (by omega)]; exact d46
    have e26 : 0 ≤ sD.2 26 ∧ sD.2 26 ≤ 6 := by rw [dd 26 (by omega)]; exact d26
    refine aw_aload_n dX5_readSpud_86 rfl rfl ?_
    refine aw_aload_n dX5_readSpud_87 rfl rfl ?_
    refine aw_getI (kI := 6) dX5_readSpud_88 rfl fl_X5_78 g67 (by rfl) rfl ?_
    refine aw_iload dX5_readSpud_91 rfl rfl ?_
    refine aw_max dX5_readSpud_93 rfl clm_X5_163 (by decide) (Nat.le_of_ble_eq_true rfl) ⟨Nat.zero_le _, Nat.zero_le _⟩ (by omega) (by omega) ?_
    refine aw_putI (kI := 6) dX5_readSpud_96 rfl fp_X5_78 g67 (by rfl) rfl ?_
    refine aw_aload_n dX5_readSpud_99 rfl rfl ?_
    refine aw_getR dX5_readSpud_100 rfl fl_X5_12 g67 (by rfl) ?_
    refine aw_callV [] _ dX5_readSpud_103 rfl clv_X5_160 (by decide) ⟨Nat.zero_le _, Nat.zero_le _⟩ g68 (by rfl) (Nat.le_of_ble_eq_true rfl) rfl ?_
    refine sC_mark (incG 46 sD) K1 (by rw [mset_ne (by decide)]; exact h5) (by rw [mset_ne (by decide), h4]; rfl) (fun m8 a f8 k8 b8 n8 => ?_) (fun m8 f8 k8 w5 w4 n8 => ?_)
    · first | exact t106 sz wr pl m8 a k8 b8 (by rw [he]; exact n8) | exact g106 c6 sz wr pl sD (incG 46 sD) m8 hp k8 w5 w4 (F1.fr (by omega) f8) e46 e26 d0 d1 d2 rfl (by rw [he]; exact n8)
    · first | exact t106 sz wr pl m8 a k8 b8 (by rw [he]; exact n8) | exact g106 c6 sz wr pl sD (incG 46 sD) m8 hp k8 w5 w4 (F1.fr (by omega) f8) e46 e26 d0 d1 d2 rfl (by rw [he]; exact n8)
  exact g86
theorem rs_g38 {c : Nat} {ip : Int} (hip : ip = 0 ∨ ip = 1) (s : PSt) (k : ∀ m' : Mem, RdK mem m' → CmpR (lineP (mem 69) (mem 68 1) s) m' → Q none m') : c < 6 → ∀ (sz wr : Int) (sC : PSt) (m : Mem), RdK mem m → m 68 5 = 0 → m 68 4 = sC.p → RdF sC m → sC.2 46 = c → (0 ≤ sC.2 26 ∧ sC.2 26 ≤ 6) → sC.2 (47 + 8 * (c : Int) + 0) = sz → sC.2 (47 + 8 * (c : Int) + 1) = wr → sC.2 (47 + 8 * (c : Int) + 2) = -4 → (-4 ≤ sC.1 10 ∧ sC.1 10 ≤ 99) → lineP (mem 69) (mem 68 1) s = (if ip = 0 then markP (mem 69) (mem 68 1) (incG 46 sC) else ((((placeA (mem 69) (mem 68 1) sC).bind (advP (mem 69) (mem 68 1))).bind (stP (incG 46))).bind (markP (mem 69) (mem 68 1)))) → AW Γ mX5_readSpud (zF Γ zG Q) zG 0 0 38 [some (vR 67), some (vI ip), some (vI sz), none, none] [vI wr] m := by
  have kb : ∀ (m' : Mem) (a : Int), RdK mem m' → TBad a m' → lineP (mem 69) (mem 68 1) s = .error a → Q none m' := fun m' a hK hB e => k m' hK (by rw [e]; exact hB)
  have t106 : ∀ (sz wr pl : Int) (m : Mem) (a : Int), RdK mem m → TBad a m → lineP (mem 69) (mem 68 1) s = .error a → AW Γ mX5_readSpud (zF Γ zG Q) zG 0 0 106 [some (vR 67), some (vI ip), some (vI sz), some (vI wr), some (vI pl)] [] m := fun sz wr pl m a hK hB he => (rs_bad hip (fun m' x y => kb m' a x y he)).1 sz wr pl m hK hB
  have t86 : ∀ (sz wr pl : Int) (m : Mem) (a : Int), (-4 ≤ pl ∧ pl ≤ 23) → RdK mem m → TBad a m → lineP (mem 69) (mem 68 1) s = .error a → AW Γ mX5_readSpud (zF Γ zG Q) zG 0 0 86 [some (vR 67), some (vI ip), some (vI sz), some (vI wr), some (vI pl)] [] m := fun sz wr pl m a hp hK hB he => (rs_bad hip (fun m' x y => kb m' a x y he)).2.1 sz wr pl m hp hK hB
  have t58 : ∀ (sz wr pl : Int) (m : Mem) (a : Int), (-4 ≤ pl ∧ pl ≤ 23) → RdK mem m → TBad a m → lineP (mem 69) (mem 68 1) s = .error a → AW Γ mX5_readSpud (zF Γ zG Q) zG 0 0 58 [some (vR 67), some (vI ip), some (vI sz), some (vI wr), none] [vI pl] m := fun sz wr pl m a hp hK hB he => (rs_bad hip (fun m' x y => kb m' a x y he)).2.2.1 sz wr pl m hp hK hB
  have t38 : ∀ (sz wr : Int) (m : Mem) (a : Int), RdK mem m → TBad a m → lineP (mem 69) (mem 68 1) s = .error a → AW Γ mX5_readSpud (zF Γ zG Q) zG 0 0 38 [some (vR 67), some (vI ip), some (vI sz), none, none] [vI wr] m := fun sz wr m a hK hB he => (rs_bad hip (fun m' x y => kb m' a x y he)).2.2.2.1 sz wr m hK hB
  have t30 : ∀ (sz : Int) (m : Mem) (a : Int), RdK mem m → TBad a m → lineP (mem 69) (mem 68 1) s = .error a → AW Γ mX5_readSpud (zF Γ zG Q) zG 0 0 30 [some (vR 67), some (vI ip), none, none, none] [vI sz] m := fun sz m a hK hB he => (rs_bad hip (fun m' x y => kb m' a x y he)).2.2.2.2.1 sz m hK hB
  have t20 : ∀ (m : Mem) (a : Int), RdK mem m → TBad a m → lineP (mem 69) (mem 68 1) s = .error a → AW Γ mX5_readSpud (zF Γ zG Q) zG 0 0 20 [some (vR 67), some (vI ip), none, none, none] [] m := fun m a hK hB he => (rs_bad hip (fun m' x y => kb m' a x y he)).2.2.2.2.2 m hK hB
  have g86 := rs_g86 (Γ := Γ) (c := c) hip s k
  have g38 : c < 6 → ∀ (sz wr : Int) (sC : PSt) (m : Mem), RdK mem m → m 68 5 = 0 → m 68 4 = sC.p → RdF sC m → sC.2 46 = c → (0 ≤ sC.2 26 ∧ sC.2 26 ≤ 6) → sC.2 (47 + 8 * (c : Int) + 0) = sz → sC.2 (47 + 8 * (c : Int) + 1) = wr → sC.2 (47 + 8 * (c : Int) + 2) = -4 → (-4 ≤ sC.1 10 ∧ sC.1 10 ≤ 99) → lineP (mem 69) (mem 68 1) s = (if ip = 0 then markP (mem 69) (mem 68 1) (incG 46 sC) else ((((placeA (mem 69) (mem 68 1) sC).bind (advP (mem 69) (mem 68 1))).bind (stP (incG 46))).bind (markP (mem 69) (mem 68 1)))) → AW Γ mX5_readSpud (zF Γ zG Q) zG 0 0 38 [some (vR 67), some (vI ip), some (vI sz), none, none] [vI wr] m := by
    intro c6 sz wr sC m hK h5 h4 hFC d46 d26 d0 d1 d2 c10 hee
    have g58 : ∀ (m2 : Mem) (v : Int), ip = 1 → FrI m2 m 68 69 → RdK mem m2 → m2 68 5 = 0 → m2 68 3 = tkB (mem 69) (mem 68 1) sC.p → m2 68 4 = tkE (mem 69) (mem 68 1) sC.p → ¬ tkX (mem 69) (mem 68 1) sC.p → (tkK (mem 69) (mem 68 1) sC.p = 2 ∧ v = tkV (mem 69) (mem 68 1) sC.p) → (0 ≤ v ∧ v ≤ 23) → AW Γ mX5_readSpud (zF Γ zG Q) zG 0 0 58 [some (vR 67), some (vI ip), some (vI sz), some (vI wr), none] [vI v] m2 := by
      intro m2 v i1 f2 k2 z5 z3 z4 zx zk vr
      have he := hee.trans (if_neg (by omega))
      rw [place_eq zx zk.1 zk.2 vr, d46] at he
      have F2 : RdF sC m2 := hFC.fr (by omega) f2
      have hn := k2.2.2.2.2.2.2
      have m2c : m2 70 2 = c := by rw [F2.2.2.1.1, d46]
      have wr2 := whoC_rng (fun p => m2 (70 + 10 + p) 2) v c 0
      have wf := whoC_fresh (g := fun p => m2 (70 + 10 + p) 2) (d := sC.2) (x := v) c (fun p hp => (F2.2.2.2.1 p (by omega)).2.2.1)
      have g86' : ¬ freshF sC.2 v c = 0 → AW Γ mX5_readSpud (zF Γ zG Q) zG 0 0 86 [some (vR 67), some (vI ip), some (vI sz), some (vI wr), some (vI v)] [] m2 := by
        intro hf
        rw [show ((c : Int)).toNat = c by omega, if_pos hf] at he
        refine g86 c6 sz wr v sC (fset (fset (fset sC.1 1 v) 10 (if sC.1 10 < v then v else sC.1 10)) 0 (tkE (mem 69) (mem 68 1) sC.p), fset sC.2 (47 + 8 * (c : Int) + 2) v) m2 (by omega) k2 z5 z4 F2 d46 d26 ?_ ?_ ?_ ⟨rfl, rfl, rfl, rfl, rfl⟩ ?_ (fun j hj => ?_) c10 he
        · show fset _ _ _ _ = _; rw [fset_ne (by omega)]; exact d0
        · show fset _ _ _ _ = _; rw [fset_ne (by omega)]; exact d1
        · show fset _ _ _ _ = _; rw [fset_same]
        · show max 0 (if sC.1 10 < v then v else sC.1 10) = _
          split <;> omega
        · show fset _ _ _ _ = _; rw [fset_ne hj]
      have g86'' : whoC (fun p => m2 (70 + 10 + p) 2) v c 0 = -4 → _ := fun z => g86' (wf.mp z)
      have b78 : ¬ ¬ freshF sC.2 v c = 0 → AW Γ mX5_readSpud (zF Γ zG Q) zG 0 0 78 [some (vR 67), some (vI ip), some (vI sz), some (vI wr), some (vI v)] [] m2 := by
        intro hf
        rw [show ((c : Int)).toNat = c by omega, if_neg hf] at he
        refine aw_aload_n dX5_readSpud_78 rfl rfl ?_
        refine aw_getR dX5_readSpud_79 rfl fl_X5_12 g67 (by rfl) ?_
        refine aw_iconst dX5_readSpud_82 rfl ?_
        refine aw_callV [_] _ dX5_readSpud_83 rfl clv_X5_143 (by decide) ⟨Nat.zero_le _, Nat.zero_le _⟩ g68 (by rfl) (Nat.le_of_ble_eq_true rfl) rfl ?_
        refine sC_flt k2 (by omega) z5 (fun m5 f5 k5 b5 => ?_)
        refine t86 sz wr v m5 _ (by omega) k5 b5 ?_
        rw [he, z3]
        rfl
      refine aw_istore4 rfl dX5_readSpud_58 rfl (by decide) ?_
      refine aw_iload_n dX5_readSpud_60 rfl rfl ?_
      refine aw_if_eq (tgt := 86) dX5_readSpud_61 (by decide) rfl (by omega) (fun c61 => ?_) (fun c61 => ?_)
      · first | (exfalso; omega) | exact g86'' (by omega)
      · refine aw_aload_n dX5_readSpud_64 rfl rfl ?_
        refine aw_getR dX5_readSpud_65 rfl fl_X5_21 g67 (by rfl) ?_
        refine aw_iload dX5_readSpud_68 rfl rfl ?_
        refine aw_callV [_] _ dX5_readSpud_70 rfl clv_X5_182 (by decide) ⟨Nat.zero_le _, Nat.zero_le _⟩ (by first | assumption | rfl) (by rfl) (Nat.le_of_ble_eq_true rfl) rfl ?_
        refine sC_who0 E70 m2c (by omega) (by omega) hn.2.2.2.1 ?_
        refine aw_bipush dX5_readSpud_73 rfl (by decide) ?_
        refine aw_icmp_eq (tgt := 86) dX5_readSpud_75 (by decide) rfl (by omega) (by omega) (fun c75 => ?_) (fun c75 => ?_)
        · first | (exfalso; omega) | exact g86'' (by omega)
        · exact b78 (fun z => c75 (wf.mpr z))
    have t53 : ∀ (m : Mem) (a : Int), RdK mem m → TBad a m → lineP (mem 69) (mem 68 1) s = .error a → AW Γ mX5_readSpud (zF Γ zG Q) zG 0 0 53 [some (vR 67), some (vI ip), some (vI sz), some (vI wr), none] [vI 0] m := by
      intro m a hK hB he
      refine aw_goto (tgt := 58) dX5_readSpud_53 (by decide) ?_
      exact t58 sz wr 0 m a (by omega) hK hB he
    have o58 : ip = 0 → AW Γ mX5_readSpud (zF Γ zG Q) zG 0 0 58 [some (vR 67), some (vI ip), some (vI sz), some (vI wr), none] [vI (-4)] m := by
      intro i0
      refine aw_istore4 rfl dX5_readSpud_58 rfl (by decide) ?_
      refine aw_iload_n dX5_readSpud_60 rfl rfl ?_
      refine aw_if_eq (tgt := 86) dX5_readSpud_61 (by decide) rfl (by omega) (fun c61 => ?_) (fun c61 => ?_)
      · exact g86 c6 sz wr (-4) sC sC m (by omega) hK h5 h4 hFC d46 d26 d0 d1 d2 ⟨rfl, rfl, rfl, rfl, rfl⟩ (by omega) (fun j _ => rfl) c10 (hee.trans (if_pos i0))
      · exfalso; omega
    refine aw_istore3 rfl dX5_readSpud_38 rfl (by decide) ?_
    refine aw_iload_n dX5_readSpud_39 rfl rfl ?_
    refine aw_if_eq (tgt := 56) dX5_readSpud_40 (by decide) rfl (by omega) (fun c40 => ?_) (fun c40 => ?_)
    · refine aw_bipush dX5_readSpud_56 rfl (by decide) ?_
      first | (have hz : ¬ ip = 0 := c40; exact g58 m4 v4 (by omega) f4 k4 x5 x3 x4 xx xk vr4) | exact o58 (by omega)
    · refine aw_aload_n dX5_readSpud_43 rfl rfl ?_
      refine aw_getR dX5_readSpud_44 rfl fl_X5_12 g67 (by rfl) ?_
      refine aw_iconst dX5_readSpud_47 rfl ?_
      refine aw_bipush dX5_readSpud_48 rfl (by decide) ?_
      refine aw_callV [_, _] _ dX5_readSpud_50 rfl clv_X5_147 (by decide) ⟨Nat.zero_le _, Nat.zero_le _⟩ g68 (by rfl) (Nat.le_of_ble_eq_true rfl) rfl ?_
      refine sC_num sC hK h5 h4 (by omega) (fun m4 a f4 k4 b4 n4 => t53 m4 a k4 b4 (by rw [hee, if_neg (by omega), place_err n4]; rfl)) (fun m4 v4 f4 k4 x5 x3 x4 xx xk vr4 zr4 n4 => ?_)
      refine aw_goto (tgt := 58) dX5_readSpud_53 (by decide) ?_
      first | (have hz : ¬ ip = 0 := c40; exact g58 m4 v4 (by omega) f4 k4 x5 x3 x4 xx xk vr4) | exact o58 (by omega)
  exact g38
theorem sC_readSpud {ip : Int} (hip : ip = 0 ∨ ip = 1) (s : PSt) (hS : RdS mem) (hR : TkR mem (mem 69) (mem 68 1) s.p) (hx : ¬ tkX (mem 69) (mem 68 1) s.p) (hF : RdF s mem) (w : PW (mem 68 1) s) (dw : DW s) (hl : lineC (mem 69) (mem 68 1) s = 4 - ip) (k : ∀ m' : Mem, RdK mem m' → CmpR (lineP (mem 69) (mem 68 1) s) m' → Q none m') : AMet Γ mX5_readSpud [vR 67, vI ip] zG mem Q := by
  obtain ⟨e1, e3, e4, e2, ex, en⟩ := id hR
  have e5 := en hx
  have K0 : RdK mem mem := ⟨FrI.rf, rfl, rfl, rfl, hS⟩
  have h46 := dw.2.2.2.2.2.1
  have h26 := dw.2.2.2.2.1
  have w10 := w.1.2.2.1
  obtain ⟨c, hc⟩ : ∃ c : Nat, s.2 46 = c := ⟨(s.2 46).toNat, by omega⟩
  have m46 : mem 70 2 = s.2 46 := hF.2.2.1.1
  have kb : ∀ (m' : Mem) (a : Int), RdK mem m' → TBad a m' → lineP (mem 69) (mem 68 1) s = .error a → Q none m' := fun m' a hK hB e => k m' hK (by rw [e]; exact hB)
  have t106 : ∀ (sz wr pl : Int) (m : Mem) (a : Int), RdK mem m → TBad a m → lineP (mem 69) (mem 68 1) s = .error a → AW Γ mX5_readSpud (zF Γ zG Q) zG 0 0 106 [some (vR 67), some (vI ip), some (vI sz), some (vI wr), some (vI pl)] [] m := fun sz wr pl m a hK hB he => (rs_bad hip (fun m' x y => kb m' a x y he)).1 sz wr pl m hK hB
  have t86 : ∀ (sz wr pl : Int) (m : Mem) (a : Int), (-4 ≤ pl ∧ pl ≤ 23) → RdK mem m → TBad a m → lineP (mem 69) (mem 68 1) s = .error a → AW Γ mX5_readSpud (zF Γ zG Q) zG 0 0 86 [some (vR 67), some (vI ip), some (vI sz), some (vI wr), some (vI pl)] [] m := fun sz wr pl m a hp hK hB he => (rs_bad hip (fun m' x y => kb m' a x y he)).2.1 sz wr pl m hp hK hB
  have t58 : ∀ (sz wr pl : Int) (m : Mem) (a : Int), (-4 ≤ pl ∧ pl ≤ 23) → RdK mem m → TBad a m → lineP (mem 69) (mem 68 1) s = .error a → AW Γ mX5_readSpud (zF Γ zG Q) zG 0 0 58 [some (vR 67), some (vI ip), some (vI sz), some (vI wr), none] [vI pl] m := fun sz wr pl m a hp hK hB he => (rs_bad hip (fun m' x y => kb m' a x y he)).2.2.1 sz wr pl m hp hK hB
  have t38 : ∀ (sz wr : Int) (m : Mem) (a : Int), RdK mem m → TBad a m → lineP (mem 69) (mem 68 1) s = .error a → AW Γ mX5_readSpud (zF Γ zG Q) zG 0 0 38 [some (vR 67), some (vI ip), some (vI sz), none, none] [vI wr] m := fun sz wr m a hK hB he => (rs_bad hip (fun m' x y => kb m' a x y he)).2.2.2.1 sz wr m hK hB
  have t30 : ∀ (sz : Int) (m : Mem) (a : Int), RdK mem m → TBad a m → lineP (mem 69) (mem 68 1) s = .error a → AW Γ mX5_readSpud (zF Γ zG Q) zG 0 0 30 [some (vR 67), some (vI ip), none, none, none] [vI sz] m := fun sz m a hK hB he => (rs_bad hip (fun m' x y => kb m' a x y he)).2.2.2.2.1 sz m hK hB
  have t20 : ∀ (m : Mem) (a : Int), RdK mem m → TBad a m → lineP (mem 69) (mem 68 1) s = .error a → AW Γ mX5_readSpud (zF Γ zG Q) zG 0 0 20 [some (vR 67), some (vI ip), none, none, none] [] m := fun m a hK hB he => (rs_bad hip (fun m' x y => kb m' a x y he)).2.2.2.2.2 m hK hB
  have s12 : s.2 46 = 6 → AW Γ mX5_readSpud (zF Γ zG Q) zG 0 0 12 [some (vR 67), some (vI ip), none, none, none] [] mem := by
    intro h6
    have la := lineA_eq (t := mem 69) (L := mem 68 1) hx (by omega)
    rw [if_pos (by rw [hl]; exact Or.inr ⟨by omega, h6⟩)] at la
    have lp := lineP_err la
    refine aw_aload_n dX5_readSpud_12 rfl rfl ?_
    refine aw_getR dX5_readSpud_13 rfl fl_X5_12 g67 (by rfl) ?_
    refine aw_iconst dX5_readSpud_16 rfl ?_
    refine aw_callV [_] _ dX5_readSpud_17 rfl clv_X5_143 (by decide) ⟨Nat.zero_le _, Nat.zero_le _⟩ g68 (by rfl) (Nat.le_of_ble_eq_true rfl) rfl ?_
    refine sC_flt K0 (by omega) e5 (fun m1 f1 k1 b1 => ?_)
    exact t20 m1 _ k1 b1 (by rw [lp, e3])
  have g38 := rs_g38 (Γ := Γ) (c := c) hip s k
  have s20 : ¬ s.2 46 = 6 → AW Γ mX5_readSpud (zF Γ zG Q) zG 0 0 20 [some (vR 67), some (vI ip), none, none, none] [] mem := by
    intro h6
    have c6 : c < 6 := by omega
    have la := lineA_ok2 (t := mem 69) (L := mem 68 1) hx (by omega) (by rw [hl]; unfold fullC; omega)
    have lp := lineP_of la
    rw [hl] at lp
    have lp2 : lineP (mem 69) (mem 68 1) s = (spudP (mem 69) (mem 68 1) (if 4 - ip = 4 then 1 else 0) (fset (fireG (mem 69) (mem 68 1) s).1 0 (tkE (mem 69) (mem 68 1) s.p), s.2)).bind (markP (mem 69) (mem 68 1)) := by
      rw [lp]
      unfold lineOfP
      rw [if_neg (by omega), if_neg (by omega), if_neg (by omega), if_neg (by omega)]
    clear lp
    have F0 := hF.line (t := mem 69) (L := mem 68 1) w.1.1 (by omega)
    obtain ⟨sA, hsA⟩ : ∃ x : PSt, ((fset (fireG (mem 69) (mem 68 1) s).1 0 (tkE (mem 69) (mem 68 1) s.p), s.2) : PSt) = x := ⟨_, rfl⟩
    rw [hsA] at lp2 F0
    have pA : sA.p = tkE (mem 69) (mem 68 1) s.p := by rw [← hsA]; rfl
    have dA : sA.2 = s.2 := by rw [← hsA]
    have a10 : sA.1 10 = s.1 10 := by rw [← hsA]; rfl
    have a46 : sA.2 46 = c := by rw [dA]; exact hc
    have a26 : 0 ≤ sA.2 26 ∧ sA.2 26 ≤ 6 := by rw [dA]; exact h26
    have apl : sA.2 (47 + 8 * (c : Int) + 2) = -4 := by
      rw [dA]
      rcases (dw.2.2.2.2.2.2.2.1 (c : Int) (by omega) (by omega)).2.1 with z | z
      · exact z
      · omega
    have serr : ∀ a, spudA (mem 69) (mem 68 1) sA = .error a → lineP (mem 69) (mem 68 1) s = .error a := by
      intro a h
      rw [lp2]
      unfold spudP
      rw [h]
      split <;> rfl
    have sok : ∀ sC, spudA (mem 69) (mem 68 1) sA = .ok sC → lineP (mem 69) (mem 68 1) s = (if ip = 0 then markP (mem 69) (mem 68 1) (incG 46 sC) else ((((placeA (mem 69) (mem 68 1) sC).bind (advP (mem 69) (mem 68 1))).bind (stP (incG 46))).bind (markP (mem 69) (mem 68 1)))) := by
      intro sC h
      unfold spudP at lp2
      rw [h] at lp2
      rw [lp2]
      rcases hip with i0 | i0
      · rw [i0]
        rfl
      · rw [i0]
        rfl
    have sd : spudA (mem 69) (mem 68 1) sA = (((numP (mem 69) (mem 68 1) 1 9 sA).bind (stP (spudG 0))).bind (wrapP (mem 69) (mem 68 1))).bind (stP (spudG 1)) := rfl
    refine aw_aload_n dX5_readSpud_20 rfl rfl ?_
    refine aw_getR dX5_readSpud_21 rfl fl_X5_12 g67 (by rfl) ?_
    refine aw_iconst dX5_readSpud_24 rfl ?_
    refine aw_bipush dX5_readSpud_25 rfl (by decide) ?_
    refine aw_callV [_, _] _ dX5_readSpud_27 rfl clv_X5_147 (by decide) ⟨Nat.zero_le _, Nat.zero_le _⟩ g68 (by rfl) (Nat.le_of_ble_eq_true rfl) rfl ?_
    refine sC_num sA K0 e5 (by rw [e4, pA]) (by omega) (fun m2 a f2 k2 b2 n2 => t30 1 m2 a k2 b2 (serr a (by rw [sd, n2]; rfl))) (fun m2 v f2 k2 z5 z3 z4 zx zk vr zr n2 => ?_)
    rw [n2] at sd
    have sd2 : spudA (mem 69) (mem 68 1) sA = (wrapP (mem 69) (mem 68 1) (spudG 0 (fset (fset sA.1 1 v) 0 (tkE (mem 69) (mem 68 1) sA.p), sA.2))).bind (stP (spudG 1)) := sd
    have F2 : RdF sA m2 := F0.fr (by omega) f2
    obtain ⟨sB, hsB⟩ : ∃ x : PSt, spudG 0 (fset (fset sA.1 1 v) 0 (tkE (mem 69) (mem 68 1) sA.p), sA.2) = x := ⟨_, rfl⟩
    rw [hsB] at sd2
    have pB : sB.p = tkE (mem 69) (mem 68 1) sA.p := by rw [← hsB]; rfl
    have b10 : sB.1 10 = s.1 10 := by rw [← hsB]; exact a10
    have sB2 : sB.2 = fset sA.2 (47 + 8 * (c : Int) + 0) v := by rw [← hsB, ← a46]; rfl
    have F3 : RdF sB m2 := F2.ups (c := (c : Int)) a26 a46 (by omega) (by rw [← hsB]; rfl) (by rw [← hsB]; rfl) (by rw [← hsB]; rfl) (by rw [← hsB]; rfl) (by rw [← hsB]; rfl) (by rw [← hsB]; rfl) (fun j hj => by rw [sB2, fset_ne (by omega)])
    have b46 : sB.2 46 = c := by rw [sB2, fset_ne (by omega)]; exact a46
    have b26 : 0 ≤ sB.2 26 ∧ sB.2 26 ≤ 6 := by rw [sB2, fset_ne (by omega)]; exact a26
    refine aw_istore2 rfl dX5_readSpud_30 rfl (by decide) ?_
    refine aw_aload_n dX5_readSpud_31 rfl rfl ?_
    refine aw_getR dX5_readSpud_32 rfl fl_X5_12 g67 (by rfl) ?_
    refine aw_callV [] _ dX5_readSpud_35 rfl clv_X5_178 (by decide) ⟨Nat.zero_le _, Nat.zero_le _⟩ g68 (by rfl) (Nat.le_of_ble_eq_true rfl) rfl ?_
    refine sC_wrapT sB k2 z5 (by rw [z4, pB]) (fun m4 a f4 k4 b4 n4 => t38 v 0 m4 a k4 b4 (serr a (by rw [sd2, n4]; rfl))) (fun m4 v4 f4 k4 y5 y4 vr4 n4 => ?_)
    rw [n4] at sd2
    have sd3 : spudA (mem 69) (mem 68 1) sA = .ok (spudG 1 (fset (fset sB.1 1 v4) 0 (tkE (mem 69) (mem 68 1) sB.p), sB.2)) := sd2
    have F4 : RdF sB m4 := F3.fr (by omega) f4
    obtain ⟨sC, hsC⟩ : ∃ x : PSt, spudG 1 (fset (fset sB.1 1 v4) 0 (tkE (mem 69) (mem 68 1) sB.p), sB.2) = x := ⟨_, rfl⟩
    rw [hsC] at sd3
    have pC : sC.p = tkE (mem 69) (mem 68 1) sB.p := by rw [← hsC]; rfl
    have sC2 : sC.2 = fset sB.2 (47 + 8 * (c : Int) + 1) v4 := by rw [← hsC, ← b46]; rfl
    have F5 : RdF sC m4 := F4.ups (c := (c : Int)) b26 b46 (by omega) (by rw [← hsC]; rfl) (by rw [← hsC]; rfl) (by rw [← hsC]; rfl) (by rw [← hsC]; rfl) (by rw [← hsC]; rfl) (by rw [← hsC]; rfl) (fun j hj => by rw [sC2, fset_ne (by omega)])
    have c10 : sC.1 10 = s.1 10 := by rw [← hsC]; exact b10
    exact g38 c6 v v4 sC m4 k4 y5 (by rw [y4, pC]) F5 (by rw [sC2, fset_ne (by omega)]; exact b46) (by rw [sC2, fset_ne (by omega)]; exact b26) (by rw [sC2, fset_ne (by omega), sB2, fset_same]) (by rw [sC2, fset_same]) (by rw [sC2, fset_ne (by omega), sB2, fset_ne (by omega)]; exact apl) (by omega) (sok sC sd3)
  refine AMet.of' 3 (ls := [some (vR (67)), some (vI (ip)), none, none, none]) (by decide) rfl (Nat.le_of_ble_eq_true rfl) ?_
  refine aw_aload_n dX5_readSpud_0 rfl rfl ?_
  refine aw_getR dX5_readSpud_1 rfl fl_X5_21 g67 (by rfl) ?_
  refine aw_getI (kI := 2) dX5_readSpud_4 rfl fl_X5_101 g70 (by rfl) rfl ?_
  rw [m46]
  refine aw_bipush dX5_readSpud_7 rfl (by decide) ?_
  refine aw_icmp_lt (tgt := 20) dX5_readSpud_9 (by decide) rfl (by omega) (by omega) (fun c9 => ?_) (fun c9 => ?_)
  · exact s20 (by omega)
  · exact s12 (by omega)
end ZCmp29
