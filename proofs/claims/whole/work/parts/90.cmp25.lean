abbrev RdK (mem m' : Mem) : Prop := FrI m' mem 67 87 ∧ m' 67 3 = mem 67 3 ∧ m' 68 1 = mem 68 1 ∧ m' 69 = mem 69 ∧ RdS m'
section
variable {mem m m' : Mem}
theorem RdK.set {c : Nat} {k v : Int} (h : RdK mem m) (hc : (c = 67 ∧ ¬ k = 3) ∨ (70 ≤ c ∧ c < 87)) (hn : RdN (mset m c k v)) : RdK mem (mset m c k v) := by
  obtain ⟨h1, h2, h3, h4, h5⟩ := h
  have tp := TpS.set (c := c) (k := k) (v := v) ⟨h5.1, h5.2.1⟩ (by omega) (by omega)
  refine ⟨h1.set (by omega), ?_, by rw [mset_ne (by omega)]; exact h3, by rw [mset_ne (by omega)]; exact h4, tp.1, tp.2, hn⟩
  rcases hc with ⟨rfl, hk⟩ | hc
  · rw [mset_same, fset_ne (by omega)]; exact h2
  · rw [mset_ne (by omega)]; exact h2
theorem RdK.tape (h : RdK mem m) (hF : FrI m' m 68 69) (hl : m' 68 1 = m 68 1) (hN : TpN m') : RdK mem m' := by
  obtain ⟨h1, h2, h3, h4, h5⟩ := h
  refine ⟨(hF.wd (by omega) (by omega)).tr h1, by rw [hF 67 (by omega)]; exact h2, by rw [hl]; exact h3, by rw [hF 69 (by omega)]; exact h4, ⟨by rw [hl]; exact h5.1.1, fun i i0 i1 => by rw [hF 69 (by omega)]; exact h5.1.2 i i0 (by omega)⟩, hN, h5.2.2.fr hF⟩
theorem FiR.c0 {n v : Int} {d : Int → Int} (h : FiR m 71 n d) : FiR (mset m 71 0 v) 71 v d := by
  obtain ⟨h0, h1, h2, h3, hh, hw⟩ := h
  refine ⟨?_, ?_, ?_, ?_, ?_, ?_⟩
  · rw [mset_same, fset_same]
  · rw [mset_same, fset_ne (by decide)]; exact h1
  · rw [mset_same, fset_ne (by decide)]; exact h2
  · rw [mset_same, fset_ne (by decide)]; exact h3
  · rw [mset_ne (by decide)]; exact hh
  · rw [mset_ne (by decide), mset_ne (by decide), mset_ne (by decide)]; exact hw
theorem FiR.c12 {n k v : Int} {d : Int → Int} (h : FiR m 71 n d) (hk : k = 0 ∨ k = 1) : FiR (mset m 71 (1 + k) v) 71 n (fset d (24 + k) v) := by
  obtain ⟨h0, h1, h2, h3, hh, hw⟩ := h
  refine ⟨?_, ?_, ?_, ?_, fun x x0 x1 => ?_, fun i i0 i1 => ?_⟩
  · rw [mset_same, fset_ne (by omega)]; exact h0
  · rw [mset_same]; unfold fset; (repeat' split) <;> first | rfl | omega
  · rw [mset_same]; unfold fset; (repeat' split) <;> first | rfl | omega
  · rw [mset_same, fset_ne (by omega), fset_ne (by omega)]; exact h3
  · rw [mset_ne (by decide), fset_ne (by omega)]; exact hh x x0 x1
  · rw [fset_ne (by omega)] at i1
    rw [mset_ne (by decide), mset_ne (by decide), mset_ne (by decide), fset_ne (by omega), fset_ne (by omega), fset_ne (by omega)]; exact hw i i0 i1
theorem FiR.ht {n x v : Int} {d : Int → Int} (h : FiR m 71 n d) (hx : 0 ≤ x ∧ x < 24) : FiR (mset m 72 x v) 71 n (fset d x v) := by
  obtain ⟨h0, h1, h2, h3, hh, hw⟩ := h
  refine ⟨?_, ?_, ?_, ?_, fun y y0 y1 => ?_, fun i i0 i1 => ?_⟩
  · rw [mset_ne (by decide)]; exact h0
  · rw [mset_ne (by decide), fset_ne (by omega)]; exact h1
  · rw [mset_ne (by decide), fset_ne (by omega)]; exact h2
  · rw [mset_ne (by decide), fset_ne (by omega)]; exact h3
  · show mset m 72 x v 72 y = _
    rw [mset_same]
    unfold fset
    split
    · rfl
    · exact hh y y0 y1
  · rw [fset_ne (by omega)] at i1
    rw [mset_ne (by decide), mset_ne (by decide), mset_ne (by decide), fset_ne (by omega), fset_ne (by omega), fset_ne (by omega)]; exact hw i i0 i1
/-- the draft's fire changes -/
theorem RdF.fire {s s' : PSt} (h : RdF s m) (h46 : s.2 46 ≤ 6) (hF : FrI m' m 71 76) (hR : FiR m' 71 (s'.1 5) s'.2) (h6 : s'.1 6 = s.1 6) (h7 : s'.1 7 = s.1 7) (h9 : s'.1 9 = s.1 9) (h10 : s'.1 10 = s.1 10) (h11 : s'.1 11 = s.1 11) (hd : ∀ j : Int, 45 ≤ j → s'.2 j = s.2 j) : RdF s' m' := by
  obtain ⟨g1, g2, g3, g4, g5⟩ := h
  refine ⟨?_, hR, ?_, fun p hp => ?_, fun p hp => ?_⟩
  · rw [hF 67 (by omega), h6, h7, h9, h10, h11]; exact g1
  · rw [hF 70 (by omega), hd 46 (by omega)]; exact g3
  · rw [hd 46 (by omega)] at hp
    rw [hF (80 + p) (by omega), hd _ (by omega), hd _ (by omega), hd _ (by omega)]; exact g4 p hp
  · rw [hF 86 (by omega), hd _ (by omega)]; exact g5 p hp
/-- the reader's own numbers change -/
theorem RdF.own {s s' : PSt} {g : Int → Int} (h : RdF s m) (hg : g 4 = s'.1 7 ∧ g 8 = s'.1 6 ∧ g 5 = max 0 (s'.1 9) ∧ g 6 = max 0 (s'.1 10) ∧ g 7 = s'.1 11) (h5 : s'.1 5 = s.1 5) (hd : s'.2 = s.2) : RdF s' (mcell m 67 g) := by
  obtain ⟨g1, g2, g3, g4, g5⟩ := h
  refine ⟨by rw [mcell_same]; exact hg, ?_, ?_, fun p hp => ?_, fun p hp => ?_⟩
  · unfold FiR
    rw [mcell_ne (d := 71) (by decide), mcell_ne (d := 71 + 1) (by decide), mcell_ne (d := 71 + 2) (by decide), mcell_ne (d := 71 + 3) (by decide), mcell_ne (d := 71 + 4) (by decide), h5, hd]
    exact g2
  · rw [mcell_ne (by decide), hd]; exact g3
  · rw [hd] at hp ⊢
    rw [mcell_ne (by omega)]; exact g4 p hp
  · rw [hd, mcell_ne (by decide)]; exact g5 p hp
end
section ZCmp25
variable {Γ : ZG} {mem m : Mem} {Q : Option AV → Mem → Prop}
/-- a number is taken from the state s -/
theorem sC_num {lo hi : Int} (s : PSt) (hK : RdK mem m) (h5 : m 68 5 = 0) (h4 : m 68 4 = s.p) (hlh : 0 ≤ lo ∧ lo ≤ hi ∧ hi ≤ 99)
    (kb : ∀ (m' : Mem) (a : Int), FrI m' m 68 69 → RdK mem m' → TBad a m' → numP (mem 69) (mem 68 1) lo hi s = .error a → Q (some (vI lo)) m')
    (kg : ∀ (m' : Mem) (v : Int), FrI m' m 68 69 → RdK mem m' → m' 68 5 = 0 → m' 68 3 = tkB (mem 69) (mem 68 1) s.p → m' 68 4 = tkE (mem 69) (mem 68 1) s.p → ¬ tkX (mem 69) (mem 68 1) s.p → (tkK (mem 69) (mem 68 1) s.p = 2 ∧ v = tkV (mem 69) (mem 68 1) s.p) → (lo ≤ v ∧ v ≤ hi) → (s.p ≤ tkE (mem 69) (mem 68 1) s.p ∧ tkE (mem 69) (mem 68 1) s.p ≤ mem 68 1) → numP (mem 69) (mem 68 1) lo hi s = .ok (fset (fset s.1 1 v) 0 (tkE (mem 69) (mem 68 1) s.p), s.2) → Q (some (vI v)) m') : AMet Γ mX8_takeNumber [vR 68, vI lo, vI hi] zG m Q := by
  obtain ⟨q1, q2, q3, q4, q5⟩ := id hK
  have hp := q5.2.1.2.2.1
  have rB := tkB_rng (t := m 69) hp
  have rE := tkE_rng (t := m 69) hp
  refine sC_takeNumber q5.1 h5 hp hlh (fun m' a f1 l1 b1 n1 e1 => kb m' a f1 (hK.tape f1 l1 n1) b1 ?_) (fun m' f1 l1 z5 z3 z4 n1 nx k2 vr => kg m' _ f1 (hK.tape f1 l1 n1) z5 ?_ ?_ ?_ ⟨?_, ?_⟩ vr ?_ ?_)
  · have := e1 s h4.symm
    rw [q3, q4] at this
    exact this
  · rw [z3, q3, q4, h4]
  · rw [z4, q3, q4, h4]
  · rw [q3, q4, h4] at nx; exact nx
  · rw [q3, q4, h4] at k2; exact k2
  · rw [q3, q4, h4]
  · rw [q3, q4, h4] at rB rE; omega
  · rw [q3, q4, h4] at nx k2 vr ⊢
    rw [numP_eq, if_neg nx, if_pos ⟨k2, vr⟩]
theorem sC_numB {lo hi : Int} (hK : RdK mem m) {a : Int} (hB : TBad a m) (k : Q (some (vI lo)) m) : AMet Γ mX8_takeNumber [vR 68, vI lo, vI hi] zG m Q := sC_takeNumberB hK.2.2.2.2.1.1 hK.2.2.2.2.2.1 hB.1.1 k
theorem sC_mark (s : PSt) (hK : RdK mem m) (h5 : m 68 5 = 0) (h4 : m 68 4 = s.p)
    (kb : ∀ (m' : Mem) (a : Int), FrI m' m 68 69 → RdK mem m' → TBad a m' → markP (mem 69) (mem 68 1) s = .error a → Q none m')
    (kg : ∀ (m' : Mem), FrI m' m 68 69 → RdK mem m' → m' 68 5 = 0 → m' 68 4 = tkE (mem 69) (mem 68 1) s.p → markP (mem 69) (mem 68 1) s = .ok (fset s.1 0 (tkE (mem 69) (mem 68 1) s.p), s.2) → Q none m') : AMet Γ mX8_takeMark [vR 68] zG m Q := by
  obtain ⟨q1, q2, q3, q4, q5⟩ := id hK
  refine sC_takeMark q5.1 h5 q5.2.1.2.2.1 (fun m' a f1 l1 b1 n1 e1 => kb m' a f1 (hK.tape f1 l1 n1) b1 ?_) (fun m' f1 l1 z5 z4 n1 e1 => kg m' f1 (hK.tape f1 l1 n1) z5 ?_ ?_)
  · have := e1 s h4.symm
    rw [q3, q4] at this
    exact this
  · rw [z4, q3, q4, h4]
  · have := e1 s h4.symm
    rw [q3, q4, h4] at this
    exact this
theorem sC_markB (hK : RdK mem m) {a : Int} (hB : TBad a m) (k : Q none m) : AMet Γ mX8_takeMark [vR 68] zG m Q := sC_takeMarkB hK.2.2.2.2.2.1 hB.1.1 k
/-- a fault at the token read last -/
theorem sC_flt {c : Int} (hK : RdK mem m) (hc : 1 ≤ c ∧ c ≤ 6) (h5 : m 68 5 = 0) (k : ∀ m' : Mem, FrI m' m 68 69 → RdK mem m' → TBad (8 * m 68 3 + c) m' → Q none m') : AMet Γ mX8_fail [vR 68, vI c] zG m Q := by
  have hN := hK.2.2.2.2.2.1
  refine sC_fail hN.2.2.2 (fun _ => ?_) (fun z => absurd h5 z)
  obtain ⟨b1, b2, b3, b4⟩ := bad_set (c := c) hN hc rfl
  exact k _ b1 (hK.tape b1 b2 b4) b3
theorem sC_fltB {c a : Int} (hK : RdK mem m) (hB : TBad a m) (k : Q none m) : AMet Γ mX8_fail [vR 68, vI c] zG m Q := sC_fail hK.2.2.2.2.2.1.2.2.2 (fun z => by have := hB.1.1; omega) (fun _ => k)
theorem TBad.fr {a : Int} {m' : Mem} (h : TBad a m) (e : m' 68 = m 68) : TBad a m' := by
  unfold TBad
  rw [e]
  exact h
theorem sC_readFire (s : PSt) (hS : RdS mem) (hR : TkR mem (mem 69) (mem 68 1) s.p) (hx : ¬ tkX (mem 69) (mem 68 1) s.p) (hF : RdF s mem) (w : PW (mem 68 1) s) (dw : DW s) (hl : lineC (mem 69) (mem 68 1) s = 0) (k : ∀ m' : Mem, RdK mem m' → CmpR (lineP (mem 69) (mem 68 1) s) m' → Q none m') : AMet Γ mX5_readFire [vR 67] zG mem Q := by
  obtain ⟨e1, e3, e4, e2, ex, en⟩ := id hR
  have e5 := en hx
  have K0 : RdK mem mem := ⟨FrI.rf, rfl, rfl, rfl, hS⟩
  have h46 := dw.2.2.2.2.2.1
  have kb : ∀ (m' : Mem) (a : Int), RdK mem m' → TBad a m' → lineP (mem 69) (mem 68 1) s = .error a → Q none m' := fun m' a hK hB e => k m' hK (by rw [e]; exact hB)
  have la := lineA_eq (t := mem 69) (L := mem 68 1) hx (by rw [hl]; decide)
  rw [hl] at la
  rw [if_neg (show ¬ fullC 0 s by unfold fullC; omega)] at la
  have tail : ∀ (m : Mem) (a : Int), RdK mem m → TBad a m → lineP (mem 69) (mem 68 1) s = .error a → AW Γ mX5_readFire (zF Γ zG Q) zG 0 0 15 [some (vR 67)] [] m := by
    intro m a hK hB he
    refine aw_aload_n dX5_readFire_15 rfl rfl ?_
    refine aw_iconst dX5_readFire_16 rfl ?_
    refine aw_putZ (kI := 8) dX5_readFire_17 rfl fp_X5_84 (by omega) g67 (by rfl) rfl ?_
    have K1 := hK.set (c := 67) (k := 8) (v := 1) (by omega) (hK.2.2.2.2.2.2.s67 (by omega))
    have B1 : TBad a (mset m 67 8 1) := hB.fr (mset_ne (by decide))
    refine aw_aload_n dX5_readFire_20 rfl rfl ?_
    refine aw_getR dX5_readFire_21 rfl fl_X5_21 g67 (by rfl) ?_
    refine aw_getR dX5_readFire_24 rfl fl_X5_88 g70 (by rfl) ?_
    refine aw_aload_n dX5_readFire_27 rfl rfl ?_
    refine aw_getR dX5_readFire_28 rfl fl_X5_12 g67 (by rfl) ?_
    refine aw_iconst dX5_readFire_31 rfl ?_
    refine aw_bipush dX5_readFire_32 rfl (by decide) ?_
    refine aw_callV [_, _] _ dX5_readFire_34 rfl clv_X5_147 (by decide) ⟨Nat.zero_le _, Nat.zero_le _⟩ g68 (by rfl) (Nat.le_of_ble_eq_true rfl) rfl ?_
    refine sC_numB K1 B1 ?_
    refine aw_putI (kI := 0) dX5_readFire_37 rfl fp_X5_151 g71 (by rfl) rfl ?_
    have K2 := K1.set (c := 71) (k := 0) (v := 3) (by omega) (K1.2.2.2.2.2.2.s71 (by omega) (by omega))
    have B2 : TBad a (mset (mset m 67 8 1) 71 0 3) := B1.fr (mset_ne (by decide))
    refine aw_aload_n dX5_readFire_40 rfl rfl ?_
    refine aw_getR dX5_readFire_41 rfl fl_X5_21 g67 (by rfl) ?_
    refine aw_getR dX5_readFire_44 rfl fl_X5_88 g70 (by rfl) ?_
    refine aw_aload_n dX5_readFire_47 rfl rfl ?_
    refine aw_getR dX5_readFire_48 rfl fl_X5_12 g67 (by rfl) ?_
    refine aw_iconst dX5_readFire_51 rfl ?_
    refine aw_bipush dX5_readFire_52 rfl (by decide) ?_
    refine aw_callV [_, _] _ dX5_readFire_54 rfl clv_X5_147 (by decide) ⟨Nat.zero_le _, Nat.zero_le _⟩ g68 (by rfl) (Nat.le_of_ble_eq_true rfl) rfl ?_
    refine sC_numB K2 B2 ?_
    refine aw_putI (kI := 1) dX5_readFire_57 rfl fp_X5_154 g71 (by rfl) rfl ?_
    have K3 := K2.set (c := 71) (k := 1) (v := 0) (by omega) (K2.2.2.2.2.2.2.s71 (by omega) (by omega))
    have B3 : TBad a (mset (mset (mset m 67 8 1) 71 0 3) 71 1 0) := B2.fr (mset_ne (by decide))
    refine aw_aload_n dX5_readFire_60 rfl rfl ?_
    refine aw_getR dX5_readFire_61 rfl fl_X5_21 g67 (by rfl) ?_
    refine aw_getR dX5_readFire_64 rfl fl_X5_88 g70 (by rfl) ?_
    refine aw_aload_n dX5_readFire_67 rfl rfl ?_
    refine aw_getR dX5_readFire_68 rfl fl_X5_12 g67 (by rfl) ?_
    refine aw_iconst dX5_readFire_71 rfl ?_
    refine aw_bipush dX5_readFire_72 rfl (by decide) ?_
    refine aw_callV [_, _] _ dX5_readFire_74 rfl clv_X5_147 (by decide) ⟨Nat.zero_le _, Nat.zero_le _⟩ g68 (by rfl) (Nat.le_of_ble_eq_true rfl) rfl ?_
    refine sC_numB K3 B3 ?_
    refine aw_putI (kI := 2) dX5_readFire_77 rfl fp_X5_157 g71 (by rfl) rfl ?_
    have K4 := K3.set (c := 71) (k := 2) (v := 0) (by omega) (K3.2.2.2.2.2.2.s71 (by omega) (by omega))
    have B4 : TBad a (mset (mset (mset (mset m 67 8 1) 71 0 3) 71 1 0) 71 2 0) := B3.fr (mset_ne (by decide))
    refine aw_aload_n dX5_readFire_80 rfl rfl ?_
    refine aw_getR dX5_readFire_81 rfl fl_X5_12 g67 (by rfl) ?_
    refine aw_callV [] _ dX5_readFire_84 rfl clv_X5_160 (by decide) ⟨Nat.zero_le _, Nat.zero_le _⟩ g68 (by rfl) (Nat.le_of_ble_eq_true rfl) rfl ?_
    refine sC_markB K4 B4 ?_
    refine aw_return dX5_readFire_87 rfl ?_
    exact kb _ a K4 B4 he
  have s15 : s.1 6 = 0 → AW Γ mX5_readFire (zF Γ zG Q) zG 0 0 15 [some (vR 67)] [] mem := by
    intro h6
    rw [if_neg (by omega)] at la
    have lp := lineP_of la
    rw [hl] at lp
    have lp2 : lineP (mem 69) (mem 68 1) s = (fireP (mem 69) (mem 68 1) (fset (fireG (mem 69) (mem 68 1) s).1 0 (tkE (mem 69) (mem 68 1) s.p), s.2)).bind (markP (mem 69) (mem 68 1)) := lp
    clear lp
    obtain ⟨sA, hsA⟩ : ∃ x : PSt, ((fset (fireG (mem 69) (mem 68 1) s).1 0 (tkE (mem 69) (mem 68 1) s.p), s.2) : PSt) = x := ⟨_, rfl⟩
    rw [hsA] at lp2
    have pA : sA.p = tkE (mem 69) (mem 68 1) s.p := by rw [← hsA]; rfl
    have K1 := K0.set (c := 67) (k := 8) (v := 1) (by omega) (hS.2.2.s67 (by omega))
    have F1 : RdF sA (mset mem 67 8 1) := by
      rw [mset_eq]
      obtain ⟨z4, z8, z5, z6, z7⟩ := hF.1
      refine hF.own (s' := sA) ⟨?_, ?_, ?_, ?_, ?_⟩ (by rw [← hsA]; rfl) (by rw [← hsA])
      · rw [fset_ne (by decide), ← hsA]; exact z4
      · rw [fset_same, ← hsA]; show (1 : Int) = (if ¬ s.1 6 = 0 ∨ lineC (mem 69) (mem 68 1) s = 0 then 1 else 0); rw [if_pos (Or.inr hl)]
      · rw [fset_ne (by decide), ← hsA]; exact z5
      · rw [fset_ne (by decide), ← hsA]; exact z6
      · rw [fset_ne (by decide), ← hsA]; exact z7
    have dA : sA.2 = s.2 := by rw [← hsA]
    -- bad tails
    have t37 : ∀ (m : Mem) (a : Int), RdK mem m → TBad a m → lineP (mem 69) (mem 68 1) s = .error a → AW Γ mX5_readFire (zF Γ zG Q) zG 0 0 37 [some (vR 67)] [vI 3, vR 71] m := by
      intro m a hK hB he
      refine aw_putI (kI := 0) dX5_readFire_37 rfl fp_X5_151 g71 (by rfl) rfl ?_
      have K2 := hK.set (c := 71) (k := 0) (v := 3) (by omega) (hK.2.2.2.2.2.2.s71 (by omega) (by omega))
      have B2 : TBad a (mset m 71 0 3) := hB.fr (mset_ne (by decide))
      refine aw_aload_n dX5_readFire_40 rfl rfl ?_
      refine aw_getR dX5_readFire_41 rfl fl_X5_21 g67 (by rfl) ?_
      refine aw_getR dX5_readFire_44 rfl fl_X5_88 g70 (by rfl) ?_
      refine aw_aload_n dX5_readFire_47 rfl rfl ?_
      refine aw_getR dX5_readFire_48 rfl fl_X5_12 g67 (by rfl) ?_
      refine aw_iconst dX5_readFire_51 rfl ?_
      refine aw_bipush dX5_readFire_52 rfl (by decide) ?_
      refine aw_callV [_, _] _ dX5_readFire_54 rfl clv_X5_147 (by decide) ⟨Nat.zero_le _, Nat.zero_le _⟩ g68 (by rfl) (Nat.le_of_ble_eq_true rfl) rfl ?_
      refine sC_numB K2 B2 ?_
      refine aw_putI (kI := 1) dX5_readFire_57 rfl fp_X5_154 g71 (by rfl) rfl ?_
      have K3 := K2.set (c := 71) (k := 1) (v := 0) (by omega) (K2.2.2.2.2.2.2.s71 (by omega) (by omega))
      have B3 : TBad a (mset (mset m 71 0 3) 71 1 0) := B2.fr (mset_ne (by decide))
      refine aw_aload_n dX5_readFire_60 rfl rfl ?_
      refine aw_getR dX5_readFire_61 rfl fl_X5_21 g67 (by rfl) ?_
      refine aw_getR dX5_readFire_64 rfl fl_X5_88 g70 (by rfl) ?_
      refine aw_aload_n dX5_readFire_67 rfl rfl ?_
      refine aw_getR dX5_readFire_68 rfl fl_X5_12 g67 (by rfl) ?_
      refine aw_iconst dX5_readFire_71 rfl ?_
      refine aw_bipush dX5_readFire_72 rfl (by decide) ?_
      refine aw_callV [_, _] _ dX5_readFire_74 rfl clv_X5_147 (by decide) ⟨Nat.zero_le _, Nat.zero_le _⟩ g68 (by rfl) (Nat.le_of_ble_eq_true rfl) rfl ?_
      refine sC_numB K3 B3 ?_
      refine aw_putI (kI := 2) dX5_readFire_77 rfl fp_X5_157 g71 (by rfl) rfl ?_
      have K4 := K3.set (c := 71) (k := 2) (v := 0) (by omega) (K3.2.2.2.2.2.2.s71 (by omega) (by omega))
      have B4 : TBad a (mset (mset (mset m 71 0 3) 71 1 0) 71 2 0) := B3.fr (mset_ne (by decide))
      refine aw_aload_n dX5_readFire_80 rfl rfl ?_
      refine aw_getR dX5_readFire_81 rfl fl_X5_12 g67 (by rfl) ?_
      refine aw_callV [] _ dX5_readFire_84 rfl clv_X5_160 (by decide) ⟨Nat.zero_le _, Nat.zero_le _⟩ g68 (by rfl) (Nat.le_of_ble_eq_true rfl) rfl ?_
      refine sC_markB K4 B4 ?_
      refine aw_return dX5_readFire_87 rfl ?_
      exact kb _ a K4 B4 he
    have t57 : ∀ (m : Mem) (a : Int), RdK mem m → TBad a m → lineP (mem 69) (mem 68 1) s = .error a → AW Γ mX5_readFire (zF Γ zG Q) zG 0 0 57 [some (vR 67)] [vI 0, vR 71] m := by
      intro m a hK hB he
      refine aw_putI (kI := 1) dX5_readFire_57 rfl fp_X5_154 g71 (by rfl) rfl ?_
      have K3 := hK.set (c := 71) (k := 1) (v := 0) (by omega) (hK.2.2.2.2.2.2.s71 (by omega) (by omega))
      have B3 : TBad a (mset m 71 1 0) := hB.fr (mset_ne (by decide))
      refine aw_aload_n dX5_readFire_60 rfl rfl ?_
      refine aw_getR dX5_readFire_61 rfl fl_X5_21 g67 (by rfl) ?_
      refine aw_getR dX5_readFire_64 rfl fl_X5_88 g70 (by rfl) ?_
      refine aw_aload_n dX5_readFire_67 rfl rfl ?_
      refine aw_getR dX5_readFire_68 rfl fl_X5_12 g67 (by rfl) ?_
      refine aw_iconst dX5_readFire_71 rfl ?_
      refine aw_bipush dX5_readFire_72 rfl (by decide) ?_
      refine aw_callV [_, _] _ dX5_readFire_74 rfl clv_X5_147 (by decide) ⟨Nat.zero_le _, Nat.zero_le _⟩ g68 (by rfl) (Nat.le_of_ble_eq_true rfl) rfl ?_
      refine sC_numB K3 B3 ?_
      refine aw_putI (kI := 2) dX5_readFire_77 rfl fp_X5_157 g71 (by rfl) rfl ?_
      have K4 := K3.set (c := 71) (k := 2) (v := 0) (by omega) (K3.2.2.2.2.2.2.s71 (by omega) (by omega))
      have B4 : TBad a (mset (mset m 71 1 0) 71 2 0) := B3.fr (mset_ne (by decide))
      refine aw_aload_n dX5_readFire_80 rfl rfl ?_
      refine aw_getR dX5_readFire_81 rfl fl_X5_12 g67 (by rfl) ?_
      refine aw_callV [] _ dX5_readFire_84 rfl clv_X5_160 (by decide) ⟨Nat.zero_le _, Nat.zero_le _⟩ g68 (by rfl) (Nat.le_of_ble_eq_true rfl) rfl ?_
      refine sC_markB K4 B4 ?_
      refine aw_return dX5_readFire_87 rfl ?_
      exact kb _ a K4 B4 he
    have t77 : ∀ (m : Mem) (a : Int), RdK mem m → TBad a m → lineP (mem 69) (mem 68 1) s = .error a → AW Γ mX5_readFire (zF Γ zG Q) zG 0 0 77 [some (vR 67)] [vI 0, vR 71] m := by
      intro m a hK hB he
      refine aw_putI (kI := 2) dX5_readFire_77 rfl fp_X5_157 g71 (by rfl) rfl ?_
      have K4 := hK.set (c := 71) (k := 2) (v := 0) (by omega) (hK.2.2.2.2.2.2.s71 (by omega) (by omega))
      have B4 : TBad a (mset m 71 2 0) := hB.fr (mset_ne (by decide))
      refine aw_aload_n dX5_readFire_80 rfl rfl ?_
      refine aw_getR dX5_readFire_81 rfl fl_X5_12 g67 (by rfl) ?_
      refine aw_callV [] _ dX5_readFire_84 rfl clv_X5_160 (by decide) ⟨Nat.zero_le _, Nat.zero_le _⟩ g68 (by rfl) (Nat.le_of_ble_eq_true rfl) rfl ?_
      refine sC_markB K4 B4 ?_
      refine aw_return dX5_readFire_87 rfl ?_
      exact kb _ a K4 B4 he
    have fd : fireP (mem 69) (mem 68 1) sA = (((((numP (mem 69) (mem 68 1) 3 8 sA).bind (stP manyG)).bind (numP (mem 69) (mem 68 1) 0 9)).bind (stP (putG 24))).bind (numP (mem 69) (mem 68 1) 0 9)).bind (stP (putG 25)) := rfl
    have d46 : sA.2 46 ≤ 6 := by rw [dA]; exact h46.2
    refine aw_aload_n dX5_readFire_15 rfl rfl ?_
    refine aw_iconst dX5_readFire_16 rfl ?_
    refine aw_putZ (kI := 8) dX5_readFire_17 rfl fp_X5_84 (by omega) g67 (by rfl) rfl ?_
    refine aw_aload_n dX5_readFire_20 rfl rfl ?_
    refine aw_getR dX5_readFire_21 rfl fl_X5_21 g67 (by rfl) ?_
    refine aw_getR dX5_readFire_24 rfl fl_X5_88 g70 (by rfl) ?_
    refine aw_aload_n dX5_readFire_27 rfl rfl ?_
    refine aw_getR dX5_readFire_28 rfl fl_X5_12 g67 (by rfl) ?_
    refine aw_iconst dX5_readFire_31 rfl ?_
    refine aw_bipush dX5_readFire_32 rfl (by decide) ?_
    refine aw_callV [_, _] _ dX5_readFire_34 rfl clv_X5_147 (by decide) ⟨Nat.zero_le _, Nat.zero_le _⟩ g68 (by rfl) (Nat.le_of_ble_eq_true rfl) rfl ?_
    refine sC_num sA K1 (by rw [mset_ne (by decide)]; exact e5) (by rw [mset_ne (by decide), e4, pA]) (by omega) (fun m2 a f2 k2 b2 n2 => t37 m2 a k2 b2 (by rw [lp2, fd, n2]; rfl)) (fun m2 v f2 k2 z5 z3 z4 zx zk vr zr n2 => ?_)
    rw [n2] at fd
    have F2 : RdF sA m2 := F1.fr d46 f2
    refine aw_putI (kI := 0) dX5_readFire_37 rfl fp_X5_151 g71 (by rfl) rfl ?_
    have K3 := k2.set (c := 71) (k := 0) (v := v) (by omega) (k2.2.2.2.2.2.2.s71 (by omega) (by omega))
    have F3 : RdF (manyG (fset (fset sA.1 1 v) 0 (tkE (mem 69) (mem 68 1) sA.p), sA.2)) (mset m2 71 0 v) := F2.fire d46 (FrI.rf.set (by decide)) F2.2.1.c0 rfl rfl rfl rfl rfl (fun j hj => rfl)
    have fd2 : fireP (mem 69) (mem 68 1) sA = (((numP (mem 69) (mem 68 1) 0 9 (manyG (fset (fset sA.1 1 v) 0 (tkE (mem 69) (mem 68 1) sA.p), sA.2))).bind (stP (putG 24))).bind (numP (mem 69) (mem 68 1) 0 9)).bind (stP (putG 25)) := fd
    obtain ⟨sB, hs2⟩ : ∃ x : PSt, manyG (fset (fset sA.1 1 v) 0 (tkE (mem 69) (mem 68 1) sA.p), sA.2) = x := ⟨_, rfl⟩
    rw [hs2] at F3 fd2
    have pB : sB.p = tkE (mem 69) (mem 68 1) sA.p := by rw [← hs2]; rfl
    have dB : sB.2 46 ≤ 6 := by rw [← hs2]; exact d46
    refine aw_aload_n dX5_readFire_40 rfl rfl ?_
    refine aw_getR dX5_readFire_41 rfl fl_X5_21 g67 (by rfl) ?_
    refine aw_getR dX5_readFire_44 rfl fl_X5_88 g70 (by rfl) ?_
    refine aw_aload_n dX5_readFire_47 rfl rfl ?_
    refine aw_getR dX5_readFire_48 rfl fl_X5_12 g67 (by rfl) ?_
    refine aw_iconst dX5_readFire_51 rfl ?_
    refine aw_bipush dX5_readFire_52 rfl (by decide) ?_
    refine aw_callV [_, _] _ dX5_readFire_54 rfl clv_X5_147 (by decide) ⟨Nat.zero_le _, Nat.zero_le _⟩ g68 (by rfl) (Nat.le_of_ble_eq_true rfl) rfl ?_
    refine sC_num sB K3 (by rw [mset_ne (by decide)]; exact z5) (by rw [mset_ne (by decide), z4, pB]) (by omega) (fun m4 a f4 k4 b4 n4 => t57 m4 a k4 b4 (by rw [lp2, fd2, n4]; rfl)) (fun m4 v4 f4 k4 y5 y3 y4 yx yk vr4 zr4 n4 => ?_)
    rw [n4] at fd2
    have F4 : RdF sB m4 := F3.fr dB f4
    refine aw_putI (kI := 1) dX5_readFire_57 rfl fp_X5_154 g71 (by rfl) rfl ?_
    have K5 := k4.set (c := 71) (k := 1) (v := v4) (by omega) (k4.2.2.2.2.2.2.s71 (by omega) (by omega))
    have F5 : RdF (putG 24 (fset (fset sB.1 1 v4) 0 (tkE (mem 69) (mem 68 1) sB.p), sB.2)) (mset m4 71 1 v4) := F4.fire dB (FrI.rf.set (by decide)) (F4.2.1.c12 (k := 0) (by omega)) rfl rfl rfl rfl rfl (fun j hj => fset_ne (by omega))
    have fd3 : fireP (mem 69) (mem 68 1) sA = (numP (mem 69) (mem 68 1) 0 9 (putG 24 (fset (fset sB.1 1 v4) 0 (tkE (mem 69) (mem 68 1) sB.p), sB.2))).bind (stP (putG 25)) := fd2
    have dC0 : (putG 24 (fset (fset sB.1 1 v4) 0 (tkE (mem 69) (mem 68 1) sB.p), sB.2)).2 46 ≤ 6 := dB
    obtain ⟨sC, hs4⟩ : ∃ x : PSt, putG 24 (fset (fset sB.1 1 v4) 0 (tkE (mem 69) (mem 68 1) sB.p), sB.2) = x := ⟨_, rfl⟩
    rw [hs4] at F5 fd3 dC0
    have pC : sC.p = tkE (mem 69) (mem 68 1) sB.p := by rw [← hs4]; rfl
    refine aw_aload_n dX5_readFire_60 rfl rfl ?_
    refine aw_getR dX5_readFire_61 rfl fl_X5_21 g67 (by rfl) ?_
    refine aw_getR dX5_readFire_64 rfl fl_X5_88 g70 (by rfl) ?_
    refine aw_aload_n dX5_readFire_67 rfl rfl ?_
    refine aw_getR dX5_readFire_68 rfl fl_X5_12 g67 (by rfl) ?_
    refine aw_iconst dX5_readFire_71 rfl ?_
    refine aw_bipush dX5_readFire_72 rfl (by decide) ?_
    refine aw_callV [_, _] _ dX5_readFire_74 rfl clv_X5_147 (by decide) ⟨Nat.zero_le _, Nat.zero_le _⟩ g68 (by rfl) (Nat.le_of_ble_eq_true rfl) rfl ?_
    refine sC_num sC K5 (by rw [mset_ne (by decide)]; exact y5) (by rw [mset_ne (by decide), y4, pC]) (by omega) (fun m6 a f6 k6 b6 n6 => t77 m6 a k6 b6 (by rw [lp2, fd3, n6]; rfl)) (fun m6 v6 f6 k6 x5 x3 x4 xx xk vr6 zr6 n6 => ?_)
    rw [n6] at fd3
    have F6 : RdF sC m6 := F5.fr dC0 f6
    refine aw_putI (kI := 2) dX5_readFire_77 rfl fp_X5_157 g71 (by rfl) rfl ?_
    have K7 := k6.set (c := 71) (k := 2) (v := v6) (by omega) (k6.2.2.2.2.2.2.s71 (by omega) (by omega))
    have F7 : RdF (putG 25 (fset (fset sC.1 1 v6) 0 (tkE (mem 69) (mem 68 1) sC.p), sC.2)) (mset m6 71 2 v6) := F6.fire dC0 (FrI.rf.set (by decide)) (F6.2.1.c12 (k := 1) (by omega)) rfl rfl rfl rfl rfl (fun j hj => fset_ne (by omega))
    have fd4 : fireP (mem 69) (mem 68 1) sA = .ok (putG 25 (fset (fset sC.1 1 v6) 0 (tkE (mem 69) (mem 68 1) sC.p), sC.2)) := fd3
    have dD : (putG 25 (fset (fset sC.1 1 v6) 0 (tkE (mem 69) (mem 68 1) sC.p), sC.2)).2 46 ≤ 6 := dC0
    obtain ⟨sD, hs6⟩ : ∃ x : PSt, putG 25 (fset (fset sC.1 1 v6) 0 (tkE (mem 69) (mem 68 1) sC.p), sC.2) = x := ⟨_, rfl⟩
    rw [hs6] at F7 fd4 dD
    have pD : sD.p = tkE (mem 69) (mem 68 1) sC.p := by rw [← hs6]; rfl
    refine aw_aload_n dX5_readFire_80 rfl rfl ?_
    refine aw_getR dX5_readFire_81 rfl fl_X5_12 g67 (by rfl) ?_
    refine aw_callV [] _ dX5_readFire_84 rfl clv_X5_160 (by decide) ⟨Nat.zero_le _, Nat.zero_le _⟩ g68 (by rfl) (Nat.le_of_ble_eq_true rfl) rfl ?_
    refine sC_mark sD K7 (by rw [mset_ne (by decide)]; exact x5) (by rw [mset_ne (by decide), x4, pD]) (fun m8 a f8 k8 b8 n8 => ?_) (fun m8 f8 k8 w5 w4 n8 => ?_)
    · refine aw_return dX5_readFire_87 rfl ?_
      first | exact kb m8 a k8 b8 (by rw [lp2, fd4]; exact n8) | (refine k m8 k8 ?_; rw [lp2, fd4]; show CmpR (markP (mem 69) (mem 68 1) sD) m8; rw [n8]; exact ⟨w5, w4, F7.fr dD f8⟩)
    · refine aw_return dX5_readFire_87 rfl ?_
      first | exact kb m8 a k8 b8 (by rw [lp2, fd4]; exact n8) | (refine k m8 k8 ?_; rw [lp2, fd4]; show CmpR (markP (mem 69) (mem 68 1) sD) m8; rw [n8]; exact ⟨w5, w4, F7.fr dD f8⟩)
  have s7 : ¬ s.1 6 = 0 → AW Γ mX5_readFire (zF Γ zG Q) zG 0 0 7 [some (vR 67)] [] mem := by
    intro h6
    rw [if_pos ⟨rfl, h6⟩] at la
    have lp := lineP_err la
    refine aw_aload_n dX5_readFire_7 rfl rfl ?_
    refine aw_getR dX5_readFire_8 rfl fl_X5_12 g67 (by rfl) ?_
    refine aw_iconst dX5_readFire_11 rfl ?_
    refine aw_callV [_] _ dX5_readFire_12 rfl clv_X5_143 (by decide) ⟨Nat.zero_le _, Nat.zero_le _⟩ g68 (by rfl) (Nat.le_of_ble_eq_true rfl) rfl ?_
    refine sC_flt K0 (by omega) e5 (fun m1 f1 k1 b1 => ?_)
    exact tail m1 _ k1 b1 (by rw [lp, e3])
  have z8 := hF.1.2.1
  have w6 := w.1.1
  refine AMet.of' 0 (ls := [some (vR (67))]) (by decide) rfl (Nat.le_of_ble_eq_true rfl) ?_
  refine aw_aload_n dX5_readFire_0 rfl rfl ?_
  refine aw_getI (kI := 8) dX5_readFire_1 rfl fl_X5_84 g67 (by rfl) rfl ?_
  rw [z8]
  refine aw_if_eq (tgt := 15) dX5_readFire_4 (by decide) rfl (by omega) (fun c4 => ?_) (fun c4 => ?_)
  · exact s15 (by omega)
  · exact s7 (by omega)
end ZCmp25
