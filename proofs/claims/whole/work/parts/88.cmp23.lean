theorem nm4 {t : Int → Int} {L b e : Int} {j : Nat} (h : zlen.getD j 0 = 4) : nmP t L b e j ↔ (isN t L b e 4 (zby j 0) (zby j 1) (zby j 2) ∧ lookF t L (b + 3) = zby j 3) := by
  unfold nmP isN
  rw [h]
  constructor
  · intro ⟨h1, h2⟩
    refine ⟨⟨h1, ?_, h2 1 (by decide), h2 2 (by decide)⟩, h2 3 (by decide)⟩
    have := h2 0 (by decide)
    rw [show b + ((0 : Nat) : Int) = b by omega] at this
    exact this
  · intro ⟨⟨h1, h2, h3, h4⟩, h5⟩
    refine ⟨h1, fun i hi => ?_⟩
    match i, hi with
    | 0, _ => rw [show b + ((0 : Nat) : Int) = b by omega]; exact h2
    | 1, _ => exact h3
    | 2, _ => exact h4
    | 3, _ => exact h5
    | i + 4, hi => omega
theorem nm3 {t : Int → Int} {L b e : Int} {j : Nat} (h : zlen.getD j 0 = 3) : nmP t L b e j ↔ isN t L b e 3 (zby j 0) (zby j 1) (zby j 2) := by
  unfold nmP isN
  rw [h]
  constructor
  · intro ⟨h1, h2⟩
    refine ⟨h1, ?_, h2 1 (by decide), h2 2 (by decide)⟩
    have := h2 0 (by decide)
    rw [show b + ((0 : Nat) : Int) = b by omega] at this
    exact this
  · intro ⟨h1, h2, h3, h4⟩
    refine ⟨h1, fun i hi => ?_⟩
    match i, hi with
    | 0, _ => rw [show b + ((0 : Nat) : Int) = b by omega]; exact h2
    | 1, _ => exact h3
    | 2, _ => exact h4
    | i + 3, hi => omega
theorem wrapN_nm {t : Int → Int} {L b e : Int} : wrapN t L b e = @ite Int (nmP t L b e 6) (Classical.propDecidable _) 0 (@ite Int (nmP t L b e 7) (Classical.propDecidable _) 1 (@ite Int (nmP t L b e 8) (Classical.propDecidable _) 2 (-4))) := by
  have h6 := nm4 (t := t) (L := L) (b := b) (e := e) (j := 6) (by decide)
  have h7 := nm4 (t := t) (L := L) (b := b) (e := e) (j := 7) (by decide)
  have h8 := nm4 (t := t) (L := L) (b := b) (e := e) (j := 8) (by decide)
  rw [show zby 6 0 = 98 by decide +kernel, show zby 6 1 = 97 by decide +kernel, show zby 6 2 = 114 by decide +kernel, show zby 6 3 = 101 by decide +kernel] at h6
  rw [show zby 7 0 = 99 by decide +kernel, show zby 7 1 = 108 by decide +kernel, show zby 7 2 = 97 by decide +kernel, show zby 7 3 = 121 by decide +kernel] at h7
  rw [show zby 8 0 = 102 by decide +kernel, show zby 8 1 = 111 by decide +kernel, show zby 8 2 = 105 by decide +kernel, show zby 8 3 = 108 by decide +kernel] at h8
  unfold wrapN
  by_cases c6 : nmP t L b e 6
  · rw [if_pos (h6.mp c6), if_pos c6]
  · rw [if_neg (fun z => c6 (h6.mpr z)), if_neg c6]
    by_cases c7 : nmP t L b e 7
    · rw [if_pos (h7.mp c7), if_pos c7]
    · rw [if_neg (fun z => c7 (h7.mpr z)), if_neg c7]
      by_cases c8 : nmP t L b e 8
      · rw [if_pos (h8.mp c8), if_pos c8]
      · rw [if_neg (fun z => c8 (h8.mpr z)), if_neg c8]
theorem lineN_nm {t : Int → Int} {L b e : Int} : lineN t L b e = @ite Int (nmP t L b e 0) (Classical.propDecidable _) 0 (@ite Int (nmP t L b e 1) (Classical.propDecidable _) 1 (@ite Int (nmP t L b e 2) (Classical.propDecidable _) 2 (@ite Int (nmP t L b e 3) (Classical.propDecidable _) 3 (@ite Int (nmP t L b e 4) (Classical.propDecidable _) 4 (@ite Int (nmP t L b e 5) (Classical.propDecidable _) 5 (-4)))))) := by
  have h0 := nm4 (t := t) (L := L) (b := b) (e := e) (j := 0) (by decide)
  have h1 := nm4 (t := t) (L := L) (b := b) (e := e) (j := 1) (by decide)
  have h2 := nm4 (t := t) (L := L) (b := b) (e := e) (j := 2) (by decide)
  have h3 := nm4 (t := t) (L := L) (b := b) (e := e) (j := 3) (by decide)
  have h4 := nm3 (t := t) (L := L) (b := b) (e := e) (j := 4) (by decide)
  have h5 := nm4 (t := t) (L := L) (b := b) (e := e) (j := 5) (by decide)
  rw [show zby 0 0 = 102 by decide +kernel, show zby 0 1 = 105 by decide +kernel, show zby 0 2 = 114 by decide +kernel, show zby 0 3 = 101 by decide +kernel] at h0
  rw [show zby 1 0 = 104 by decide +kernel, show zby 1 1 = 101 by decide +kernel, show zby 1 2 = 97 by decide +kernel, show zby 1 3 = 116 by decide +kernel] at h1
  rw [show zby 2 0 = 119 by decide +kernel, show zby 2 1 = 111 by decide +kernel, show zby 2 2 = 111 by decide +kernel, show zby 2 3 = 100 by decide +kernel] at h2
  rw [show zby 3 0 = 115 by decide +kernel, show zby 3 1 = 112 by decide +kernel, show zby 3 2 = 117 by decide +kernel, show zby 3 3 = 100 by decide +kernel] at h3
  rw [show zby 4 0 = 111 by decide +kernel, show zby 4 1 = 117 by decide +kernel, show zby 4 2 = 116 by decide +kernel] at h4
  rw [show zby 5 0 = 109 by decide +kernel, show zby 5 1 = 101 by decide +kernel, show zby 5 2 = 109 by decide +kernel, show zby 5 3 = 111 by decide +kernel] at h5
  unfold lineN
  by_cases c0 : nmP t L b e 0
  · rw [if_pos (h0.mp c0), if_pos c0]
  · rw [if_neg (fun z => c0 (h0.mpr z)), if_neg c0]
    by_cases c1 : nmP t L b e 1
    · rw [if_pos (h1.mp c1), if_pos c1]
    · rw [if_neg (fun z => c1 (h1.mpr z)), if_neg c1]
      by_cases c2 : nmP t L b e 2
      · rw [if_pos (h2.mp c2), if_pos c2]
      · rw [if_neg (fun z => c2 (h2.mpr z)), if_neg c2]
        by_cases c3 : nmP t L b e 3
        · rw [if_pos (h3.mp c3), if_pos c3]
        · rw [if_neg (fun z => c3 (h3.mpr z)), if_neg c3]
          by_cases c4 : nmP t L b e 4
          · rw [if_pos (h4.mp c4), if_pos c4]
          · rw [if_neg (fun z => c4 (h4.mpr z)), if_neg c4]
            by_cases c5 : nmP t L b e 5
            · rw [if_pos (h5.mp c5), if_pos c5]
            · rw [if_neg (fun z => c5 (h5.mpr z)), if_neg c5]
def markP (t : Int → Int) (L : Int) (s : PSt) : Except Int PSt := (chkP k2 t L (fun s => tkK t L s.p = 3) s).bind (advP t L)
/-- a check at a token, and behind it -/
theorem chk_adv {cd : PSt → Int} {t : Int → Int} {L : Int} {c : PSt → Prop} [∀ s, Decidable (c s)] {G : PSt → PSt} (hG : ∀ s, (G s).1 0 = s.1 0) (s : PSt) : ((chkP cd t L c s).bind (stP G)).bind (advP t L) = if tkX t L s.p then .error (erX t L s.p) else if c s then .ok (fset (G s).1 0 (tkE t L s.p), (G s).2) else .error (8 * tkB t L s.p + cd s) := by
  have ep : (G s).p = s.p := hG s
  unfold chkP
  split
  · rfl
  · next hx =>
    split
    · show advP t L (G s) = _
      unfold advP
      rw [ep, if_neg hx]
    · rfl
theorem mark_eq {t : Int → Int} {L : Int} (s : PSt) : markP t L s = if tkX t L s.p then .error (erX t L s.p) else if tkK t L s.p = 3 then .ok (fset s.1 0 (tkE t L s.p), s.2) else .error (8 * tkB t L s.p + 2) := by
  unfold markP chkP
  split
  · rfl
  · next hx =>
    split
    · show advP t L s = _
      unfold advP
      rw [if_neg hx]
    · rfl
section ZCmp23
variable {Γ : ZG} {mem : Mem} {Q : Option AV → Mem → Prop}
/-- a fault is put down where there was none -/
theorem bad_set {m m2 : Mem} {c : Int} (hN : TpN m) (hc : 1 ≤ c ∧ c ≤ 6) (em : m2 = mset (mset m 68 5 c) 68 6 (m 68 3)) : FrI m2 m 68 69 ∧ m2 68 1 = m 68 1 ∧ TBad (8 * m 68 3 + c) m2 ∧ TpN m2 := by
  have g5 : m2 68 5 = c := by rw [em, mset_same, fset_ne (by decide), mset_same, fset_same]
  have g6 : m2 68 6 = m 68 3 := by rw [em, mset_same, fset_same]
  have gj : ∀ j : Int, ¬ j = 5 → ¬ j = 6 → m2 68 j = m 68 j := fun j a b => by rw [em, mset_same, fset_ne b, mset_same, fset_ne a]
  obtain ⟨n2, n3, n4, n5⟩ := hN
  refine ⟨by rw [em]; exact (FrI.rf.set (by decide)).set (by decide), gj 1 (by decide) (by decide), ⟨by omega, by omega⟩, ⟨?_, ?_, ?_, by omega⟩⟩
  · rw [gj 2 (by decide) (by decide)]; exact n2
  · rw [gj 3 (by decide) (by decide), gj 1 (by decide) (by decide)]; exact n3
  · rw [gj 4 (by decide) (by decide), gj 1 (by decide) (by decide)]; exact n4
theorem sC_takeMarkB (hN : TpN mem) (h5 : 0 < mem 68 5) (k : Q none mem) : AMet Γ mX8_takeMark [vR 68] zG mem Q := by
  obtain ⟨n2, n3, n4, n5⟩ := hN
  refine AMet.of' 0 (ls := [some (vR (68))]) (by decide) rfl (Nat.le_of_ble_eq_true rfl) ?_
  refine aw_aload_n dX8_takeMark_0 rfl rfl ?_
  refine aw_callV [] _ dX8_takeMark_1 rfl clv_X8_66 (by decide) ⟨Nat.zero_le _, Nat.zero_le _⟩ g68 (by rfl) (Nat.le_of_ble_eq_true rfl) rfl ?_
  refine sC_advanceB (by omega) ?_
  refine aw_aload_n dX8_takeMark_4 rfl rfl ?_
  refine aw_getI (kI := 2) dX8_takeMark_5 rfl fl_X8_17 (by first | assumption | rfl) (by rfl) rfl ?_
  refine aw_iconst dX8_takeMark_8 rfl ?_
  refine aw_icmp_eq (tgt := 17) dX8_takeMark_9 (by decide) rfl (by omega) (by omega) (fun c9 => ?_) (fun c9 => ?_)
  · refine aw_return dX8_takeMark_17 rfl ?_
    first | exact k | (exfalso; omega)
  · refine aw_aload_n dX8_takeMark_12 rfl rfl ?_
    refine aw_iconst dX8_takeMark_13 rfl ?_
    refine aw_callV [_] _ dX8_takeMark_14 rfl clv_X8_50 (by decide) ⟨Nat.zero_le _, Nat.zero_le _⟩ g68 (by rfl) (Nat.le_of_ble_eq_true rfl) rfl ?_
    refine sC_fail (by omega) (fun c6 => ?_) (fun c6 => ?_)
    · refine aw_return dX8_takeMark_17 rfl ?_
      first | exact k | (exfalso; omega)
    · refine aw_return dX8_takeMark_17 rfl ?_
      first | exact k | (exfalso; omega)
theorem sC_takeMark (hT : TpC mem) (h5 : mem 68 5 = 0) (hp : 0 ≤ mem 68 4 ∧ mem 68 4 ≤ mem 68 1)
    (kb : ∀ (m' : Mem) (a : Int), FrI m' mem 68 69 → m' 68 1 = mem 68 1 → TBad a m' → TpN m' → (∀ s : PSt, s.p = mem 68 4 → markP (mem 69) (mem 68 1) s = .error a) → Q none m')
    (kg : ∀ m' : Mem, FrI m' mem 68 69 → m' 68 1 = mem 68 1 → m' 68 5 = 0 → m' 68 4 = tkE (mem 69) (mem 68 1) (mem 68 4) → TpN m' → (∀ s : PSt, s.p = mem 68 4 → markP (mem 69) (mem 68 1) s = .ok (fset s.1 0 (tkE (mem 69) (mem 68 1) (mem 68 4)), s.2)) → Q none m') : AMet Γ mX8_takeMark [vR 68] zG mem Q := by
  have kK := kdF_K (t := mem 69) hp
  have s4 : ∀ (m : Mem), FrI m mem 68 69 → TkR m (mem 69) (mem 68 1) (mem 68 4) → AW Γ mX8_takeMark (zF Γ zG Q) zG 0 0 4 [some (vR 68)] [] m := by
    intro m hF hR
    have hN := hR.n hp
    obtain ⟨e1, e3, e4, e2, ex, en⟩ := id hR
    obtain ⟨n2, n3, n4, n5⟩ := id hN
    have q3 := kK.2.2.2.1
    rw [← e2] at q3
    have k17 : tkX (mem 69) (mem 68 1) (mem 68 4) → Q none m := by
      intro hx
      obtain ⟨f5, f6⟩ := ex hx
      exact kb m (erX (mem 69) (mem 68 1) (mem 68 4)) hF e1 ⟨by omega, by unfold erX; omega⟩ hN (fun s hs => by rw [mark_eq, if_pos (by rw [hs]; exact hx), hs])
    have kok : ¬ tkX (mem 69) (mem 68 1) (mem 68 4) → tkK (mem 69) (mem 68 1) (mem 68 4) = 3 → Q none m := fun hx h3 => kg m hF e1 (en hx) e4 hN (fun s hs => by rw [mark_eq, if_neg (by rw [hs]; exact hx), if_pos (by rw [hs]; exact h3), hs])
    have kno : ¬ tkX (mem 69) (mem 68 1) (mem 68 4) → ¬ m 68 2 = 3 → Q none (mset (mset m 68 5 2) 68 6 (m 68 3)) := by
      intro hx h3
      obtain ⟨b1, b2, b3, b4⟩ := bad_set (c := 2) hN (by omega) rfl
      refine kb _ _ (b1.tr hF) (by rw [b2]; exact e1) b3 b4 (fun s hs => ?_)
      rw [mark_eq, if_neg (by rw [hs]; exact hx), if_neg (fun z => h3 (q3.mpr ⟨by rw [hs] at z; exact z, ?_⟩)), hs, e3]
      rw [hs] at z
      exact Classical.byContradiction (fun y => hx (Or.inr ⟨z, y⟩))
    refine aw_aload_n dX8_takeMark_4 rfl rfl ?_
    refine aw_getI (kI := 2) dX8_takeMark_5 rfl fl_X8_17 (by first | assumption | rfl) (by rfl) rfl ?_
    refine aw_iconst dX8_takeMark_8 rfl ?_
    refine aw_icmp_eq (tgt := 17) dX8_takeMark_9 (by decide) rfl (by omega) (by omega) (fun c9 => ?_) (fun c9 => ?_)
    · refine aw_return dX8_takeMark_17 rfl ?_
      by_cases hx : tkX (mem 69) (mem 68 1) (mem 68 4)
      · first | exact k17 hx | (exfalso; have := (ex hx).1; omega)
      · have e5 := en hx
        first | (have hz := c6; exact absurd e5 hz) | (have hz := c6; exact kno hx c9) | exact kok hx (q3.mp (by omega)).1
    · refine aw_aload_n dX8_takeMark_12 rfl rfl ?_
      refine aw_iconst dX8_takeMark_13 rfl ?_
      refine aw_callV [_] _ dX8_takeMark_14 rfl clv_X8_50 (by decide) ⟨Nat.zero_le _, Nat.zero_le _⟩ g68 (by rfl) (Nat.le_of_ble_eq_true rfl) rfl ?_
      refine sC_fail (by omega) (fun c6 => ?_) (fun c6 => ?_)
      · refine aw_return dX8_takeMark_17 rfl ?_
        by_cases hx : tkX (mem 69) (mem 68 1) (mem 68 4)
        · first | exact k17 hx | (exfalso; have := (ex hx).1; omega)
        · have e5 := en hx
          first | (have hz := c6; exact absurd e5 hz) | (have hz := c6; exact kno hx c9) | exact kok hx (q3.mp (by omega)).1
      · refine aw_return dX8_takeMark_17 rfl ?_
        by_cases hx : tkX (mem 69) (mem 68 1) (mem 68 4)
        · first | exact k17 hx | (exfalso; have := (ex hx).1; omega)
        · have e5 := en hx
          first | (have hz := c6; exact absurd e5 hz) | (have hz := c6; exact kno hx c9) | exact kok hx (q3.mp (by omega)).1
  refine AMet.of' 0 (ls := [some (vR (68))]) (by decide) rfl (Nat.le_of_ble_eq_true rfl) ?_
  refine aw_aload_n dX8_takeMark_0 rfl rfl ?_
  refine aw_callV [] _ dX8_takeMark_1 rfl clv_X8_66 (by decide) ⟨Nat.zero_le _, Nat.zero_le _⟩ g68 (by rfl) (Nat.le_of_ble_eq_true rfl) rfl ?_
  refine sC_advance hT h5 hp (fun m1 f1 r1 => ?_)
  exact s4 m1 f1 r1
theorem sC_takeWrapB (hT : TpC mem) (hN : TpN mem) (h5 : 0 < mem 68 5) (k : ∀ v : Int, 0 ≤ v ∧ v ≤ 2 → Q (some (vI v)) mem) : AMet Γ mX8_takeWrap [vR 68] zG mem Q := by
  have hN' := hN
  obtain ⟨n2, n3, n4, n5⟩ := hN
  have s37 : AW Γ mX8_takeWrap (zF Γ zG Q) zG 0 0 37 [some (vR 68)] [] mem := by
    refine aw_aload_n dX8_takeWrap_37 rfl rfl ?_
    refine aw_iconst dX8_takeWrap_38 rfl ?_
    refine aw_callV [_] _ dX8_takeWrap_39 rfl clv_X8_50 (by decide) ⟨Nat.zero_le _, Nat.zero_le _⟩ g68 (by rfl) (Nat.le_of_ble_eq_true rfl) rfl ?_
    refine sC_fail (by omega) (fun c6 => ?_) (fun c6 => ?_)
    · refine aw_iconst dX8_takeWrap_42 rfl ?_
      refine aw_ireturn (ty := .int) dX8_takeWrap_43 rfl rfl ?_
      first | exact k 0 (by omega) | (exfalso; omega)
    · refine aw_iconst dX8_takeWrap_42 rfl ?_
      refine aw_ireturn (ty := .int) dX8_takeWrap_43 rfl rfl ?_
      first | exact k 0 (by omega) | (exfalso; omega)
  refine AMet.of' 0 (ls := [some (vR (68))]) (by decide) rfl (Nat.le_of_ble_eq_true rfl) ?_
  refine aw_aload_n dX8_takeWrap_0 rfl rfl ?_
  refine aw_callV [] _ dX8_takeWrap_1 rfl clv_X8_66 (by decide) ⟨Nat.zero_le _, Nat.zero_le _⟩ g68 (by rfl) (Nat.le_of_ble_eq_true rfl) rfl ?_
  refine sC_advanceB (by omega) ?_
  refine aw_aload_n dX8_takeWrap_4 rfl rfl ?_
  refine aw_ldcS (j := 6) (by rfl) dX8_takeWrap_5 rfl ?_
  refine aw_callV [_] _ dX8_takeWrap_7 rfl clv_X8_71 (by decide) ⟨Nat.zero_le _, Nat.zero_le _⟩ g68 (by rfl) (Nat.le_of_ble_eq_true rfl) rfl ?_
  refine sC_isName (j := 6) (by decide) hT hN' (fun _ _ => ?_) (fun _ => ?_)
  · refine aw_if_eq (tgt := 15) dX8_takeWrap_10 (by decide) rfl (by omega) (fun c => absurd c (by decide)) (fun _ => ?_)
    refine aw_iconst dX8_takeWrap_13 rfl ?_
    refine aw_ireturn (ty := .int) dX8_takeWrap_14 rfl rfl ?_
    exact k _ (by omega)
  · refine aw_if_eq (tgt := 15) dX8_takeWrap_10 (by decide) rfl (by omega) (fun _ => ?_) (fun c => absurd c (by decide))
    refine aw_aload_n dX8_takeWrap_15 rfl rfl ?_
    refine aw_ldcS (j := 7) (by rfl) dX8_takeWrap_16 rfl ?_
    refine aw_callV [_] _ dX8_takeWrap_18 rfl clv_X8_71 (by decide) ⟨Nat.zero_le _, Nat.zero_le _⟩ g68 (by rfl) (Nat.le_of_ble_eq_true rfl) rfl ?_
    refine sC_isName (j := 7) (by decide) hT hN' (fun _ _ => ?_) (fun _ => ?_)
    · refine aw_if_eq (tgt := 26) dX8_takeWrap_21 (by decide) rfl (by omega) (fun c => absurd c (by decide)) (fun _ => ?_)
      refine aw_iconst dX8_takeWrap_24 rfl ?_
      refine aw_ireturn (ty := .int) dX8_takeWrap_25 rfl rfl ?_
      exact k _ (by omega)
    · refine aw_if_eq (tgt := 26) dX8_takeWrap_21 (by decide) rfl (by omega) (fun _ => ?_) (fun c => absurd c (by decide))
      refine aw_aload_n dX8_takeWrap_26 rfl rfl ?_
      refine aw_ldcS (j := 8) (by rfl) dX8_takeWrap_27 rfl ?_
      refine aw_callV [_] _ dX8_takeWrap_29 rfl clv_X8_71 (by decide) ⟨Nat.zero_le _, Nat.zero_le _⟩ g68 (by rfl) (Nat.le_of_ble_eq_true rfl) rfl ?_
      refine sC_isName (j := 8) (by decide) hT hN' (fun _ _ => ?_) (fun _ => ?_)
      · refine aw_if_eq (tgt := 37) dX8_takeWrap_32 (by decide) rfl (by omega) (fun c => absurd c (by decide)) (fun _ => ?_)
        refine aw_iconst dX8_takeWrap_35 rfl ?_
        refine aw_ireturn (ty := .int) dX8_takeWrap_36 rfl rfl ?_
        exact k _ (by omega)
      · refine aw_if_eq (tgt := 37) dX8_takeWrap_32 (by decide) rfl (by omega) (fun _ => ?_) (fun c => absurd c (by decide))
        exact s37
theorem wrap_eq {t : Int → Int} {L : Int} (s : PSt) : wrapP t L s = if tkX t L s.p then .error (erX t L s.p) else if ¬ wrapC t L s = -4 then .ok (fset (fset s.1 1 (wrapC t L s)) 0 (tkE t L s.p), s.2) else .error (8 * tkB t L s.p + 2) := by
  exact chk_adv (G := ghW t L) (fun _ => rfl) s
theorem sC_takeWrap (hT : TpC mem) (h5 : mem 68 5 = 0) (hp : 0 ≤ mem 68 4 ∧ mem 68 4 ≤ mem 68 1)
    (kb : ∀ (m' : Mem) (a : Int), FrI m' mem 68 69 → m' 68 1 = mem 68 1 → TBad a m' → TpN m' → (∀ s : PSt, s.p = mem 68 4 → wrapP (mem 69) (mem 68 1) s = .error a) → Q (some (vI 0)) m')
    (kg : ∀ (v : Int) (m' : Mem), FrI m' mem 68 69 → m' 68 1 = mem 68 1 → m' 68 5 = 0 → m' 68 4 = tkE (mem 69) (mem 68 1) (mem 68 4) → TpN m' → (0 ≤ v ∧ v ≤ 2) → (∀ s : PSt, s.p = mem 68 4 → wrapP (mem 69) (mem 68 1) s = .ok (fset (fset s.1 1 v) 0 (tkE (mem 69) (mem 68 1) (mem 68 4)), s.2)) → Q (some (vI v)) m') : AMet Γ mX8_takeWrap [vR 68] zG mem Q := by
  have kK := kdF_K (t := mem 69) hp
  have s4 : ∀ (m : Mem), FrI m mem 68 69 → TkR m (mem 69) (mem 68 1) (mem 68 4) → AW Γ mX8_takeWrap (zF Γ zG Q) zG 0 0 4 [some (vR 68)] [] m := by
    intro m hF hR
    have hN := hR.n hp
    obtain ⟨e1, e3, e4, e2, ex, en⟩ := id hR
    obtain ⟨n2, n3, n4, n5⟩ := id hN
    have m69 : m 69 = mem 69 := hF 69 (by omega)
    have tpm : TpC m := ⟨by rw [e1]; exact hT.1, fun i i0 i1 => by rw [m69]; exact hT.2 i i0 (by omega)⟩
    have q1 := kK.2.1
    rw [← e2] at q1
    have nx : m 68 2 = 1 → ¬ tkX (mem 69) (mem 68 1) (mem 68 4) := fun z y => by
      have h1 := q1.mp z
      rcases y with ⟨y1, y2⟩ | ⟨y1, y2⟩ <;> omega
    have wc : ∀ s : PSt, s.p = mem 68 4 → wrapC (mem 69) (mem 68 1) s = if m 68 2 = 1 then wrapN (m 69) (m 68 1) (m 68 3) (m 68 4) else -4 := by
      intro s hs
      unfold wrapC
      rw [hs, m69, e1, e3, e4]
      by_cases z : m 68 2 = 1
      · rw [if_pos (q1.mp z), if_pos z]
      · rw [if_neg (fun y => z (q1.mpr y)), if_neg z]
    have kok : ∀ v : Int, m 68 2 = 1 → wrapN (m 69) (m 68 1) (m 68 3) (m 68 4) = v → (0 ≤ v ∧ v ≤ 2) → Q (some (vI v)) m := by
      intro v hk hv rv
      refine kg v m hF e1 (en (nx hk)) e4 hN rv (fun s hs => ?_)
      rw [wrap_eq, if_neg (by rw [hs]; exact nx hk), if_pos (by rw [wc s hs, if_pos hk, hv]; omega), wc s hs, if_pos hk, hv, hs]
    have s37 : (m 68 2 = 1 → wrapN (m 69) (m 68 1) (m 68 3) (m 68 4) = -4) → AW Γ mX8_takeWrap (zF Γ zG Q) zG 0 0 37 [some (vR 68)] [] m := by
      intro hw
      have w4 : ∀ s : PSt, s.p = mem 68 4 → wrapC (mem 69) (mem 68 1) s = -4 := fun s hs => by
        rw [wc s hs]
        split
        · next z => exact hw z
        · rfl
      have kno : m 68 5 = 0 → Q (some (vI 0)) (mset (mset m 68 5 2) 68 6 (m 68 3)) := by
        intro e5
        have hx : ¬ tkX (mem 69) (mem 68 1) (mem 68 4) := fun y => by have := (ex y).1; omega
        obtain ⟨b1, b2, b3, b4⟩ := bad_set (c := 2) hN (by omega) rfl
        refine kb _ _ (b1.tr hF) (by rw [b2]; exact e1) b3 b4 (fun s hs => ?_)
        rw [wrap_eq, if_neg (by rw [hs]; exact hx), if_neg (fun z => z (w4 s hs)), hs, e3]
      have kbx : ¬ m 68 5 = 0 → Q (some (vI 0)) m := by
        intro e5
        have hx : tkX (mem 69) (mem 68 1) (mem 68 4) := Classical.byContradiction (fun y => e5 (en y))
        obtain ⟨f5, f6⟩ := ex hx
        exact kb m (erX (mem 69) (mem 68 1) (mem 68 4)) hF e1 ⟨by omega, by unfold erX; omega⟩ hN (fun s hs => by rw [wrap_eq, if_pos (by rw [hs]; exact hx), hs])
      refine aw_aload_n dX8_takeWrap_37 rfl rfl ?_
      refine aw_iconst dX8_takeWrap_38 rfl ?_
      refine aw_callV [_] _ dX8_takeWrap_39 rfl clv_X8_50 (by decide) ⟨Nat.zero_le _, Nat.zero_le _⟩ g68 (by rfl) (Nat.le_of_ble_eq_true rfl) rfl ?_
      refine sC_fail (by omega) (fun c6 => ?_) (fun c6 => ?_)
      · refine aw_iconst dX8_takeWrap_42 rfl ?_
        refine aw_ireturn (ty := .int) dX8_takeWrap_43 rfl rfl ?_
        first | exact kno c6 | exact kbx c6
      · refine aw_iconst dX8_takeWrap_42 rfl ?_
        refine aw_ireturn (ty := .int) dX8_takeWrap_43 rfl rfl ?_
        first | exact kno c6 | exact kbx c6
    have wn := wrapN_nm (t := m 69) (L := m 68 1) (b := m 68 3) (e := m 68 4)
    refine aw_aload_n dX8_takeWrap_4 rfl rfl ?_
    refine aw_ldcS (j := 6) (by rfl) dX8_takeWrap_5 rfl ?_
    refine aw_callV [_] _ dX8_takeWrap_7 rfl clv_X8_71 (by decide) ⟨Nat.zero_le _, Nat.zero_le _⟩ g68 (by rfl) (Nat.le_of_ble_eq_true rfl) rfl ?_
    refine sC_isName (j := 6) (by decide) tpm hN (fun a6 b6 => ?_) (fun b6 => ?_)
    · refine aw_if_eq (tgt := 15) dX8_takeWrap_10 (by decide) rfl (by omega) (fun c => absurd c (by decide)) (fun _ => ?_)
      refine aw_iconst dX8_takeWrap_13 rfl ?_
      refine aw_ireturn (ty := .int) dX8_takeWrap_14 rfl rfl ?_
      exact kok 0 a6 (by rw [wn, if_pos b6]) (by omega)
    · refine aw_if_eq (tgt := 15) dX8_takeWrap_10 (by decide) rfl (by omega) (fun _ => ?_) (fun c => absurd c (by decide))
      refine aw_aload_n dX8_takeWrap_15 rfl rfl ?_
      refine aw_ldcS (j := 7) (by rfl) dX8_takeWrap_16 rfl ?_
      refine aw_callV [_] _ dX8_takeWrap_18 rfl clv_X8_71 (by decide) ⟨Nat.zero_le _, Nat.zero_le _⟩ g68 (by rfl) (Nat.le_of_ble_eq_true rfl) rfl ?_
      refine sC_isName (j := 7) (by decide) tpm hN (fun a7 b7 => ?_) (fun b7 => ?_)
      · refine aw_if_eq (tgt := 26) dX8_takeWrap_21 (by decide) rfl (by omega) (fun c => absurd c (by decide)) (fun _ => ?_)
        refine aw_iconst dX8_takeWrap_24 rfl ?_
        refine aw_ireturn (ty := .int) dX8_takeWrap_25 rfl rfl ?_
        exact kok 1 a7 (by rw [wn, if_neg (fun y => b6 ⟨a7, y⟩), if_pos b7]) (by omega)
      · refine aw_if_eq (tgt := 26) dX8_takeWrap_21 (by decide) rfl (by omega) (fun _ => ?_) (fun c => absurd c (by decide))
        refine aw_aload_n dX8_takeWrap_26 rfl rfl ?_
        refine aw_ldcS (j := 8) (by rfl) dX8_takeWrap_27 rfl ?_
        refine aw_callV [_] _ dX8_takeWrap_29 rfl clv_X8_71 (by decide) ⟨Nat.zero_le _, Nat.zero_le _⟩ g68 (by rfl) (Nat.le_of_ble_eq_true rfl) rfl ?_
        refine sC_isName (j := 8) (by decide) tpm hN (fun a8 b8 => ?_) (fun b8 => ?_)
        · refine aw_if_eq (tgt := 37) dX8_takeWrap_32 (by decide) rfl (by omega) (fun c => absurd c (by decide)) (fun _ => ?_)
          refine aw_iconst dX8_takeWrap_35 rfl ?_
          refine aw_ireturn (ty := .int) dX8_takeWrap_36 rfl rfl ?_
          exact kok 2 a8 (by rw [wn, if_neg (fun y => b6 ⟨a8, y⟩), if_neg (fun y => b7 ⟨a8, y⟩), if_pos b8]) (by omega)
        · refine aw_if_eq (tgt := 37) dX8_takeWrap_32 (by decide) rfl (by omega) (fun _ => ?_) (fun c => absurd c (by decide))
          exact s37 (fun z => by rw [wn, if_neg (fun y => b6 ⟨z, y⟩), if_neg (fun y => b7 ⟨z, y⟩), if_neg (fun y => b8 ⟨z, y⟩)])
  refine AMet.of' 0 (ls := [some (vR (68))]) (by decide) rfl (Nat.le_of_ble_eq_true rfl) ?_
  refine aw_aload_n dX8_takeWrap_0 rfl rfl ?_
  refine aw_callV [] _ dX8_takeWrap_1 rfl clv_X8_66 (by decide) ⟨Nat.zero_le _, Nat.zero_le _⟩ g68 (by rfl) (Nat.le_of_ble_eq_true rfl) rfl ?_
  refine sC_advance hT h5 hp (fun m1 f1 r1 => ?_)
  exact s4 m1 f1 r1
end ZCmp23
