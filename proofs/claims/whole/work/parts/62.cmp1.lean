/-! THE COMPONENT: how an evening's cells hold a row -/
def SpR (g f : Int → Int) (p : Int) : Prop := g 0 = f (47 + 8 * p + 0) ∧ g 1 = f (47 + 8 * p + 1) ∧ g 2 = f (47 + 8 * p + 2) ∧ g 3 = f (47 + 8 * p + 3) ∧ g 4 = f (47 + 8 * p + (4 + f (47 + 8 * p + 6))) ∧ g 5 = f (47 + 8 * p + (5 - f (47 + 8 * p + 6))) ∧ g 6 = f (47 + 8 * p + 7)
def FiR (mem : Mem) (c : Nat) (n : Int) (f : Int → Int) : Prop := mem c 0 = n ∧ mem c 1 = f 24 ∧ mem c 2 = f 25 ∧ mem c 3 = f 26 ∧ (∀ x : Int, 0 ≤ x → x < 24 → mem (c + 1) x = f x) ∧ (∀ i : Int, 0 ≤ i → i < f 26 → mem (c + 2) i = f (27 + 3 * i) ∧ mem (c + 3) i = f (27 + 3 * i + 1) ∧ mem (c + 4) i = f (27 + 3 * i + 2))
def Ev (mem : Mem) (b : Nat) (n : Int) (f : Int → Int) : Prop := FiR mem (b + 1) n f ∧ (mem b 2 = f 46 ∧ mem b 3 = f 45 ∧ mem b 4 = f 95 ∧ mem b 5 = f 96) ∧ (∀ p : Nat, (p : Int) < f 46 → SpR (mem (b + 10 + p)) f p) ∧ (∀ i : Int, 0 ≤ i → i < f 96 → mem (b + 7) i = f (97 + 3 * i) ∧ mem (b + 8) i = f (97 + 3 * i + 1) ∧ mem (b + 9) i = f (97 + 3 * i + 2))
/-- what a spud's cell holds, its ranges -/
def SpC (g : Int → Int) : Prop := (1 ≤ g 0 ∧ g 0 ≤ 9) ∧ (0 ≤ g 1 ∧ g 1 ≤ 2) ∧ (-4 ≤ g 2 ∧ g 2 < 24) ∧ (0 ≤ g 3 ∧ g 3 ≤ 99) ∧ (0 ≤ g 4 ∧ g 4 ≤ 99) ∧ (0 ≤ g 5 ∧ g 5 ≤ 99) ∧ (-4 ≤ g 6 ∧ g 6 < 8)
theorem SpR.fl {n : Int} {g f : Int → Int} {p : Int} (h : SpR g f p) (w : SpW n f p) : (g 4 = f (47 + 8 * p + 4) ∧ g 5 = f (47 + 8 * p + 5)) ∨ (g 4 = f (47 + 8 * p + 5) ∧ g 5 = f (47 + 8 * p + 4)) := by
  obtain ⟨h0, h1, h2, h3, h4, h5, h6⟩ := h
  obtain e | e : f (47 + 8 * p + 6) = 0 ∨ f (47 + 8 * p + 6) = 1 := by have := w.2.2.2.2.2.2.1; omega
  · rw [e] at h4 h5
    exact Or.inl ⟨h4, h5⟩
  · rw [e] at h4 h5
    exact Or.inr ⟨h4, h5⟩
theorem SpR.c {n : Int} {g f : Int → Int} {p : Int} (hn : 3 ≤ n ∧ n ≤ 8) (h : SpR g f p) (w : SpW n f p) : SpC g := by
  have hfl := h.fl w
  obtain ⟨h0, h1, h2, h3, h4, h5, h6⟩ := h
  obtain ⟨w0, w1, w2, w3, w4, w5, w6, w7⟩ := w
  refine ⟨by omega, by omega, by omega, by omega, ?_, ?_, by omega⟩
  · omega
  · omega
abbrev dnC (g : Int → Int) (v : Int) : Prop := 10 * g 0 ≤ g 3 + v
abbrev blC (g : Int → Int) : Prop := 40 ≤ g 4 ∨ 40 ≤ g 5
abbrev coF (w : Int) : Int := if w = 0 then 5 else if w = 1 then 7 else 6
abbrev siF (w : Int) : Int := if w = 0 then 8 else if w = 1 then 16 else 12
theorem coF_r (w : Int) : 5 ≤ coF w ∧ coF w ≤ 7 := by unfold coF; ((repeat' split) <;> omega)
theorem siF_r (w : Int) : 8 ≤ siF w ∧ siF w ≤ 16 := by unfold siF; ((repeat' split) <;> omega)
theorem div_r {a b : Int} (ha : 0 ≤ a) (hb : 0 < b) : 0 ≤ a / b ∧ a / b ≤ a := ⟨Int.ediv_nonneg ha (by omega), Int.ediv_le_self _ ha⟩
/-- baked by a heat -/
def bakG (h : Int) (g : Int → Int) : Int → Int := fset (fset g 3 (min 99 (g 3 + h / coF (g 1)))) 4 (min 99 (g 4 + h / siF (g 1)))
def rawG (s w : Int) (g : Int → Int) : Int → Int := fset (fset (fset (fset (fset (fset (fset g 0 s) 1 w) 2 (-4)) 3 0) 4 0) 5 0) 6 (-4)
def trnG (g : Int → Int) : Int → Int := fset (fset g 4 (g 5)) 5 (g 4)
def cpyG (a g : Int → Int) : Int → Int := fset (fset (fset (fset (fset (fset (fset g 0 (a 0)) 1 (a 1)) 2 (a 2)) 3 (a 3)) 4 (a 4)) 5 (a 5)) 6 (a 6)
section ZCmp1
variable {Γ : ZG} {mem : Mem} {Q : Option AV → Mem → Prop} {c : Nat}
theorem sC_coreShare {G : List GK} {h w : Int} (hh : 0 ≤ h ∧ h ≤ 2147483647) (hw : 0 ≤ w ∧ w ≤ 2) (k : Q (some (vI (h / coF w))) mem) : AMet Γ mX7_coreShare [vI h, vI w] G mem Q := by
  refine AMet.of' 0 (ls := [some (vI (h)), some (vI (w))]) (by decide) rfl (Nat.le_of_ble_eq_true rfl) ?_
  refine aw_iload_n dX7_coreShare_0 rfl rfl ?_
  refine aw_look2 (t1 := 28) (t2 := 33) (t3 := 38) dX7_coreShare_1 (by omega) (by decide) (by decide) (by decide) (by decide) (fun c1 => ?_) (fun c1 => ?_) (fun c1 c1b => ?_)
  · refine aw_iload_n dX7_coreShare_28 rfl rfl ?_
    refine aw_bipush dX7_coreShare_29 rfl (by decide) ?_
    refine aw_idiv dX7_coreShare_31 rfl (by omega) (by omega) ?_
    refine aw_ireturn (ty := .int) dX7_coreShare_32 rfl rfl ?_
    rw [show coF w = 7 by unfold coF; rw [if_neg (by omega), if_pos (by omega)]] at k; exact k
  · refine aw_iload_n dX7_coreShare_33 rfl rfl ?_
    refine aw_bipush dX7_coreShare_34 rfl (by decide) ?_
    refine aw_idiv dX7_coreShare_36 rfl (by omega) (by omega) ?_
    refine aw_ireturn (ty := .int) dX7_coreShare_37 rfl rfl ?_
    rw [show coF w = 6 by unfold coF; rw [if_neg (by omega), if_neg (by omega)]] at k; exact k
  · refine aw_iload_n dX7_coreShare_38 rfl rfl ?_
    refine aw_iconst dX7_coreShare_39 rfl ?_
    refine aw_idiv dX7_coreShare_40 rfl (by omega) (by omega) ?_
    refine aw_ireturn (ty := .int) dX7_coreShare_41 rfl rfl ?_
    rw [show coF w = 5 by unfold coF; rw [if_pos (by omega)]] at k; exact k
theorem sC_sideShare {G : List GK} {h w : Int} (hh : 0 ≤ h ∧ h ≤ 2147483647) (hw : 0 ≤ w ∧ w ≤ 2) (k : Q (some (vI (h / siF w))) mem) : AMet Γ mX7_sideShare [vI h, vI w] G mem Q := by
  refine AMet.of' 0 (ls := [some (vI (h)), some (vI (w))]) (by decide) rfl (Nat.le_of_ble_eq_true rfl) ?_
  refine aw_iload_n dX7_sideShare_0 rfl rfl ?_
  refine aw_look2 (t1 := 28) (t2 := 33) (t3 := 38) dX7_sideShare_1 (by omega) (by decide) (by decide) (by decide) (by decide) (fun c1 => ?_) (fun c1 => ?_) (fun c1 c1b => ?_)
  · refine aw_iload_n dX7_sideShare_28 rfl rfl ?_
    refine aw_bipush dX7_sideShare_29 rfl (by decide) ?_
    refine aw_idiv dX7_sideShare_31 rfl (by omega) (by omega) ?_
    refine aw_ireturn (ty := .int) dX7_sideShare_32 rfl rfl ?_
    rw [show siF w = 16 by unfold siF; rw [if_neg (by omega), if_pos (by omega)]] at k; exact k
  · refine aw_iload_n dX7_sideShare_33 rfl rfl ?_
    refine aw_bipush dX7_sideShare_34 rfl (by decide) ?_
    refine aw_idiv dX7_sideShare_36 rfl (by omega) (by omega) ?_
    refine aw_ireturn (ty := .int) dX7_sideShare_37 rfl rfl ?_
    rw [show siF w = 12 by unfold siF; rw [if_neg (by omega), if_neg (by omega)]] at k; exact k
  · refine aw_iload_n dX7_sideShare_38 rfl rfl ?_
    refine aw_bipush dX7_sideShare_39 rfl (by decide) ?_
    refine aw_idiv dX7_sideShare_41 rfl (by omega) (by omega) ?_
    refine aw_ireturn (ty := .int) dX7_sideShare_42 rfl rfl ?_
    rw [show siF w = 8 by unfold siF; rw [if_pos (by omega)]] at k; exact k
theorem sC_wouldBeDone {v : Int} (hG : SpG zG c) (hc : SpC (mem c)) (hv : 0 ≤ v ∧ v ≤ 100000) (k1 : dnC (mem c) v → Q (some (vI 1)) mem) (k0 : ¬ dnC (mem c) v → Q (some (vI 0)) mem) : AMet Γ mX7_wouldBeDone [vR c, vI v] zG mem Q := by
  unfold SpG at hG
  obtain ⟨r0, r1, r2, r3, r4, r5, r6⟩ := hc
  refine AMet.of' 0 (ls := [some (vR (c)), some (vI (v))]) (by decide) rfl (Nat.le_of_ble_eq_true rfl) ?_
  refine aw_aload_n dX7_wouldBeDone_0 rfl rfl ?_
  refine aw_getI (kI := 3) dX7_wouldBeDone_1 rfl fl_X7_21 (by first | assumption | rfl) (by rfl) rfl ?_
  refine aw_iload_n dX7_wouldBeDone_4 rfl rfl ?_
  refine aw_iadd dX7_wouldBeDone_5 rfl ?_
  refine aw_bipush dX7_wouldBeDone_6 rfl (by decide) ?_
  refine aw_aload_n dX7_wouldBeDone_8 rfl rfl ?_
  refine aw_getI (kI := 0) dX7_wouldBeDone_9 rfl fl_X7_9 (by first | assumption | rfl) (by rfl) rfl ?_
  refine aw_imul dX7_wouldBeDone_12 rfl ?_
  refine aw_icmp_lt (tgt := 20) dX7_wouldBeDone_13 (by decide) rfl (by omega) (by omega) (fun c13 => ?_) (fun c13 => ?_)
  · refine aw_iconst dX7_wouldBeDone_20 rfl ?_
    refine aw_ireturn (ty := .boolean) dX7_wouldBeDone_21 rfl (znarZ (by omega)).1 ?_
    first | exact k0 (by omega) | exact k1 (by omega)
  · refine aw_iconst dX7_wouldBeDone_16 rfl ?_
    refine aw_goto (tgt := 21) dX7_wouldBeDone_17 (by decide) ?_
    refine aw_ireturn (ty := .boolean) dX7_wouldBeDone_21 rfl (znarZ (by omega)).1 ?_
    first | exact k0 (by omega) | exact k1 (by omega)
theorem sC_isDone (hG : SpG zG c) (hc : SpC (mem c)) (k1 : dnC (mem c) 0 → Q (some (vI 1)) mem) (k0 : ¬ dnC (mem c) 0 → Q (some (vI 0)) mem) : AMet Γ mX7_isDone [vR c] zG mem Q := by
  have hG' := hG
  unfold SpG at hG
  refine AMet.of' 0 (ls := [some (vR (c))]) (by decide) rfl (Nat.le_of_ble_eq_true rfl) ?_
  refine aw_aload_n dX7_isDone_0 rfl rfl ?_
  refine aw_iconst dX7_isDone_1 rfl ?_
  refine aw_callV [_] _ dX7_isDone_2 rfl clv_X7_45 (by decide) ⟨Nat.zero_le _, Nat.zero_le _⟩ (by first | assumption | rfl) (by rfl) (Nat.le_of_ble_eq_true rfl) rfl ?_
  refine sC_wouldBeDone hG' hc (by omega) (fun c2 => ?_) (fun c2 => ?_)
  · refine aw_ireturn (ty := .boolean) dX7_isDone_5 rfl (znarZ (by omega)).1 ?_
    first | exact k1 c2 | exact k0 c2
  · refine aw_ireturn (ty := .boolean) dX7_isDone_5 rfl (znarZ (by omega)).1 ?_
    first | exact k1 c2 | exact k0 c2
theorem sC_isBlack (hG : SpG zG c) (hc : SpC (mem c)) (k1 : blC (mem c) → Q (some (vI 1)) mem) (k0 : ¬ blC (mem c) → Q (some (vI 0)) mem) : AMet Γ mX7_isBlack [vR c] zG mem Q := by
  unfold SpG at hG
  obtain ⟨r0, r1, r2, r3, r4, r5, r6⟩ := hc
  refine AMet.of' 0 (ls := [some (vR (c))]) (by decide) rfl (Nat.le_of_ble_eq_true rfl) ?_
  refine aw_aload_n dX7_isBlack_0 rfl rfl ?_
  refine aw_getI (kI := 4) dX7_isBlack_1 rfl fl_X7_24 (by first | assumption | rfl) (by rfl) rfl ?_
  refine aw_bipush dX7_isBlack_4 rfl (by decide) ?_
  refine aw_icmp_ge (tgt := 18) dX7_isBlack_6 (by decide) rfl (by omega) (by omega) (fun c6 => ?_) (fun c6 => ?_)
  · refine aw_iconst dX7_isBlack_18 rfl ?_
    refine aw_goto (tgt := 23) dX7_isBlack_19 (by decide) ?_
    refine aw_ireturn (ty := .boolean) dX7_isBlack_23 rfl (znarZ (by omega)).1 ?_
    first | exact k1 (by omega) | exact k0 (by omega)
  · refine aw_aload_n dX7_isBlack_9 rfl rfl ?_
    refine aw_getI (kI := 5) dX7_isBlack_10 rfl fl_X7_27 (by first | assumption | rfl) (by rfl) rfl ?_
    refine aw_bipush dX7_isBlack_13 rfl (by decide) ?_
    refine aw_icmp_lt (tgt := 22) dX7_isBlack_15 (by decide) rfl (by omega) (by omega) (fun c15 => ?_) (fun c15 => ?_)
    · refine aw_iconst dX7_isBlack_22 rfl ?_
      refine aw_ireturn (ty := .boolean) dX7_isBlack_23 rfl (znarZ (by omega)).1 ?_
      first | exact k1 (by omega) | exact k0 (by omega)
    · refine aw_iconst dX7_isBlack_18 rfl ?_
      refine aw_goto (tgt := 23) dX7_isBlack_19 (by decide) ?_
      refine aw_ireturn (ty := .boolean) dX7_isBlack_23 rfl (znarZ (by omega)).1 ?_
      first | exact k1 (by omega) | exact k0 (by omega)
theorem sC_isGood (hG : SpG zG c) (hc : SpC (mem c)) (k1 : (dnC (mem c) 0 ∧ ¬ blC (mem c)) → Q (some (vI 1)) mem) (k0 : ¬ (dnC (mem c) 0 ∧ ¬ blC (mem c)) → Q (some (vI 0)) mem) : AMet Γ mX7_isGood [vR c] zG mem Q := by
  have hG' := hG
  unfold SpG at hG
  refine AMet.of' 0 (ls := [some (vR (c))]) (by decide) rfl (Nat.le_of_ble_eq_true rfl) ?_
  refine aw_aload_n dX7_isGood_0 rfl rfl ?_
  refine aw_callV [] _ dX7_isGood_1 rfl clv_X7_49 (by decide) ⟨Nat.zero_le _, Nat.zero_le _⟩ (by first | assumption | rfl) (by rfl) (Nat.le_of_ble_eq_true rfl) rfl ?_
  refine sC_isDone hG' hc (fun c1 => ?_) (fun c1 => ?_)
  · refine aw_if_eq (tgt := 18) dX7_isGood_4 (by decide) rfl (by omega) (fun c => absurd c (by decide)) (fun _ => ?_)
    refine aw_aload_n dX7_isGood_7 rfl rfl ?_
    refine aw_callV [] _ dX7_isGood_8 rfl clv_X7_53 (by decide) ⟨Nat.zero_le _, Nat.zero_le _⟩ (by first | assumption | rfl) (by rfl) (Nat.le_of_ble_eq_true rfl) rfl ?_
    refine sC_isBlack hG' hc (fun c8 => ?_) (fun c8 => ?_)
    · refine aw_if_ne (tgt := 18) dX7_isGood_11 (by decide) rfl (by omega) (fun _ => ?_) (fun c => absurd c (by decide))
      refine aw_iconst dX7_isGood_18 rfl ?_
      refine aw_ireturn (ty := .boolean) dX7_isGood_19 rfl (znarZ (by omega)).1 ?_
      first | exact k1 ⟨c1, c8⟩ | exact k0 (fun z => z.2 c8) | exact k0 (fun z => c1 z.1)
    · refine aw_if_ne (tgt := 18) dX7_isGood_11 (by decide) rfl (by omega) (fun c => absurd c (by decide)) (fun _ => ?_)
      refine aw_iconst dX7_isGood_14 rfl ?_
      refine aw_goto (tgt := 19) dX7_isGood_15 (by decide) ?_
      refine aw_ireturn (ty := .boolean) dX7_isGood_19 rfl (znarZ (by omega)).1 ?_
      first | exact k1 ⟨c1, c8⟩ | exact k0 (fun z => z.2 c8) | exact k0 (fun z => c1 z.1)
  · refine aw_if_eq (tgt := 18) dX7_isGood_4 (by decide) rfl (by omega) (fun _ => ?_) (fun c => absurd c (by decide))
    refine aw_iconst dX7_isGood_18 rfl ?_
    refine aw_ireturn (ty := .boolean) dX7_isGood_19 rfl (znarZ (by omega)).1 ?_
    first | exact k1 ⟨c1, c8⟩ | exact k0 (fun z => z.2 c8) | exact k0 (fun z => c1 z.1)
theorem sC_wouldBeGood {v u o : Int} (hG : SpG zG c) (hc : SpC (mem c)) (hv : 0 ≤ v ∧ v ≤ 100000) (hu : 0 ≤ u ∧ u ≤ 100000) (ho : 0 ≤ o ∧ o ≤ 100000) (k1 : (dnC (mem c) v ∧ mem c 4 + u < 40 ∧ mem c 5 + o < 40) → Q (some (vI 1)) mem) (k0 : ¬ (dnC (mem c) v ∧ mem c 4 + u < 40 ∧ mem c 5 + o < 40) → Q (some (vI 0)) mem) : AMet Γ mX7_wouldBeGood [vR c, vI v, vI u, vI o] zG mem Q := by
  have hG' := hG
  unfold SpG at hG
  have hc' := hc
  obtain ⟨r0, r1, r2, r3, r4, r5, r6⟩ := hc
  refine AMet.of' 0 (ls := [some (vR (c)), some (vI (v)), some (vI (u)), some (vI (o))]) (by decide) rfl (Nat.le_of_ble_eq_true rfl) ?_
  refine aw_aload_n dX7_wouldBeGood_0 rfl rfl ?_
  refine aw_iload_n dX7_wouldBeGood_1 rfl rfl ?_
  refine aw_callV [_] _ dX7_wouldBeGood_2 rfl clv_X7_45 (by decide) ⟨Nat.zero_le _, Nat.zero_le _⟩ (by first | assumption | rfl) (by rfl) (Nat.le_of_ble_eq_true rfl) rfl ?_
  refine sC_wouldBeDone hG' hc' hv (fun c2 => ?_) (fun c2 => ?_)
  · refine aw_if_eq (tgt := 34) dX7_wouldBeGood_5 (by decide) rfl (by omega) (fun c => absurd c (by decide)) (fun _ => ?_)
    refine aw_aload_n dX7_wouldBeGood_8 rfl rfl ?_
    refine aw_getI (kI := 4) dX7_wouldBeGood_9 rfl fl_X7_24 (by first | assumption | rfl) (by rfl) rfl ?_
    refine aw_iload_n dX7_wouldBeGood_12 rfl rfl ?_
    refine aw_iadd dX7_wouldBeGood_13 rfl ?_
    refine aw_bipush dX7_wouldBeGood_14 rfl (by decide) ?_
    refine aw_icmp_ge (tgt := 34) dX7_wouldBeGood_16 (by decide) rfl (by omega) (by omega) (fun c16 => ?_) (fun c16 => ?_)
    · refine aw_iconst dX7_wouldBeGood_34 rfl ?_
      refine aw_ireturn (ty := .boolean) dX7_wouldBeGood_35 rfl (znarZ (by omega)).1 ?_
      first | exact k1 ⟨c2, by omega, by omega⟩ | exact k0 (fun z => c2 z.1) | exact k0 (fun z => by have := z.2; omega)
    · refine aw_aload_n dX7_wouldBeGood_19 rfl rfl ?_
      refine aw_getI (kI := 5) dX7_wouldBeGood_20 rfl fl_X7_27 (by first | assumption | rfl) (by rfl) rfl ?_
      refine aw_iload_n dX7_wouldBeGood_23 rfl rfl ?_
      refine aw_iadd dX7_wouldBeGood_24 rfl ?_
      refine aw_bipush dX7_wouldBeGood_25 rfl (by decide) ?_
      refine aw_icmp_ge (tgt := 34) dX7_wouldBeGood_27 (by decide) rfl (by omega) (by omega) (fun c27 => ?_) (fun c27 => ?_)
      · refine aw_iconst dX7_wouldBeGood_34 rfl ?_
        refine aw_ireturn (ty := .boolean) dX7_wouldBeGood_35 rfl (znarZ (by omega)).1 ?_
        first | exact k1 ⟨c2, by omega, by omega⟩ | exact k0 (fun z => c2 z.1) | exact k0 (fun z => by have := z.2; omega)
      · refine aw_iconst dX7_wouldBeGood_30 rfl ?_
        refine aw_goto (tgt := 35) dX7_wouldBeGood_31 (by decide) ?_
        refine aw_ireturn (ty := .boolean) dX7_wouldBeGood_35 rfl (znarZ (by omega)).1 ?_
        first | exact k1 ⟨c2, by omega, by omega⟩ | exact k0 (fun z => c2 z.1) | exact k0 (fun z => by have := z.2; omega)
  · refine aw_if_eq (tgt := 34) dX7_wouldBeGood_5 (by decide) rfl (by omega) (fun _ => ?_) (fun c => absurd c (by decide))
    refine aw_iconst dX7_wouldBeGood_34 rfl ?_
    refine aw_ireturn (ty := .boolean) dX7_wouldBeGood_35 rfl (znarZ (by omega)).1 ?_
    first | exact k1 ⟨c2, by omega, by omega⟩ | exact k0 (fun z => c2 z.1) | exact k0 (fun z => by have := z.2; omega)
theorem sC_bakeBy {h : Int} (hG : SpG zG c) (hc : SpC (mem c)) (hh : 0 ≤ h ∧ h ≤ 99) (k : Q none (mcell mem c (bakG h (mem c)))) : AMet Γ mX7_bakeBy [vR c, vI h] zG mem Q := by
  unfold SpG at hG
  obtain ⟨r0, r1, r2, r3, r4, r5, r6⟩ := hc
  have q1 := div_r (a := h) (b := coF (mem c 1)) hh.1 (by have := coF_r (mem c 1); omega)
  have q2 := div_r (a := h) (b := siF (mem c 1)) hh.1 (by have := siF_r (mem c 1); omega)
  refine AMet.of' 0 (ls := [some (vR (c)), some (vI (h))]) (by decide) rfl (Nat.le_of_ble_eq_true rfl) ?_
  refine aw_aload_n dX7_bakeBy_0 rfl rfl ?_
  refine aw_bipush dX7_bakeBy_1 rfl (by decide) ?_
  refine aw_aload_n dX7_bakeBy_3 rfl rfl ?_
  refine aw_getI (kI := 3) dX7_bakeBy_4 rfl fl_X7_21 (by first | assumption | rfl) (by rfl) rfl ?_
  refine aw_iload_n dX7_bakeBy_7 rfl rfl ?_
  refine aw_aload_n dX7_bakeBy_8 rfl rfl ?_
  refine aw_getI (kI := 1) dX7_bakeBy_9 rfl fl_X7_15 (by first | assumption | rfl) (by rfl) rfl ?_
  refine aw_callS [_, _] _ dX7_bakeBy_12 rfl cls_X7_33 (by decide) ⟨Nat.zero_le _, Nat.zero_le _⟩ (Nat.le_of_ble_eq_true rfl) rfl ?_
  refine sC_coreShare (by omega) r1 ?_
  refine aw_iadd dX7_bakeBy_15 rfl ?_
  refine aw_min dX7_bakeBy_16 rfl clm_X7_37 (by decide) (Nat.le_of_ble_eq_true rfl) ⟨Nat.zero_le _, Nat.zero_le _⟩ (by omega) (by omega) ?_
  refine aw_putI (kI := 3) dX7_bakeBy_19 rfl fp_X7_21 (by first | assumption | rfl) (by rfl) rfl ?_
  refine aw_aload_n dX7_bakeBy_22 rfl rfl ?_
  refine aw_bipush dX7_bakeBy_23 rfl (by decide) ?_
  rw [mset_eq]
  refine aw_aload_n dX7_bakeBy_25 rfl rfl ?_
  refine aw_getI (kI := 4) dX7_bakeBy_26 rfl fl_X7_24 (by first | assumption | rfl) (by rfl) rfl ?_
  rw [mcell_same, fset_ne (by decide)]
  refine aw_iload_n dX7_bakeBy_29 rfl rfl ?_
  refine aw_aload_n dX7_bakeBy_30 rfl rfl ?_
  refine aw_getI (kI := 1) dX7_bakeBy_31 rfl fl_X7_15 (by first | assumption | rfl) (by rfl) rfl ?_
  rw [mcell_same, fset_ne (by decide)]
  refine aw_callS [_, _] _ dX7_bakeBy_34 rfl cls_X7_42 (by decide) ⟨Nat.zero_le _, Nat.zero_le _⟩ (Nat.le_of_ble_eq_true rfl) rfl ?_
  refine sC_sideShare (by omega) r1 ?_
  refine aw_iadd dX7_bakeBy_37 rfl ?_
  refine aw_min dX7_bakeBy_38 rfl clm_X7_37 (by decide) (Nat.le_of_ble_eq_true rfl) ⟨Nat.zero_le _, Nat.zero_le _⟩ (by omega) (by omega) ?_
  refine aw_putI (kI := 4) dX7_bakeBy_41 rfl fp_X7_24 (by first | assumption | rfl) (by rfl) rfl ?_
  refine aw_return dX7_bakeBy_44 rfl ?_
  exact q_eq k rfl (by unfold bakG; rw [mset_mcell])
theorem sC_turnOver (hG : SpG zG c) (k : Q none (mcell mem c (trnG (mem c)))) : AMet Γ mX7_turnOver [vR c] zG mem Q := by
  unfold SpG at hG
  refine AMet.of' 1 (ls := [some (vR (c)), none]) (by decide) rfl (Nat.le_of_ble_eq_true rfl) ?_
  refine aw_aload_n dX7_turnOver_0 rfl rfl ?_
  refine aw_getI (kI := 4) dX7_turnOver_1 rfl fl_X7_24 (by first | assumption | rfl) (by rfl) rfl ?_
  refine aw_istore1 rfl dX7_turnOver_4 rfl (by decide) ?_
  refine aw_aload_n dX7_turnOver_5 rfl rfl ?_
  refine aw_aload_n dX7_turnOver_6 rfl rfl ?_
  refine aw_getI (kI := 5) dX7_turnOver_7 rfl fl_X7_27 (by first | assumption | rfl) (by rfl) rfl ?_
  refine aw_putI (kI := 4) dX7_turnOver_10 rfl fp_X7_24 (by first | assumption | rfl) (by rfl) rfl ?_
  refine aw_aload_n dX7_turnOver_13 rfl rfl ?_
  refine aw_iload_n dX7_turnOver_14 rfl rfl ?_
  refine aw_putI (kI := 5) dX7_turnOver_15 rfl fp_X7_27 (by first | assumption | rfl) (by rfl) rfl ?_
  refine aw_return dX7_turnOver_18 rfl ?_
  exact q_eq k rfl (by unfold trnG; simp only [mset_eq, mcell_same, mcell_mcell])
theorem sC_becomeRaw {s w : Int} (hG : SpG zG c) (k : Q none (mcell mem c (rawG s w (mem c)))) : AMet Γ mX7_becomeRaw [vR c, vI s, vI w] zG mem Q := by
  unfold SpG at hG
  refine AMet.of' 0 (ls := [some (vR (c)), some (vI (s)), some (vI (w))]) (by decide) rfl (Nat.le_of_ble_eq_true rfl) ?_
  refine aw_aload_n dX7_becomeRaw_0 rfl rfl ?_
  refine aw_iload_n dX7_becomeRaw_1 rfl rfl ?_
  refine aw_putI (kI := 0) dX7_becomeRaw_2 rfl fp_X7_9 (by first | assumption | rfl) (by rfl) rfl ?_
  refine aw_aload_n dX7_becomeRaw_5 rfl rfl ?_
  refine aw_iload_n dX7_becomeRaw_6 rfl rfl ?_
  refine aw_putI (kI := 1) dX7_becomeRaw_7 rfl fp_X7_15 (by first | assumption | rfl) (by rfl) rfl ?_
  refine aw_aload_n dX7_becomeRaw_10 rfl rfl ?_
  refine aw_bipush dX7_becomeRaw_11 rfl (by decide) ?_
  refine aw_putI (kI := 2) dX7_becomeRaw_13 rfl fp_X7_18 (by first | assumption | rfl) (by rfl) rfl ?_
  refine aw_aload_n dX7_becomeRaw_16 rfl rfl ?_
  refine aw_iconst dX7_becomeRaw_17 rfl ?_
  refine aw_putI (kI := 3) dX7_becomeRaw_18 rfl fp_X7_21 (by first | assumption | rfl) (by rfl) rfl ?_
  refine aw_aload_n dX7_becomeRaw_21 rfl rfl ?_
  refine aw_iconst dX7_becomeRaw_22 rfl ?_
  refine aw_putI (kI := 4) dX7_becomeRaw_23 rfl fp_X7_24 (by first | assumption | rfl) (by rfl) rfl ?_
  refine aw_aload_n dX7_becomeRaw_26 rfl rfl ?_
  refine aw_iconst dX7_becomeRaw_27 rfl ?_
  refine aw_putI (kI := 5) dX7_becomeRaw_28 rfl fp_X7_27 (by first | assumption | rfl) (by rfl) rfl ?_
  refine aw_aload_n dX7_becomeRaw_31 rfl rfl ?_
  refine aw_bipush dX7_becomeRaw_32 rfl (by decide) ?_
  refine aw_putI (kI := 6) dX7_becomeRaw_34 rfl fp_X7_30 (by first | assumption | rfl) (by rfl) rfl ?_
  refine aw_return dX7_becomeRaw_37 rfl ?_
  exact q_eq k rfl (by unfold rawG; simp only [mset_eq, mcell_same, mcell_mcell])
theorem sC_copySpud {d : Nat} (hG : SpG zG c) (hd : SpG zG d) (hcd : d ≠ c) (k : Q none (mcell mem c (cpyG (mem d) (mem c)))) : AMet Γ mX7_copyFrom [vR c, vR d] zG mem Q := by
  unfold SpG at hG hd
  refine AMet.of' 0 (ls := [some (vR (c)), some (vR (d))]) (by decide) rfl (Nat.le_of_ble_eq_true rfl) ?_
  refine aw_aload_n dX7_copyFrom_0 rfl rfl ?_
  refine aw_aload_n dX7_copyFrom_1 rfl rfl ?_
  refine aw_getI (kI := 0) dX7_copyFrom_2 rfl fl_X7_9 (by first | assumption | rfl) (by rfl) rfl ?_
  refine aw_putI (kI := 0) dX7_copyFrom_5 rfl fp_X7_9 (by first | assumption | rfl) (by rfl) rfl ?_
  refine aw_aload_n dX7_copyFrom_8 rfl rfl ?_
  refine aw_aload_n dX7_copyFrom_9 rfl rfl ?_
  refine aw_getI (kI := 1) dX7_copyFrom_10 rfl fl_X7_15 (by first | assumption | rfl) (by rfl) rfl ?_
  refine aw_putI (kI := 1) dX7_copyFrom_13 rfl fp_X7_15 (by first | assumption | rfl) (by rfl) rfl ?_
  refine aw_aload_n dX7_copyFrom_16 rfl rfl ?_
  refine aw_aload_n dX7_copyFrom_17 rfl rfl ?_
  refine aw_getI (kI := 2) dX7_copyFrom_18 rfl fl_X7_18 (by first | assumption | rfl) (by rfl) rfl ?_
  refine aw_putI (kI := 2) dX7_copyFrom_21 rfl fp_X7_18 (by first | assumption | rfl) (by rfl) rfl ?_
  refine aw_aload_n dX7_copyFrom_24 rfl rfl ?_
  refine aw_aload_n dX7_copyFrom_25 rfl rfl ?_
  refine aw_getI (kI := 3) dX7_copyFrom_26 rfl fl_X7_21 (by first | assumption | rfl) (by rfl) rfl ?_
  refine aw_putI (kI := 3) dX7_copyFrom_29 rfl fp_X7_21 (by first | assumption | rfl) (by rfl) rfl ?_
  refine aw_aload_n dX7_copyFrom_32 rfl rfl ?_
  refine aw_aload_n dX7_copyFrom_33 rfl rfl ?_
  refine aw_getI (kI := 4) dX7_copyFrom_34 rfl fl_X7_24 (by first | assumption | rfl) (by rfl) rfl ?_
  refine aw_putI (kI := 4) dX7_copyFrom_37 rfl fp_X7_24 (by first | assumption | rfl) (by rfl) rfl ?_
  refine aw_aload_n dX7_copyFrom_40 rfl rfl ?_
  refine aw_aload_n dX7_copyFrom_41 rfl rfl ?_
  refine aw_getI (kI := 5) dX7_copyFrom_42 rfl fl_X7_27 (by first | assumption | rfl) (by rfl) rfl ?_
  refine aw_putI (kI := 5) dX7_copyFrom_45 rfl fp_X7_27 (by first | assumption | rfl) (by rfl) rfl ?_
  refine aw_aload_n dX7_copyFrom_48 rfl rfl ?_
  refine aw_aload_n dX7_copyFrom_49 rfl rfl ?_
  refine aw_getI (kI := 6) dX7_copyFrom_50 rfl fl_X7_30 (by first | assumption | rfl) (by rfl) rfl ?_
  refine aw_putI (kI := 6) dX7_copyFrom_53 rfl fp_X7_30 (by first | assumption | rfl) (by rfl) rfl ?_
  refine aw_return dX7_copyFrom_56 rfl ?_
  exact q_eq k rfl (by unfold cpyG; simp only [mset_eq, mcell_same, mcell_mcell, mcell_ne hcd])
end ZCmp1
