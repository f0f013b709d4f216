theorem E1 : EvG zG 1 := EvB.G (Or.inl rfl)
theorem E17 : EvG zG 17 := EvB.G (Or.inr (Or.inl rfl))
theorem E34 : EvG zG 34 := EvB.G (Or.inr (Or.inr (Or.inl rfl)))
theorem E50 : EvG zG 50 := EvB.G (Or.inr (Or.inr (Or.inr (Or.inl rfl))))
theorem E70 : EvG zG 70 := EvB.G (Or.inr (Or.inr (Or.inr (Or.inr rfl))))
theorem Ev.row {m : Mem} {b : Nat} {n : Int} {f f' : Int → Int} (h : Ev m b n f) (w : Wf n f) (he : ∀ j : Int, 0 ≤ j → j < 115 → f' j = f j) : Ev m b n f' := by
  obtain ⟨⟨h0, h1, h2, h3, hh, hw⟩, ha, hs, hf⟩ := h
  have w26 := w.2.2.2.2.1
  have w46 := w.n46
  have w96 := w.2.2.2.2.2.2.2.2.2.1
  unfold Ev FiR
  rw [he 24 (by omega) (by omega), he 25 (by omega) (by omega), he 26 (by omega) (by omega), he 45 (by omega) (by omega), he 46 (by omega) (by omega), he 95 (by omega) (by omega), he 96 (by omega) (by omega)]
  refine ⟨⟨h0, h1, h2, h3, fun x x0 x1 => by rw [he x x0 (by omega)]; exact hh x x0 x1, fun i i0 i1 => ?_⟩, ha, fun q hq => ?_, fun i i0 i1 => ?_⟩
  · rw [he _ (by omega) (by omega), he _ (by omega) (by omega), he _ (by omega) (by omega)]; exact hw i i0 i1
  · exact (hs q hq).ext (w.fl hq) (fun j j0 j1 => he j (by omega) (by omega))
  · rw [he _ (by omega) (by omega), he _ (by omega) (by omega), he _ (by omega) (by omega)]; exact hf i i0 i1
theorem Ev.heat {m : Mem} {b : Nat} {n x v : Int} {f : Int → Int} (h : Ev m b n f) (w : Wf n f) (hx : 0 ≤ x ∧ x < 24) : Ev (mset m (b + 2) x v) b n (fset f x v) := by
  have hF := h.1
  obtain ⟨h0, h1, h2, h3, hh, hw⟩ := hF
  refine h.fire w ((FrI.rf.set (by omega))) ?_ (fun j hj => fset_ne (by omega))
  refine ⟨?_, ?_, ?_, ?_, fun y y0 y1 => ?_, fun i i0 i1 => ?_⟩
  · rw [mset_ne (by omega)]; exact h0
  · rw [mset_ne (by omega), fset_ne (by omega)]; exact h1
  · rw [mset_ne (by omega), fset_ne (by omega)]; exact h2
  · rw [mset_ne (by omega), fset_ne (by omega)]; exact h3
  · rw [show b + 1 + 1 = b + 2 from rfl, mset_same]
    unfold fset
    split
    · rfl
    · exact hh y y0 y1
  · rw [fset_ne (by omega)] at i1
    rw [mset_ne (by omega), mset_ne (by omega), mset_ne (by omega), fset_ne (by omega), fset_ne (by omega), fset_ne (by omega)]; exact hw i i0 i1
theorem Ev.loss {m : Mem} {b : Nat} {n k v : Int} {f : Int → Int} (h : Ev m b n f) (w : Wf n f) (hk : k = 0 ∨ k = 1) : Ev (mset m (b + 1) (1 + k) v) b n (fset f (24 + k) v) := by
  have hF := h.1
  obtain ⟨h0, h1, h2, h3, hh, hw⟩ := hF
  refine h.fire w ((FrI.rf.set (by omega))) ?_ (fun j hj => fset_ne (by omega))
  refine ⟨?_, ?_, ?_, ?_, fun y y0 y1 => ?_, fun i i0 i1 => ?_⟩
  · rw [mset_same, fset_ne (by omega)]; exact h0
  · rw [mset_same]
    unfold fset
    (repeat' split) <;> first | rfl | omega
  · rw [mset_same]
    unfold fset
    (repeat' split) <;> first | rfl | omega
  · rw [mset_same, fset_ne (by omega), fset_ne (by omega)]; exact h3
  · rw [mset_ne (by omega), fset_ne (by omega)]; exact hh y y0 y1
  · rw [fset_ne (by omega)] at i1
    rw [mset_ne (by omega), mset_ne (by omega), mset_ne (by omega), fset_ne (by omega), fset_ne (by omega), fset_ne (by omega)]; exact hw i i0 i1
theorem Ev.lay {m : Mem} {b : Nat} {n a v r : Int} {f : Int → Int} (h : Ev m b n f) (w : Wf n f) (h6 : ¬ f 26 = 6) : Ev (mset (mset (mset (mset m (b + 1 + 2) (f 26) a) (b + 1 + 3) (f 26) v) (b + 1 + 4) (f 26) r) (b + 1) 3 (f 26 + 1)) b n (stokeF f a v r) := by
  have hF := h.1
  have w26 := w.2.2.2.2.1
  obtain ⟨h0, h1, h2, h3, hh, hw⟩ := hF
  have out : ∀ j : Int, ¬ j = 26 → j < 27 + 3 * f 26 ∨ 27 + 3 * f 26 + 2 < j → stokeF f a v r j = f j := by
    intro j j1 j2
    unfold stokeF
    rw [fset_ne j1, fset_ne (by omega), fset_ne (by omega), fset_ne (by omega)]
  have e26 : stokeF f a v r 26 = f 26 + 1 := by unfold stokeF; rw [fset_same]
  refine h.fire w ((((FrI.rf.set (by omega)).set (by omega)).set (by omega)).set (by omega)) ?_ (fun j hj => out j (by omega) (by omega))
  refine ⟨?_, ?_, ?_, ?_, fun y y0 y1 => ?_, fun i i0 i1 => ?_⟩
  · rw [mset_same, fset_ne (by omega), mset_ne (by omega), mset_ne (by omega), mset_ne (by omega)]; exact h0
  · rw [mset_same, fset_ne (by omega), mset_ne (by omega), mset_ne (by omega), mset_ne (by omega), out 24 (by omega) (by omega)]; exact h1
  · rw [mset_same, fset_ne (by omega), mset_ne (by omega), mset_ne (by omega), mset_ne (by omega), out 25 (by omega) (by omega)]; exact h2
  · rw [mset_same, fset_same, e26]
  · rw [mset_ne (by omega), mset_ne (by omega), mset_ne (by omega), mset_ne (by omega), out y (by omega) (by omega)]; exact hh y y0 y1
  · rw [e26] at i1
    rw [mset_ne (d := b + 1 + 2) (by omega), mset_ne (d := b + 1 + 2) (by omega), mset_ne (d := b + 1 + 2) (by omega), mset_same, mset_ne (d := b + 1 + 3) (by omega), mset_ne (d := b + 1 + 3) (by omega), mset_same, mset_ne (d := b + 1 + 3) (by omega), mset_ne (d := b + 1 + 4) (by omega), mset_same, mset_ne (d := b + 1 + 4) (by omega), mset_ne (d := b + 1 + 4) (by omega)]
    by_cases e : i = f 26
    · rw [e, fset_same, fset_same, fset_same]
      unfold stokeF
      rw [fset_ne (by omega), fset_ne (by omega), fset_ne (by omega), fset_same, fset_ne (by omega), fset_ne (by omega), fset_same, fset_ne (by omega), fset_same]
      exact ⟨rfl, rfl, rfl⟩
    · rw [fset_ne e, fset_ne e, fset_ne e, out _ (by omega) (by omega), out _ (by omega) (by omega), out _ (by omega) (by omega)]; exact hw i i0 (by omega)
theorem freeB_iff {f : Int → Int} {p x : Int} : ∀ k : Nat, freeB k f p x = true ↔ ∀ q : Nat, q < k → x = -4 ∨ (q : Int) = p ∨ ¬ f (47 + 8 * (q : Int) + 2) = x := by
  intro k
  induction k with
  | zero => constructor
            · intro _ q hq; omega
            · intro _; rfl
  | succ k ih =>
    rw [freeB]
    simp only [Bool.and_eq_true, Bool.or_eq_true, decide_eq_true_eq]
    rw [ih]
    constructor
    · intro ⟨h1, h2⟩ q hq
      by_cases e : q = k
      · subst e; exact h2
      · exact h1 q (by omega)
    · intro h
      exact ⟨fun q hq => h q (by omega), h k (by omega)⟩
/-- no two lie in one place -/
def Dis (f : Int → Int) : Prop := ∀ p q : Nat, p < q → (q : Int) < f 46 → f (47 + 8 * (p : Int) + 2) = -4 ∨ ¬ f (47 + 8 * (p : Int) + 2) = f (47 + 8 * (q : Int) + 2)
theorem whoF_none {f : Int → Int} {x : Int} : ∀ d p : Nat, whoF f x d p = -4 → ∀ q : Nat, p ≤ q → q < p + d → ¬ f (47 + 8 * (q : Int) + 2) = x := by
  intro d
  induction d with
  | zero => intro p _ q h1 h2; omega
  | succ d ih =>
    intro p h q h1 h2
    rw [whoF] at h
    split at h
    · omega
    · next hne =>
      by_cases e : q = p
      · subst e; exact hne
      · exact ih (p + 1) h q (by omega) (by omega)
theorem dig_free {f : Int → Int} {p x : Int} (hd : Dis f) (h46 : 0 ≤ f 46) (hp : 0 ≤ p ∧ p < f 46) (hx : 0 ≤ x) : freeB (f 46).toNat f p x = true ↔ (whoF f x (f 46).toNat 0 = -4 ∨ whoF f x (f 46).toNat 0 = p) := by
  rw [freeB_iff]
  have hr := whoF_rng f x (f 46).toNat 0
  constructor
  · intro h
    rcases hr with hr | ⟨r1, r2, r3⟩
    · exact Or.inl hr
    · right
      obtain ⟨q, hq⟩ : ∃ q : Nat, whoF f x (f 46).toNat 0 = q := ⟨(whoF f x (f 46).toNat 0).toNat, by omega⟩
      have hz := h q (by omega)
      rw [hq] at r3 ⊢
      rcases hz with hz | hz | hz
      · omega
      · exact hz
      · exact absurd r3 hz
  · intro h q hq
    rcases h with h | h
    · right; right
      exact whoF_none _ _ h q (by omega) (by omega)
    · by_cases e : (q : Int) = p
      · exact Or.inr (Or.inl e)
      · right; right
        intro hz
        rcases hr with hr | ⟨r1, r2, r3⟩
        · omega
        · rw [h] at r3
          obtain ⟨a, rfl⟩ : ∃ a : Nat, p = a := ⟨p.toNat, by omega⟩
          by_cases l : q < a
          · rcases hd q a l (by omega) with z | z
            · omega
            · exact z (by omega)
          · rcases hd a q (by omega) (by omega) with z | z
            · omega
            · exact z (by omega)
section ZCmp7
variable {Γ : ZG} {mem : Mem} {Q : Option AV → Mem → Prop} {n : Int} {f : Int → Int}
theorem sC_rule {w : Int} (h : Ev mem 1 n f) (hw : -2147483648 ≤ w ∧ w ≤ 2147483647) (k : Q (some (vI (ruleM n f w))) mem) : AMet Γ mX10_rule [vR 0, vI w] zG mem Q := by
  obtain ⟨⟨h0, h1, h2, h3, hh, hw⟩, ⟨a2, a3, a4, a5⟩, hs, hfe⟩ := h
  have kw : ∀ (j v : Int), w = j → v = ruleM n f j → Q (some (vI v)) mem := by
    intro j v e ev
    subst e
    rw [ev]
    exact k
  refine AMet.of' 0 (ls := [some (vR (0)), some (vI (w))]) (by decide) rfl (Nat.le_of_ble_eq_true rfl) ?_
  refine aw_iload_n dX10_rule_0 rfl rfl ?_
  refine aw_tsw (tgt := 112) dX10_rule_1 (by omega) (by decide) (by decide) (fun c1 => ?_) ?_ (by decide)
  · refine aw_iconst dX10_rule_112 rfl ?_
    refine aw_ireturn (ty := .int) dX10_rule_113 rfl rfl ?_
    refine kw w (-1) rfl ?_
    unfold ruleM
    rw [if_neg (by omega), if_neg (by omega), if_neg (by omega), if_neg (by omega), if_neg (by omega), if_neg (by omega), if_neg (by omega)]
  · intro jz offz hoz hj1 tz htz hpz
    match jz, hoz with
    | 0, hoz =>
      obtain rfl : (43 : Int) = offz := Option.some.inj hoz
      obtain rfl : tz = 44 := by omega
      refine aw_aload_n dX10_rule_44 rfl rfl ?_
      refine aw_getR dX10_rule_45 rfl fl_X10_12 g0 (by rfl) ?_
      refine aw_getR dX10_rule_48 rfl fl_X10_105 g1 (by rfl) ?_
      refine aw_getI (kI := 0) dX10_rule_51 rfl fl_X10_109 g2 (by rfl) rfl ?_
      refine aw_ireturn (ty := .int) dX10_rule_54 rfl rfl ?_
      exact kw 0 _ (by omega) h0
    | 1, hoz =>
      obtain rfl : (54 : Int) = offz := Option.some.inj hoz
      obtain rfl : tz = 55 := by omega
      refine aw_aload_n dX10_rule_55 rfl rfl ?_
      refine aw_getR dX10_rule_56 rfl fl_X10_12 g0 (by rfl) ?_
      refine aw_getR dX10_rule_59 rfl fl_X10_105 g1 (by rfl) ?_
      refine aw_getI (kI := 1) dX10_rule_62 rfl fl_X10_114 g2 (by rfl) rfl ?_
      refine aw_ireturn (ty := .int) dX10_rule_65 rfl rfl ?_
      exact kw 1 _ (by omega) h1
    | 2, hoz =>
      obtain rfl : (65 : Int) = offz := Option.some.inj hoz
      obtain rfl : tz = 66 := by omega
      refine aw_aload_n dX10_rule_66 rfl rfl ?_
      refine aw_getR dX10_rule_67 rfl fl_X10_12 g0 (by rfl) ?_
      refine aw_getR dX10_rule_70 rfl fl_X10_105 g1 (by rfl) ?_
      refine aw_getI (kI := 2) dX10_rule_73 rfl fl_X10_117 g2 (by rfl) rfl ?_
      refine aw_ireturn (ty := .int) dX10_rule_76 rfl rfl ?_
      exact kw 2 _ (by omega) h2
    | 3, hoz =>
      obtain rfl : (76 : Int) = offz := Option.some.inj hoz
      obtain rfl : tz = 77 := by omega
      refine aw_aload_n dX10_rule_77 rfl rfl ?_
      refine aw_getR dX10_rule_78 rfl fl_X10_12 g0 (by rfl) ?_
      refine aw_getR dX10_rule_81 rfl fl_X10_105 g1 (by rfl) ?_
      refine aw_getI (kI := 3) dX10_rule_84 rfl fl_X10_120 g2 (by rfl) rfl ?_
      refine aw_ireturn (ty := .int) dX10_rule_87 rfl rfl ?_
      exact kw 3 _ (by omega) h3
    | 4, hoz =>
      obtain rfl : (87 : Int) = offz := Option.some.inj hoz
      obtain rfl : tz = 88 := by omega
      refine aw_aload_n dX10_rule_88 rfl rfl ?_
      refine aw_getR dX10_rule_89 rfl fl_X10_12 g0 (by rfl) ?_
      refine aw_getI (kI := 3) dX10_rule_92 rfl fl_X10_123 g1 (by rfl) rfl ?_
      refine aw_ireturn (ty := .int) dX10_rule_95 rfl rfl ?_
      exact kw 4 _ (by omega) a3
    | 5, hoz =>
      obtain rfl : (95 : Int) = offz := Option.some.inj hoz
      obtain rfl : tz = 96 := by omega
      refine aw_aload_n dX10_rule_96 rfl rfl ?_
      refine aw_getR dX10_rule_97 rfl fl_X10_12 g0 (by rfl) ?_
      refine aw_getI (kI := 2) dX10_rule_100 rfl fl_X10_126 g1 (by rfl) rfl ?_
      refine aw_ireturn (ty := .int) dX10_rule_103 rfl rfl ?_
      exact kw 5 _ (by omega) a2
    | 6, hoz =>
      obtain rfl : (103 : Int) = offz := Option.some.inj hoz
      obtain rfl : tz = 104 := by omega
      refine aw_aload_n dX10_rule_104 rfl rfl ?_
      refine aw_getR dX10_rule_105 rfl fl_X10_12 g0 (by rfl) ?_
      refine aw_getI (kI := 4) dX10_rule_108 rfl fl_X10_129 g1 (by rfl) rfl ?_
      refine aw_ireturn (ty := .int) dX10_rule_111 rfl rfl ?_
      exact kw 6 _ (by omega) a4
    | jz + 7, hoz => exact absurd hoz (by simp)
theorem sC_heat {x : Int} (wf : Wf n f) (h : Ev mem 1 n f) (hx : -2147483648 ≤ x ∧ x ≤ 2147483647) (k : Q (some (vI (heatM n f x))) mem) : AMet Γ mX10_heat [vR 0, vI x] zG mem Q := by
  have h0 : mem 2 0 = n := h.1.1
  have hh : ∀ x : Int, 0 ≤ x → x < 24 → mem 3 x = f x := h.1.2.2.2.2.1
  have hn := wf.1
  unfold heatM at k
  refine AMet.of' 0 (ls := [some (vR (0)), some (vI (x))]) (by decide) rfl (Nat.le_of_ble_eq_true rfl) ?_
  refine aw_aload_n dX10_heat_0 rfl rfl ?_
  refine aw_getR dX10_heat_1 rfl fl_X10_12 g0 (by rfl) ?_
  refine aw_getR dX10_heat_4 rfl fl_X10_105 g1 (by rfl) ?_
  refine aw_iload_n dX10_heat_7 rfl rfl ?_
  refine aw_callV [_] _ dX10_heat_8 rfl clv_X10_132 (by decide) ⟨Nat.zero_le _, Nat.zero_le _⟩ g2 (by rfl) (Nat.le_of_ble_eq_true rfl) rfl ?_
  refine sC_hasPlace E1.2.1 (by rw [h0]; exact hn) hx (fun c8 => ?_) (fun c8 => ?_)
  · refine aw_if_eq (tgt := 29) dX10_heat_11 (by decide) rfl (by omega) (fun c => absurd c (by decide)) (fun _ => ?_)
    rw [h0] at c8
    refine aw_aload_n dX10_heat_14 rfl rfl ?_
    refine aw_getR dX10_heat_15 rfl fl_X10_12 g0 (by rfl) ?_
    refine aw_getR dX10_heat_18 rfl fl_X10_105 g1 (by rfl) ?_
    refine aw_getR dX10_heat_21 rfl fl_X10_135 g2 (by rfl) ?_
    refine aw_iload_n dX10_heat_24 rfl rfl ?_
    refine aw_iaload dX10_heat_25 rfl g3 (by decide) (by omega) ?_
    refine aw_goto (tgt := 30) dX10_heat_26 (by decide) ?_
    refine aw_ireturn (ty := .int) dX10_heat_30 rfl rfl ?_
    first | (rw [if_pos c8] at k; rw [hh x (by omega) (by omega)]; exact k) | (rw [h0] at c8; rw [if_neg c8] at k; exact k)
  · refine aw_if_eq (tgt := 29) dX10_heat_11 (by decide) rfl (by omega) (fun _ => ?_) (fun c => absurd c (by decide))
    refine aw_iconst dX10_heat_29 rfl ?_
    refine aw_ireturn (ty := .int) dX10_heat_30 rfl rfl ?_
    first | (rw [if_pos c8] at k; rw [hh x (by omega) (by omega)]; exact k) | (rw [h0] at c8; rw [if_neg c8] at k; exact k)
theorem sC_wood {i w : Int} (wf : Wf n f) (h : Ev mem 1 n f) (hi : -2147483648 ≤ i ∧ i ≤ 2147483647) (hw : -2147483648 ≤ w ∧ w ≤ 2147483647) (k : Q (some (vI (woodM f i w))) mem) : AMet Γ mX10_wood [vR 0, vI i, vI w] zG mem Q := by
  have h3 : mem 2 3 = f 26 := h.1.2.2.2.1
  have hw' : ∀ i : Int, 0 ≤ i → i < f 26 → mem 4 i = f (27 + 3 * i) ∧ mem 5 i = f (27 + 3 * i + 1) ∧ mem 6 i = f (27 + 3 * i + 2) := h.1.2.2.2.2.2
  have w26 := wf.2.2.2.2.1
  unfold woodM at k
  refine AMet.of' 0 (ls := [some (vR (0)), some (vI (i)), some (vI (w))]) (by decide) rfl (Nat.le_of_ble_eq_true rfl) ?_
  refine aw_iload_n dX10_wood_0 rfl rfl ?_
  refine aw_if_lt (tgt := 18) dX10_wood_1 (by decide) rfl (by omega) (fun c1 => ?_) (fun c1 => ?_)
  · refine aw_iconst dX10_wood_18 rfl ?_
    refine aw_ireturn (ty := .int) dX10_wood_19 rfl rfl ?_
    rw [if_neg (by omega)] at k; exact k
  · refine aw_iload_n dX10_wood_4 rfl rfl ?_
    refine aw_aload_n dX10_wood_5 rfl rfl ?_
    refine aw_getR dX10_wood_6 rfl fl_X10_12 g0 (by rfl) ?_
    refine aw_getR dX10_wood_9 rfl fl_X10_105 g1 (by rfl) ?_
    refine aw_getI (kI := 3) dX10_wood_12 rfl fl_X10_120 g2 (by rfl) rfl ?_
    rw [h3]
    refine aw_icmp_lt (tgt := 20) dX10_wood_15 (by decide) rfl (by omega) (by omega) (fun c15 => ?_) (fun c15 => ?_)
    · obtain ⟨u1, u2, u3⟩ := hw' i (by omega) (by omega)
      refine aw_iload_n dX10_wood_20 rfl rfl ?_
      refine aw_tsw (tgt := 87) dX10_wood_21 (by omega) (by decide) (by decide) (fun c21 => ?_) ?_ (by decide)
      · refine aw_iconst dX10_wood_87 rfl ?_
        refine aw_ireturn (ty := .int) dX10_wood_88 rfl rfl ?_
        rw [if_neg (by omega)] at k; exact k
      · intro jz offz hoz hj21 tz htz hpz
        match jz, hoz with
        | 0, hoz =>
          obtain rfl : (27 : Int) = offz := Option.some.inj hoz
          obtain rfl : tz = 48 := by omega
          refine aw_aload_n dX10_wood_48 rfl rfl ?_
          refine aw_getR dX10_wood_49 rfl fl_X10_12 g0 (by rfl) ?_
          refine aw_getR dX10_wood_52 rfl fl_X10_105 g1 (by rfl) ?_
          refine aw_getR dX10_wood_55 rfl fl_X10_139 g2 (by rfl) ?_
          refine aw_iload_n dX10_wood_58 rfl rfl ?_
          refine aw_iaload dX10_wood_59 rfl g4 (by decide) (by omega) ?_
          refine aw_ireturn (ty := .int) dX10_wood_60 rfl rfl ?_
          rw [if_pos (by omega), show w = 0 by omega, Int.add_zero] at k; rw [u1]; exact k
        | 1, hoz =>
          obtain rfl : (40 : Int) = offz := Option.some.inj hoz
          obtain rfl : tz = 61 := by omega
          refine aw_aload_n dX10_wood_61 rfl rfl ?_
          refine aw_getR dX10_wood_62 rfl fl_X10_12 g0 (by rfl) ?_
          refine aw_getR dX10_wood_65 rfl fl_X10_105 g1 (by rfl) ?_
          refine aw_getR dX10_wood_68 rfl fl_X10_142 g2 (by rfl) ?_
          refine aw_iload_n dX10_wood_71 rfl rfl ?_
          refine aw_iaload dX10_wood_72 rfl g5 (by decide) (by omega) ?_
          refine aw_ireturn (ty := .int) dX10_wood_73 rfl rfl ?_
          rw [if_pos (by omega), show w = 1 by omega] at k; rw [u2]; exact k
        | 2, hoz =>
          obtain rfl : (53 : Int) = offz := Option.some.inj hoz
          obtain rfl : tz = 74 := by omega
          refine aw_aload_n dX10_wood_74 rfl rfl ?_
          refine aw_getR dX10_wood_75 rfl fl_X10_12 g0 (by rfl) ?_
          refine aw_getR dX10_wood_78 rfl fl_X10_105 g1 (by rfl) ?_
          refine aw_getR dX10_wood_81 rfl fl_X10_145 g2 (by rfl) ?_
          refine aw_iload_n dX10_wood_84 rfl rfl ?_
          refine aw_iaload dX10_wood_85 rfl g6 (by decide) (by omega) ?_
          refine aw_ireturn (ty := .int) dX10_wood_86 rfl rfl ?_
          rw [if_pos (by omega), show w = 2 by omega] at k; rw [u3]; exact k
        | jz + 3, hoz => exact absurd hoz (by simp)
    · refine aw_iconst dX10_wood_18 rfl ?_
      refine aw_ireturn (ty := .int) dX10_wood_19 rfl rfl ?_
      rw [if_neg (by omega)] at k; exact k
theorem sC_spud {p w : Int} (wf : Wf n f) (h : Ev mem 1 n f) (hp : -2147483648 ≤ p ∧ p ≤ 2147483647) (hw : -2147483648 ≤ w ∧ w ≤ 2147483647) (k : Q (some (vI (spudM f p w))) mem) : AMet Γ mX10_spud [vR 0, vI p, vI w] zG mem Q := by
  have a2 : mem 1 2 = f 46 := h.2.1.1
  have w46 := wf.n46
  have hn := wf.1
  unfold spudM at k
  have s11 : 0 ≤ p ∧ p < f 46 → AW Γ mX10_spud (zF Γ zG Q) zG 0 0 11 [some (vR 0), some (vI p), some (vI w)] [] mem := by
    intro hpp
    obtain ⟨q, rfl⟩ : ∃ q : Nat, p = q := ⟨p.toNat, by omega⟩
    have gp := E1.2.2.2.2.2.2 q (by omega)
    have gp0 := gp
    unfold SpG at gp0
    have hsp := h.2.2.1 q hpp.2
    have wsp := wf.sp hpp.2
    refine aw_aload_n dX10_spud_11 rfl rfl ?_
    refine aw_getR dX10_spud_12 rfl fl_X10_12 g0 (by rfl) ?_
    refine aw_getR dX10_spud_15 rfl fl_X10_151 g1 (by rfl) ?_
    refine aw_iload_n dX10_spud_18 rfl rfl ?_
    refine aw_aaload dX10_spud_19 rfl g7 six_len (by omega) (six_getN (b := 1) (by omega)) ?_
    refine aw_iload_n dX10_spud_20 rfl rfl ?_
    refine aw_callV [_] _ dX10_spud_21 rfl clv_X10_155 (by decide) ⟨Nat.zero_le _, Nat.zero_le _⟩ (by first | assumption | rfl) (by rfl) (Nat.le_of_ble_eq_true rfl) rfl ?_
    refine sC_tell gp hn hsp wsp hw ?_
    refine aw_goto (tgt := 28) dX10_spud_24 (by decide) ?_
    refine aw_ireturn (ty := .int) dX10_spud_28 rfl rfl ?_
    by_cases hc : 0 ≤ w ∧ w ≤ 9
    · rw [if_pos ⟨hpp, hc⟩] at k; rw [if_pos hc]; exact k
    · rw [if_neg (fun z => hc z.2)] at k; rw [if_neg hc]; exact k
  refine AMet.of' 0 (ls := [some (vR (0)), some (vI (p)), some (vI (w))]) (by decide) rfl (Nat.le_of_ble_eq_true rfl) ?_
  refine aw_aload_n dX10_spud_0 rfl rfl ?_
  refine aw_getR dX10_spud_1 rfl fl_X10_12 g0 (by rfl) ?_
  refine aw_iload_n dX10_spud_4 rfl rfl ?_
  refine aw_callV [_] _ dX10_spud_5 rfl clv_X10_148 (by decide) ⟨Nat.zero_le _, Nat.zero_le _⟩ g1 (by rfl) (Nat.le_of_ble_eq_true rfl) rfl ?_
  refine sC_hasSpud E1 (by rw [a2]; exact w46) hp (fun c5 => ?_) (fun c5 => ?_)
  · refine aw_if_eq (tgt := 27) dX10_spud_8 (by decide) rfl (by omega) (fun c => absurd c (by decide)) (fun _ => ?_)
    exact s11 (by rw [a2] at c5; exact c5)
  · refine aw_if_eq (tgt := 27) dX10_spud_8 (by decide) rfl (by omega) (fun _ => ?_) (fun c => absurd c (by decide))
    refine aw_iconst dX10_spud_27 rfl ?_
    refine aw_ireturn (ty := .int) dX10_spud_28 rfl rfl ?_
    rw [a2] at c5; rw [if_neg (fun z => c5 z.1)] at k; exact k
theorem sC_isHeat {G : List GK} {v : Int} (hv : -2147483648 ≤ v ∧ v ≤ 2147483647) (k1 : 0 ≤ v ∧ v ≤ 99 → Q (some (vI 1)) mem) (k0 : ¬ (0 ≤ v ∧ v ≤ 99) → Q (some (vI 0)) mem) : AMet Γ mX10_isHeat [vI v] G mem Q := by
  refine AMet.of' 0 (ls := [some (vI (v))]) (by decide) rfl (Nat.le_of_ble_eq_true rfl) ?_
  refine aw_iload_n dX10_isHeat_0 rfl rfl ?_
  refine aw_if_lt (tgt := 14) dX10_isHeat_1 (by decide) rfl (by omega) (fun c1 => ?_) (fun c1 => ?_)
  · refine aw_iconst dX10_isHeat_14 rfl ?_
    refine aw_ireturn (ty := .boolean) dX10_isHeat_15 rfl (znarZ (by omega)).1 ?_
    first | exact k0 (by omega) | exact k1 (by omega)
  · refine aw_iload_n dX10_isHeat_4 rfl rfl ?_
    refine aw_bipush dX10_isHeat_5 rfl (by decide) ?_
    refine aw_icmp_gt (tgt := 14) dX10_isHeat_7 (by decide) rfl (by omega) (by omega) (fun c7 => ?_) (fun c7 => ?_)
    · refine aw_iconst dX10_isHeat_14 rfl ?_
      refine aw_ireturn (ty := .boolean) dX10_isHeat_15 rfl (znarZ (by omega)).1 ?_
      first | exact k0 (by omega) | exact k1 (by omega)
    · refine aw_iconst dX10_isHeat_10 rfl ?_
      refine aw_goto (tgt := 15) dX10_isHeat_11 (by decide) ?_
      refine aw_ireturn (ty := .boolean) dX10_isHeat_15 rfl (znarZ (by omega)).1 ?_
      first | exact k0 (by omega) | exact k1 (by omega)
theorem sC_isSort {G : List GK} {v w : Int} (hv : -2147483648 ≤ v ∧ v ≤ 2147483647) (hw : -2147483648 ≤ w ∧ w ≤ 2147483647) (k1 : (1 ≤ v ∧ v ≤ 9) ∧ (0 ≤ w ∧ w ≤ 2) → Q (some (vI 1)) mem) (k0 : ¬ ((1 ≤ v ∧ v ≤ 9) ∧ (0 ≤ w ∧ w ≤ 2)) → Q (some (vI 0)) mem) : AMet Γ mX10_isSort [vI v, vI w] G mem Q := by
  refine AMet.of' 0 (ls := [some (vI (v)), some (vI (w))]) (by decide) rfl (Nat.le_of_ble_eq_true rfl) ?_
  refine aw_iload_n dX10_isSort_0 rfl rfl ?_
  refine aw_iconst dX10_isSort_1 rfl ?_
  refine aw_icmp_lt (tgt := 24) dX10_isSort_2 (by decide) rfl (by omega) (by omega) (fun c2 => ?_) (fun c2 => ?_)
  · refine aw_iconst dX10_isSort_24 rfl ?_
    refine aw_ireturn (ty := .boolean) dX10_isSort_25 rfl (znarZ (by omega)).1 ?_
    first | exact k0 (by omega) | exact k1 (by omega)
  · refine aw_iload_n dX10_isSort_5 rfl rfl ?_
    refine aw_bipush dX10_isSort_6 rfl (by decide) ?_
    refine aw_icmp_gt (tgt := 24) dX10_isSort_8 (by decide) rfl (by omega) (by omega) (fun c8 => ?_) (fun c8 => ?_)
    · refine aw_iconst dX10_isSort_24 rfl ?_
      refine aw_ireturn (ty := .boolean) dX10_isSort_25 rfl (znarZ (by omega)).1 ?_
      first | exact k0 (by omega) | exact k1 (by omega)
    · refine aw_iload_n dX10_isSort_11 rfl rfl ?_
      refine aw_if_lt (tgt := 24) dX10_isSort_12 (by decide) rfl (by omega) (fun c12 => ?_) (fun c12 => ?_)
      · refine aw_iconst dX10_isSort_24 rfl ?_
        refine aw_ireturn (ty := .boolean) dX10_isSort_25 rfl (znarZ (by omega)).1 ?_
        first | exact k0 (by omega) | exact k1 (by omega)
      · refine aw_iload_n dX10_isSort_15 rfl rfl ?_
        refine aw_iconst dX10_isSort_16 rfl ?_
        refine aw_icmp_gt (tgt := 24) dX10_isSort_17 (by decide) rfl (by omega) (by omega) (fun c17 => ?_) (fun c17 => ?_)
        · refine aw_iconst dX10_isSort_24 rfl ?_
          refine aw_ireturn (ty := .boolean) dX10_isSort_25 rfl (znarZ (by omega)).1 ?_
          first | exact k0 (by omega) | exact k1 (by omega)
        · refine aw_iconst dX10_isSort_20 rfl ?_
          refine aw_goto (tgt := 25) dX10_isSort_21 (by decide) ?_
          refine aw_ireturn (ty := .boolean) dX10_isSort_25 rfl (znarZ (by omega)).1 ?_
          first | exact k0 (by omega) | exact k1 (by omega)
theorem sC_fan {x v : Int} (wf : Wf n f) (h : Ev mem 1 n f) (hx : -2147483648 ≤ x ∧ x ≤ 2147483647) (hv : -2147483648 ≤ v ∧ v ≤ 2147483647) (k : ∀ m' : Mem, FrI m' mem 1 17 → Ev m' 1 n (fanM n f x v).2 → Q (some (vI (fanM n f x v).1)) m') : AMet Γ mX10_fan [vR 0, vI x, vI v] zG mem Q := by
  have h0 : mem 2 0 = n := h.1.1
  have hh : ∀ x : Int, 0 ≤ x → x < 24 → mem 3 x = f x := h.1.2.2.2.2.1
  have hn := wf.1
  unfold fanM at k
  refine AMet.of' 1 (ls := [some (vR (0)), some (vI (x)), some (vI (v)), none]) (by decide) rfl (Nat.le_of_ble_eq_true rfl) ?_
  refine aw_aload_n dX10_fan_0 rfl rfl ?_
  refine aw_getR dX10_fan_1 rfl fl_X10_12 g0 (by rfl) ?_
  refine aw_getR dX10_fan_4 rfl fl_X10_105 g1 (by rfl) ?_
  refine aw_iload_n dX10_fan_7 rfl rfl ?_
  refine aw_callV [_] _ dX10_fan_8 rfl clv_X10_132 (by decide) ⟨Nat.zero_le _, Nat.zero_le _⟩ g2 (by rfl) (Nat.le_of_ble_eq_true rfl) rfl ?_
  refine sC_hasPlace E1.2.1 (by rw [h0]; exact hn) hx (fun c8 => ?_) (fun c8 => ?_)
  · refine aw_if_eq (tgt := 21) dX10_fan_11 (by decide) rfl (by omega) (fun c => absurd c (by decide)) (fun _ => ?_)
    rw [h0] at c8
    refine aw_iload_n dX10_fan_14 rfl rfl ?_
    refine aw_callS [_] _ dX10_fan_15 rfl cls_X10_161 (by decide) ⟨Nat.zero_le _, Nat.zero_le _⟩ (Nat.le_of_ble_eq_true rfl) rfl ?_
    refine sC_isHeat hv (fun c15 => ?_) (fun c15 => ?_)
    · refine aw_if_ne (tgt := 23) dX10_fan_18 (by decide) rfl (by omega) (fun _ => ?_) (fun c => absurd c (by decide))
      refine aw_aload_n dX10_fan_23 rfl rfl ?_
      refine aw_getR dX10_fan_24 rfl fl_X10_12 g0 (by rfl) ?_
      refine aw_getR dX10_fan_27 rfl fl_X10_105 g1 (by rfl) ?_
      refine aw_getR dX10_fan_30 rfl fl_X10_135 g2 (by rfl) ?_
      refine aw_iload_n dX10_fan_33 rfl rfl ?_
      refine aw_iaload dX10_fan_34 rfl g3 (by decide) (by omega) ?_
      refine aw_istore3 rfl dX10_fan_35 rfl (by decide) ?_
      refine aw_aload_n dX10_fan_36 rfl rfl ?_
      refine aw_getR dX10_fan_37 rfl fl_X10_12 g0 (by rfl) ?_
      refine aw_getR dX10_fan_40 rfl fl_X10_105 g1 (by rfl) ?_
      refine aw_getR dX10_fan_43 rfl fl_X10_135 g2 (by rfl) ?_
      refine aw_iload_n dX10_fan_46 rfl rfl ?_
      refine aw_iload_n dX10_fan_47 rfl rfl ?_
      refine aw_iastore dX10_fan_48 rfl g3 (by decide) (by omega) ?_
      refine aw_iload_n dX10_fan_49 rfl rfl ?_
      refine aw_ireturn (ty := .int) dX10_fan_50 rfl rfl ?_
      rw [if_pos ⟨c8, c15⟩] at k; rw [hh x (by omega) (by omega)]; exact k _ (FrI.rf.set (by decide)) (h.heat wf (by omega))
    · refine aw_if_ne (tgt := 23) dX10_fan_18 (by decide) rfl (by omega) (fun c => absurd c (by decide)) (fun _ => ?_)
      refine aw_iconst dX10_fan_21 rfl ?_
      refine aw_ireturn (ty := .int) dX10_fan_22 rfl rfl ?_
      first | (rw [if_neg (fun z => c15 z.2)] at k; exact k _ FrI.rf h) | (rw [h0] at c8; rw [if_neg (fun z => c8 z.1)] at k; exact k _ FrI.rf h)
  · refine aw_if_eq (tgt := 21) dX10_fan_11 (by decide) rfl (by omega) (fun _ => ?_) (fun c => absurd c (by decide))
    refine aw_iconst dX10_fan_21 rfl ?_
    refine aw_ireturn (ty := .int) dX10_fan_22 rfl rfl ?_
    first | (rw [if_neg (fun z => c15 z.2)] at k; exact k _ FrI.rf h) | (rw [h0] at c8; rw [if_neg (fun z => c8 z.1)] at k; exact k _ FrI.rf h)
theorem sC_ash {x v : Int} (wf : Wf n f) (h : Ev mem 1 n f) (hx : -2147483648 ≤ x ∧ x ≤ 2147483647) (hv : -2147483648 ≤ v ∧ v ≤ 2147483647) (k : ∀ m' : Mem, FrI m' mem 1 17 → Ev m' 1 n (ashM f x v).2 → Q (some (vI (ashM f x v).1)) m') : AMet Γ mX10_ash [vR 0, vI x, vI v] zG mem Q := by
  have h1 : mem 2 1 = f 24 := h.1.2.1
  have h2 : mem 2 2 = f 25 := h.1.2.2.1
  unfold ashM at k
  have l0 := h.loss (k := 0) (v := v) wf (by omega)
  have l1 := h.loss (k := 1) (v := v) wf (by omega)
  refine AMet.of' 1 (ls := [some (vR (0)), some (vI (x)), some (vI (v)), none]) (by decide) rfl (Nat.le_of_ble_eq_true rfl) ?_
  refine aw_iload_n dX10_ash_0 rfl rfl ?_
  refine aw_if_lt (tgt := 19) dX10_ash_1 (by decide) rfl (by omega) (fun c1 => ?_) (fun c1 => ?_)
  · refine aw_iconst dX10_ash_19 rfl ?_
    refine aw_ireturn (ty := .int) dX10_ash_20 rfl rfl ?_
    rw [if_neg (by omega)] at k; exact k _ FrI.rf h
  · refine aw_iload_n dX10_ash_4 rfl rfl ?_
    refine aw_iconst dX10_ash_5 rfl ?_
    refine aw_icmp_gt (tgt := 19) dX10_ash_6 (by decide) rfl (by omega) (by omega) (fun c6 => ?_) (fun c6 => ?_)
    · refine aw_iconst dX10_ash_19 rfl ?_
      refine aw_ireturn (ty := .int) dX10_ash_20 rfl rfl ?_
      rw [if_neg (by omega)] at k; exact k _ FrI.rf h
    · refine aw_iload_n dX10_ash_9 rfl rfl ?_
      refine aw_if_lt (tgt := 19) dX10_ash_10 (by decide) rfl (by omega) (fun c10 => ?_) (fun c10 => ?_)
      · refine aw_iconst dX10_ash_19 rfl ?_
        refine aw_ireturn (ty := .int) dX10_ash_20 rfl rfl ?_
        rw [if_neg (by omega)] at k; exact k _ FrI.rf h
      · refine aw_iload_n dX10_ash_13 rfl rfl ?_
        refine aw_bipush dX10_ash_14 rfl (by decide) ?_
        refine aw_icmp_le (tgt := 21) dX10_ash_16 (by decide) rfl (by omega) (by omega) (fun c16 => ?_) (fun c16 => ?_)
        · refine aw_iload_n dX10_ash_21 rfl rfl ?_
          refine aw_if_ne (tgt := 38) dX10_ash_22 (by decide) rfl (by omega) (fun c22 => ?_) (fun c22 => ?_)
          · refine aw_aload_n dX10_ash_38 rfl rfl ?_
            refine aw_getR dX10_ash_39 rfl fl_X10_12 g0 (by rfl) ?_
            refine aw_getR dX10_ash_42 rfl fl_X10_105 g1 (by rfl) ?_
            refine aw_getI (kI := 2) dX10_ash_45 rfl fl_X10_117 g2 (by rfl) rfl ?_
            refine aw_istore3 rfl dX10_ash_48 rfl (by decide) ?_
            refine aw_iload_n dX10_ash_49 rfl rfl ?_
            refine aw_if_ne (tgt := 67) dX10_ash_50 (by decide) rfl (by omega) (fun c50 => ?_) (fun c50 => ?_)
            · refine aw_aload_n dX10_ash_67 rfl rfl ?_
              refine aw_getR dX10_ash_68 rfl fl_X10_12 g0 (by rfl) ?_
              refine aw_getR dX10_ash_71 rfl fl_X10_105 g1 (by rfl) ?_
              refine aw_iload_n dX10_ash_74 rfl rfl ?_
              refine aw_putI (kI := 2) dX10_ash_75 rfl fp_X10_117 g2 (by rfl) rfl ?_
              refine aw_iload_n dX10_ash_78 rfl rfl ?_
              refine aw_ireturn (ty := .int) dX10_ash_79 rfl rfl ?_
              first | (exfalso; omega) | (rw [if_pos (by omega), show x = 0 by omega] at k; rw [h1]; exact k _ (FrI.rf.set (by decide)) l0) | (rw [if_pos (by omega), show x = 1 by omega] at k; rw [h2]; exact k _ (FrI.rf.set (by decide)) l1)
            · refine aw_aload_n dX10_ash_53 rfl rfl ?_
              refine aw_getR dX10_ash_54 rfl fl_X10_12 g0 (by rfl) ?_
              refine aw_getR dX10_ash_57 rfl fl_X10_105 g1 (by rfl) ?_
              refine aw_iload_n dX10_ash_60 rfl rfl ?_
              refine aw_putI (kI := 1) dX10_ash_61 rfl fp_X10_114 g2 (by rfl) rfl ?_
              refine aw_goto (tgt := 78) dX10_ash_64 (by decide) ?_
              refine aw_iload_n dX10_ash_78 rfl rfl ?_
              refine aw_ireturn (ty := .int) dX10_ash_79 rfl rfl ?_
              first | (exfalso; omega) | (rw [if_pos (by omega), show x = 0 by omega] at k; rw [h1]; exact k _ (FrI.rf.set (by decide)) l0) | (rw [if_pos (by omega), show x = 1 by omega] at k; rw [h2]; exact k _ (FrI.rf.set (by decide)) l1)
          · refine aw_aload_n dX10_ash_25 rfl rfl ?_
            refine aw_getR dX10_ash_26 rfl fl_X10_12 g0 (by rfl) ?_
            refine aw_getR dX10_ash_29 rfl fl_X10_105 g1 (by rfl) ?_
            refine aw_getI (kI := 1) dX10_ash_32 rfl fl_X10_114 g2 (by rfl) rfl ?_
            refine aw_goto (tgt := 48) dX10_ash_35 (by decide) ?_
            refine aw_istore3 rfl dX10_ash_48 rfl (by decide) ?_
            refine aw_iload_n dX10_ash_49 rfl rfl ?_
            refine aw_if_ne (tgt := 67) dX10_ash_50 (by decide) rfl (by omega) (fun c50 => ?_) (fun c50 => ?_)
            · refine aw_aload_n dX10_ash_67 rfl rfl ?_
              refine aw_getR dX10_ash_68 rfl fl_X10_12 g0 (by rfl) ?_
              refine aw_getR dX10_ash_71 rfl fl_X10_105 g1 (by rfl) ?_
              refine aw_iload_n dX10_ash_74 rfl rfl ?_
              refine aw_putI (kI := 2) dX10_ash_75 rfl fp_X10_117 g2 (by rfl) rfl ?_
              refine aw_iload_n dX10_ash_78 rfl rfl ?_
              refine aw_ireturn (ty := .int) dX10_ash_79 rfl rfl ?_
              first | (exfalso; omega) | (rw [if_pos (by omega), show x = 0 by omega] at k; rw [h1]; exact k _ (FrI.rf.set (by decide)) l0) | (rw [if_pos (by omega), show x = 1 by omega] at k; rw [h2]; exact k _ (FrI.rf.set (by decide)) l1)
            · refine aw_aload_n dX10_ash_53 rfl rfl ?_
              refine aw_getR dX10_ash_54 rfl fl_X10_12 g0 (by rfl) ?_
              refine aw_getR dX10_ash_57 rfl fl_X10_105 g1 (by rfl) ?_
              refine aw_iload_n dX10_ash_60 rfl rfl ?_
              refine aw_putI (kI := 1) dX10_ash_61 rfl fp_X10_114 g2 (by rfl) rfl ?_
              refine aw_goto (tgt := 78) dX10_ash_64 (by decide) ?_
              refine aw_iload_n dX10_ash_78 rfl rfl ?_
              refine aw_ireturn (ty := .int) dX10_ash_79 rfl rfl ?_
              first | (exfalso; omega) | (rw [if_pos (by omega), show x = 0 by omega] at k; rw [h1]; exact k _ (FrI.rf.set (by decide)) l0) | (rw [if_pos (by omega), show x = 1 by omega] at k; rw [h2]; exact k _ (FrI.rf.set (by decide)) l1)
        · refine aw_iconst dX10_ash_19 rfl ?_
          refine aw_ireturn (ty := .int) dX10_ash_20 rfl rfl ?_
          rw [if_neg (by omega)] at k; exact k _ FrI.rf h
theorem sC_stoke {c a r : Int} (wf : Wf n f) (h : Ev mem 1 n f) (hc : -2147483648 ≤ c ∧ c ≤ 2147483647) (ha : -2147483648 ≤ a ∧ a ≤ 2147483647) (hr : -2147483648 ≤ r ∧ r ≤ 2147483647) (k : ∀ m' : Mem, FrI m' mem 1 17 → Ev m' 1 n (stokeM n f c a r).2 → Q (some (vI (stokeM n f c a r).1)) m') : AMet Γ mX10_stoke [vR 0, vI c, vI a, vI r] zG mem Q := by
  have h0 : mem 2 0 = n := h.1.1
  have h3 : mem 2 3 = f 26 := h.1.2.2.2.1
  have hn := wf.1
  have w26 := wf.2.2.2.2.1
  unfold stokeM at k
  have s50 : (0 ≤ c ∧ c < n) ∧ (1 ≤ a ∧ a ≤ 99) ∧ (1 ≤ r ∧ r ≤ 9) → ∀ x4 : Option AV, AW Γ mX10_stoke (zF Γ zG Q) zG 0 0 50 [some (vR 0), some (vI c), some (vI a), some (vI r), x4] [] mem := by
    intro hz x4
    rw [if_pos hz] at k
    have ly := fun h6 => h.lay (a := c) (v := a) (r := r) wf h6
    refine aw_aload_n dX10_stoke_50 rfl rfl ?_
    refine aw_getR dX10_stoke_51 rfl fl_X10_12 g0 (by rfl) ?_
    refine aw_getR dX10_stoke_54 rfl fl_X10_105 g1 (by rfl) ?_
    refine aw_iload_n dX10_stoke_57 rfl rfl ?_
    refine aw_iload_n dX10_stoke_58 rfl rfl ?_
    refine aw_iload_n dX10_stoke_59 rfl rfl ?_
    refine aw_callV [_, _, _] _ dX10_stoke_60 rfl clv_X10_167 (by decide) ⟨Nat.zero_le _, Nat.zero_le _⟩ g2 (by rfl) (Nat.le_of_ble_eq_true rfl) rfl ?_
    refine sC_layWood E1.2.1 (by rw [h3]; exact w26) (fun h6 => ?_) (fun m1 h6 e1 => ?_)
    · refine aw_if_eq (tgt := 79) dX10_stoke_63 (by decide) rfl (by omega) (fun _ => ?_) (fun c => absurd c (by decide))
      rw [h3] at h6
      rw [if_pos h6] at k
      refine aw_bipush dX10_stoke_79 rfl (by decide) ?_
      refine aw_ireturn (ty := .int) dX10_stoke_81 rfl rfl ?_
      first | exact k _ FrI.rf h | (rw [e2]; refine k m1 ?_ (by rw [e1]; exact ly h6); rw [e1]; exact (((FrI.rf.set (by decide)).set (by decide)).set (by decide)).set (by decide))
    · refine aw_if_eq (tgt := 79) dX10_stoke_63 (by decide) rfl (by omega) (fun c => absurd c (by decide)) (fun _ => ?_)
      rw [h3] at h6 e1
      rw [if_neg h6] at k
      have e2 : m1 2 3 = f 26 + 1 := by rw [e1, mset_same, fset_same]
      refine aw_aload_n dX10_stoke_66 rfl rfl ?_
      refine aw_getR dX10_stoke_67 rfl fl_X10_12 g0 (by rfl) ?_
      refine aw_getR dX10_stoke_70 rfl fl_X10_105 g1 (by rfl) ?_
      refine aw_getI (kI := 3) dX10_stoke_73 rfl fl_X10_120 g2 (by rfl) rfl ?_
      refine aw_goto (tgt := 81) dX10_stoke_76 (by decide) ?_
      refine aw_ireturn (ty := .int) dX10_stoke_81 rfl rfl ?_
      first | exact k _ FrI.rf h | (rw [e2]; refine k m1 ?_ (by rw [e1]; exact ly h6); rw [e1]; exact (((FrI.rf.set (by decide)).set (by decide)).set (by decide)).set (by decide))
  refine AMet.of' 1 (ls := [some (vR (0)), some (vI (c)), some (vI (a)), some (vI (r)), none]) (by decide) rfl (Nat.le_of_ble_eq_true rfl) ?_
  refine aw_aload_n dX10_stoke_0 rfl rfl ?_
  refine aw_getR dX10_stoke_1 rfl fl_X10_12 g0 (by rfl) ?_
  refine aw_getR dX10_stoke_4 rfl fl_X10_105 g1 (by rfl) ?_
  refine aw_iload_n dX10_stoke_7 rfl rfl ?_
  refine aw_callV [_] _ dX10_stoke_8 rfl clv_X10_164 (by decide) ⟨Nat.zero_le _, Nat.zero_le _⟩ g2 (by rfl) (Nat.le_of_ble_eq_true rfl) rfl ?_
  refine sC_hasCell E1.2.1 (by rw [h0]; exact hn) hc (fun c8 => ?_) (fun c8 => ?_)
  · refine aw_if_eq (tgt := 40) dX10_stoke_11 (by decide) rfl (by omega) (fun c => absurd c (by decide)) (fun _ => ?_)
    refine aw_iload_n dX10_stoke_14 rfl rfl ?_
    refine aw_iconst dX10_stoke_15 rfl ?_
    refine aw_icmp_lt (tgt := 40) dX10_stoke_16 (by decide) rfl (by omega) (by omega) (fun c16 => ?_) (fun c16 => ?_)
    · refine aw_iconst dX10_stoke_40 rfl ?_
      refine aw_istore4 rfl dX10_stoke_41 rfl (by decide) ?_
      refine aw_iload dX10_stoke_43 rfl rfl ?_
      refine aw_if_ne (tgt := 50) dX10_stoke_45 (by decide) rfl (by omega) (fun c45 => ?_) (fun c45 => ?_)
      · exact s50 (by rw [h0] at c8; omega) _
      · refine aw_iconst dX10_stoke_48 rfl ?_
        refine aw_ireturn (ty := .int) dX10_stoke_49 rfl rfl ?_
        rw [h0] at c8; rw [if_neg (by omega)] at k; exact k _ FrI.rf h
    · refine aw_iload_n dX10_stoke_19 rfl rfl ?_
      refine aw_bipush dX10_stoke_20 rfl (by decide) ?_
      refine aw_icmp_gt (tgt := 40) dX10_stoke_22 (by decide) rfl (by omega) (by omega) (fun c22 => ?_) (fun c22 => ?_)
      · refine aw_iconst dX10_stoke_40 rfl ?_
        refine aw_istore4 rfl dX10_stoke_41 rfl (by decide) ?_
        refine aw_iload dX10_stoke_43 rfl rfl ?_
        refine aw_if_ne (tgt := 50) dX10_stoke_45 (by decide) rfl (by omega) (fun c45 => ?_) (fun c45 => ?_)
        · exact s50 (by rw [h0] at c8; omega) _
        · refine aw_iconst dX10_stoke_48 rfl ?_
          refine aw_ireturn (ty := .int) dX10_stoke_49 rfl rfl ?_
          rw [h0] at c8; rw [if_neg (by omega)] at k; exact k _ FrI.rf h
      · refine aw_iload_n dX10_stoke_25 rfl rfl ?_
        refine aw_iconst dX10_stoke_26 rfl ?_
        refine aw_icmp_lt (tgt := 40) dX10_stoke_27 (by decide) rfl (by omega) (by omega) (fun c27 => ?_) (fun c27 => ?_)
        · refine aw_iconst dX10_stoke_40 rfl ?_
          refine aw_istore4 rfl dX10_stoke_41 rfl (by decide) ?_
          refine aw_iload dX10_stoke_43 rfl rfl ?_
          refine aw_if_ne (tgt := 50) dX10_stoke_45 (by decide) rfl (by omega) (fun c45 => ?_) (fun c45 => ?_)
          · exact s50 (by rw [h0] at c8; omega) _
          · refine aw_iconst dX10_stoke_48 rfl ?_
            refine aw_ireturn (ty := .int) dX10_stoke_49 rfl rfl ?_
            rw [h0] at c8; rw [if_neg (by omega)] at k; exact k _ FrI.rf h
        · refine aw_iload_n dX10_stoke_30 rfl rfl ?_
          refine aw_bipush dX10_stoke_31 rfl (by decide) ?_
          refine aw_icmp_gt (tgt := 40) dX10_stoke_33 (by decide) rfl (by omega) (by omega) (fun c33 => ?_) (fun c33 => ?_)
          · refine aw_iconst dX10_stoke_40 rfl ?_
            refine aw_istore4 rfl dX10_stoke_41 rfl (by decide) ?_
            refine aw_iload dX10_stoke_43 rfl rfl ?_
            refine aw_if_ne (tgt := 50) dX10_stoke_45 (by decide) rfl (by omega) (fun c45 => ?_) (fun c45 => ?_)
            · exact s50 (by rw [h0] at c8; omega) _
            · refine aw_iconst dX10_stoke_48 rfl ?_
              refine aw_ireturn (ty := .int) dX10_stoke_49 rfl rfl ?_
              rw [h0] at c8; rw [if_neg (by omega)] at k; exact k _ FrI.rf h
          · refine aw_iconst dX10_stoke_36 rfl ?_
            refine aw_goto (tgt := 41) dX10_stoke_37 (by decide) ?_
            refine aw_istore4 rfl dX10_stoke_41 rfl (by decide) ?_
            refine aw_iload dX10_stoke_43 rfl rfl ?_
            refine aw_if_ne (tgt := 50) dX10_stoke_45 (by decide) rfl (by omega) (fun c45 => ?_) (fun c45 => ?_)
            · exact s50 (by rw [h0] at c8; omega) _
            · refine aw_iconst dX10_stoke_48 rfl ?_
              refine aw_ireturn (ty := .int) dX10_stoke_49 rfl rfl ?_
              rw [h0] at c8; rw [if_neg (by omega)] at k; exact k _ FrI.rf h
  · refine aw_if_eq (tgt := 40) dX10_stoke_11 (by decide) rfl (by omega) (fun _ => ?_) (fun c => absurd c (by decide))
    refine aw_iconst dX10_stoke_40 rfl ?_
    refine aw_istore4 rfl dX10_stoke_41 rfl (by decide) ?_
    refine aw_iload dX10_stoke_43 rfl rfl ?_
    refine aw_if_ne (tgt := 50) dX10_stoke_45 (by decide) rfl (by omega) (fun c45 => ?_) (fun c45 => ?_)
    · exact s50 (by rw [h0] at c8; omega) _
    · refine aw_iconst dX10_stoke_48 rfl ?_
      refine aw_ireturn (ty := .int) dX10_stoke_49 rfl rfl ?_
      rw [h0] at c8; rw [if_neg (by omega)] at k; exact k _ FrI.rf h
theorem sC_add {s w : Int} (wf : Wf n f) (h : Ev mem 1 n f) (hs : -2147483648 ≤ s ∧ s ≤ 2147483647) (hw : -2147483648 ≤ w ∧ w ≤ 2147483647) (k : ∀ m' : Mem, FrI m' mem 1 17 → Ev m' 1 n (addM f s w).2 → Q (some (vI (addM f s w).1)) m') : AMet Γ mX10_add [vR 0, vI s, vI w] zG mem Q := by
  unfold addM at k
  refine AMet.of' 0 (ls := [some (vR (0)), some (vI (s)), some (vI (w))]) (by decide) rfl (Nat.le_of_ble_eq_true rfl) ?_
  refine aw_iload_n dX10_add_0 rfl rfl ?_
  refine aw_iload_n dX10_add_1 rfl rfl ?_
  refine aw_callS [_, _] _ dX10_add_2 rfl cls_X10_171 (by decide) ⟨Nat.zero_le _, Nat.zero_le _⟩ (Nat.le_of_ble_eq_true rfl) rfl ?_
  refine sC_isSort hs hw (fun c2 => ?_) (fun c2 => ?_)
  · refine aw_if_ne (tgt := 10) dX10_add_5 (by decide) rfl (by omega) (fun _ => ?_) (fun c => absurd c (by decide))
    rw [if_pos c2] at k
    refine aw_aload_n dX10_add_10 rfl rfl ?_
    refine aw_getR dX10_add_11 rfl fl_X10_12 g0 (by rfl) ?_
    refine aw_iload_n dX10_add_14 rfl rfl ?_
    refine aw_iload_n dX10_add_15 rfl rfl ?_
    refine aw_callV [_, _] _ dX10_add_16 rfl clv_X10_175 (by decide) ⟨Nat.zero_le _, Nat.zero_le _⟩ g1 (by rfl) (Nat.le_of_ble_eq_true rfl) rfl ?_
    refine sC_bring E1 wf h (fun h6 => ?_) (fun m1 h6 f1 v1 => ?_)
    · refine aw_if_eq (tgt := 32) dX10_add_19 (by decide) rfl (by omega) (fun _ => ?_) (fun c => absurd c (by decide))
      rw [if_pos h6] at k
      refine aw_bipush dX10_add_32 rfl (by decide) ?_
      refine aw_ireturn (ty := .int) dX10_add_34 rfl rfl ?_
      first | exact k _ FrI.rf h | (rw [e2]; exact k m1 f1 v1)
    · refine aw_if_eq (tgt := 32) dX10_add_19 (by decide) rfl (by omega) (fun c => absurd c (by decide)) (fun _ => ?_)
      rw [if_neg h6] at k
      have e2 : m1 1 2 = f 46 + 1 := v1.2.1.1
      refine aw_aload_n dX10_add_22 rfl rfl ?_
      refine aw_getR dX10_add_23 rfl fl_X10_12 g0 (by rfl) ?_
      refine aw_getI (kI := 2) dX10_add_26 rfl fl_X10_126 g1 (by rfl) rfl ?_
      refine aw_goto (tgt := 34) dX10_add_29 (by decide) ?_
      refine aw_ireturn (ty := .int) dX10_add_34 rfl rfl ?_
      first | exact k _ FrI.rf h | (rw [e2]; exact k m1 f1 v1)
  · refine aw_if_ne (tgt := 10) dX10_add_5 (by decide) rfl (by omega) (fun c => absurd c (by decide)) (fun _ => ?_)
    refine aw_iconst dX10_add_8 rfl ?_
    refine aw_ireturn (ty := .int) dX10_add_9 rfl rfl ?_
    rw [if_neg c2] at k; exact k _ FrI.rf h
theorem sC_dig {p x : Int} (wf : Wf n f) (ds : Dis f) (h : Ev mem 1 n f) (hp : -2147483648 ≤ p ∧ p ≤ 2147483647) (hx : -2147483648 ≤ x ∧ x ≤ 2147483647) (k : ∀ m' : Mem, FrI m' mem 1 17 → Ev m' 1 n (digM n f p x).2 → Q (some (vI (digM n f p x).1)) m') : AMet Γ mX10_dig [vR 0, vI p, vI x] zG mem Q := by
  have a2 : mem 1 2 = f 46 := h.2.1.1
  have h0 : mem 2 0 = n := h.1.1
  have w46 := wf.n46
  have hn := wf.1
  unfold digM at k
  have s67 : ∀ l : Int, (0 ≤ p ∧ p < f 46) ∧ (x = -4 ∨ (0 ≤ x ∧ x < 3 * n)) → freeB (f 46).toNat f p x = true → AW Γ mX10_dig (zF Γ zG Q) zG 0 0 67 [some (vR 0), some (vI p), some (vI x), some (vI l), none] [] mem := by
    intro l hz hf
    rw [if_pos hz, if_pos hf] at k
    obtain ⟨q, rfl⟩ : ∃ q : Nat, p = q := ⟨p.toNat, by omega⟩
    have gp := E1.2.2.2.2.2.2 q (by omega)
    unfold SpG at gp
    have hsp := h.2.2.1 q hz.1.2
    have wsp := wf.sp hz.1.2
    have hpl : mem (1 + 10 + q) 2 = f (47 + 8 * (q : Int) + 2) := hsp.2.2.1
    refine aw_aload_n dX10_dig_67 rfl rfl ?_
    refine aw_getR dX10_dig_68 rfl fl_X10_12 g0 (by rfl) ?_
    refine aw_getR dX10_dig_71 rfl fl_X10_151 g1 (by rfl) ?_
    refine aw_iload_n dX10_dig_74 rfl rfl ?_
    refine aw_aaload dX10_dig_75 rfl g7 six_len (by omega) (six_getN (b := 1) (by omega)) ?_
    refine aw_getI (kI := 2) dX10_dig_76 rfl fl_X10_181 (by first | assumption | rfl) (by rfl) rfl ?_
    rw [hpl]
    refine aw_istore4 rfl dX10_dig_79 rfl (by decide) ?_
    refine aw_aload_n dX10_dig_81 rfl rfl ?_
    refine aw_getR dX10_dig_82 rfl fl_X10_12 g0 (by rfl) ?_
    refine aw_getR dX10_dig_85 rfl fl_X10_151 g1 (by rfl) ?_
    refine aw_iload_n dX10_dig_88 rfl rfl ?_
    refine aw_aaload dX10_dig_89 rfl g7 six_len (by omega) (six_getN (b := 1) (by omega)) ?_
    refine aw_iload_n dX10_dig_90 rfl rfl ?_
    refine aw_putI (kI := 2) dX10_dig_91 rfl fp_X10_181 (by first | assumption | rfl) (by rfl) rfl ?_
    refine aw_iload dX10_dig_94 rfl rfl ?_
    refine aw_ireturn (ty := .int) dX10_dig_96 rfl rfl ?_
    rw [mset_eq]; exact k _ (FrI.rf.cell (by omega)) (h.spud wf (by omega) (fun j hj => by dsimp only; rw [fset_ne (by omega)]) (put_row (k := 2) hsp wsp (by omega)))
  have s52 : ∀ l : Int, (0 ≤ p ∧ p < f 46) ∧ (x = -4 ∨ (0 ≤ x ∧ x < 3 * n)) → (-4 ≤ l ∧ l < 6) → ((l = -4 ∨ l = p) ↔ freeB (f 46).toNat f p x = true) → AW Γ mX10_dig (zF Γ zG Q) zG 0 0 52 [some (vR 0), some (vI p), some (vI x), none, none] [vI l] mem := by
    intro l hz hl hfr
    have k2 : ¬ freeB (f 46).toNat f p x = true → Q (some (vI (-2))) mem := by
      intro hf
      rw [if_pos hz, if_neg hf] at k
      exact k _ FrI.rf h
    refine aw_istore3 rfl dX10_dig_52 rfl (by decide) ?_
    refine aw_iload_n dX10_dig_53 rfl rfl ?_
    refine aw_bipush dX10_dig_54 rfl (by decide) ?_
    refine aw_icmp_eq (tgt := 67) dX10_dig_56 (by decide) rfl (by omega) (by omega) (fun c56 => ?_) (fun c56 => ?_)
    · exact s67 l hz (hfr.mp (by omega))
    · refine aw_iload_n dX10_dig_59 rfl rfl ?_
      refine aw_iload_n dX10_dig_60 rfl rfl ?_
      refine aw_icmp_eq (tgt := 67) dX10_dig_61 (by decide) rfl (by omega) (by omega) (fun c61 => ?_) (fun c61 => ?_)
      · exact s67 l hz (hfr.mp (by omega))
      · refine aw_bipush dX10_dig_64 rfl (by decide) ?_
        refine aw_ireturn (ty := .int) dX10_dig_66 rfl rfl ?_
        exact k2 (fun z => by have := hfr.mpr z; omega)
  have s33 : (0 ≤ p ∧ p < f 46) ∧ (x = -4 ∨ (0 ≤ x ∧ x < 3 * n)) → AW Γ mX10_dig (zF Γ zG Q) zG 0 0 33 [some (vR 0), some (vI p), some (vI x), none, none] [] mem := by
    intro hz
    have hr := whoF_rng f x (f 46).toNat 0
    have fo : x = -4 → (((-4 : Int) = -4 ∨ (-4 : Int) = p) ↔ freeB (f 46).toNat f p x = true) := by
      intro e
      constructor
      · intro _
        rw [freeB_iff]
        intro q _
        exact Or.inl e
      · intro _
        exact Or.inl rfl
    refine aw_iload_n dX10_dig_33 rfl rfl ?_
    refine aw_bipush dX10_dig_34 rfl (by decide) ?_
    refine aw_icmp_ne (tgt := 44) dX10_dig_36 (by decide) rfl (by omega) (by omega) (fun c36 => ?_) (fun c36 => ?_)
    · refine aw_aload_n dX10_dig_44 rfl rfl ?_
      refine aw_getR dX10_dig_45 rfl fl_X10_12 g0 (by rfl) ?_
      refine aw_iload_n dX10_dig_48 rfl rfl ?_
      refine aw_callV [_] _ dX10_dig_49 rfl clv_X10_178 (by decide) ⟨Nat.zero_le _, Nat.zero_le _⟩ g1 (by rfl) (Nat.le_of_ble_eq_true rfl) rfl ?_
      refine sC_whoLiesIn E1 hx wf h ?_
      first | exact s52 _ hz (by omega) (fo c36) | exact s52 _ hz (by omega) (dig_free ds w46.1 hz.1 (by omega)).symm
    · refine aw_bipush dX10_dig_39 rfl (by decide) ?_
      refine aw_goto (tgt := 52) dX10_dig_41 (by decide) ?_
      first | exact s52 _ hz (by omega) (fo c36) | exact s52 _ hz (by omega) (dig_free ds w46.1 hz.1 (by omega)).symm
  refine AMet.of' 2 (ls := [some (vR (0)), some (vI (p)), some (vI (x)), none, none]) (by decide) rfl (Nat.le_of_ble_eq_true rfl) ?_
  refine aw_aload_n dX10_dig_0 rfl rfl ?_
  refine aw_getR dX10_dig_1 rfl fl_X10_12 g0 (by rfl) ?_
  refine aw_iload_n dX10_dig_4 rfl rfl ?_
  refine aw_callV [_] _ dX10_dig_5 rfl clv_X10_148 (by decide) ⟨Nat.zero_le _, Nat.zero_le _⟩ g1 (by rfl) (Nat.le_of_ble_eq_true rfl) rfl ?_
  refine sC_hasSpud E1 (by rw [a2]; exact w46) hp (fun c5 => ?_) (fun c5 => ?_)
  · refine aw_if_eq (tgt := 31) dX10_dig_8 (by decide) rfl (by omega) (fun c => absurd c (by decide)) (fun _ => ?_)
    refine aw_iload_n dX10_dig_11 rfl rfl ?_
    refine aw_bipush dX10_dig_12 rfl (by decide) ?_
    refine aw_icmp_eq (tgt := 33) dX10_dig_14 (by decide) rfl (by omega) (by omega) (fun c14 => ?_) (fun c14 => ?_)
    · rw [a2] at c5
      first | exact s33 ⟨c5, Or.inl (by omega)⟩ | exact s33 ⟨c5, Or.inr (by rw [h0] at c25; exact c25)⟩
    · refine aw_aload_n dX10_dig_17 rfl rfl ?_
      refine aw_getR dX10_dig_18 rfl fl_X10_12 g0 (by rfl) ?_
      refine aw_getR dX10_dig_21 rfl fl_X10_105 g1 (by rfl) ?_
      refine aw_iload_n dX10_dig_24 rfl rfl ?_
      refine aw_callV [_] _ dX10_dig_25 rfl clv_X10_132 (by decide) ⟨Nat.zero_le _, Nat.zero_le _⟩ g2 (by rfl) (Nat.le_of_ble_eq_true rfl) rfl ?_
      refine sC_hasPlace E1.2.1 (by rw [h0]; exact hn) hx (fun c25 => ?_) (fun c25 => ?_)
      · refine aw_if_ne (tgt := 33) dX10_dig_28 (by decide) rfl (by omega) (fun _ => ?_) (fun c => absurd c (by decide))
        rw [a2] at c5
        first | exact s33 ⟨c5, Or.inl (by omega)⟩ | exact s33 ⟨c5, Or.inr (by rw [h0] at c25; exact c25)⟩
      · refine aw_if_ne (tgt := 33) dX10_dig_28 (by decide) rfl (by omega) (fun c => absurd c (by decide)) (fun _ => ?_)
        refine aw_iconst dX10_dig_31 rfl ?_
        refine aw_ireturn (ty := .int) dX10_dig_32 rfl rfl ?_
        first | (rw [a2] at c5; rw [if_neg (fun z => c5 z.1)] at k; exact k _ FrI.rf h) | (rw [h0] at c25; rw [if_neg (fun z => by rcases z.2 with y | y; exact c14 y; exact c25 y)] at k; exact k _ FrI.rf h)
  · refine aw_if_eq (tgt := 31) dX10_dig_8 (by decide) rfl (by omega) (fun _ => ?_) (fun c => absurd c (by decide))
    refine aw_iconst dX10_dig_31 rfl ?_
    refine aw_ireturn (ty := .int) dX10_dig_32 rfl rfl ?_
    first | (rw [a2] at c5; rw [if_neg (fun z => c5 z.1)] at k; exact k _ FrI.rf h) | (rw [h0] at c25; rw [if_neg (fun z => by rcases z.2 with y | y; exact c14 y; exact c25 y)] at k; exact k _ FrI.rf h)
theorem sC_turn {p : Int} (wf : Wf n f) (h : Ev mem 1 n f) (hp : -2147483648 ≤ p ∧ p ≤ 2147483647) (k : ∀ m' : Mem, FrI m' mem 1 17 → Ev m' 1 n (turnM f p).2 → Q (some (vI (turnM f p).1)) m') : AMet Γ mX10_turn [vR 0, vI p] zG mem Q := by
  have a2 : mem 1 2 = f 46 := h.2.1.1
  have w46 := wf.n46
  unfold turnM at k
  have s13 : (0 ≤ p ∧ p < f 46) → AW Γ mX10_turn (zF Γ zG Q) zG 0 0 13 [some (vR 0), some (vI p)] [] mem := by
    intro hz
    rw [if_pos hz] at k
    obtain ⟨q, rfl⟩ : ∃ q : Nat, p = q := ⟨p.toNat, by omega⟩
    have gp := E1.2.2.2.2.2.2 q (by omega)
    have gp0 := gp
    unfold SpG at gp0
    have hsp := h.2.2.1 q hz.2
    have wsp := wf.sp hz.2
    have tr := trn_row hsp wsp
    have h5 := hsp.2.2.2.2.2.1
    refine aw_aload_n dX10_turn_13 rfl rfl ?_
    refine aw_getR dX10_turn_14 rfl fl_X10_12 g0 (by rfl) ?_
    refine aw_getR dX10_turn_17 rfl fl_X10_151 g1 (by rfl) ?_
    refine aw_iload_n dX10_turn_20 rfl rfl ?_
    refine aw_aaload dX10_turn_21 rfl g7 six_len (by omega) (six_getN (b := 1) (by omega)) ?_
    refine aw_callV [] _ dX10_turn_22 rfl clv_X10_184 (by decide) ⟨Nat.zero_le _, Nat.zero_le _⟩ (by first | assumption | rfl) (by rfl) (Nat.le_of_ble_eq_true rfl) rfl ?_
    refine sC_turnOver gp ?_
    refine aw_aload_n dX10_turn_25 rfl rfl ?_
    refine aw_getR dX10_turn_26 rfl fl_X10_12 g0 (by rfl) ?_
    refine aw_getR dX10_turn_29 rfl fl_X10_151 g1 (by rfl) ?_
    refine aw_iload_n dX10_turn_32 rfl rfl ?_
    refine aw_aaload dX10_turn_33 rfl g7 six_len (by omega) (six_getN (b := 1) (by omega)) ?_
    refine aw_getI (kI := 4) dX10_turn_34 rfl fl_X10_187 (by first | assumption | rfl) (by rfl) rfl ?_
    refine aw_ireturn (ty := .int) dX10_turn_37 rfl rfl ?_
    rw [mcell_same, show trnG (mem (1 + 10 + q)) 4 = mem (1 + 10 + q) 5 from rfl, h5]
    rw [show 47 + 8 * (q : Int) + 4 + (1 - f (47 + 8 * (q : Int) + 6)) = 47 + 8 * (q : Int) + (5 - f (47 + 8 * (q : Int) + 6)) by omega] at k
    exact k _ (FrI.rf.cell (by omega)) (h.spud wf (by omega) (fun j hj => by dsimp only; unfold turnF; rw [fset_ne (by omega)]) tr)
  refine AMet.of' 0 (ls := [some (vR (0)), some (vI (p))]) (by decide) rfl (Nat.le_of_ble_eq_true rfl) ?_
  refine aw_aload_n dX10_turn_0 rfl rfl ?_
  refine aw_getR dX10_turn_1 rfl fl_X10_12 g0 (by rfl) ?_
  refine aw_iload_n dX10_turn_4 rfl rfl ?_
  refine aw_callV [_] _ dX10_turn_5 rfl clv_X10_148 (by decide) ⟨Nat.zero_le _, Nat.zero_le _⟩ g1 (by rfl) (Nat.le_of_ble_eq_true rfl) rfl ?_
  refine sC_hasSpud E1 (by rw [a2]; exact w46) hp (fun c5 => ?_) (fun c5 => ?_)
  · refine aw_if_ne (tgt := 13) dX10_turn_8 (by decide) rfl (by omega) (fun _ => ?_) (fun c => absurd c (by decide))
    exact s13 (by rw [a2] at c5; exact c5)
  · refine aw_if_ne (tgt := 13) dX10_turn_8 (by decide) rfl (by omega) (fun c => absurd c (by decide)) (fun _ => ?_)
    refine aw_iconst dX10_turn_11 rfl ?_
    refine aw_ireturn (ty := .int) dX10_turn_12 rfl rfl ?_
    rw [a2] at c5; rw [if_neg c5] at k; exact k _ FrI.rf h
theorem sC_wrap {p w : Int} (wf : Wf n f) (h : Ev mem 1 n f) (hp : -2147483648 ≤ p ∧ p ≤ 2147483647) (hw : -2147483648 ≤ w ∧ w ≤ 2147483647) (k : ∀ m' : Mem, FrI m' mem 1 17 → Ev m' 1 n (wrapM f p w).2 → Q (some (vI (wrapM f p w).1)) m') : AMet Γ mX10_wrap [vR 0, vI p, vI w] zG mem Q := by
  have a2 : mem 1 2 = f 46 := h.2.1.1
  have w46 := wf.n46
  unfold wrapM at k
  have s22 : (0 ≤ p ∧ p < f 46) ∧ (0 ≤ w ∧ w ≤ 2) → AW Γ mX10_wrap (zF Γ zG Q) zG 0 0 22 [some (vR 0), some (vI p), some (vI w), none] [] mem := by
    intro hz
    rw [if_pos hz] at k
    obtain ⟨q, rfl⟩ : ∃ q : Nat, p = q := ⟨p.toNat, by omega⟩
    have gp := E1.2.2.2.2.2.2 q (by omega)
    unfold SpG at gp
    have hsp := h.2.2.1 q hz.1.2
    have wsp := wf.sp hz.1.2
    have hpl : mem (1 + 10 + q) 1 = f (47 + 8 * (q : Int) + 1) := hsp.2.1
    refine aw_aload_n dX10_wrap_22 rfl rfl ?_
    refine aw_getR dX10_wrap_23 rfl fl_X10_12 g0 (by rfl) ?_
    refine aw_getR dX10_wrap_26 rfl fl_X10_151 g1 (by rfl) ?_
    refine aw_iload_n dX10_wrap_29 rfl rfl ?_
    refine aw_aaload dX10_wrap_30 rfl g7 six_len (by omega) (six_getN (b := 1) (by omega)) ?_
    refine aw_getI (kI := 1) dX10_wrap_31 rfl fl_X10_190 (by first | assumption | rfl) (by rfl) rfl ?_
    rw [hpl]
    refine aw_istore3 rfl dX10_wrap_34 rfl (by decide) ?_
    refine aw_aload_n dX10_wrap_35 rfl rfl ?_
    refine aw_getR dX10_wrap_36 rfl fl_X10_12 g0 (by rfl) ?_
    refine aw_getR dX10_wrap_39 rfl fl_X10_151 g1 (by rfl) ?_
    refine aw_iload_n dX10_wrap_42 rfl rfl ?_
    refine aw_aaload dX10_wrap_43 rfl g7 six_len (by omega) (six_getN (b := 1) (by omega)) ?_
    refine aw_iload_n dX10_wrap_44 rfl rfl ?_
    refine aw_putI (kI := 1) dX10_wrap_45 rfl fp_X10_190 (by first | assumption | rfl) (by rfl) rfl ?_
    refine aw_iload_n dX10_wrap_48 rfl rfl ?_
    refine aw_ireturn (ty := .int) dX10_wrap_49 rfl rfl ?_
    rw [mset_eq]; exact k _ (FrI.rf.cell (by omega)) (h.spud wf (by omega) (fun j hj => by dsimp only; rw [fset_ne (by omega)]) (put_row (k := 1) hsp wsp (by omega)))
  refine AMet.of' 1 (ls := [some (vR (0)), some (vI (p)), some (vI (w)), none]) (by decide) rfl (Nat.le_of_ble_eq_true rfl) ?_
  refine aw_aload_n dX10_wrap_0 rfl rfl ?_
  refine aw_getR dX10_wrap_1 rfl fl_X10_12 g0 (by rfl) ?_
  refine aw_iload_n dX10_wrap_4 rfl rfl ?_
  refine aw_callV [_] _ dX10_wrap_5 rfl clv_X10_148 (by decide) ⟨Nat.zero_le _, Nat.zero_le _⟩ g1 (by rfl) (Nat.le_of_ble_eq_true rfl) rfl ?_
  refine sC_hasSpud E1 (by rw [a2]; exact w46) hp (fun c5 => ?_) (fun c5 => ?_)
  · refine aw_if_eq (tgt := 20) dX10_wrap_8 (by decide) rfl (by omega) (fun c => absurd c (by decide)) (fun _ => ?_)
    refine aw_iload_n dX10_wrap_11 rfl rfl ?_
    refine aw_if_lt (tgt := 20) dX10_wrap_12 (by decide) rfl (by omega) (fun c12 => ?_) (fun c12 => ?_)
    · refine aw_iconst dX10_wrap_20 rfl ?_
      refine aw_ireturn (ty := .int) dX10_wrap_21 rfl rfl ?_
      rw [a2] at c5; rw [if_neg (by omega)] at k; exact k _ FrI.rf h
    · refine aw_iload_n dX10_wrap_15 rfl rfl ?_
      refine aw_iconst dX10_wrap_16 rfl ?_
      refine aw_icmp_le (tgt := 22) dX10_wrap_17 (by decide) rfl (by omega) (by omega) (fun c17 => ?_) (fun c17 => ?_)
      · exact s22 (by rw [a2] at c5; omega)
      · refine aw_iconst dX10_wrap_20 rfl ?_
        refine aw_ireturn (ty := .int) dX10_wrap_21 rfl rfl ?_
        rw [a2] at c5; rw [if_neg (by omega)] at k; exact k _ FrI.rf h
  · refine aw_if_eq (tgt := 20) dX10_wrap_8 (by decide) rfl (by omega) (fun _ => ?_) (fun c => absurd c (by decide))
    refine aw_iconst dX10_wrap_20 rfl ?_
    refine aw_ireturn (ty := .int) dX10_wrap_21 rfl rfl ?_
    rw [a2] at c5; rw [if_neg (by omega)] at k; exact k _ FrI.rf h
theorem sC_memo {p c : Int} (wf : Wf n f) (h : Ev mem 1 n f) (hp : -2147483648 ≤ p ∧ p ≤ 2147483647) (hc : -2147483648 ≤ c ∧ c ≤ 2147483647) (k : ∀ m' : Mem, FrI m' mem 1 17 → Ev m' 1 n (memoM n f p c).2 → Q (some (vI (memoM n f p c).1)) m') : AMet Γ mX10_memo [vR 0, vI p, vI c] zG mem Q := by
  have a2 : mem 1 2 = f 46 := h.2.1.1
  have h0 : mem 2 0 = n := h.1.1
  have hn := wf.1
  have w46 := wf.n46
  unfold memoM at k
  have s33 : (0 ≤ p ∧ p < f 46) ∧ (c = -4 ∨ (0 ≤ c ∧ c < n)) → AW Γ mX10_memo (zF Γ zG Q) zG 0 0 33 [some (vR 0), some (vI p), some (vI c), none] [] mem := by
    intro hz
    rw [if_pos hz] at k
    obtain ⟨q, rfl⟩ : ∃ q : Nat, p = q := ⟨p.toNat, by omega⟩
    have gp := E1.2.2.2.2.2.2 q (by omega)
    unfold SpG at gp
    have hsp := h.2.2.1 q hz.1.2
    have wsp := wf.sp hz.1.2
    have hpl : mem (1 + 10 + q) 6 = f (47 + 8 * (q : Int) + 7) := hsp.2.2.2.2.2.2
    refine aw_aload_n dX10_memo_33 rfl rfl ?_
    refine aw_getR dX10_memo_34 rfl fl_X10_12 g0 (by rfl) ?_
    refine aw_getR dX10_memo_37 rfl fl_X10_151 g1 (by rfl) ?_
    refine aw_iload_n dX10_memo_40 rfl rfl ?_
    refine aw_aaload dX10_memo_41 rfl g7 six_len (by omega) (six_getN (b := 1) (by omega)) ?_
    refine aw_getI (kI := 6) dX10_memo_42 rfl fl_X10_193 (by first | assumption | rfl) (by rfl) rfl ?_
    rw [hpl]
    refine aw_istore3 rfl dX10_memo_45 rfl (by decide) ?_
    refine aw_aload_n dX10_memo_46 rfl rfl ?_
    refine aw_getR dX10_memo_47 rfl fl_X10_12 g0 (by rfl) ?_
    refine aw_getR dX10_memo_50 rfl fl_X10_151 g1 (by rfl) ?_
    refine aw_iload_n dX10_memo_53 rfl rfl ?_
    refine aw_aaload dX10_memo_54 rfl g7 six_len (by omega) (six_getN (b := 1) (by omega)) ?_
    refine aw_iload_n dX10_memo_55 rfl rfl ?_
    refine aw_putI (kI := 6) dX10_memo_56 rfl fp_X10_193 (by first | assumption | rfl) (by rfl) rfl ?_
    refine aw_iload_n dX10_memo_59 rfl rfl ?_
    refine aw_ireturn (ty := .int) dX10_memo_60 rfl rfl ?_
    rw [mset_eq]; exact k _ (FrI.rf.cell (by omega)) (h.spud wf (by omega) (fun j hj => by dsimp only; rw [fset_ne (by omega)]) (put_row (k := 6) hsp wsp (by omega)))
  refine AMet.of' 1 (ls := [some (vR (0)), some (vI (p)), some (vI (c)), none]) (by decide) rfl (Nat.le_of_ble_eq_true rfl) ?_
  refine aw_aload_n dX10_memo_0 rfl rfl ?_
  refine aw_getR dX10_memo_1 rfl fl_X10_12 g0 (by rfl) ?_
  refine aw_iload_n dX10_memo_4 rfl rfl ?_
  refine aw_callV [_] _ dX10_memo_5 rfl clv_X10_148 (by decide) ⟨Nat.zero_le _, Nat.zero_le _⟩ g1 (by rfl) (Nat.le_of_ble_eq_true rfl) rfl ?_
  refine sC_hasSpud E1 (by rw [a2]; exact w46) hp (fun c5 => ?_) (fun c5 => ?_)
  · refine aw_if_eq (tgt := 31) dX10_memo_8 (by decide) rfl (by omega) (fun c => absurd c (by decide)) (fun _ => ?_)
    refine aw_iload_n dX10_memo_11 rfl rfl ?_
    refine aw_bipush dX10_memo_12 rfl (by decide) ?_
    refine aw_icmp_eq (tgt := 33) dX10_memo_14 (by decide) rfl (by omega) (by omega) (fun c14 => ?_) (fun c14 => ?_)
    · rw [a2] at c5
      first | exact s33 ⟨c5, Or.inl (by omega)⟩ | exact s33 ⟨c5, Or.inr (by rw [h0] at c25; exact c25)⟩
    · refine aw_aload_n dX10_memo_17 rfl rfl ?_
      refine aw_getR dX10_memo_18 rfl fl_X10_12 g0 (by rfl) ?_
      refine aw_getR dX10_memo_21 rfl fl_X10_105 g1 (by rfl) ?_
      refine aw_iload_n dX10_memo_24 rfl rfl ?_
      refine aw_callV [_] _ dX10_memo_25 rfl clv_X10_164 (by decide) ⟨Nat.zero_le _, Nat.zero_le _⟩ g2 (by rfl) (Nat.le_of_ble_eq_true rfl) rfl ?_
      refine sC_hasCell E1.2.1 (by rw [h0]; exact hn) hc (fun c25 => ?_) (fun c25 => ?_)
      · refine aw_if_ne (tgt := 33) dX10_memo_28 (by decide) rfl (by omega) (fun _ => ?_) (fun c => absurd c (by decide))
        rw [a2] at c5
        first | exact s33 ⟨c5, Or.inl (by omega)⟩ | exact s33 ⟨c5, Or.inr (by rw [h0] at c25; exact c25)⟩
      · refine aw_if_ne (tgt := 33) dX10_memo_28 (by decide) rfl (by omega) (fun c => absurd c (by decide)) (fun _ => ?_)
        refine aw_iconst dX10_memo_31 rfl ?_
        refine aw_ireturn (ty := .int) dX10_memo_32 rfl rfl ?_
        first | (rw [a2] at c5; rw [if_neg (fun z => c5 z.1)] at k; exact k _ FrI.rf h) | (rw [h0] at c25; rw [if_neg (fun z => by rcases z.2 with y | y; exact c14 y; exact c25 y)] at k; exact k _ FrI.rf h)
  · refine aw_if_eq (tgt := 31) dX10_memo_8 (by decide) rfl (by omega) (fun _ => ?_) (fun c => absurd c (by decide))
    refine aw_iconst dX10_memo_31 rfl ?_
    refine aw_ireturn (ty := .int) dX10_memo_32 rfl rfl ?_
    first | (rw [a2] at c5; rw [if_neg (fun z => c5 z.1)] at k; exact k _ FrI.rf h) | (rw [h0] at c25; rw [if_neg (fun z => by rcases z.2 with y | y; exact c14 y; exact c25 y)] at k; exact k _ FrI.rf h)
end ZCmp7
