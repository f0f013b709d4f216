/-! what a line keeps: memos told, no two potatoes in one place -/
theorem fresh_iff {d : Int → Int} {x : Int} : ∀ N : Nat, (¬ freshF d x N = 0 ↔ ∀ q : Nat, q < N → ¬ d (47 + 8 * (q : Int) + 2) = x) := by
  intro N
  induction N with
  | zero => exact ⟨fun _ q h => by omega, fun _ => by show ¬ (1 : Int) = 0; decide⟩
  | succ N ih =>
    rw [freshF]
    constructor
    · intro z q hq
      split at z
      · next h =>
        by_cases eq : q = N
        · subst eq; exact h.2
        · exact ih.mp h.1 q (by omega)
      · exact absurd rfl z
    · intro z
      rw [if_pos ⟨ih.mpr (fun q hq => z q (by omega)), z N (by omega)⟩]
      decide
section
variable {t : Int → Int} {L : Int} {s s' : PSt}
theorem MI.same (mi : MI s) (h8 : s'.1 8 = s.1 8) (hd : ∀ p : Nat, p < 6 → s'.2 (47 + 8 * (p : Int) + 7) = s.2 (47 + 8 * (p : Int) + 7)) : MI s' := by
  intro p hp
  rw [h8, hd p hp]
  exact mi p hp
theorem memoP_cf2 (h : memoP t L s = .ok s') : ∃ a b : Int, (0 ≤ a ∧ a ≤ 5) ∧ (0 ≤ b ∧ b ≤ 7) ∧ s'.1 8 = zor (s.1 8) (zshl 1 a) ∧ s'.2 = fset s.2 (47 + 8 * a + 7) b := by
  obtain ⟨s5, e5, q5⟩ := stP_ok h
  obtain ⟨s4, e4, q4⟩ := bind_ok e5
  obtain ⟨s3, e3, q3⟩ := bind_ok e4
  obtain ⟨s2, e2, q2⟩ := stP_ok e3
  obtain ⟨e1, x1, c1⟩ := chkP_ok e2
  have e1' : ((Except.ok s : Except Int PSt).bind (chkP (numD t L) t L (numC t L 0 5))).bind (stP (ghV t L)) = .ok s2 := e1
  obtain ⟨s0, e00, q0⟩ := stP_ok e1'
  obtain ⟨e01, x01, c01⟩ := chkP_ok e00
  cases e01
  have hv := c01.2
  obtain ⟨g4, d4⟩ := advP_cf q3
  obtain ⟨v5, m5, g5, d5⟩ := cellP_cf q4
  have v3 : s3.1 2 = tkV t L s.p := by rw [q2, q0]; rfl
  have v8 : s3.1 8 = zor (s.1 8) (zshl 1 (tkV t L s.p)) := by rw [q2, q0]; rfl
  have d3 : s3.2 = s.2 := by rw [q2, q0]; rfl
  have e' : s'.1 = s5.1 := by rw [q5]; rfl
  have u2 := g5 2 (by omega) (by omega)
  have u2' := g4 2 (by omega)
  refine ⟨tkV t L s.p, s5.1 1, hv, v5, ?_, ?_⟩
  · rw [e', g5 8 (by omega) (by omega), g4 8 (by omega), v8]
  · rw [q5]; show fset s5.2 (47 + 8 * s5.1 2 + 7) _ = _
    rw [d5, d4, d3, u2, u2', v3]
theorem memoP_MI (mi : MI s) (h : memoP t L s = .ok s') : MI s' := by
  obtain ⟨a, b, ha, hb, h8, hd⟩ := memoP_cf2 h
  obtain ⟨q, rfl⟩ : ∃ q : Nat, a = q := ⟨a.toNat, by omega⟩
  intro p hp
  rw [h8, zbt_or, zbt_shl1 (by omega) (by omega), hd]
  by_cases e : p = q
  · subst e
    rw [fset_same]
    constructor
    · intro _; omega
    · intro _; simp
  · rw [fset_ne (by omega)]
    have := mi p hp
    rw [show decide (p = q) = false from decide_eq_false e, Bool.or_false]
    exact this
theorem spudP_free (h : spudP t L 0 s = .ok s') (h46 : 0 ≤ s.2 46 ∧ s.2 46 ≤ 5) : ∀ q : Nat, (q : Int) < s.2 46 → ¬ s.2 (47 + 8 * (q : Int) + 2) = s'.2 (47 + 8 * s.2 46 + 2) := by
  unfold spudP at h
  rw [if_pos rfl] at h
  obtain ⟨s4, e4, q4⟩ := stP_ok h
  obtain ⟨s3, e3, q3⟩ := bind_ok e4
  obtain ⟨s2, e2, q2⟩ := bind_ok e3
  obtain ⟨a, b, va, vb, g2, d2⟩ := spudA_cf e2 h46.1
  obtain ⟨s1, e1, q1⟩ := stP_ok q2
  obtain ⟨e0, x0, c0⟩ := chkP_ok e1
  have e0' : ((Except.ok s2 : Except Int PSt).bind (chkP (numD t L) t L (numC t L 0 23))).bind (stP (ghV t L)) = .ok s1 := e0
  obtain ⟨s0, e00, q0⟩ := stP_ok e0'
  obtain ⟨e01, x01, c01⟩ := chkP_ok e00
  cases e01
  obtain ⟨g4, d4⟩ := advP_cf q3
  have k2' : s2.2 46 = s.2 46 := by rw [d2, fset_ne (by omega), fset_ne (by omega)]
  have z1 : s1.2 = s2.2 := by rw [q0]; rfl
  have d3 : s3.2 = fset s2.2 (47 + 8 * s.2 46 + 2) (s1.1 1) := by rw [q1]; show fset s1.2 (47 + 8 * s1.2 46 + 2) _ = _; rw [z1, k2']
  have e' : s'.2 (47 + 8 * s.2 46 + 2) = s1.1 1 := by
    rw [q4]; show fset s4.2 46 (s4.2 46 + 1) _ = _
    rw [fset_ne (by omega), d4, d3, fset_same]
  have fr : ¬ freshF s1.2 (s1.1 1) (s1.2 46).toNat = 0 := c0
  rw [z1, k2'] at fr
  have ff := (fresh_iff (s.2 46).toNat).mp fr
  intro q hq
  have := ff q (by omega)
  rw [d2, fset_ne (by omega), fset_ne (by omega)] at this
  rw [e']
  exact this
theorem Dis.same {f g : Int → Int} (h : Dis f) (e46 : g 46 = f 46) (hd : ∀ p : Nat, (p : Int) < f 46 → g (47 + 8 * (p : Int) + 2) = f (47 + 8 * (p : Int) + 2)) : Dis g := by
  intro p q hpq hq
  rw [e46] at hq
  rw [hd p (by omega), hd q hq]
  exact h p q hpq hq
theorem lineP_more (w : DW s) (mi : MI s) (ds : Dis s.2) (h : lineP t L s = .ok s') : MI s' ∧ Dis s'.2 := by
  obtain ⟨s2, e2, q2⟩ := bind_ok h
  obtain ⟨s1, e1, q1⟩ := bind_ok e2
  obtain ⟨l1, l2, l3⟩ := lineA_ok e1
  have lr := lineC_rng (t := t) (L := L) (s := s)
  have v3 : s1.1 3 = lineC t L s := by rw [l1]; rfl
  have w1 : DW s1 := w.same (by rw [l1]; rfl) (by rw [l1]; rfl) (by rw [l1]; rfl) (by rw [l1])
  have d1 : s1.2 = s.2 := by rw [l1]
  have mi1 : MI s1 := mi.same (by rw [l1]; rfl) (fun p _ => by rw [d1])
  have ds1 : Dis s1.2 := by rw [d1]; exact ds
  have l3' : ¬ fullC (s1.1 3) s1 := by rw [v3]; unfold fullC; rw [d1]; exact l3
  have h2 : MI s2 ∧ Dis s2.2 := by
    have k26 := w1.2.2.2.2.1
    have k46 := w1.2.2.2.2.2.1
    unfold lineOfP at q1
    split at q1
    · obtain ⟨a, b, c, ha, hb, hc, h5, hg, hd⟩ := fireP_cf q1
      exact ⟨mi1.same (hg 8 (by omega)) (fun p _ => by rw [hd, fset_ne (by omega), fset_ne (by omega)]), ds1.same (by rw [hd, fset_ne (by omega), fset_ne (by omega)]) (fun p _ => by rw [hd, fset_ne (by omega), fset_ne (by omega)])⟩
    · split at q1
      · obtain ⟨c, a, b, d, hc, ha, hb, hd, h9, hg, hz⟩ := heatP_cf q1
        exact ⟨mi1.same (hg 8 (by omega)) (fun p _ => by rw [hz, fset_ne (by omega), fset_ne (by omega), fset_ne (by omega)]), ds1.same (by rw [hz, fset_ne (by omega), fset_ne (by omega), fset_ne (by omega)]) (fun p _ => by rw [hz, fset_ne (by omega), fset_ne (by omega), fset_ne (by omega)])⟩
      · split at q1
        · obtain ⟨a, b, c, ha, hb, hc, h9, hg, hz⟩ := woodP_cf q1 k26.1
          have k5 : s1.2 26 ≤ 5 := by omega
          exact ⟨mi1.same (hg 8 (by omega) (by omega)) (fun p _ => by rw [hz, fset_ne (by omega), fset_ne (by omega), fset_ne (by omega), fset_ne (by omega)]), ds1.same (by rw [hz, fset_ne (by omega), fset_ne (by omega), fset_ne (by omega), fset_ne (by omega)]) (fun p _ => by rw [hz, fset_ne (by omega), fset_ne (by omega), fset_ne (by omega), fset_ne (by omega)])⟩
        · split at q1
          · refine ⟨memoP_MI mi1 q1, ?_⟩
            obtain ⟨a, b, ha, hb, h8, hd⟩ := memoP_cf2 q1
            exact ds1.same (by rw [hd, fset_ne (by omega)]) (fun p _ => by rw [hd, fset_ne (by omega)])
          · have k5 : s1.2 46 ≤ 5 := by omega
            obtain ⟨a, b, x, ha, hb, h10, hg, hz⟩ := spudP_cf q1 k46.1
            have hne : ∀ j : Int, ¬ j = 46 → j < 47 + 8 * s1.2 46 ∨ 47 + 8 * s1.2 46 + 2 < j → s2.2 j = s1.2 j := by
              intro j h1 h2
              rcases hz with ⟨-, -, hz⟩ | ⟨-, hz⟩
              · rw [hz, fset_ne h1, fset_ne (by omega), fset_ne (by omega), fset_ne (by omega)]
              · rw [hz, fset_ne h1, fset_ne (by omega), fset_ne (by omega)]
            have e46 : s2.2 46 = s1.2 46 + 1 := by
              rcases hz with ⟨-, -, hz⟩ | ⟨-, hz⟩
              · rw [hz, fset_same]
              · rw [hz, fset_same]
            refine ⟨mi1.same (hg 8 (by omega) (by omega)) (fun p _ => by rw [hne _ (by omega) (by omega)]), ?_⟩
            intro p q hpq hq
            rw [e46] at hq
            rw [hne (47 + 8 * (p : Int) + 2) (by omega) (by omega)]
            by_cases eq : (q : Int) = s1.2 46
            · rcases hz with ⟨ho, -, hz⟩ | ⟨-, hz⟩
              · right
                rw [ho] at q1
                rw [eq]
                exact spudP_free q1 (by omega) p (by omega)
              · have hm := (w1.2.2.2.2.2.2.2.1 (q : Int) (by omega) (by omega)).2.1
                rw [hz, fset_ne (by omega), fset_ne (by omega), fset_ne (by omega)]
                omega
            · rw [hne (47 + 8 * (q : Int) + 2) (by omega) (by omega)]
              exact ds1 p q hpq (by omega)
  obtain ⟨s3, e3, q3⟩ := bind_ok q2
  have e3' : (Except.ok s2 : Except Int PSt).bind (chkP k2 t L (fun s => tkK t L s.p = 3)) = .ok s3 := e3
  obtain ⟨e4, x4, c4⟩ := chkP_ok e3'
  cases e4
  obtain ⟨g3, d3⟩ := advP_cf q3
  exact ⟨h2.1.same (g3 8 (by omega)) (fun p _ => by rw [d3]), by rw [d3]; exact h2.2⟩
end
section ZCmp30
variable {Γ : ZG} {mem m : Mem} {Q : Option AV → Mem → Prop}
theorem sC_readLine (s : PSt) (hS : RdS mem) (hR : TkR mem (mem 69) (mem 68 1) s.p) (hx : ¬ tkX (mem 69) (mem 68 1) s.p) (hF : RdF s mem) (w : PW (mem 68 1) s) (dw : DW s) (mi : MI s) (k : ∀ m' : Mem, RdK mem m' → CmpR (lineP (mem 69) (mem 68 1) s) m' → Q none m') : AMet Γ mX5_readLine [vR 67] zG mem Q := by
  obtain ⟨e1, e3, e4, e2, ex, en⟩ := id hR
  have e5 := en hx
  have K0 : RdK mem mem := ⟨FrI.rf, rfl, rfl, rfl, hS⟩
  have q1 := (kdF_K (t := mem 69) w.2).2.1
  rw [← e2] at q1
  have ln := lineN_nm (t := mem 69) (L := mem 68 1) (b := mem 68 3) (e := mem 68 4)
  have lc1 : mem 68 2 = 1 → lineC (mem 69) (mem 68 1) s = lineN (mem 69) (mem 68 1) (mem 68 3) (mem 68 4) := fun z => by
    unfold lineC
    rw [if_pos (q1.mp z), e3, e4]
  have lc0 : ¬ mem 68 2 = 1 → lineC (mem 69) (mem 68 1) s = -4 := fun z => by
    unfold lineC
    rw [if_neg (fun y => z (q1.mpr y))]
  have s116 : lineC (mem 69) (mem 68 1) s = -4 → AW Γ mX5_readLine (zF Γ zG Q) zG 0 0 116 [some (vR 67)] [] mem := by
    intro hl
    have la : lineP (mem 69) (mem 68 1) s = .error (8 * tkB (mem 69) (mem 68 1) s.p + 2) := by
      refine lineP_err ?_
      unfold lineA
      rw [chkP_n hx (fun z => z hl)]
      rfl
    refine aw_aload_n dX5_readLine_116 rfl rfl ?_
    refine aw_getR dX5_readLine_117 rfl fl_X5_12 g67 (by rfl) ?_
    refine aw_iconst dX5_readLine_120 rfl ?_
    refine aw_callV [_] _ dX5_readLine_121 rfl clv_X5_143 (by decide) ⟨Nat.zero_le _, Nat.zero_le _⟩ g68 (by rfl) (Nat.le_of_ble_eq_true rfl) rfl ?_
    refine sC_flt K0 (by omega) e5 (fun m1 f1 k1 b1 => ?_)
    refine aw_return dX5_readLine_124 rfl ?_
    refine k m1 k1 ?_
    rw [la, ← e3]
    exact b1
  refine AMet.of' 0 (ls := [some (vR (67))]) (by decide) rfl (Nat.le_of_ble_eq_true rfl) ?_
  refine aw_aload_n dX5_readLine_0 rfl rfl ?_
  refine aw_getR dX5_readLine_1 rfl fl_X5_12 g67 (by rfl) ?_
  refine aw_ldcS (j := 0) (by rfl) dX5_readLine_4 rfl ?_
  refine aw_callV [_] _ dX5_readLine_6 rfl clv_X5_113 (by decide) ⟨Nat.zero_le _, Nat.zero_le _⟩ g68 (by rfl) (Nat.le_of_ble_eq_true rfl) rfl ?_
  refine sC_isName (j := 0) (by decide) hS.1 hS.2.1 (fun a0 b0 => ?_) (fun b0 => ?_)
  · refine aw_if_eq (tgt := 19) dX5_readLine_9 (by decide) rfl (by omega) (fun c => absurd c (by decide)) (fun _ => ?_)
    refine aw_aload_n dX5_readLine_12 rfl rfl ?_
    refine aw_callV [] _ dX5_readLine_13 rfl clv_X5_117 (by decide) ⟨Nat.zero_le _, Nat.zero_le _⟩ g67 (by rfl) (Nat.le_of_ble_eq_true rfl) rfl ?_
    refine sC_readFire s hS hR hx hF w dw (by rw [lc1 a0, ln, if_pos b0]) (fun m' x y => ?_)
    refine aw_goto (tgt := 124) dX5_readLine_16 (by decide) ?_
    refine aw_return dX5_readLine_124 rfl ?_
    exact k m' x y
  · refine aw_if_eq (tgt := 19) dX5_readLine_9 (by decide) rfl (by omega) (fun _ => ?_) (fun c => absurd c (by decide))
    refine aw_aload_n dX5_readLine_19 rfl rfl ?_
    refine aw_getR dX5_readLine_20 rfl fl_X5_12 g67 (by rfl) ?_
    refine aw_ldcS (j := 1) (by rfl) dX5_readLine_23 rfl ?_
    refine aw_callV [_] _ dX5_readLine_25 rfl clv_X5_113 (by decide) ⟨Nat.zero_le _, Nat.zero_le _⟩ g68 (by rfl) (Nat.le_of_ble_eq_true rfl) rfl ?_
    refine sC_isName (j := 1) (by decide) hS.1 hS.2.1 (fun a1 b1 => ?_) (fun b1 => ?_)
    · refine aw_if_eq (tgt := 38) dX5_readLine_28 (by decide) rfl (by omega) (fun c => absurd c (by decide)) (fun _ => ?_)
      refine aw_aload_n dX5_readLine_31 rfl rfl ?_
      refine aw_callV [] _ dX5_readLine_32 rfl clv_X5_122 (by decide) ⟨Nat.zero_le _, Nat.zero_le _⟩ g67 (by rfl) (Nat.le_of_ble_eq_true rfl) rfl ?_
      refine sC_readHeat s hS hR hx hF w dw (by rw [lc1 a1, ln, if_neg (fun y => b0 ⟨a1, y⟩), if_pos b1]) (fun m' x y => ?_)
      refine aw_goto (tgt := 124) dX5_readLine_35 (by decide) ?_
      refine aw_return dX5_readLine_124 rfl ?_
      exact k m' x y
    · refine aw_if_eq (tgt := 38) dX5_readLine_28 (by decide) rfl (by omega) (fun _ => ?_) (fun c => absurd c (by decide))
      refine aw_aload_n dX5_readLine_38 rfl rfl ?_
      refine aw_getR dX5_readLine_39 rfl fl_X5_12 g67 (by rfl) ?_
      refine aw_ldcS (j := 2) (by rfl) dX5_readLine_42 rfl ?_
      refine aw_callV [_] _ dX5_readLine_44 rfl clv_X5_113 (by decide) ⟨Nat.zero_le _, Nat.zero_le _⟩ g68 (by rfl) (Nat.le_of_ble_eq_true rfl) rfl ?_
      refine sC_isName (j := 2) (by decide) hS.1 hS.2.1 (fun a2 b2 => ?_) (fun b2 => ?_)
      · refine aw_if_eq (tgt := 57) dX5_readLine_47 (by decide) rfl (by omega) (fun c => absurd c (by decide)) (fun _ => ?_)
        refine aw_aload_n dX5_readLine_50 rfl rfl ?_
        refine aw_callV [] _ dX5_readLine_51 rfl clv_X5_127 (by decide) ⟨Nat.zero_le _, Nat.zero_le _⟩ g67 (by rfl) (Nat.le_of_ble_eq_true rfl) rfl ?_
        refine sC_readWood s hS hR hx hF w dw (by rw [lc1 a2, ln, if_neg (fun y => b0 ⟨a2, y⟩), if_neg (fun y => b1 ⟨a2, y⟩), if_pos b2]) (fun m' x y => ?_)
        refine aw_goto (tgt := 124) dX5_readLine_54 (by decide) ?_
        refine aw_return dX5_readLine_124 rfl ?_
        exact k m' x y
      · refine aw_if_eq (tgt := 57) dX5_readLine_47 (by decide) rfl (by omega) (fun _ => ?_) (fun c => absurd c (by decide))
        refine aw_aload_n dX5_readLine_57 rfl rfl ?_
        refine aw_getR dX5_readLine_58 rfl fl_X5_12 g67 (by rfl) ?_
        refine aw_ldcS (j := 3) (by rfl) dX5_readLine_61 rfl ?_
        refine aw_callV [_] _ dX5_readLine_63 rfl clv_X5_113 (by decide) ⟨Nat.zero_le _, Nat.zero_le _⟩ g68 (by rfl) (Nat.le_of_ble_eq_true rfl) rfl ?_
        refine sC_isName (j := 3) (by decide) hS.1 hS.2.1 (fun a3 b3 => ?_) (fun b3 => ?_)
        · refine aw_if_eq (tgt := 77) dX5_readLine_66 (by decide) rfl (by omega) (fun c => absurd c (by decide)) (fun _ => ?_)
          refine aw_aload_n dX5_readLine_69 rfl rfl ?_
          refine aw_iconst dX5_readLine_70 rfl ?_
          refine aw_callV [_] _ dX5_readLine_71 rfl clv_X5_132 (by decide) ⟨Nat.zero_le _, Nat.zero_le _⟩ g67 (by rfl) (Nat.le_of_ble_eq_true rfl) rfl ?_
          refine sC_readSpud (Or.inr rfl) s hS hR hx hF w dw (by rw [lc1 a3, ln, if_neg (fun y => b0 ⟨a3, y⟩), if_neg (fun y => b1 ⟨a3, y⟩), if_neg (fun y => b2 ⟨a3, y⟩), if_pos b3]; rfl) (fun m' x y => ?_)
          refine aw_goto (tgt := 124) dX5_readLine_74 (by decide) ?_
          refine aw_return dX5_readLine_124 rfl ?_
          exact k m' x y
        · refine aw_if_eq (tgt := 77) dX5_readLine_66 (by decide) rfl (by omega) (fun _ => ?_) (fun c => absurd c (by decide))
          refine aw_aload_n dX5_readLine_77 rfl rfl ?_
          refine aw_getR dX5_readLine_78 rfl fl_X5_12 g67 (by rfl) ?_
          refine aw_ldcS (j := 4) (by rfl) dX5_readLine_81 rfl ?_
          refine aw_callV [_] _ dX5_readLine_83 rfl clv_X5_113 (by decide) ⟨Nat.zero_le _, Nat.zero_le _⟩ g68 (by rfl) (Nat.le_of_ble_eq_true rfl) rfl ?_
          refine sC_isName (j := 4) (by decide) hS.1 hS.2.1 (fun a4 b4 => ?_) (fun b4 => ?_)
          · refine aw_if_eq (tgt := 97) dX5_readLine_86 (by decide) rfl (by omega) (fun c => absurd c (by decide)) (fun _ => ?_)
            refine aw_aload_n dX5_readLine_89 rfl rfl ?_
            refine aw_iconst dX5_readLine_90 rfl ?_
            refine aw_callV [_] _ dX5_readLine_91 rfl clv_X5_132 (by decide) ⟨Nat.zero_le _, Nat.zero_le _⟩ g67 (by rfl) (Nat.le_of_ble_eq_true rfl) rfl ?_
            refine sC_readSpud (Or.inl rfl) s hS hR hx hF w dw (by rw [lc1 a4, ln, if_neg (fun y => b0 ⟨a4, y⟩), if_neg (fun y => b1 ⟨a4, y⟩), if_neg (fun y => b2 ⟨a4, y⟩), if_neg (fun y => b3 ⟨a4, y⟩), if_pos b4]; rfl) (fun m' x y => ?_)
            refine aw_goto (tgt := 124) dX5_readLine_94 (by decide) ?_
            refine aw_return dX5_readLine_124 rfl ?_
            exact k m' x y
          · refine aw_if_eq (tgt := 97) dX5_readLine_86 (by decide) rfl (by omega) (fun _ => ?_) (fun c => absurd c (by decide))
            refine aw_aload_n dX5_readLine_97 rfl rfl ?_
            refine aw_getR dX5_readLine_98 rfl fl_X5_12 g67 (by rfl) ?_
            refine aw_ldcS (j := 5) (by rfl) dX5_readLine_101 rfl ?_
            refine aw_callV [_] _ dX5_readLine_103 rfl clv_X5_113 (by decide) ⟨Nat.zero_le _, Nat.zero_le _⟩ g68 (by rfl) (Nat.le_of_ble_eq_true rfl) rfl ?_
            refine sC_isName (j := 5) (by decide) hS.1 hS.2.1 (fun a5 b5 => ?_) (fun b5 => ?_)
            · refine aw_if_eq (tgt := 116) dX5_readLine_106 (by decide) rfl (by omega) (fun c => absurd c (by decide)) (fun _ => ?_)
              refine aw_aload_n dX5_readLine_109 rfl rfl ?_
              refine aw_callV [] _ dX5_readLine_110 rfl clv_X5_140 (by decide) ⟨Nat.zero_le _, Nat.zero_le _⟩ g67 (by rfl) (Nat.le_of_ble_eq_true rfl) rfl ?_
              refine sC_readMemo s hS hR hx hF w dw mi (by rw [lc1 a5, ln, if_neg (fun y => b0 ⟨a5, y⟩), if_neg (fun y => b1 ⟨a5, y⟩), if_neg (fun y => b2 ⟨a5, y⟩), if_neg (fun y => b3 ⟨a5, y⟩), if_neg (fun y => b4 ⟨a5, y⟩), if_pos b5]) (fun m' x y => ?_)
              refine aw_goto (tgt := 124) dX5_readLine_113 (by decide) ?_
              refine aw_return dX5_readLine_124 rfl ?_
              exact k m' x y
            · refine aw_if_eq (tgt := 116) dX5_readLine_106 (by decide) rfl (by omega) (fun _ => ?_) (fun c => absurd c (by decide))
              refine s116 ?_
              by_cases z : mem 68 2 = 1
              · rw [lc1 z, ln, if_neg (fun y => b0 ⟨z, y⟩), if_neg (fun y => b1 ⟨z, y⟩), if_neg (fun y => b2 ⟨z, y⟩), if_neg (fun y => b3 ⟨z, y⟩), if_neg (fun y => b4 ⟨z, y⟩), if_neg (fun y => b5 ⟨z, y⟩)]
              · exact lc0 z
end ZCmp30
