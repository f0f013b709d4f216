/-! a draft as it must be while it is read -/
def WdD (s : PSt) (i : Int) : Prop := (0 ≤ s.2 (27 + 3 * i) ∧ s.2 (27 + 3 * i) ≤ s.1 9) ∧ (1 ≤ s.2 (27 + 3 * i + 1) ∧ s.2 (27 + 3 * i + 1) ≤ 99) ∧ (1 ≤ s.2 (27 + 3 * i + 2) ∧ s.2 (27 + 3 * i + 2) ≤ 9)
def SpD (s : PSt) (p : Int) : Prop := (p < s.2 46 → (1 ≤ s.2 (47 + 8 * p + 0) ∧ s.2 (47 + 8 * p + 0) ≤ 9) ∧ (0 ≤ s.2 (47 + 8 * p + 1) ∧ s.2 (47 + 8 * p + 1) ≤ 2)) ∧ (s.2 (47 + 8 * p + 2) = -4 ∨ (p < s.2 46 ∧ 0 ≤ s.2 (47 + 8 * p + 2) ∧ s.2 (47 + 8 * p + 2) ≤ s.1 10)) ∧ (s.2 (47 + 8 * p + 3) = 0 ∧ s.2 (47 + 8 * p + 4) = 0 ∧ s.2 (47 + 8 * p + 5) = 0 ∧ s.2 (47 + 8 * p + 6) = 0) ∧ (s.2 (47 + 8 * p + 7) = -4 ∨ (0 ≤ s.2 (47 + 8 * p + 7) ∧ s.2 (47 + 8 * p + 7) ≤ s.1 9))
def DW (s : PSt) : Prop := (3 ≤ s.1 5 ∧ s.1 5 ≤ 8) ∧ HtW s.2 ∧ (0 ≤ s.2 24 ∧ s.2 24 ≤ 9) ∧ (0 ≤ s.2 25 ∧ s.2 25 ≤ 9) ∧ (0 ≤ s.2 26 ∧ s.2 26 ≤ 6) ∧ (0 ≤ s.2 46 ∧ s.2 46 ≤ 6) ∧ (∀ i : Int, 0 ≤ i → i < s.2 26 → WdD s i) ∧ (∀ p : Int, 0 ≤ p → p < 6 → SpD s p) ∧ (s.2 45 = 0 ∧ s.2 95 = 0 ∧ s.2 96 = 0)
theorem DW.mk' {s s' : PSt} (w : DW s) (h5 : 3 ≤ s'.1 5 ∧ s'.1 5 ≤ 8) (h9 : s.1 9 ≤ s'.1 9) (h10 : s.1 10 ≤ s'.1 10) (hH : HtW s'.2) (h24 : 0 ≤ s'.2 24 ∧ s'.2 24 ≤ 9) (h25 : 0 ≤ s'.2 25 ∧ s'.2 25 ≤ 9) (h26 : 0 ≤ s'.2 26 ∧ s'.2 26 ≤ 6) (h46 : 0 ≤ s'.2 46 ∧ s'.2 46 ≤ 6) (hw : ∀ i : Int, 0 ≤ i → i < s'.2 26 → (i < s.2 26 ∧ s'.2 (27 + 3 * i) = s.2 (27 + 3 * i) ∧ s'.2 (27 + 3 * i + 1) = s.2 (27 + 3 * i + 1) ∧ s'.2 (27 + 3 * i + 2) = s.2 (27 + 3 * i + 2)) ∨ WdD s' i) (hs : ∀ p : Int, 0 ≤ p → p < 6 → (s'.2 46 = s.2 46 ∧ ∀ k : Int, 0 ≤ k → k < 8 → s'.2 (47 + 8 * p + k) = s.2 (47 + 8 * p + k)) ∨ SpD s' p) (h45 : s'.2 45 = s.2 45) (h95 : s'.2 95 = s.2 95) (h96 : s'.2 96 = s.2 96) : DW s' := by
  obtain ⟨w5, wH, w24, w25, w26, w46, ww, ws, wz⟩ := w
  refine ⟨h5, hH, h24, h25, h26, h46, fun i a b => ?_, fun p a b => ?_, by omega⟩
  · rcases hw i a b with ⟨z0, z1, z2, z3⟩ | h
    · obtain ⟨y1, y2, y3⟩ := ww i a z0
      exact ⟨by omega, by omega, by omega⟩
    · exact h
  · rcases hs p a b with ⟨z0, z1⟩ | h
    · obtain ⟨y1, y2, y3, y4⟩ := ws p a b
      unfold SpD
      rw [z0, z1 0 (by omega) (by omega), z1 1 (by omega) (by omega), z1 2 (by omega) (by omega), z1 3 (by omega) (by omega), z1 4 (by omega) (by omega), z1 5 (by omega) (by omega), z1 6 (by omega) (by omega), z1 7 (by omega) (by omega)]
      exact ⟨y1, by omega, y3, by omega⟩
    · exact h
section
variable {t : Int → Int} {L : Int} {s s' : PSt}
theorem numP_cf {lo hi : Int} (h : numP t L lo hi s = .ok s') : (lo ≤ s'.1 1 ∧ s'.1 1 ≤ hi) ∧ (∀ j : Int, 2 ≤ j → s'.1 j = s.1 j) ∧ s'.2 = s.2 := by
  have h' : (Except.ok s : Except Int PSt).bind (numP t L lo hi) = .ok s' := h
  obtain ⟨s1, e1, x1, c1, q1⟩ := numP_ok h'
  cases e1
  subst q1
  refine ⟨c1.2, fun j hj => ?_, rfl⟩
  show fset (fset s.1 1 _) 0 _ j = _
  rw [fset_ne (by omega), fset_ne (by omega)]
theorem wrapP_cf (h : wrapP t L s = .ok s') : (0 ≤ s'.1 1 ∧ s'.1 1 ≤ 2) ∧ (∀ j : Int, 2 ≤ j → s'.1 j = s.1 j) ∧ s'.2 = s.2 := by
  have h' : (((Except.ok s : Except Int PSt).bind (chkP k2 t L (fun s => ¬ wrapC t L s = -4))).bind (stP (ghW t L))).bind (advP t L) = .ok s' := h
  obtain ⟨s1, e1, x1, q1⟩ := advP_ok h'
  obtain ⟨s2, e2, q2⟩ := stP_ok e1
  obtain ⟨e3, x3, c3⟩ := chkP_ok e2
  cases e3
  subst q2
  subst q1
  refine ⟨?_, fun j hj => ?_, rfl⟩
  · show 0 ≤ wrapC t L s ∧ wrapC t L s ≤ 2
    unfold wrapC at c3 ⊢
    split at c3
    · next hk =>
      rw [if_pos hk]
      unfold wrapN at c3 ⊢
      (repeat' split) <;> simp_all
    · exact absurd rfl c3
  · show fset (fset s.1 1 _) 0 _ j = _
    rw [fset_ne (by omega), fset_ne (by omega)]
theorem cellP_cf (h : cellP t L s = .ok s') : (0 ≤ s'.1 1 ∧ s'.1 1 ≤ 7) ∧ (s.1 9 ≤ s'.1 9 ∧ s'.1 1 ≤ s'.1 9) ∧ (∀ j : Int, 2 ≤ j → ¬ j = 9 → s'.1 j = s.1 j) ∧ s'.2 = s.2 := by
  have h' : (Except.ok s : Except Int PSt).bind (cellP t L) = .ok s' := h
  obtain ⟨s1, e1, x1, c1, q1⟩ := cellP_ok h'
  cases e1
  subst q1
  refine ⟨c1.2, ?_, fun j hj h9 => ?_, rfl⟩
  · show s.1 9 ≤ (if s.1 9 < tkV t L s.p then tkV t L s.p else s.1 9) ∧ tkV t L s.p ≤ (if s.1 9 < tkV t L s.p then tkV t L s.p else s.1 9)
    split <;> omega
  · show fset (fset (fset s.1 1 _) 9 _) 0 _ j = _
    rw [fset_ne (by omega), fset_ne h9, fset_ne (by omega)]
theorem advP_cf (h : advP t L s = .ok s') : (∀ j : Int, 1 ≤ j → s'.1 j = s.1 j) ∧ s'.2 = s.2 := by
  have h' : (Except.ok s : Except Int PSt).bind (advP t L) = .ok s' := h
  obtain ⟨s1, e1, x1, q1⟩ := advP_ok h'
  cases e1
  subst q1
  exact ⟨fun j hj => fset_ne (by omega), rfl⟩
theorem fireP_cf (h : fireP t L s = .ok s') : ∃ a b c : Int, (3 ≤ a ∧ a ≤ 8) ∧ (0 ≤ b ∧ b ≤ 9) ∧ (0 ≤ c ∧ c ≤ 9) ∧ s'.1 5 = a ∧ (∀ j : Int, 6 ≤ j → s'.1 j = s.1 j) ∧ s'.2 = fset (fset s.2 24 b) 25 c := by
  obtain ⟨s5, e5, q5⟩ := stP_ok h
  obtain ⟨s4, e4, q4⟩ := bind_ok e5
  obtain ⟨s3, e3, q3⟩ := stP_ok e4
  obtain ⟨s2, e2, q2⟩ := bind_ok e3
  obtain ⟨s1, e1, q1⟩ := stP_ok e2
  obtain ⟨v1, g1, d1⟩ := numP_cf e1
  obtain ⟨v2, g2, d2⟩ := numP_cf q2
  obtain ⟨v3, g3, d3⟩ := numP_cf q4
  have hs : ∀ j : Int, 5 ≤ j → s'.1 j = fset s1.1 5 (s1.1 1) j := by
    intro j hj
    rw [q5]
    show s5.1 j = _
    rw [g3 j (by omega), q3]
    show s3.1 j = _
    rw [g2 j (by omega), q1]
    rfl
  refine ⟨s1.1 1, s3.1 1, s5.1 1, v1, v2, v3, hs 5 (by omega), fun j hj => ?_, ?_⟩
  · rw [hs j (by omega), fset_ne (by omega), g1 j (by omega)]
  · rw [q5]
    show fset s5.2 25 _ = _
    rw [d3, q3]
    show fset (fset s3.2 24 _) 25 _ = _
    rw [d2, q1]
    show fset (fset s1.2 24 _) 25 _ = _
    rw [d1]
theorem heatS_cf {z : Int} (h : heatS t L z s = .ok s') : ∃ v : Int, (0 ≤ v ∧ v ≤ 99) ∧ (∀ j : Int, 2 ≤ j → s'.1 j = s.1 j) ∧ s'.2 = fset s.2 (3 * s.1 2 + z) v := by
  obtain ⟨s1, e1, q1⟩ := stP_ok h
  obtain ⟨v1, g1, d1⟩ := numP_cf e1
  refine ⟨s1.1 1, v1, fun j hj => by rw [q1]; exact g1 j hj, ?_⟩
  rw [q1]
  show fset s1.2 (3 * s1.1 2 + z) _ = _
  rw [d1, g1 2 (by omega)]
theorem heatP_cf (h : heatP t L s = .ok s') : ∃ c a b d : Int, (0 ≤ c ∧ c ≤ 7) ∧ (0 ≤ a ∧ a ≤ 99) ∧ (0 ≤ b ∧ b ≤ 99) ∧ (0 ≤ d ∧ d ≤ 99) ∧ (s.1 9 ≤ s'.1 9 ∧ c ≤ s'.1 9) ∧ (∀ j : Int, j = 5 ∨ j = 6 ∨ j = 8 ∨ j = 10 ∨ j = 11 → s'.1 j = s.1 j) ∧ s'.2 = fset (fset (fset s.2 (3 * c + 0) a) (3 * c + 1) b) (3 * c + 2) d := by
  obtain ⟨s5, e5, q5⟩ := bind_ok h
  obtain ⟨s4, e4, q4⟩ := bind_ok e5
  obtain ⟨s3, e3, q3⟩ := bind_ok e4
  obtain ⟨s2, e2, q2⟩ := bind_ok e3
  obtain ⟨s1, e1, q1⟩ := stP_ok e2
  obtain ⟨e0, x0, c0⟩ := chkP_ok e1
  have e0' : ((Except.ok s : Except Int PSt).bind (chkP (numD t L) t L (numC t L 0 7))).bind (stP (cellG t L)) = .ok s1 := e0
  obtain ⟨s0, e00, q0⟩ := stP_ok e0'
  obtain ⟨e01, x01, c01⟩ := chkP_ok e00
  cases e01
  have hv := c01.2
  obtain ⟨g3, d3⟩ := advP_cf q2
  obtain ⟨a, va, ga, da⟩ := heatS_cf q3
  obtain ⟨b, vb, gb, db⟩ := heatS_cf q4
  obtain ⟨c, vc, gc, dc⟩ := heatS_cf q5
  have hs : ∀ j : Int, 2 ≤ j → s'.1 j = s2.1 j := fun j hj => by rw [gc j hj, gb j hj, ga j hj, g3 j (by omega)]
  have v2 : s2.1 2 = tkV t L s.p := by rw [q1, q0]; rfl
  have v9 : s2.1 9 = (if s.1 9 < tkV t L s.p then tkV t L s.p else s.1 9) := by rw [q1, q0]; rfl
  have vj : ∀ j : Int, j = 5 ∨ j = 6 ∨ j = 8 ∨ j = 10 ∨ j = 11 → s2.1 j = s.1 j := by
    intro j hj
    rw [q1, q0]
    rcases hj with rfl | rfl | rfl | rfl | rfl <;> rfl
  have d2 : s2.2 = s.2 := by rw [q1, q0]; rfl
  have u3 := g3 2 (by omega)
  have ua := ga 2 (by omega)
  have ub := gb 2 (by omega)
  refine ⟨tkV t L s.p, a, b, c, hv, va, vb, vc, ?_, fun j hj => by rw [hs j (by omega), vj j hj], ?_⟩
  · rw [hs 9 (by omega), v9]
    split <;> omega
  · rw [dc, db, da, d3, d2, ub, ua, u3, v2]
theorem woodP_cf (h : woodP t L s = .ok s') (h26 : 0 ≤ s.2 26) : ∃ a b c : Int, (0 ≤ a ∧ a ≤ 7) ∧ (1 ≤ b ∧ b ≤ 99) ∧ (1 ≤ c ∧ c ≤ 9) ∧ (s.1 9 ≤ s'.1 9 ∧ a ≤ s'.1 9) ∧ (∀ j : Int, 2 ≤ j → ¬ j = 9 → s'.1 j = s.1 j) ∧ s'.2 = fset (fset (fset (fset s.2 (27 + 3 * s.2 26 + 0) a) (27 + 3 * s.2 26 + 1) b) (27 + 3 * s.2 26 + 2) c) 26 (s.2 26 + 1) := by
  obtain ⟨s6, e6, q6⟩ := stP_ok h
  obtain ⟨s5, e5, q5⟩ := stP_ok e6
  obtain ⟨s4, e4, q4⟩ := bind_ok e5
  obtain ⟨s3, e3, q3⟩ := stP_ok e4
  obtain ⟨s2, e2, q2⟩ := bind_ok e3
  obtain ⟨s1, e1, q1⟩ := stP_ok e2
  obtain ⟨v1, m1, g1, d1⟩ := cellP_cf e1
  obtain ⟨v3, g3, d3⟩ := numP_cf q2
  obtain ⟨v5, g5, d5⟩ := numP_cf q4
  have z2 : s2.2 = fset s.2 (27 + 3 * s.2 26 + 0) (s1.1 1) := by rw [q1]; show fset s1.2 (27 + 3 * s1.2 26 + 0) _ = _; rw [d1]
  have z4 : s4.2 = fset s3.2 (27 + 3 * s.2 26 + 1) (s3.1 1) := by
    rw [q3]; show fset s3.2 (27 + 3 * s3.2 26 + 1) _ = _
    rw [show s3.2 26 = s.2 26 by rw [d3, z2, fset_ne (by omega)]]
  have z6 : s6.2 = fset s5.2 (27 + 3 * s.2 26 + 2) (s5.1 1) := by
    rw [q5]; show fset s5.2 (27 + 3 * s5.2 26 + 2) _ = _
    rw [show s5.2 26 = s.2 26 by rw [d5, z4, fset_ne (by omega), d3, z2, fset_ne (by omega)]]
  have z7 : s'.2 = fset s6.2 26 (s.2 26 + 1) := by
    rw [q6]; show fset s6.2 26 (s6.2 26 + 1) = _
    rw [show s6.2 26 = s.2 26 by rw [z6, fset_ne (by omega), d5, z4, fset_ne (by omega), d3, z2, fset_ne (by omega)]]
  have hs : ∀ j : Int, 2 ≤ j → s'.1 j = s1.1 j := by
    intro j hj
    rw [q6]; show s6.1 j = _
    rw [q5]; show s5.1 j = _
    rw [g5 j hj, q3]; show s3.1 j = _
    rw [g3 j hj, q1]; rfl
  exact ⟨s1.1 1, s3.1 1, s5.1 1, v1, v3, v5, by rw [hs 9 (by omega)]; exact m1, fun j a b => by rw [hs j a, g1 j a b], by rw [z7, z6, d5, z4, d3, z2]⟩
theorem memoP_cf (h : memoP t L s = .ok s') : ∃ a b : Int, (0 ≤ a ∧ a ≤ 5) ∧ (0 ≤ b ∧ b ≤ 7) ∧ (s.1 9 ≤ s'.1 9 ∧ b ≤ s'.1 9) ∧ (s.1 11 ≤ s'.1 11 ∧ a ≤ s'.1 11) ∧ (∀ j : Int, j = 5 ∨ j = 6 ∨ j = 7 ∨ j = 10 → s'.1 j = s.1 j) ∧ s'.2 = fset s.2 (47 + 8 * a + 7) b := by
  obtain ⟨s5, e5, q5⟩ := stP_ok h
  obtain ⟨s4, e4, q4⟩ := bind_ok e5
  obtain ⟨s3, e3, q3⟩ := bind_ok e4
  obtain ⟨s2, e2, q2⟩ := stP_ok e3
  obtain ⟨e1, x1, c1⟩ := chkP_ok e2
  have e1' : ((Except.ok s : Except Int PSt).bind (chkP (numD t L) t L (numC t L 0 5))).bind (stP (ghV t L)) = .ok s2 := e1
  obtain ⟨s0, e00, q0⟩ := stP_ok e1'
  obtain ⟨e01, x01, c01⟩ := chkP_ok e00
  cases e01
  have hv := c01.2
  obtain ⟨g4, d4⟩ := advP_cf q3
  obtain ⟨v5, m5, g5, d5⟩ := cellP_cf q4
  have v3 : s3.1 2 = tkV t L s.p := by rw [q2, q0]; rfl
  have v9 : s3.1 9 = s.1 9 := by rw [q2, q0]; rfl
  have v11 : s3.1 11 = (if s.1 11 < tkV t L s.p then tkV t L s.p else s.1 11) := by rw [q2, q0]; rfl
  have vj : ∀ j : Int, j = 5 ∨ j = 6 ∨ j = 7 ∨ j = 10 → s3.1 j = s.1 j := by
    intro j hj
    rw [q2, q0]
    rcases hj with rfl | rfl | rfl | rfl <;> rfl
  have d3 : s3.2 = s.2 := by rw [q2, q0]; rfl
  have e' : s'.1 = s5.1 := by rw [q5]; rfl
  have u9 := g4 9 (by omega)
  have u2 := g5 2 (by omega) (by omega)
  have u2' := g4 2 (by omega)
  refine ⟨tkV t L s.p, s5.1 1, hv, v5, ?_, ?_, fun j hj => ?_, ?_⟩
  · rw [e']; omega
  · rw [e', g5 11 (by omega) (by omega), g4 11 (by omega), v11]
    split <;> omega
  · rw [e', g5 j (by omega) (by omega), g4 j (by omega), vj j hj]
  · rw [q5]; show fset s5.2 (47 + 8 * s5.1 2 + 7) _ = _
    rw [d5, d4, d3, u2, u2', v3]
theorem spudA_cf (h : spudA t L s = .ok s') (h46 : 0 ≤ s.2 46) : ∃ a b : Int, (1 ≤ a ∧ a ≤ 9) ∧ (0 ≤ b ∧ b ≤ 2) ∧ (∀ j : Int, 2 ≤ j → s'.1 j = s.1 j) ∧ s'.2 = fset (fset s.2 (47 + 8 * s.2 46 + 0) a) (47 + 8 * s.2 46 + 1) b := by
  obtain ⟨s3, e3, q3⟩ := stP_ok h
  obtain ⟨s2, e2, q2⟩ := bind_ok e3
  obtain ⟨s1, e1, q1⟩ := stP_ok e2
  obtain ⟨v1, g1, d1⟩ := numP_cf e1
  obtain ⟨v3, g3, d3⟩ := wrapP_cf q2
  have z2 : s2.2 = fset s.2 (47 + 8 * s.2 46 + 0) (s1.1 1) := by rw [q1]; show fset s1.2 (47 + 8 * s1.2 46 + 0) _ = _; rw [d1]
  refine ⟨s1.1 1, s3.1 1, v1, v3, fun j hj => ?_, ?_⟩
  · rw [q3]; show s3.1 j = _
    rw [g3 j hj, q1]; show s1.1 j = _
    exact g1 j hj
  · rw [q3]; show fset s3.2 (47 + 8 * s3.2 46 + 1) _ = _
    rw [show s3.2 46 = s.2 46 by rw [d3, z2, fset_ne (by omega)], d3, z2]
/-- x = -4: out -/
theorem spudP_cf {out : Int} (h : spudP t L out s = .ok s') (h46 : 0 ≤ s.2 46) : ∃ a b x : Int, (1 ≤ a ∧ a ≤ 9) ∧ (0 ≤ b ∧ b ≤ 2) ∧ s.1 10 ≤ s'.1 10 ∧ (∀ j : Int, 2 ≤ j → ¬ j = 10 → s'.1 j = s.1 j) ∧ ((out = 0 ∧ (0 ≤ x ∧ x ≤ 23 ∧ x ≤ s'.1 10) ∧ s'.2 = fset (fset (fset (fset s.2 (47 + 8 * s.2 46 + 0) a) (47 + 8 * s.2 46 + 1) b) (47 + 8 * s.2 46 + 2) x) 46 (s.2 46 + 1)) ∨ (¬ out = 0 ∧ s'.2 = fset (fset (fset s.2 (47 + 8 * s.2 46 + 0) a) (47 + 8 * s.2 46 + 1) b) 46 (s.2 46 + 1))) := by
  unfold spudP at h
  split at h
  · next ho =>
    obtain ⟨s4, e4, q4⟩ := stP_ok h
    obtain ⟨s3, e3, q3⟩ := bind_ok e4
    obtain ⟨s2, e2, q2⟩ := bind_ok e3
    obtain ⟨a, b, va, vb, g2, d2⟩ := spudA_cf e2 h46
    obtain ⟨s1, e1, q1⟩ := stP_ok q2
    obtain ⟨e0, x0, c0⟩ := chkP_ok e1
    have e0' : ((Except.ok s2 : Except Int PSt).bind (chkP (numD t L) t L (numC t L 0 23))).bind (stP (ghV t L)) = .ok s1 := e0
    obtain ⟨s0, e00, q0⟩ := stP_ok e0'
    obtain ⟨e01, x01, c01⟩ := chkP_ok e00
    cases e01
    have hv := c01.2
    obtain ⟨g4, d4⟩ := advP_cf q3
    have k2' : s2.2 46 = s.2 46 := by rw [d2, fset_ne (by omega), fset_ne (by omega)]
    have d3 : s3.2 = fset s2.2 (47 + 8 * s.2 46 + 2) (tkV t L s2.p) := by rw [q1, q0]; show fset s2.2 (47 + 8 * s2.2 46 + 2) _ = _; rw [k2']; rfl
    have v10 : s3.1 10 = (if s2.1 10 < tkV t L s2.p then tkV t L s2.p else s2.1 10) := by rw [q1, q0]; rfl
    have e' : s'.1 = s4.1 := by rw [q4]; rfl
    have u10 := g2 10 (by omega)
    refine ⟨a, b, tkV t L s2.p, va, vb, ?_, fun j h2 h10 => ?_, Or.inl ⟨ho, ⟨hv.1, hv.2, ?_⟩, ?_⟩⟩
    · rw [e', g4 10 (by omega), v10]
      split <;> omega
    · rw [e', g4 j (by omega), q1, q0]
      show fset (fset s2.1 1 _) 10 _ j = _
      rw [fset_ne h10, fset_ne (by omega), g2 j h2]
    · rw [e', g4 10 (by omega), v10]
      split <;> omega
    · rw [q4]; show fset s4.2 46 (s4.2 46 + 1) = _
      rw [show s4.2 46 = s.2 46 by rw [d4, d3, fset_ne (by omega), k2'], d4, d3, d2]
  · next ho =>
    obtain ⟨s4, e4, q4⟩ := stP_ok h
    obtain ⟨a, b, va, vb, g2, d2⟩ := spudA_cf e4 h46
    have k2' : s4.2 46 = s.2 46 := by rw [d2, fset_ne (by omega), fset_ne (by omega)]
    have e' : s'.1 = s4.1 := by rw [q4]; rfl
    refine ⟨a, b, 0, va, vb, ?_, fun j h2 h10 => by rw [e', g2 j h2], Or.inr ⟨ho, ?_⟩⟩
    · rw [e', g2 10 (by omega)]; omega
    · rw [q4]; show fset s4.2 46 (s4.2 46 + 1) = _
      rw [k2', d2]
end
