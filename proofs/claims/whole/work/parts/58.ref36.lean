theorem PW.mk' {L : Int} {s s' : PSt} (hp : 0 ≤ s'.p ∧ s'.p ≤ L) (h6 : s'.1 6 = 0 ∨ s'.1 6 = 1) (h9 : -4 ≤ s'.1 9 ∧ s'.1 9 ≤ 99) (h10 : -4 ≤ s'.1 10 ∧ s'.1 10 ≤ 99) (h11 : -4 ≤ s'.1 11 ∧ s'.1 11 ≤ 99) (h26 : 0 ≤ s'.2 26 ∧ s'.2 26 ≤ 6) (h46 : 0 ≤ s'.2 46 ∧ s'.2 46 ≤ 6) (w : PW L s) (hd : ∀ j : Int, 0 ≤ j → j < 115 → s'.2 j = s.2 j ∨ (-100 ≤ s'.2 j ∧ s'.2 j ≤ 100)) : PW L s' := by
  refine ⟨⟨h6, h9, h10, h11, h26, h46, fun j h0 h1 => ?_⟩, hp⟩
  have := w.1.2.2.2.2.2.2 j h0 h1
  rcases hd j h0 h1 with h | h
  · omega
  · exact h
section
variable {t : Int → Int} {L : Int} {s s' : PSt}
theorem num_pw {lo hi : Int} (w : PW L s) (h : numP t L lo hi s = .ok s') : PW L s' ∧ s.p ≤ s'.p ∧ (lo ≤ s'.1 1 ∧ s'.1 1 ≤ hi) ∧ (∀ j : Int, 2 ≤ j → s'.1 j = s.1 j) ∧ s'.2 = s.2 := by
  obtain ⟨v, p, g, d⟩ := numP_keep w.2 h
  obtain ⟨⟨w6, w9, w10, w11, w26, w46, wd⟩, wp⟩ := w
  refine ⟨PW.mk' (by omega) (by rw [g 6 (by omega)]; exact w6) (by rw [g 9 (by omega)]; exact w9) (by rw [g 10 (by omega)]; exact w10) (by rw [g 11 (by omega)]; exact w11) (by rw [d]; exact w26) (by rw [d]; exact w46) ⟨⟨w6, w9, w10, w11, w26, w46, wd⟩, wp⟩ (fun j _ _ => Or.inl (by rw [d])), p.1, v, g, d⟩
theorem wrap_pw (w : PW L s) (h : wrapP t L s = .ok s') : PW L s' ∧ s.p ≤ s'.p ∧ (-4 ≤ s'.1 1 ∧ s'.1 1 ≤ 2) ∧ (∀ j : Int, 2 ≤ j → s'.1 j = s.1 j) ∧ s'.2 = s.2 := by
  obtain ⟨v, p, g, d⟩ := wrapP_keep w.2 h
  obtain ⟨⟨w6, w9, w10, w11, w26, w46, wd⟩, wp⟩ := w
  refine ⟨PW.mk' (by omega) (by rw [g 6 (by omega)]; exact w6) (by rw [g 9 (by omega)]; exact w9) (by rw [g 10 (by omega)]; exact w10) (by rw [g 11 (by omega)]; exact w11) (by rw [d]; exact w26) (by rw [d]; exact w46) ⟨⟨w6, w9, w10, w11, w26, w46, wd⟩, wp⟩ (fun j _ _ => Or.inl (by rw [d])), p.1, v, g, d⟩
theorem cell_pw (w : PW L s) (h : cellP t L s = .ok s') : PW L s' ∧ s.p ≤ s'.p ∧ (0 ≤ s'.1 1 ∧ s'.1 1 ≤ 7) ∧ (∀ j : Int, 2 ≤ j → ¬ j = 9 → s'.1 j = s.1 j) ∧ s'.2 = s.2 := by
  obtain ⟨v, p, g9, g, d⟩ := cellP_keep w.2 w.1.2.1 h
  obtain ⟨⟨w6, w9, w10, w11, w26, w46, wd⟩, wp⟩ := w
  refine ⟨PW.mk' (by omega) (by rw [g 6 (by omega) (by omega)]; exact w6) g9 (by rw [g 10 (by omega) (by omega)]; exact w10) (by rw [g 11 (by omega) (by omega)]; exact w11) (by rw [d]; exact w26) (by rw [d]; exact w46) ⟨⟨w6, w9, w10, w11, w26, w46, wd⟩, wp⟩ (fun j _ _ => Or.inl (by rw [d])), p.1, v, g, d⟩
/-- a row's place of the draft takes the number -/
theorem put_pw {i v : Int} (w : PW L s) (h1 : s'.1 = s.1) (h2 : s'.2 = fset s.2 i v) (h26 : i = 26 → 0 ≤ v ∧ v ≤ 6) (h46 : i = 46 → 0 ≤ v ∧ v ≤ 6) (hv : -100 ≤ v ∧ v ≤ 100) : PW L s' ∧ s'.p = s.p := by
  obtain ⟨⟨w6, w9, w10, w11, w26, w46, wd⟩, wp⟩ := w
  have ep : s'.p = s.p := by show s'.1 0 = _; rw [h1]
  refine ⟨PW.mk' (by omega) (by rw [h1]; exact w6) (by rw [h1]; exact w9) (by rw [h1]; exact w10) (by rw [h1]; exact w11) ?_ ?_ ⟨⟨w6, w9, w10, w11, w26, w46, wd⟩, wp⟩ ?_, ep⟩
  · rw [h2]; unfold fset
    split
    · exact h26 (by omega)
    · exact w26
  · rw [h2]; unfold fset
    split
    · exact h46 (by omega)
    · exact w46
  · intro j _ _
    rw [h2]; unfold fset
    split
    · exact Or.inr hv
    · exact Or.inl rfl
theorem adv_pw (w : PW L s) (h : advP t L s = .ok s') : PW L s' ∧ s.p ≤ s'.p ∧ (∀ j : Int, 1 ≤ j → s'.1 j = s.1 j) ∧ s'.2 = s.2 := by
  have h' : (Except.ok s : Except Int PSt).bind (advP t L) = .ok s' := h
  obtain ⟨s1, e1, x1, q1⟩ := advP_ok h'
  cases e1
  have hb := tkB_rng (t := t) w.2
  have he := tkE_rng (t := t) w.2
  have hg : ∀ j : Int, 1 ≤ j → s'.1 j = s.1 j := by
    intro j hj
    rw [q1]
    exact fset_ne (by omega)
  have hd : s'.2 = s.2 := by rw [q1]
  have ep : s'.p = tkE t L s.p := by rw [q1]; rfl
  obtain ⟨⟨w6, w9, w10, w11, w26, w46, wd⟩, wp⟩ := w
  exact ⟨PW.mk' (by omega) (by rw [hg 6 (by omega)]; exact w6) (by rw [hg 9 (by omega)]; exact w9) (by rw [hg 10 (by omega)]; exact w10) (by rw [hg 11 (by omega)]; exact w11) (by rw [hd]; exact w26) (by rw [hd]; exact w46) ⟨⟨w6, w9, w10, w11, w26, w46, wd⟩, wp⟩ (fun j _ _ => Or.inl (by rw [hd])), by omega, hg, hd⟩
theorem heatS_pw {z : Int} (hz : 0 ≤ z ∧ z ≤ 2) (h2 : 0 ≤ s.1 2 ∧ s.1 2 ≤ 7) (w : PW L s) (h : heatS t L z s = .ok s') : PW L s' ∧ s.p ≤ s'.p ∧ s'.1 2 = s.1 2 := by
  obtain ⟨s1, e1, q1⟩ := stP_ok h
  obtain ⟨w1, p1, v1, g1, d1⟩ := num_pw w e1
  obtain ⟨w2, p2⟩ := put_pw (s' := s') w1 (by rw [q1]; rfl) (i := 3 * s1.1 2 + z) (v := s1.1 1) (by rw [q1]; rfl) (by have := g1 2 (by omega); omega) (by have := g1 2 (by omega); omega) (by omega)
  exact ⟨w2, by omega, by rw [q1]; exact g1 2 (by omega)⟩
theorem heatP_keep (w : PW L s) (h : heatP t L s = .ok s') : PW L s' ∧ s.p ≤ s'.p := by
  obtain ⟨s5, e5, q5⟩ := bind_ok h
  obtain ⟨s4, e4, q4⟩ := bind_ok e5
  obtain ⟨s3, e3, q3⟩ := bind_ok e4
  obtain ⟨s2, e2, q2⟩ := bind_ok e3
  obtain ⟨s1, e1, q1⟩ := stP_ok e2
  obtain ⟨e0, x0, c0⟩ := chkP_ok e1
  have e0' : ((Except.ok s : Except Int PSt).bind (chkP (numD t L) t L (numC t L 0 7))).bind (stP (cellG t L)) = .ok s1 := e0
  obtain ⟨s0, e00, q0⟩ := stP_ok e0'
  obtain ⟨e01, x01, c01⟩ := chkP_ok e00
  cases e01
  have hv := c01.2
  obtain ⟨⟨w6, w9, w10, w11, w26, w46, wd⟩, wp⟩ := w
  have v2 : s2.1 2 = tkV t L s.p := by rw [q1, q0]; rfl
  have w2 : PW L s2 := by
    rw [q1, q0]
    refine PW.mk' (s := s) wp w6 ?_ w10 w11 w26 w46 ⟨⟨w6, w9, w10, w11, w26, w46, wd⟩, wp⟩ (fun j _ _ => Or.inl rfl)
    show -4 ≤ (if s.1 9 < tkV t L s.p then tkV t L s.p else s.1 9) ∧ (if s.1 9 < tkV t L s.p then tkV t L s.p else s.1 9) ≤ 99
    split <;> omega
  have p2 : s2.p = s.p := by rw [q1, q0]; rfl
  obtain ⟨w3, p3, g3, d3⟩ := adv_pw w2 q2
  have v3 := g3 2 (by omega)
  obtain ⟨w4, p4, v4⟩ := heatS_pw (by omega) (by omega) w3 q3
  obtain ⟨w5, p5, v5⟩ := heatS_pw (by omega) (by omega) w4 q4
  obtain ⟨w6', p6, v6⟩ := heatS_pw (by omega) (by omega) w5 q5
  exact ⟨w6', by omega⟩
theorem woodP_keep (h26 : s.2 26 ≤ 5) (w : PW L s) (h : woodP t L s = .ok s') : PW L s' ∧ s.p ≤ s'.p := by
  obtain ⟨s6, e6, q6⟩ := stP_ok h
  obtain ⟨s5, e5, q5⟩ := stP_ok e6
  obtain ⟨s4, e4, q4⟩ := bind_ok e5
  obtain ⟨s3, e3, q3⟩ := stP_ok e4
  obtain ⟨s2, e2, q2⟩ := bind_ok e3
  obtain ⟨s1, e1, q1⟩ := stP_ok e2
  have k0 := w.1.2.2.2.2.1
  obtain ⟨w1, p1, v1, g1, d1⟩ := cell_pw w e1
  have k1 : s1.2 26 = s.2 26 := by rw [d1]
  obtain ⟨w2, p2⟩ := put_pw (s' := s2) w1 (by rw [q1]; rfl) (i := 27 + 3 * s1.2 26 + 0) (v := s1.1 1) (by rw [q1]; rfl) (by omega) (by omega) (by omega)
  have k2' : s2.2 26 = s.2 26 := by rw [q1]; show fset s1.2 (27 + 3 * s1.2 26 + 0) (s1.1 1) 26 = _; rw [fset_ne (by omega), k1]
  obtain ⟨w3, p3, v3, g3, d3⟩ := num_pw w2 q2
  have k3 : s3.2 26 = s.2 26 := by rw [d3, k2']
  obtain ⟨w4, p4⟩ := put_pw (s' := s4) w3 (by rw [q3]; rfl) (i := 27 + 3 * s3.2 26 + 1) (v := s3.1 1) (by rw [q3]; rfl) (by omega) (by omega) (by omega)
  have k4' : s4.2 26 = s.2 26 := by rw [q3]; show fset s3.2 (27 + 3 * s3.2 26 + 1) (s3.1 1) 26 = _; rw [fset_ne (by omega), k3]
  obtain ⟨w5, p5, v5, g5, d5⟩ := num_pw w4 q4
  have k5' : s5.2 26 = s.2 26 := by rw [d5, k4']
  obtain ⟨w6, p6⟩ := put_pw (s' := s6) w5 (by rw [q5]; rfl) (i := 27 + 3 * s5.2 26 + 2) (v := s5.1 1) (by rw [q5]; rfl) (by omega) (by omega) (by omega)
  have k6 : s6.2 26 = s.2 26 := by rw [q5]; show fset s5.2 (27 + 3 * s5.2 26 + 2) (s5.1 1) 26 = _; rw [fset_ne (by omega), k5']
  obtain ⟨w7, p7⟩ := put_pw (s' := s') w6 (by rw [q6]; rfl) (i := 26) (v := s6.2 26 + 1) (by rw [q6]; rfl) (by omega) (by omega) (by omega)
  exact ⟨w7, by omega⟩
theorem memoP_keep (w : PW L s) (h : memoP t L s = .ok s') : PW L s' ∧ s.p ≤ s'.p := by
  obtain ⟨s5, e5, q5⟩ := stP_ok h
  obtain ⟨s4, e4, q4⟩ := bind_ok e5
  obtain ⟨s3, e3, q3⟩ := bind_ok e4
  obtain ⟨s2, e2, q2⟩ := stP_ok e3
  obtain ⟨e1, x1, c1⟩ := chkP_ok e2
  have e1' : ((Except.ok s : Except Int PSt).bind (chkP (numD t L) t L (numC t L 0 5))).bind (stP (ghV t L)) = .ok s2 := e1
  obtain ⟨s0, e00, q0⟩ := stP_ok e1'
  obtain ⟨e01, x01, c01⟩ := chkP_ok e00
  cases e01
  have hv := c01.2
  obtain ⟨⟨w6, w9, w10, w11, w26, w46, wd⟩, wp⟩ := w
  have v3 : s3.1 2 = tkV t L s.p := by rw [q2, q0]; rfl
  have w3 : PW L s3 := by
    rw [q2, q0]
    refine PW.mk' (s := s) wp w6 w9 w10 ?_ w26 w46 ⟨⟨w6, w9, w10, w11, w26, w46, wd⟩, wp⟩ (fun j _ _ => Or.inl rfl)
    show -4 ≤ (if s.1 11 < tkV t L s.p then tkV t L s.p else s.1 11) ∧ (if s.1 11 < tkV t L s.p then tkV t L s.p else s.1 11) ≤ 99
    split <;> omega
  have p3 : s3.p = s.p := by rw [q2, q0]; rfl
  obtain ⟨w4, p4, g4, d4⟩ := adv_pw w3 q3
  have v4 := g4 2 (by omega)
  obtain ⟨w5, p5, v5, g5, d5⟩ := cell_pw w4 q4
  have v5' := g5 2 (by omega) (by omega)
  obtain ⟨w6', p6⟩ := put_pw (s' := s') w5 (by rw [q5]; rfl) (i := 47 + 8 * s5.1 2 + 7) (v := s5.1 1) (by rw [q5]; rfl) (by omega) (by omega) (by omega)
  exact ⟨w6', by omega⟩
theorem spudA_keep (h46 : s.2 46 ≤ 5) (w : PW L s) (h : spudA t L s = .ok s') : PW L s' ∧ s.p ≤ s'.p ∧ s'.2 46 = s.2 46 := by
  obtain ⟨s3, e3, q3⟩ := stP_ok h
  obtain ⟨s2, e2, q2⟩ := bind_ok e3
  obtain ⟨s1, e1, q1⟩ := stP_ok e2
  have k0 := w.1.2.2.2.2.2.1
  obtain ⟨w1, p1, v1, g1, d1⟩ := num_pw w e1
  have k1 : s1.2 46 = s.2 46 := by rw [d1]
  obtain ⟨w2, p2⟩ := put_pw (s' := s2) w1 (by rw [q1]; rfl) (i := 47 + 8 * s1.2 46 + 0) (v := s1.1 1) (by rw [q1]; rfl) (by omega) (by omega) (by omega)
  have k2' : s2.2 46 = s.2 46 := by rw [q1]; show fset s1.2 (47 + 8 * s1.2 46 + 0) (s1.1 1) 46 = _; rw [fset_ne (by omega), k1]
  obtain ⟨w3, p3, v3, g3, d3⟩ := wrap_pw w2 q2
  have k3 : s3.2 46 = s.2 46 := by rw [d3, k2']
  obtain ⟨w4, p4⟩ := put_pw (s' := s') w3 (by rw [q3]; rfl) (i := 47 + 8 * s3.2 46 + 1) (v := s3.1 1) (by rw [q3]; rfl) (by omega) (by omega) (by omega)
  have k4' : s'.2 46 = s.2 46 := by rw [q3]; show fset s3.2 (47 + 8 * s3.2 46 + 1) (s3.1 1) 46 = _; rw [fset_ne (by omega), k3]
  exact ⟨w4, by omega, k4'⟩
theorem spudP_keep {out : Int} (h46 : s.2 46 ≤ 5) (w : PW L s) (h : spudP t L out s = .ok s') : PW L s' ∧ s.p ≤ s'.p := by
  have k0 := w.1.2.2.2.2.2.1
  unfold spudP at h
  split at h
  · obtain ⟨s4, e4, q4⟩ := stP_ok h
    obtain ⟨s3, e3, q3⟩ := bind_ok e4
    obtain ⟨s2, e2, q2⟩ := bind_ok e3
    obtain ⟨w2, p2, k2'⟩ := spudA_keep h46 w e2
    obtain ⟨s1, e1, q1⟩ := stP_ok q2
    obtain ⟨e0, x0, c0⟩ := chkP_ok e1
    have e0' : ((Except.ok s2 : Except Int PSt).bind (chkP (numD t L) t L (numC t L 0 23))).bind (stP (ghV t L)) = .ok s1 := e0
    obtain ⟨s0, e00, q0⟩ := stP_ok e0'
    obtain ⟨e01, x01, c01⟩ := chkP_ok e00
    cases e01
    have hv := c01.2
    have p3 : s3.p = s2.p := by rw [q1, q0]; rfl
    have k3 : s3.2 46 = s.2 46 := by rw [q1, q0]; show fset s2.2 (47 + 8 * s2.2 46 + 2) _ 46 = _; rw [fset_ne (by omega), k2']
    have w3 : PW L s3 := by
      obtain ⟨⟨w6, w9, w10, w11, w26, w46, wd⟩, wp⟩ := w2
      rw [q1, q0]
      refine PW.mk' (s := s2) wp w6 w9 ?_ w11 ?_ ?_ ⟨⟨w6, w9, w10, w11, w26, w46, wd⟩, wp⟩ (fun j _ _ => ?_)
      · show -4 ≤ (if s2.1 10 < tkV t L s2.p then tkV t L s2.p else s2.1 10) ∧ (if s2.1 10 < tkV t L s2.p then tkV t L s2.p else s2.1 10) ≤ 99
        split <;> omega
      · show 0 ≤ fset s2.2 (47 + 8 * s2.2 46 + 2) _ 26 ∧ fset s2.2 (47 + 8 * s2.2 46 + 2) _ 26 ≤ 6
        rw [fset_ne (by omega)]; exact w26
      · show 0 ≤ fset s2.2 (47 + 8 * s2.2 46 + 2) _ 46 ∧ fset s2.2 (47 + 8 * s2.2 46 + 2) _ 46 ≤ 6
        rw [fset_ne (by omega)]; exact w46
      · show fset s2.2 (47 + 8 * s2.2 46 + 2) (tkV t L s2.p) j = s2.2 j ∨ (-100 ≤ fset s2.2 (47 + 8 * s2.2 46 + 2) (tkV t L s2.p) j ∧ fset s2.2 (47 + 8 * s2.2 46 + 2) (tkV t L s2.p) j ≤ 100)
        unfold fset
        split
        · right; omega
        · left; rfl
    obtain ⟨w4, p4, g4, d4⟩ := adv_pw w3 q3
    have k4' : s4.2 46 = s.2 46 := by rw [d4, k3]
    obtain ⟨w5, p5⟩ := put_pw (s' := s') w4 (by rw [q4]; rfl) (i := 46) (v := s4.2 46 + 1) (by rw [q4]; rfl) (by omega) (by omega) (by omega)
    exact ⟨w5, by omega⟩
  · obtain ⟨s4, e4, q4⟩ := stP_ok h
    obtain ⟨w2, p2, k2'⟩ := spudA_keep h46 w e4
    obtain ⟨w5, p5⟩ := put_pw (s' := s') w2 (by rw [q4]; rfl) (i := 46) (v := s4.2 46 + 1) (by rw [q4]; rfl) (by omega) (by omega) (by omega)
    exact ⟨w5, by omega⟩
theorem lineOfP_keep {l : Int} (hl : ¬ fullC l s) (hlr : 0 ≤ l ∧ l ≤ 5) (w : PW L s) (h : lineOfP t L l s = .ok s') : PW L s' ∧ s.p ≤ s'.p := by
  have k26 := w.1.2.2.2.2.1
  have k46 := w.1.2.2.2.2.2.1
  unfold lineOfP at h
  split at h
  · exact fireP_keep w h
  · split at h
    · exact heatP_keep w h
    · split at h
      · exact woodP_keep (by omega) w h
      · split at h
        · exact memoP_keep w h
        · exact spudP_keep (by omega) w h
theorem tkE_gt (h : tkK t L s.p = 3) : tkE t L s.p = tkB t L s.p + 1 := by
  unfold tkE
  rw [if_neg (by omega), if_neg (by omega), if_neg (by omega)]
theorem lineP_keep (w : PW L s) (h : lineP t L s = .ok s') : PW L s' ∧ s.p < s'.p := by
  obtain ⟨s2, e2, q2⟩ := bind_ok h
  obtain ⟨s1, e1, q1⟩ := bind_ok e2
  obtain ⟨l1, l2, l3⟩ := lineA_ok e1
  have lr := lineC_rng (t := t) (L := L) (s := s)
  have hb := tkB_rng (t := t) w.2
  have he := tkE_rng (t := t) w.2
  have p1 : s1.p = tkE t L s.p := by rw [l1]; rfl
  have v3 : s1.1 3 = lineC t L s := by rw [l1]; rfl
  have d1 : s1.2 = s.2 := by rw [l1]
  have w1 : PW L s1 := by
    obtain ⟨⟨w6, w9, w10, w11, w26, w46, wd⟩, wp⟩ := w
    refine PW.mk' (s := s) (by omega) ?_ ?_ ?_ ?_ (by rw [d1]; exact w26) (by rw [d1]; exact w46) ⟨⟨w6, w9, w10, w11, w26, w46, wd⟩, wp⟩ (fun j _ _ => Or.inl (by rw [d1]))
    · rw [l1]
      show (if ¬ s.1 6 = 0 ∨ lineC t L s = 0 then (1 : Int) else 0) = 0 ∨ (if ¬ s.1 6 = 0 ∨ lineC t L s = 0 then (1 : Int) else 0) = 1
      split
      · exact Or.inr rfl
      · exact Or.inl rfl
    · rw [l1]; exact w9
    · rw [l1]; exact w10
    · rw [l1]; exact w11
  obtain ⟨w2, p2⟩ := lineOfP_keep (l := s1.1 3) (by rw [v3]; unfold fullC; rw [d1]; exact l3) (by omega) w1 q1
  obtain ⟨s3, e3, q3⟩ := bind_ok q2
  have e3' : (Except.ok s2 : Except Int PSt).bind (chkP k2 t L (fun s => tkK t L s.p = 3)) = .ok s3 := e3
  obtain ⟨e4, x4, c4⟩ := chkP_ok e3'
  cases e4
  obtain ⟨w3, p3, g3, d3⟩ := adv_pw w2 q3
  have q3' : (Except.ok s2 : Except Int PSt).bind (advP t L) = .ok s' := q3
  obtain ⟨s5, e5, x5, q5⟩ := advP_ok q3'
  cases e5
  have hb2 := tkB_rng (t := t) w2.2
  have p5 : s'.p = tkE t L s2.p := by rw [q5]; rfl
  have := tkE_gt (s := s2) c4
  exact ⟨w3, by omega⟩
end
