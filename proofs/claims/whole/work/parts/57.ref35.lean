/-! what a line keeps: ranges, and that it goes on -/
theorem numP_keep {t : Int → Int} {L lo hi : Int} {s s' : PSt} (hp : 0 ≤ s.p ∧ s.p ≤ L) (h : numP t L lo hi s = .ok s') : (lo ≤ s'.1 1 ∧ s'.1 1 ≤ hi) ∧ (s.p ≤ s'.p ∧ s'.p ≤ L) ∧ (∀ j : Int, 2 ≤ j → s'.1 j = s.1 j) ∧ s'.2 = s.2 := by
  have h' : (Except.ok s : Except Int PSt).bind (numP t L lo hi) = .ok s' := h
  obtain ⟨s1, e1, x1, c1, q1⟩ := numP_ok h'
  cases e1
  have hb := tkB_rng (t := t) hp
  have he := tkE_rng (t := t) hp
  subst q1
  refine ⟨c1.2, ⟨?_, he.2⟩, fun j hj => ?_, rfl⟩
  · show s.p ≤ tkE t L s.p
    omega
  · show fset (fset s.1 1 _) 0 _ j = _
    rw [fset_ne (by omega), fset_ne (by omega)]
theorem wrapP_keep {t : Int → Int} {L : Int} {s s' : PSt} (hp : 0 ≤ s.p ∧ s.p ≤ L) (h : wrapP t L s = .ok s') : (-4 ≤ s'.1 1 ∧ s'.1 1 ≤ 2) ∧ (s.p ≤ s'.p ∧ s'.p ≤ L) ∧ (∀ j : Int, 2 ≤ j → s'.1 j = s.1 j) ∧ s'.2 = s.2 := by
  have h' : (Except.ok s : Except Int PSt).bind (wrapP t L) = .ok s' := h
  obtain ⟨s1, e1, q1⟩ := wrapP_ok h'
  cases e1
  have hb := tkB_rng (t := t) hp
  have he := tkE_rng (t := t) hp
  subst q1
  refine ⟨?_, ⟨?_, he.2⟩, fun j hj => ?_, rfl⟩
  · show -4 ≤ wrapC t L s ∧ wrapC t L s ≤ 2
    unfold wrapC
    split
    · exact wrapN_rng
    · omega
  · show s.p ≤ tkE t L s.p
    omega
  · show fset (fset s.1 1 _) 0 _ j = _
    rw [fset_ne (by omega), fset_ne (by omega)]
theorem cellP_keep {t : Int → Int} {L : Int} {s s' : PSt} (hp : 0 ≤ s.p ∧ s.p ≤ L) (h9 : -4 ≤ s.1 9 ∧ s.1 9 ≤ 99) (h : cellP t L s = .ok s') : (0 ≤ s'.1 1 ∧ s'.1 1 ≤ 7) ∧ (s.p ≤ s'.p ∧ s'.p ≤ L) ∧ (-4 ≤ s'.1 9 ∧ s'.1 9 ≤ 99) ∧ (∀ j : Int, 2 ≤ j → ¬ j = 9 → s'.1 j = s.1 j) ∧ s'.2 = s.2 := by
  have h' : (Except.ok s : Except Int PSt).bind (cellP t L) = .ok s' := h
  obtain ⟨s1, e1, x1, c1, q1⟩ := cellP_ok h'
  cases e1
  have hb := tkB_rng (t := t) hp
  have he := tkE_rng (t := t) hp
  subst q1
  refine ⟨c1.2, ⟨?_, he.2⟩, ?_, fun j hj h9 => ?_, rfl⟩
  · show s.p ≤ tkE t L s.p
    omega
  · show -4 ≤ (if s.1 9 < tkV t L s.p then tkV t L s.p else s.1 9) ∧ (if s.1 9 < tkV t L s.p then tkV t L s.p else s.1 9) ≤ 99
    have := c1.2
    split <;> omega
  · show fset (fset (fset s.1 1 _) 9 _) 0 _ j = _
    rw [fset_ne (by omega), fset_ne h9, fset_ne (by omega)]
theorem bind_ok {r : Except Int PSt} {A : PSt → Except Int PSt} {s' : PSt} (h : r.bind A = .ok s') : ∃ s, r = .ok s ∧ A s = .ok s' := by
  cases r with
  | error a => cases h
  | ok s => exact ⟨s, rfl, h⟩
abbrev PW (L : Int) (s : PSt) : Prop := PWf s ∧ (0 ≤ s.p ∧ s.p ≤ L)
theorem fireP_keep {t : Int → Int} {L : Int} {s s' : PSt} (w : PW L s) (h : fireP t L s = .ok s') : PW L s' ∧ s.p ≤ s'.p := by
  obtain ⟨s5, e5, q5⟩ := stP_ok h
  obtain ⟨s4, e4, q4⟩ := bind_ok e5
  obtain ⟨s3, e3, q3⟩ := stP_ok e4
  obtain ⟨s2, e2, q2⟩ := bind_ok e3
  obtain ⟨s1, e1, q1⟩ := stP_ok e2
  obtain ⟨v1, p1, g1, d1⟩ := numP_keep w.2 e1
  have p1' : s2.p = s1.p := by rw [q1]; rfl
  obtain ⟨v2, p2, g2, d2⟩ := numP_keep (by have := w.2; omega) q2
  have p2' : s4.p = s3.p := by rw [q3]; rfl
  obtain ⟨v3, p3, g3, d3⟩ := numP_keep (by have := w.2; omega) q4
  have p3' : s'.p = s5.p := by rw [q5]; rfl
  obtain ⟨⟨w6, w9, w10, w11, w26, w46, wd⟩, wp⟩ := w
  have hg : ∀ j : Int, 6 ≤ j → s'.1 j = s.1 j := by
    intro j hj
    rw [q5]
    show s5.1 j = _
    rw [g3 j (by omega), q3]
    show s3.1 j = _
    rw [g2 j (by omega), q1]
    show fset s1.1 5 _ j = _
    rw [fset_ne (by omega), g1 j (by omega)]
  have hd : s'.2 = fset (fset s.2 24 (s3.1 1)) 25 (s5.1 1) := by
    rw [q5]
    show fset s5.2 25 _ = _
    rw [d3, q3]
    show fset (fset s3.2 24 _) 25 _ = _
    rw [d2, q1]
    show fset (fset s1.2 24 _) 25 _ = _
    rw [d1]
  refine ⟨⟨⟨?_, ?_, ?_, ?_, ?_, ?_, ?_⟩, ?_⟩, ?_⟩
  · rw [hg 6 (by omega)]; exact w6
  · rw [hg 9 (by omega)]; exact w9
  · rw [hg 10 (by omega)]; exact w10
  · rw [hg 11 (by omega)]; exact w11
  · rw [hd, fset_ne (by decide), fset_ne (by decide)]; exact w26
  · rw [hd, fset_ne (by decide), fset_ne (by decide)]; exact w46
  · intro j h0 h1
    have := wd j h0 h1
    rw [hd]
    unfold fset
    (repeat' split) <;> omega
  · omega
  · omega
