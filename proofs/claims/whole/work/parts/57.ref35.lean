/-! what a line keeps: ranges, and that it goes on -/
theorem numP_keep {t : Int → Int} {L lo hi : Int} {s s' : PSt} (hp : 0 ≤ s.p ∧ s.p ≤ L) (h : numP t L lo hi s = .ok s') : (lo ≤ s'.1 1 ∧ s'.1 1 ≤ hi) ∧ (s.p ≤ s'.p ∧ s'.p ≤ L) ∧ (∀ j : Int, 2 ≤ j → s'.1 j = s.1 j) ∧ s'.2 = s.2 := by
  have h' : (Except.ok s : Except Int PSt).bind (numP t L lo hi) = .ok s' := h
  obtain ⟨s1, e1, x1, c1, q1⟩ := numP_ok h'
  cases e1
  have hb := tkB_rng (t := t) hp
  have he := tkE_rng (t := t) hp
  subst q1
  refine ⟨c1.2, ⟨?_, he.2⟩, fun j hj => ?_, rfl⟩
  · show s.p ≤ tkE t L s.p
    omega
  · show fset (fset s.1 1 _) 0 _ j = _
    rw [fset_ne (by omega), fset_ne (by omega)]
theorem wrapP_keep {t : Int → Int} {L : Int} {s s' : PSt} (hp : 0 ≤ s.p ∧ s.p ≤ L) (h : wrapP t L s = .ok s') : (-4 ≤ s'.1 1 ∧ s'.1 1 ≤ 2) ∧ (s.p ≤ s'.p ∧ s'.p ≤ L) ∧ (∀ j : Int, 2 ≤ j → s'.1 j = s.1 j) ∧ s'.2 = s.2 := by
  have h' : (Except.ok s : Except Int PSt).bind (wrapP t L) = .ok s' := h
  obtain ⟨s1, e1, q1⟩ := wrapP_ok h'
  cases e1
  have hb := tkB_rng (t := t) hp
  have he := tkE_rng (t := t) hp
  subst q1
  refine ⟨?_, ⟨?_, he.2⟩, fun j hj => ?_, rfl⟩
  · show -4 ≤ wrapC t L s ∧ wrapC t L s ≤ 2
    unfold wrapC
    split
    · exact wrapN_rng
    · omega
  · show s.p ≤ tkE t L s.p
    omega
  · show fset (fset s.1 1 _) 0 _ j = _
    rw [fset_ne (by omega), fset_ne (by omega)]
