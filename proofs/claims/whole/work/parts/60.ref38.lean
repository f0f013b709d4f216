section
variable {t : Int → Int} {L : Int} {s s' : PSt}
theorem DW.same (w : DW s) (h5 : s'.1 5 = s.1 5) (h9 : s'.1 9 = s.1 9) (h10 : s'.1 10 = s.1 10) (h2 : s'.2 = s.2) : DW s' := by
  unfold DW WdD SpD at *
  rw [h5, h9, h10, h2]
  exact w
theorem fireP_DW (w : DW s) (h : fireP t L s = .ok s') : DW s' := by
  obtain ⟨a, b, c, ha, hb, hc, h5, hg, hd⟩ := fireP_cf h
  have hne : ∀ j : Int, ¬ j = 24 → ¬ j = 25 → s'.2 j = s.2 j := fun j h1 h2 => by rw [hd, fset_ne h2, fset_ne h1]
  obtain ⟨w5, wH, w24, w25, w26, w46, ww, ws, wz⟩ := w
  refine DW.mk' ⟨w5, wH, w24, w25, w26, w46, ww, ws, wz⟩ (by omega) (by rw [hg 9 (by omega)]; omega) (by rw [hg 10 (by omega)]; omega) (fun x x0 x1 => ?_) ?_ ?_ ?_ ?_ (fun i i0 i1 => Or.inl ?_) (fun p p0 p1 => Or.inl ?_) (hne 45 (by omega) (by omega)) (hne 95 (by omega) (by omega)) (hne 96 (by omega) (by omega))
  · rw [hne x (by omega) (by omega)]; exact wH x x0 x1
  · rw [hd, fset_ne (by omega), fset_same]; exact hb
  · rw [hd, fset_same]; exact hc
  · rw [hne 26 (by omega) (by omega)]; exact w26
  · rw [hne 46 (by omega) (by omega)]; exact w46
  · rw [hne 26 (by omega) (by omega)] at i1
    exact ⟨i1, hne _ (by omega) (by omega), hne _ (by omega) (by omega), hne _ (by omega) (by omega)⟩
  · exact ⟨hne 46 (by omega) (by omega), fun k k0 k1 => hne _ (by omega) (by omega)⟩
theorem heatP_DW (w : DW s) (h : heatP t L s = .ok s') : DW s' := by
  obtain ⟨c, a, b, d, hc, ha, hb, hd, h9, hg, hz⟩ := heatP_cf h
  have hne : ∀ j : Int, 24 ≤ j → s'.2 j = s.2 j := fun j h1 => by rw [hz, fset_ne (by omega), fset_ne (by omega), fset_ne (by omega)]
  obtain ⟨w5, wH, w24, w25, w26, w46, ww, ws, wz⟩ := w
  refine DW.mk' ⟨w5, wH, w24, w25, w26, w46, ww, ws, wz⟩ (by rw [hg 5 (by omega)]; exact w5) (by omega) (by rw [hg 10 (by omega)]; omega) (fun x x0 x1 => ?_) ?_ ?_ ?_ ?_ (fun i i0 i1 => Or.inl ?_) (fun p p0 p1 => Or.inl ?_) (hne 45 (by omega)) (hne 95 (by omega)) (hne 96 (by omega))
  · have := wH x x0 x1
    rw [hz]
    unfold fset
    (repeat' split) <;> omega
  · rw [hne 24 (by omega)]; exact w24
  · rw [hne 25 (by omega)]; exact w25
  · rw [hne 26 (by omega)]; exact w26
  · rw [hne 46 (by omega)]; exact w46
  · rw [hne 26 (by omega)] at i1
    exact ⟨i1, hne _ (by omega), hne _ (by omega), hne _ (by omega)⟩
  · exact ⟨hne 46 (by omega), fun k k0 k1 => hne _ (by omega)⟩
theorem woodP_DW (w : DW s) (h26 : s.2 26 ≤ 5) (h : woodP t L s = .ok s') : DW s' := by
  obtain ⟨w5, wH, w24, w25, w26, w46, ww, ws, wz⟩ := w
  obtain ⟨a, b, c, ha, hb, hc, h9, hg, hz⟩ := woodP_cf h w26.1
  have hne : ∀ j : Int, ¬ j = 26 → j < 27 + 3 * s.2 26 ∨ 27 + 3 * s.2 26 + 2 < j → s'.2 j = s.2 j := fun j h1 h2 => by rw [hz, fset_ne h1, fset_ne (by omega), fset_ne (by omega), fset_ne (by omega)]
  have e26 : s'.2 26 = s.2 26 + 1 := by rw [hz, fset_same]
  refine DW.mk' ⟨w5, wH, w24, w25, w26, w46, ww, ws, wz⟩ (by rw [hg 5 (by omega) (by omega)]; exact w5) (by omega) (by rw [hg 10 (by omega) (by omega)]; omega) (fun x x0 x1 => ?_) ?_ ?_ (by omega) ?_ (fun i i0 i1 => ?_) (fun p p0 p1 => Or.inl ?_) (hne 45 (by omega) (by omega)) (hne 95 (by omega) (by omega)) (hne 96 (by omega) (by omega))
  · rw [hne x (by omega) (by omega)]; exact wH x x0 x1
  · rw [hne 24 (by omega) (by omega)]; exact w24
  · rw [hne 25 (by omega) (by omega)]; exact w25
  · rw [hne 46 (by omega) (by omega)]; exact w46
  · by_cases e : i = s.2 26
    · right
      have a0 : s'.2 (27 + 3 * i) = a := by rw [hz, fset_ne (by omega), fset_ne (by omega), fset_ne (by omega), show 27 + 3 * i = 27 + 3 * s.2 26 + 0 by omega, fset_same]
      have a1 : s'.2 (27 + 3 * i + 1) = b := by rw [hz, fset_ne (by omega), fset_ne (by omega), show 27 + 3 * i + 1 = 27 + 3 * s.2 26 + 1 by omega, fset_same]
      have a2 : s'.2 (27 + 3 * i + 2) = c := by rw [hz, fset_ne (by omega), show 27 + 3 * i + 2 = 27 + 3 * s.2 26 + 2 by omega, fset_same]
      exact ⟨by omega, by omega, by omega⟩
    · left
      exact ⟨by omega, hne _ (by omega) (by omega), hne _ (by omega) (by omega), hne _ (by omega) (by omega)⟩
  · exact ⟨hne 46 (by omega) (by omega), fun k k0 k1 => hne _ (by omega) (by omega)⟩
theorem memoP_DW (w : DW s) (h : memoP t L s = .ok s') : DW s' := by
  obtain ⟨a, b, ha, hb, h9, h11, hg, hz⟩ := memoP_cf h
  have hne : ∀ j : Int, ¬ j = 47 + 8 * a + 7 → s'.2 j = s.2 j := fun j h1 => by rw [hz, fset_ne h1]
  obtain ⟨w5, wH, w24, w25, w26, w46, ww, ws, wz⟩ := w
  refine DW.mk' ⟨w5, wH, w24, w25, w26, w46, ww, ws, wz⟩ (by rw [hg 5 (by omega)]; exact w5) (by omega) (by rw [hg 10 (by omega)]; omega) (fun x x0 x1 => ?_) ?_ ?_ ?_ ?_ (fun i i0 i1 => Or.inl ?_) (fun p p0 p1 => ?_) (hne 45 (by omega)) (hne 95 (by omega)) (hne 96 (by omega))
  · rw [hne x (by omega)]; exact wH x x0 x1
  · rw [hne 24 (by omega)]; exact w24
  · rw [hne 25 (by omega)]; exact w25
  · rw [hne 26 (by omega)]; exact w26
  · rw [hne 46 (by omega)]; exact w46
  · rw [hne 26 (by omega)] at i1
    exact ⟨i1, hne _ (by omega), hne _ (by omega), hne _ (by omega)⟩
  · by_cases e : p = a
    · right
      obtain ⟨y1, y2, y3, y4⟩ := ws p p0 p1
      unfold SpD
      rw [hne 46 (by omega), hne (47 + 8 * p + 0) (by omega), hne (47 + 8 * p + 1) (by omega), hne (47 + 8 * p + 2) (by omega), hne (47 + 8 * p + 3) (by omega), hne (47 + 8 * p + 4) (by omega), hne (47 + 8 * p + 5) (by omega), hne (47 + 8 * p + 6) (by omega), hg 10 (by omega)]
      refine ⟨y1, y2, y3, Or.inr ?_⟩
      rw [hz, e, fset_same]
      omega
    · exact Or.inl ⟨hne 46 (by omega), fun k k0 k1 => hne _ (by omega)⟩
theorem spudP_DW {out : Int} (w : DW s) (h46 : s.2 46 ≤ 5) (h : spudP t L out s = .ok s') : DW s' := by
  obtain ⟨w5, wH, w24, w25, w26, w46, ww, ws, wz⟩ := w
  obtain ⟨a, b, x, ha, hb, h10, hg, hz⟩ := spudP_cf h w46.1
  have hne : ∀ j : Int, ¬ j = 46 → j < 47 + 8 * s.2 46 ∨ 47 + 8 * s.2 46 + 2 < j → s'.2 j = s.2 j := by
    intro j h1 h2
    rcases hz with ⟨-, -, hz⟩ | ⟨-, hz⟩
    · rw [hz, fset_ne h1, fset_ne (by omega), fset_ne (by omega), fset_ne (by omega)]
    · rw [hz, fset_ne h1, fset_ne (by omega), fset_ne (by omega)]
  have e46 : s'.2 46 = s.2 46 + 1 := by
    rcases hz with ⟨-, -, hz⟩ | ⟨-, hz⟩
    · rw [hz, fset_same]
    · rw [hz, fset_same]
  refine DW.mk' ⟨w5, wH, w24, w25, w26, w46, ww, ws, wz⟩ (by rw [hg 5 (by omega) (by omega)]; exact w5) (by rw [hg 9 (by omega) (by omega)]; omega) (by omega) (fun x x0 x1 => ?_) ?_ ?_ ?_ (by omega) (fun i i0 i1 => Or.inl ?_) (fun p p0 p1 => Or.inr ?_) (hne 45 (by omega) (by omega)) (hne 95 (by omega) (by omega)) (hne 96 (by omega) (by omega))
  · rw [hne x (by omega) (by omega)]; exact wH x x0 x1
  · rw [hne 24 (by omega) (by omega)]; exact w24
  · rw [hne 25 (by omega) (by omega)]; exact w25
  · rw [hne 26 (by omega) (by omega)]; exact w26
  · rw [hne 26 (by omega) (by omega)] at i1
    exact ⟨i1, hne _ (by omega) (by omega), hne _ (by omega) (by omega), hne _ (by omega) (by omega)⟩
  · obtain ⟨y1, y2, y3, y4⟩ := ws p p0 p1
    unfold SpD
    rw [e46]
    by_cases e : p = s.2 46
    · subst e
      rw [hne (47 + 8 * s.2 46 + 3) (by omega) (by omega), hne (47 + 8 * s.2 46 + 4) (by omega) (by omega), hne (47 + 8 * s.2 46 + 5) (by omega) (by omega), hne (47 + 8 * s.2 46 + 6) (by omega) (by omega), hne (47 + 8 * s.2 46 + 7) (by omega) (by omega), hg 9 (by omega) (by omega)]
      refine ⟨fun _ => ?_, ?_, y3, y4⟩
      · rcases hz with ⟨-, -, hz⟩ | ⟨-, hz⟩
        · rw [hz, fset_ne (by omega), fset_ne (by omega), fset_ne (by omega), fset_same, fset_ne (by omega), fset_ne (by omega), fset_same]
          exact ⟨ha, hb⟩
        · rw [hz, fset_ne (by omega), fset_ne (by omega), fset_same, fset_ne (by omega), fset_same]
          exact ⟨ha, hb⟩
      · rcases hz with ⟨-, hx, hz⟩ | ⟨-, hz⟩
        · right
          rw [hz, fset_ne (by omega), fset_same]
          omega
        · left
          rw [hz, fset_ne (by omega), fset_ne (by omega), fset_ne (by omega)]
          omega
    · rw [hne (47 + 8 * p + 0) (by omega) (by omega), hne (47 + 8 * p + 1) (by omega) (by omega), hne (47 + 8 * p + 2) (by omega) (by omega), hne (47 + 8 * p + 3) (by omega) (by omega), hne (47 + 8 * p + 4) (by omega) (by omega), hne (47 + 8 * p + 5) (by omega) (by omega), hne (47 + 8 * p + 6) (by omega) (by omega), hne (47 + 8 * p + 7) (by omega) (by omega), hg 9 (by omega) (by omega)]
      exact ⟨fun z => y1 (by omega), by omega, y3, y4⟩
theorem lineP_DW (w : DW s) (h : lineP t L s = .ok s') : DW s' := by
  obtain ⟨s2, e2, q2⟩ := bind_ok h
  obtain ⟨s1, e1, q1⟩ := bind_ok e2
  obtain ⟨l1, l2, l3⟩ := lineA_ok e1
  have lr := lineC_rng (t := t) (L := L) (s := s)
  have v3 : s1.1 3 = lineC t L s := by rw [l1]; rfl
  have w1 : DW s1 := w.same (by rw [l1]; rfl) (by rw [l1]; rfl) (by rw [l1]; rfl) (by rw [l1])
  have d1 : s1.2 = s.2 := by rw [l1]
  have l3' : ¬ fullC (s1.1 3) s1 := by rw [v3]; unfold fullC; rw [d1]; exact l3
  have w2 : DW s2 := by
    have k26 := w1.2.2.2.2.1
    have k46 := w1.2.2.2.2.2.1
    unfold lineOfP at q1
    split at q1
    · exact fireP_DW w1 q1
    · split at q1
      · exact heatP_DW w1 q1
      · split at q1
        · exact woodP_DW w1 (by omega) q1
        · split at q1
          · exact memoP_DW w1 q1
          · exact spudP_DW w1 (by omega) q1
  obtain ⟨s3, e3, q3⟩ := bind_ok q2
  have e3' : (Except.ok s2 : Except Int PSt).bind (chkP k2 t L (fun s => tkK t L s.p = 3)) = .ok s3 := e3
  obtain ⟨e4, x4, c4⟩ := chkP_ok e3'
  cases e4
  obtain ⟨g3, d3⟩ := advP_cf q3
  exact w2.same (g3 5 (by omega)) (g3 9 (by omega)) (g3 10 (by omega)) d3
end
/-! the whole text -/
def P0 : PSt := (fun j => if j = 5 then 3 else if j = 9 ∨ j = 10 ∨ j = 11 then -4 else 0, D0)
def textL (t : Int → Int) (L : Int) : Nat → Int → PSt → Except Int (Int × PSt)
  | 0, _, _ => .error 0
  | f + 1, n, s => if tkX t L s.p then .error (erX t L s.p) else if tkK t L s.p = 0 then .ok (n, s) else match lineP t L s with
    | .error a => .error a
    | .ok s' => textL t L f (n + 1) s'
abbrev endC (s : PSt) : Prop := s.1 9 < s.1 5 ∧ s.1 10 < 3 * s.1 5 ∧ s.1 11 < s.2 46
def textE (L : Int) (r : Except Int (Int × PSt)) : Except Int (Int × PSt) := match r with
  | .error a => .error a
  | .ok q => if endC q.2 then .ok q else .error (8 * L + 6)
def textP (t : Int → Int) (L : Int) : Except Int (Int × PSt) := textE L (textL t L 162 0 P0)
theorem P0_PW {L : Int} (h : 0 ≤ L) : PW L P0 := by
  refine ⟨⟨Or.inl rfl, by decide, by decide, by decide, by decide, by decide, fun j _ _ => ?_⟩, ⟨Int.le_refl _, h⟩⟩
  show -100 ≤ D0 j ∧ D0 j ≤ 100
  unfold D0
  (repeat' split) <;> omega
theorem P0_DW : DW P0 := by
  have hz : ∀ j : Int, ¬ j = 24 → ¬ j = 25 → j < 47 ∨ 95 ≤ j ∨ (¬ (j - 47) % 8 = 2 ∧ ¬ (j - 47) % 8 = 7) → P0.2 j = 0 := by
    intro j h1 h2 h3
    show D0 j = 0
    unfold D0
    rw [if_neg (by omega), if_neg (by omega)]
  have hm : ∀ p : Int, 0 ≤ p → p < 6 → P0.2 (47 + 8 * p + 2) = -4 ∧ P0.2 (47 + 8 * p + 7) = -4 := by
    intro p a b
    constructor
    · show D0 _ = -4
      unfold D0
      rw [if_neg (by omega), if_pos (by omega)]
    · show D0 _ = -4
      unfold D0
      rw [if_neg (by omega), if_pos (by omega)]
  have h26 : P0.2 26 = 0 := rfl
  have h46 : P0.2 46 = 0 := rfl
  refine ⟨by decide, fun x a b => ?_, by decide, by decide, by decide, by decide, fun i a b => ?_, fun p a b => ?_, by decide⟩
  · rw [hz x (by omega) (by omega) (by omega)]; omega
  · omega
  · refine ⟨fun z => by omega, Or.inl (hm p a b).1, ⟨hz _ (by omega) (by omega) (by omega), hz _ (by omega) (by omega) (by omega), hz _ (by omega) (by omega) (by omega), hz _ (by omega) (by omega) (by omega)⟩, Or.inl (hm p a b).2⟩
theorem DW.wf {s : PSt} (w : DW s) (h : endC s) : Wf (s.1 5) s.2 := by
  obtain ⟨w5, wH, w24, w25, w26, w46, ww, ws, wz⟩ := w
  refine ⟨w5, wH, w24, w25, w26, fun i a b => ?_, w46, fun p a b => ?_, by omega, by omega, fun i a b => by omega⟩
  · obtain ⟨y1, y2, y3⟩ := ww i a b
    exact ⟨by omega, y2, y3⟩
  · obtain ⟨y1, y2, y3, y4⟩ := ws p a (by omega)
    have := y1 b
    exact ⟨this.1, this.2, by omega, by omega, by omega, by omega, by omega, by omega⟩
theorem textL_DW {t : Int → Int} {L : Int} : ∀ (f : Nat) (n : Int) (s : PSt), DW s → ∀ n' s', textL t L f n s = .ok (n', s') → DW s' := by
  intro f
  induction f with
  | zero => intro n s _ n' s' h; cases h
  | succ f ih =>
    intro n s w n' s' h
    rw [textL] at h
    split at h
    · cases h
    · split at h
      · cases h; exact w
      · split at h
        · cases h
        · next s1 e1 => exact ih _ _ (lineP_DW w e1) _ _ h
theorem textP_wf {t : Int → Int} {L n : Int} {s : PSt} (h : textP t L = .ok (n, s)) : Wf (s.1 5) s.2 ∧ DW s := by
  unfold textP textE at h
  split at h
  · cases h
  · next q e =>
    split at h
    · next hc =>
      cases h
      have := textL_DW 162 0 P0 P0_DW n s e
      exact ⟨this.wf hc, this⟩
    · cases h
