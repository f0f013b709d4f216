/-! ROWS: what a method makes of a row is a row as it must be -/
def Rok (n : Int) (f : Int → Int) : Prop := Wf n f ∧ Dis f ∧ (0 ≤ f 45 ∧ f 45 ≤ 999)
theorem Wf.upd {n : Int} {f g : Int → Int} (h : Wf n f)
    (hH : ∀ x : Int, 0 ≤ x → x < 24 → g x = f x ∨ (0 ≤ g x ∧ g x ≤ 99))
    (h24 : g 24 = f 24 ∨ (0 ≤ g 24 ∧ g 24 ≤ 9)) (h25 : g 25 = f 25 ∨ (0 ≤ g 25 ∧ g 25 ≤ 9))
    (h26 : 0 ≤ g 26 ∧ g 26 ≤ 6)
    (hw : ∀ i : Int, 0 ≤ i → i < g 26 → (i < f 26 ∧ g (27 + 3 * i) = f (27 + 3 * i) ∧ g (27 + 3 * i + 1) = f (27 + 3 * i + 1) ∧ g (27 + 3 * i + 2) = f (27 + 3 * i + 2)) ∨ WdW n g i)
    (h46 : 0 ≤ g 46 ∧ g 46 ≤ 6)
    (hs : ∀ p : Int, 0 ≤ p → p < g 46 → (p < f 46 ∧ ∀ t : Int, 0 ≤ t → t < 8 → g (47 + 8 * p + t) = f (47 + 8 * p + t)) ∨ SpW n g p)
    (h95 : g 95 = f 95 ∨ (-2147483648 ≤ g 95 ∧ g 95 ≤ 2147483647))
    (h96 : 0 ≤ g 96 ∧ g 96 ≤ 6)
    (hf : ∀ i : Int, 0 ≤ i → i < g 96 → (i < f 96 ∧ g (97 + 3 * i) = f (97 + 3 * i) ∧ g (97 + 3 * i + 1) = f (97 + 3 * i + 1) ∧ g (97 + 3 * i + 2) = f (97 + 3 * i + 2)) ∨ FeW n g i) : Wf n g := by
  obtain ⟨hn, wH, w24, w25, w26, ww, w46, ws, w95, w96, wf⟩ := h
  refine ⟨hn, fun x a b => ?_, ?_, ?_, h26, fun i a b => ?_, h46, fun p a b => ?_, ?_, h96, fun i a b => ?_⟩
  · obtain e | e := hH x a b
    · rw [e]; exact wH x a b
    · exact e
  · obtain e | e := h24
    · rw [e]; exact w24
    · exact e
  · obtain e | e := h25
    · rw [e]; exact w25
    · exact e
  · obtain ⟨e0, e1, e2, e3⟩ | e := hw i a b
    · unfold WdW
      rw [e1, e2, e3]; exact ww i a e0
    · exact e
  · obtain ⟨e0, e1⟩ | e := hs p a b
    · unfold SpW
      rw [e1 0 (by omega) (by omega), e1 1 (by omega) (by omega), e1 2 (by omega) (by omega), e1 3 (by omega) (by omega), e1 4 (by omega) (by omega), e1 5 (by omega) (by omega), e1 6 (by omega) (by omega), e1 7 (by omega) (by omega)]
      exact ws p a e0
    · exact e
  · obtain e | e := h95
    · rw [e]; exact w95
    · exact e
  · obtain ⟨e0, e1, e2, e3⟩ | e := hf i a b
    · unfold FeW
      rw [e1, e2, e3]; exact wf i a e0
    · exact e
/-- rows that agree on 0 .. 114 -/
theorem Wf.congr {n : Int} {f g : Int → Int} (h : Wf n f) (e : ∀ j : Int, 0 ≤ j → j < 115 → g j = f j) : Wf n g := by
  have h26 := h.2.2.2.2.1
  have h46 := h.2.2.2.2.2.2.1
  have h96 := h.2.2.2.2.2.2.2.2.2.1
  have e26 := e 26 (by omega) (by omega)
  have e46 := e 46 (by omega) (by omega)
  have e96 := e 96 (by omega) (by omega)
  refine h.upd (fun x a b => Or.inl (e x a (by omega))) (Or.inl (e 24 (by omega) (by omega))) (Or.inl (e 25 (by omega) (by omega))) (by omega) (fun i a b => Or.inl ⟨by omega, e _ (by omega) (by omega), e _ (by omega) (by omega), e _ (by omega) (by omega)⟩) (by omega) (fun p a b => Or.inl ⟨by omega, fun t c d => e _ (by omega) (by omega)⟩) (Or.inl (e 95 (by omega) (by omega))) (by omega) (fun i a b => Or.inl ⟨by omega, e _ (by omega) (by omega), e _ (by omega) (by omega), e _ (by omega) (by omega)⟩)
theorem Rok.congr {n : Int} {f g : Int → Int} (h : Rok n f) (e : ∀ j : Int, 0 ≤ j → j < 115 → g j = f j) : Rok n g := by
  have h46 := h.1.2.2.2.2.2.2.1
  exact ⟨h.1.congr e, h.2.1.same (e 46 (by omega) (by omega)) (fun p hp => e _ (by omega) (by omega)), by rw [e 45 (by omega) (by omega)]; exact h.2.2⟩
/-- a row r that came of f: as it must be, the images as they were -/
abbrev Rin (n : Int) (f g : Int → Int) : Prop := Rok n g ∧ ∀ j : Int, 115 ≤ j → g j = f j
theorem Rin.rfl {n : Int} {f : Int → Int} (h : Rok n f) : Rin n f f := ⟨h, fun _ _ => Eq.refl _⟩
theorem fanM_R {n x v : Int} {f : Int → Int} (h : Rok n f) : Rin n f (fanM n f x v).2 := by
  unfold fanM
  split
  · next hc =>
    have hn := h.1.1
    have h26 := h.1.2.2.2.2.1
    have h46 := h.1.2.2.2.2.2.2.1
    have h96 := h.1.2.2.2.2.2.2.2.2.2.1
    have o : ∀ j : Int, 24 ≤ j → fset f x v j = f j := fun j hj => fset_ne (by omega)
    have e26 := o 26 (by omega)
    have e46 := o 46 (by omega)
    have e96 := o 96 (by omega)
    try dsimp only
    refine ⟨⟨h.1.upd (fun y a b => ?_) (Or.inl (o 24 (by omega))) (Or.inl (o 25 (by omega))) (by omega) (fun i a b => Or.inl ⟨by omega, o _ (by omega), o _ (by omega), o _ (by omega)⟩) (by omega) (fun p a b => Or.inl ⟨by omega, fun t _ _ => o _ (by omega)⟩) (Or.inl (o 95 (by omega))) (by omega) (fun i a b => Or.inl ⟨by omega, o _ (by omega), o _ (by omega), o _ (by omega)⟩), h.2.1.same e46 (fun p hp => o _ (by omega)), ?_⟩, fun j hj => o j (by omega)⟩
    · by_cases e : y = x
      · subst e; rw [fset_same]; exact Or.inr hc.2
      · exact Or.inl (fset_ne e)
    · show 0 ≤ fset f x v 45 ∧ _
      rw [o 45 (by omega)]; exact h.2.2
  · exact Rin.rfl h
theorem ashM_R {n x v : Int} {f : Int → Int} (h : Rok n f) : Rin n f (ashM f x v).2 := by
  unfold ashM
  split
  · next hc =>
    have o : ∀ j : Int, 26 ≤ j → fset f (24 + x) v j = f j := fun j hj => fset_ne (by omega)
    try dsimp only
    refine ⟨⟨?_, h.2.1.same (o 46 (by omega)) (fun p hp => o _ (by omega)), by (try dsimp only); rw [o 45 (by omega)]; exact h.2.2⟩, fun j hj => o j (by omega)⟩
    obtain rfl | rfl : x = 0 ∨ x = 1 := by omega
    · exact Wf_24 h.1 hc.2
    · exact Wf_25 h.1 hc.2
  · exact Rin.rfl h
theorem stokeM_R {n c a r : Int} {f : Int → Int} (h : Rok n f) : Rin n f (stokeM n f c a r).2 := by
  unfold stokeM
  split
  · next hc =>
    split
    · exact Rin.rfl h
    · next h6 =>
      have hn := h.1.1
      have h26 := h.1.2.2.2.2.1
      have h46 := h.1.2.2.2.2.2.2.1
      have h96 := h.1.2.2.2.2.2.2.2.2.2.1
      have o : ∀ j : Int, j < 26 ∨ (26 < j ∧ j < 27 + 3 * f 26) ∨ 45 ≤ j → stokeF f c a r j = f j := fun j hj => by
        unfold stokeF
        rw [fset_ne (by omega), fset_ne (by omega), fset_ne (by omega), fset_ne (by omega)]
      have e26 : stokeF f c a r 26 = f 26 + 1 := by unfold stokeF; rw [fset_same]
      have e46 := o 46 (by omega)
      have e96 := o 96 (by omega)
      try dsimp only
      refine ⟨⟨h.1.upd (fun y a b => Or.inl (o y (by omega))) (Or.inl (o 24 (by omega))) (Or.inl (o 25 (by omega))) (by (try dsimp only); omega) (fun i p q => ?_) (by (try dsimp only); omega) (fun p a b => Or.inl ⟨by (try dsimp only at b); omega, fun t _ _ => o _ (by omega)⟩) (Or.inl (o 95 (by omega))) (by (try dsimp only); omega) (fun i a b => Or.inl ⟨by (try dsimp only at b); omega, o _ (by omega), o _ (by omega), o _ (by omega)⟩), h.2.1.same e46 (fun p hp => o _ (by omega)), ?_⟩, fun j hj => o j (by omega)⟩
      · try dsimp only at q ⊢
        rw [e26] at q
        by_cases e : i = f 26
        · refine Or.inr ?_
          subst e
          unfold WdW stokeF
          rw [fset_ne (by omega), fset_ne (by omega), fset_ne (by omega), fset_same, fset_ne (by omega), fset_ne (by omega), fset_same, fset_ne (by omega), fset_same]
          exact hc
        · exact Or.inl ⟨by omega, o _ (by omega), o _ (by omega), o _ (by omega)⟩
      · try dsimp only
        rw [o 45 (by omega)]; exact h.2.2
  · exact Rin.rfl h
theorem addM_R {n s w : Int} {f : Int → Int} (h : Rok n f) : Rin n f (addM f s w).2 := by
  refine ⟨⟨addM_Wf h.1, ?_, ?_⟩, ?_⟩
  · unfold addM
    split
    · split
      · exact h.2.1
      · next h6 =>
        have h46 := h.1.2.2.2.2.2.2.1
        intro p q pq hq
        try dsimp only at hq ⊢
        have e46 : addF f s w 46 = f 46 + 1 := by unfold addF; rw [if_pos _root_.rfl]
        rw [e46] at hq
        have o : ∀ i : Nat, (i : Int) < f 46 → addF f s w (47 + 8 * (i : Int) + 2) = f (47 + 8 * (i : Int) + 2) := fun i hi => by
          unfold addF
          rw [if_neg (by omega), if_neg (by omega), if_neg (by omega), if_neg (by omega), if_neg (by omega)]
        by_cases e : (q : Int) = f 46
        · have : addF f s w (47 + 8 * (q : Int) + 2) = -4 := by
            unfold addF
            rw [if_neg (by omega), if_neg (by omega), if_neg (by omega), if_pos (by omega)]
          rw [this, o p (by omega)]
          omega
        · rw [o p (by omega), o q (by omega)]
          exact h.2.1 p q pq (by omega)
    · exact h.2.1
  · unfold addM
    have h46 := h.1.2.2.2.2.2.2.1
    split
    · split
      · exact h.2.2
      · try dsimp only
        have : addF f s w 45 = f 45 := by
          unfold addF
          rw [if_neg (by omega), if_neg (by omega), if_neg (by omega), if_neg (by omega), if_neg (by omega)]
        rw [this]; exact h.2.2
    · exact h.2.2
  · unfold addM
    have h46 := h.1.2.2.2.2.2.2.1
    intro j hj
    split
    · split
      · exact Eq.refl _
      · try dsimp only
        unfold addF
        rw [if_neg (by omega), if_neg (by omega), if_neg (by omega), if_neg (by omega), if_neg (by omega)]
    · exact Eq.refl _
theorem digM_R {n p x : Int} {f : Int → Int} (h : Rok n f) : Rin n f (digM n f p x).2 := by
  have h46 := h.1.2.2.2.2.2.2.1
  unfold digM
  split
  · next hc =>
    split
    · next hf =>
      have ⟨w, o⟩ := place_Wf h.1 hc.1 hc.2
      have hq := (freeB_iff (f := f) (p := p) (x := x) (f 46).toNat).1 hf
      have sp : ∀ q : Nat, ¬ (q : Int) = p → fset f (47 + 8 * p + 2) x (47 + 8 * (q : Int) + 2) = f (47 + 8 * (q : Int) + 2) := fun q hq => fset_ne (by omega)
      have sx : ∀ q : Nat, (q : Int) = p → fset f (47 + 8 * p + 2) x (47 + 8 * (q : Int) + 2) = x := fun q hq => by rw [hq, fset_same]
      try dsimp only
      refine ⟨⟨w, ?_, by (try dsimp only); rw [o 45 (by omega)]; exact h.2.2⟩, fun j hj => o j (by omega)⟩
      intro a b ab hb
      try dsimp only at hb ⊢
      rw [o 46 (by omega)] at hb
      by_cases ea : (a : Int) = p
      · rw [sx a ea, sp b (by omega)]
        have := hq b (by omega)
        omega
      · by_cases eb : (b : Int) = p
        · rw [sx b eb, sp a (by omega)]
          have := hq a (by omega)
          omega
        · rw [sp a ea, sp b eb]
          exact h.2.1 a b ab hb
    · exact Rin.rfl h
  · exact Rin.rfl h
theorem turnM_R {n p : Int} {f : Int → Int} (h : Rok n f) : Rin n f (turnM f p).2 := by
  have h46 := h.1.2.2.2.2.2.2.1
  unfold turnM
  split
  · next hc =>
    have ⟨w, o⟩ := turnF_Wf h.1 hc
    try dsimp only
    refine ⟨⟨w, h.2.1.same (o 46 (by omega)) (fun q hq => ?_), by (try dsimp only); rw [o 45 (by omega)]; exact h.2.2⟩, fun j hj => o j (by omega)⟩
    show turnF f p _ = _
    unfold turnF
    exact fset_ne (by omega)
  · exact Rin.rfl h
theorem spM_R {n p t v : Int} {f : Int → Int} (h : Rok n f) (hp : 0 ≤ p ∧ p < f 46) (ht : (t = 1 ∧ (0 ≤ v ∧ v ≤ 2)) ∨ (t = 7 ∧ (v = -4 ∨ (0 ≤ v ∧ v < n)))) : Rin n f (fset f (47 + 8 * p + t) v) := by
  have hn := h.1.1
  have h26 := h.1.2.2.2.2.1
  have h46 := h.1.2.2.2.2.2.2.1
  have h96 := h.1.2.2.2.2.2.2.2.2.2.1
  have o : ∀ j : Int, j < 47 ∨ 94 < j → fset f (47 + 8 * p + t) v j = f j := fun j hj => fset_ne (by omega)
  have e26 := o 26 (by omega)
  have e46 := o 46 (by omega)
  have e96 := o 96 (by omega)
  refine ⟨⟨h.1.upd (fun y a b => Or.inl (o y (by omega))) (Or.inl (o 24 (by omega))) (Or.inl (o 25 (by omega))) (by omega) (fun i a b => Or.inl ⟨by omega, o _ (by omega), o _ (by omega), o _ (by omega)⟩) (by omega) (fun q a b => ?_) (Or.inl (o 95 (by omega))) (by omega) (fun i a b => Or.inl ⟨by omega, o _ (by omega), o _ (by omega), o _ (by omega)⟩), h.2.1.same e46 (fun q hq => fset_ne (by omega)), by rw [o 45 (by omega)]; exact h.2.2⟩, fun j hj => o j (by omega)⟩
  by_cases e : q = p
  · subst e
    refine Or.inr ?_
    obtain ⟨y0, y1, y2, y3, y4, y5, y6, y7⟩ := h.1.2.2.2.2.2.2.2.1 q hp.1 hp.2
    obtain ⟨rfl, hv⟩ | ⟨rfl, hv⟩ := ht
    · unfold SpW
      rw [fset_same, fset_ne (by omega), fset_ne (by omega), fset_ne (by omega), fset_ne (by omega), fset_ne (by omega), fset_ne (by omega), fset_ne (by omega)]
      exact ⟨y0, hv, y2, y3, y4, y5, y6, y7⟩
    · unfold SpW
      rw [fset_same, fset_ne (by omega), fset_ne (by omega), fset_ne (by omega), fset_ne (by omega), fset_ne (by omega), fset_ne (by omega), fset_ne (by omega)]
      exact ⟨y0, y1, y2, y3, y4, y5, y6, hv⟩
  · exact Or.inl ⟨by omega, fun s a b => fset_ne (by omega)⟩
theorem wrapM_R {n p w : Int} {f : Int → Int} (h : Rok n f) : Rin n f (wrapM f p w).2 := by
  unfold wrapM
  split
  · next hc => exact spM_R h hc.1 (Or.inl ⟨_root_.rfl, hc.2⟩)
  · exact Rin.rfl h
theorem memoM_R {n p c : Int} {f : Int → Int} (h : Rok n f) : Rin n f (memoM n f p c).2 := by
  unfold memoM
  split
  · next hc => exact spM_R h hc.1 (Or.inr ⟨_root_.rfl, hc.2⟩)
  · exact Rin.rfl h
theorem rakeM_R {n x b : Int} {f : Int → Int} (h : Rok n f) : Rin n f (rakeM n f x b).2 := by
  unfold rakeM
  split
  · next hc =>
    have h26 := h.1.2.2.2.2.1
    have h46 := h.1.2.2.2.2.2.2.1
    have h96 := h.1.2.2.2.2.2.2.2.2.2.1
    try dsimp only
    generalize hv : (if b = 0 then zand (f 95) (zxor (zshl 1 x) (-1)) else zor (f 95) (zshl 1 x)) = v
    have hr : -2147483648 ≤ v ∧ v ≤ 2147483647 := by
      rw [← hv]
      split
      · exact zand_rng _ _
      · exact zor_rng _ _
    have o : ∀ j : Int, j < 95 ∨ 95 < j → fset f 95 v j = f j := fun j hj => fset_ne (by omega)
    have e26 := o 26 (by omega)
    have e46 := o 46 (by omega)
    have e96 := o 96 (by omega)
    refine ⟨⟨h.1.upd (fun y a b => Or.inl (o y (by omega))) (Or.inl (o 24 (by omega))) (Or.inl (o 25 (by omega))) (by omega) (fun i a b => Or.inl ⟨by omega, o _ (by omega), o _ (by omega), o _ (by omega)⟩) (by omega) (fun q a b => Or.inl ⟨by omega, fun t _ _ => o _ (by omega)⟩) (Or.inr (by rw [fset_same]; exact hr)) (by omega) (fun i a b => Or.inl ⟨by omega, o _ (by omega), o _ (by omega), o _ (by omega)⟩), h.2.1.same e46 (fun q hq => o _ (by omega)), by rw [o 45 (by omega)]; exact h.2.2⟩, fun j hj => o j (by omega)⟩
  · exact Rin.rfl h
theorem feelM_R {n c x v : Int} {f : Int → Int} (h : Rok n f) : Rin n f (feelM n f c x v).2 := by
  unfold feelM
  split
  · next hc =>
    split
    · exact Rin.rfl h
    · next h6 =>
      have hn := h.1.1
      have h26 := h.1.2.2.2.2.1
      have h46 := h.1.2.2.2.2.2.2.1
      have h96 := h.1.2.2.2.2.2.2.2.2.2.1
      have o : ∀ j : Int, j < 96 ∨ (96 < j ∧ j < 97 + 3 * f 96) ∨ 115 ≤ j → feelF f c x v j = f j := fun j hj => by
        unfold feelF
        rw [fset_ne (by omega), fset_ne (by omega), fset_ne (by omega), fset_ne (by omega)]
      have e26 := o 26 (by omega)
      have e46 := o 46 (by omega)
      have e96 : feelF f c x v 96 = f 96 + 1 := by unfold feelF; rw [fset_same]
      try dsimp only
      refine ⟨⟨h.1.upd (fun y a b => Or.inl (o y (by omega))) (Or.inl (o 24 (by omega))) (Or.inl (o 25 (by omega))) (by (try dsimp only); omega) (fun i a b => Or.inl ⟨by (try dsimp only at b); omega, o _ (by (try dsimp only at b); omega), o _ (by (try dsimp only at b); omega), o _ (by (try dsimp only at b); omega)⟩) (by (try dsimp only); omega) (fun p a b => Or.inl ⟨by (try dsimp only at b); omega, fun t _ _ => o _ (by (try dsimp only at b); omega)⟩) (Or.inl (o 95 (by omega))) (by (try dsimp only); omega) (fun i p q => ?_), h.2.1.same e46 (fun p hp => o _ (by omega)), ?_⟩, fun j hj => o j (by omega)⟩
      · try dsimp only at q ⊢
        rw [e96] at q
        by_cases e : i = f 96
        · refine Or.inr ?_
          subst e
          unfold FeW feelF
          rw [fset_ne (by omega), fset_ne (by omega), fset_ne (by omega), fset_same, fset_ne (by omega), fset_ne (by omega), fset_same, fset_ne (by omega), fset_same]
          exact hc
        · exact Or.inl ⟨by omega, o _ (by omega), o _ (by omega), o _ (by omega)⟩
      · try dsimp only
        rw [o 45 (by omega)]; exact h.2.2
  · exact Rin.rfl h
theorem forgetM_R {n c : Int} {f : Int → Int} (h : Rok n f) : Rin n f (forgetM f c).2 := by
  unfold forgetM
  split
  · next hc =>
    have h26 := h.1.2.2.2.2.1
    have h46 := h.1.2.2.2.2.2.2.1
    have h96 := h.1.2.2.2.2.2.2.2.2.2.1
    have o : ∀ j : Int, j < 96 ∨ 96 < j → fset f 96 c j = f j := fun j hj => fset_ne (by omega)
    have e26 := o 26 (by omega)
    have e46 := o 46 (by omega)
    have e96 : fset f 96 c 96 = c := fset_same
    try dsimp only
    refine ⟨⟨h.1.upd (fun y a b => Or.inl (o y (by omega))) (Or.inl (o 24 (by omega))) (Or.inl (o 25 (by omega))) (by omega) (fun i a b => Or.inl ⟨by omega, o _ (by omega), o _ (by omega), o _ (by omega)⟩) (by omega) (fun q a b => Or.inl ⟨by omega, fun t _ _ => o _ (by omega)⟩) (Or.inl (o 95 (by omega))) (by omega) (fun i a b => Or.inl ⟨by omega, o _ (by omega), o _ (by omega), o _ (by omega)⟩), h.2.1.same e46 (fun q hq => o _ (by omega)), by rw [o 45 (by omega)]; exact h.2.2⟩, fun j hj => o j (by omega)⟩
  · exact Rin.rfl h
theorem rounds_Dis {n : Int} : ∀ (k : Nat) (f : Int → Int), Wf n f → Dis f → Dis (roundsF n k f) := by
  intro k
  induction k with
  | zero => intro f _ d; exact d
  | succ k ih =>
    intro f w d
    have ⟨a1, a2, _, _⟩ := roundF_Wf w
    refine ih _ a1 (d.same a2 (fun p hp => ?_))
    rw [round_sp w hp (t := 2) (by omega)]
    exact bakeF_out ((w.2.2.2.2.2.2.2.1 p (by omega) hp).2.2.2.2.2.2.1) (by omega)
theorem goM_R {n c : Int} {f : Int → Int} (h : Rok n f) : Rin n f (goM n f c).2 := by
  unfold goM
  split
  · next hc =>
    split
    · next h9 =>
      have ⟨a1, a2, a3, a4⟩ := roundsF_Wf c.toNat f h.1
      have hd := rounds_Dis c.toNat f h.1 h.2.1
      have r : Rok n (roundsF n c.toNat f) := ⟨a1, hd, by have := h.2.2; omega⟩
      try dsimp only
      refine ⟨r.congr (fun j p q => ?_), fun j hj => ?_⟩
      · try dsimp only
        unfold fcopy
        rw [if_pos (by omega)]
        congr 1
        omega
      · try dsimp only
        unfold fcopy
        rw [if_neg (by omega)]
    · exact Rin.rfl h
  · exact Rin.rfl h
theorem readGo_R {n lane lk sz f0 : Int} {cl f : Int → Int} (h : Rok n f) : ∀ (d : Nat) (i : Int) (g : Int → Int), Rin n f g → f 46 ≤ g 46 → (∀ p : Nat, (p : Int) < f 46 → g (47 + 8 * (p : Int) + 2) = f (47 + 8 * (p : Int) + 2)) → Rin n f (readGo lane lk sz cl f0 (f 46) d i g).2.2 := by
  intro d
  induction d with
  | zero => intro i g r _ _; exact r
  | succ d ih =>
    intro i g r l sp
    unfold readGo
    split
    · exact r
    · have r2 := addM_R (s := cl (f0 + 2 * i)) (w := cl (f0 + 2 * i + 1)) r.1
      have hg := r.1.1.2.2.2.2.2.2.1
      have hf := h.1.2.2.2.2.2.2.1
      have l2 : g 46 ≤ (addM g (cl (f0 + 2 * i)) (cl (f0 + 2 * i + 1))).2 46 := by
        unfold addM
        split
        · split
          · exact Int.le_refl _
          · try dsimp only
            unfold addF
            rw [if_pos _root_.rfl]
            omega
        · exact Int.le_refl _
      have s2 : ∀ p : Nat, (p : Int) < g 46 → (addM g (cl (f0 + 2 * i)) (cl (f0 + 2 * i + 1))).2 (47 + 8 * (p : Int) + 2) = g (47 + 8 * (p : Int) + 2) := by
        intro p hp
        unfold addM
        split
        · split
          · exact Eq.refl _
          · try dsimp only
            unfold addF
            rw [if_neg (by omega), if_neg (by omega), if_neg (by omega), if_neg (by omega), if_neg (by omega)]
        · exact Eq.refl _
      generalize (addM g (cl (f0 + 2 * i)) (cl (f0 + 2 * i + 1))).2 = g2 at r2 l2 s2 ⊢
      split
      · try dsimp only
        have h26 := r2.1.1.2.2.2.2.1
        have h46 := r2.1.1.2.2.2.2.2.2.1
        have h96 := r2.1.1.2.2.2.2.2.2.2.2.2.1
        have o : ∀ j : Int, j < 46 ∨ 46 < j → fset g2 46 (f 46) j = g2 j := fun j hj => fset_ne (by omega)
        have e26 := o 26 (by omega)
        have e46 : fset g2 46 (f 46) 46 = f 46 := fset_same
        have e96 := o 96 (by omega)
        refine ⟨⟨r2.1.1.upd (fun y a b => Or.inl (o y (by omega))) (Or.inl (o 24 (by omega))) (Or.inl (o 25 (by omega))) (by omega) (fun i a b => Or.inl ⟨by omega, o _ (by omega), o _ (by omega), o _ (by omega)⟩) (by omega) (fun q a b => Or.inl ⟨by omega, fun t _ _ => o _ (by omega)⟩) (Or.inl (o 95 (by omega))) (by omega) (fun i a b => Or.inl ⟨by omega, o _ (by omega), o _ (by omega), o _ (by omega)⟩), h.2.1.same e46 (fun q hq => ?_), by rw [o 45 (by omega)]; exact r2.1.2.2⟩, fun j hj => ?_⟩
        · rw [o _ (by omega), s2 q (by omega)]
          exact sp q hq
        · rw [o j (by omega), r2.2 j hj]
          exact r.2 j hj
      · exact ih (i + 1) g2 ⟨r2.1, fun j hj => (r2.2 j hj).trans (r.2 j hj)⟩ (by omega) (fun p hp => (s2 p (by omega)).trans (sp p hp))
