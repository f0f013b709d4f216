/-! an evening as it must be: n cells, the row f -/
def SpW (n : Int) (f : Int → Int) (p : Int) : Prop := (1 ≤ f (47 + 8 * p + 0) ∧ f (47 + 8 * p + 0) ≤ 9) ∧ (0 ≤ f (47 + 8 * p + 1) ∧ f (47 + 8 * p + 1) ≤ 2) ∧ (f (47 + 8 * p + 2) = -4 ∨ (0 ≤ f (47 + 8 * p + 2) ∧ f (47 + 8 * p + 2) < 3 * n)) ∧ (0 ≤ f (47 + 8 * p + 3) ∧ f (47 + 8 * p + 3) ≤ 99) ∧ (0 ≤ f (47 + 8 * p + 4) ∧ f (47 + 8 * p + 4) ≤ 99) ∧ (0 ≤ f (47 + 8 * p + 5) ∧ f (47 + 8 * p + 5) ≤ 99) ∧ (0 ≤ f (47 + 8 * p + 6) ∧ f (47 + 8 * p + 6) ≤ 1) ∧ (f (47 + 8 * p + 7) = -4 ∨ (0 ≤ f (47 + 8 * p + 7) ∧ f (47 + 8 * p + 7) < n))
def WdW (n : Int) (f : Int → Int) (i : Int) : Prop := (0 ≤ f (27 + 3 * i) ∧ f (27 + 3 * i) < n) ∧ (1 ≤ f (27 + 3 * i + 1) ∧ f (27 + 3 * i + 1) ≤ 99) ∧ (1 ≤ f (27 + 3 * i + 2) ∧ f (27 + 3 * i + 2) ≤ 9)
def FeW (n : Int) (f : Int → Int) (i : Int) : Prop := (0 ≤ f (97 + 3 * i) ∧ f (97 + 3 * i) ≤ 20) ∧ (0 ≤ f (97 + 3 * i + 1) ∧ f (97 + 3 * i + 1) < 3 * n) ∧ (0 ≤ f (97 + 3 * i + 2) ∧ f (97 + 3 * i + 2) ≤ 99)
/-- heats -/
def HtW (f : Int → Int) : Prop := ∀ x : Int, 0 ≤ x → x < 24 → 0 ≤ f x ∧ f x ≤ 99
def Wf (n : Int) (f : Int → Int) : Prop := (3 ≤ n ∧ n ≤ 8) ∧ HtW f ∧ (0 ≤ f 24 ∧ f 24 ≤ 9) ∧ (0 ≤ f 25 ∧ f 25 ≤ 9) ∧ (0 ≤ f 26 ∧ f 26 ≤ 6) ∧ (∀ i : Int, 0 ≤ i → i < f 26 → WdW n f i) ∧ (0 ≤ f 46 ∧ f 46 ≤ 6) ∧ (∀ p : Int, 0 ≤ p → p < f 46 → SpW n f p) ∧ (-2147483648 ≤ f 95 ∧ f 95 ≤ 2147483647) ∧ (0 ≤ f 96 ∧ f 96 ≤ 6) ∧ (∀ i : Int, 0 ≤ i → i < f 96 → FeW n f i)
theorem bakeF_out {p : Int} {f : Int → Int} {j : Int} (hB : 0 ≤ f (47 + 8 * p + 6) ∧ f (47 + 8 * p + 6) ≤ 1) (hj : j < 47 + 8 * p + 3 ∨ 47 + 8 * p + 5 < j) : bakeF p f j = f j := by
  unfold bakeF
  split
  · rfl
  · rw [fset_ne (by omega), fset_ne (by omega)]
theorem bakeF_rng {n p : Int} {f : Int → Int} (hn : 3 ≤ n ∧ n ≤ 8) (hH : HtW f) (h : SpW n f p) (k : Int) (hk : 3 ≤ k ∧ k ≤ 5) : 0 ≤ bakeF p f (47 + 8 * p + k) ∧ bakeF p f (47 + 8 * p + k) ≤ 99 := by
  obtain ⟨h0, h1, h2, h3, h4, h5, h6, h7⟩ := h
  unfold bakeF
  split
  · obtain rfl | rfl | rfl : k = 3 ∨ k = 4 ∨ k = 5 := by omega
    · exact h3
    · exact h4
    · exact h5
  · next hp =>
    have hx := hH (f (47 + 8 * p + 2)) (by omega) (by omega)
    have hs : 0 ≤ f (47 + 8 * p + (4 + f (47 + 8 * p + 6))) := by
      obtain e | e : f (47 + 8 * p + 6) = 0 ∨ f (47 + 8 * p + 6) = 1 := by omega
      · rw [e]; exact h4.1
      · rw [e]; exact h5.1
    have hkk : 0 ≤ f (47 + 8 * p + k) ∧ f (47 + 8 * p + k) ≤ 99 := by
      obtain rfl | rfl | rfl : k = 3 ∨ k = 4 ∨ k = 5 := by omega
      · exact h3
      · exact h4
      · exact h5
    simp only [fset]
    (repeat' split) <;> omega
/-- f and g agree but on cores and sides of potato p -/
theorem bakeF_SpW {n p q : Int} {f : Int → Int} (hn : 3 ≤ n ∧ n ≤ 8) (hH : HtW f) (hp : SpW n f p) (hq : SpW n f q) : SpW n (bakeF p f) q := by
  have hB := hp.2.2.2.2.2.2.1
  by_cases e : q = p
  · subst e
    refine ⟨?_, ?_, ?_, bakeF_rng hn hH hp 3 (by omega), bakeF_rng hn hH hp 4 (by omega), bakeF_rng hn hH hp 5 (by omega), ?_, ?_⟩
    · rw [bakeF_out hB (by omega)]; exact hp.1
    · rw [bakeF_out hB (by omega)]; exact hp.2.1
    · rw [bakeF_out hB (by omega)]; exact hp.2.2.1
    · rw [bakeF_out hB (by omega)]; exact hp.2.2.2.2.2.2.1
    · rw [bakeF_out hB (by omega)]; exact hp.2.2.2.2.2.2.2
  · unfold SpW
    rw [bakeF_out hB (by omega), bakeF_out hB (by omega), bakeF_out hB (by omega), bakeF_out hB (by omega), bakeF_out hB (by omega), bakeF_out hB (by omega), bakeF_out hB (by omega), bakeF_out hB (by omega)]
    exact hq
theorem bakeF_Wf {n p : Int} {f : Int → Int} (h : Wf n f) (hp : 0 ≤ p ∧ p < f 46) : Wf n (bakeF p f) ∧ (bakeF p f) 46 = f 46 ∧ ∀ j : Int, j < 47 ∨ 94 < j → bakeF p f j = f j := by
  obtain ⟨hn, hH, h24, h25, h26, hw, h46, hs, h95, h96, hf⟩ := h
  have hsp := hs p hp.1 hp.2
  have hB := hsp.2.2.2.2.2.2.1
  have out : ∀ j : Int, j < 47 ∨ 94 < j → bakeF p f j = f j := fun j hj => bakeF_out hB (by omega)
  refine ⟨⟨hn, fun x a b => ?_, ?_, ?_, ?_, fun i a b => ?_, ?_, fun q a b => ?_, ?_, ?_, fun i a b => ?_⟩, out 46 (by omega), out⟩
  · rw [out x (by omega)]; exact hH x a b
  · rw [out 24 (by omega)]; exact h24
  · rw [out 25 (by omega)]; exact h25
  · rw [out 26 (by omega)]; exact h26
  · rw [out 26 (by omega)] at b
    unfold WdW
    rw [out _ (by omega), out _ (by omega), out _ (by omega)]
    exact hw i a b
  · rw [out 46 (by omega)]; exact h46
  · rw [out 46 (by omega)] at b
    exact bakeF_SpW hn hH hsp (hs q a b)
  · rw [out 95 (by omega)]; exact h95
  · rw [out 96 (by omega)]; exact h96
  · rw [out 96 (by omega)] at b
    unfold FeW
    rw [out _ (by omega), out _ (by omega), out _ (by omega)]
    exact hf i a b
theorem bakeTo_Wf {n : Int} {f : Int → Int} (h : Wf n f) : ∀ k : Nat, (k : Int) ≤ f 46 → Wf n (bakeTo k f) ∧ (bakeTo k f) 46 = f 46 ∧ ∀ j : Int, j < 47 ∨ 94 < j → bakeTo k f j = f j := by
  intro k
  induction k with
  | zero => intro _; exact ⟨h, rfl, fun _ _ => rfl⟩
  | succ k ih =>
    intro hk
    obtain ⟨a, b, c⟩ := ih (by omega)
    obtain ⟨a2, b2, c2⟩ := bakeF_Wf (p := k) a (by omega)
    exact ⟨a2, b2.trans b, fun j hj => (c2 j hj).trans (c j hj)⟩
theorem emberF_out {c v : Int} {f : Int → Int} {j : Int} (h : j < 3 * c ∨ 3 * c + 2 < j) : emberF c v f j = f j := by
  unfold emberF
  rw [if_neg (by omega), if_neg (by omega), if_neg (by omega)]
theorem emberF_Ht {c v : Int} {f : Int → Int} (hv : 0 ≤ v) (h : HtW f) : HtW (emberF c v f) := by
  intro x a b
  have := h x a b
  unfold emberF
  (repeat' split) <;> omega
/-- how far the burning has come -/
def BuI (n : Int) (f : Int → Int) (i : Int) (s : Int × (Int → Int)) : Prop := (0 ≤ s.1 ∧ s.1 ≤ i) ∧ HtW s.2 ∧ (∀ j : Int, 27 + 3 * s.1 ≤ j → j < 27 + 3 * i → True) ∧ (∀ j : Int, i ≤ j → j < f 26 → WdW n s.2 j) ∧ (∀ j : Int, 0 ≤ j → j < s.1 → WdW n s.2 j) ∧ (∀ j : Int, 24 ≤ j ∧ j < 27 ∨ 45 ≤ j → s.2 j = f j)
theorem burn_I {n : Int} {f : Int → Int} (h : Wf n f) : ∀ k : Nat, (k : Int) ≤ f 26 → BuI n f k (burnTo k f) := by
  obtain ⟨hn, hH, h24, h25, h26, hw, h46, hs, h95, h96, hf⟩ := h
  intro k
  induction k with
  | zero => intro _; exact ⟨⟨Int.le_refl _, Int.le_refl _⟩, hH, fun _ _ _ => trivial, fun j a b => hw j a b, fun j a b => by simp [burnTo] at b; omega, fun _ _ => rfl⟩
  | succ k ih =>
    intro hk
    obtain ⟨a1, a2, -, a4, a5, a6⟩ := ih (by omega)
    have hk4 := a4 k (Int.le_refl _) (by omega)
    show BuI n f (k + 1 : Nat) (burnStep k (burnTo k f))
    generalize burnTo k f = s at *
    obtain ⟨l, g⟩ := s
    dsimp only at *
    unfold burnStep
    dsimp only
    by_cases c : g (27 + 3 * (k : Int) + 2) = 1
    · rw [if_pos c]
      have o : ∀ j : Int, 24 ≤ j → emberF (g (27 + 3 * (k : Int))) (g (27 + 3 * (k : Int) + 1)) g j = g j := fun j hj => emberF_out (by have := hk4.1; omega)
      refine ⟨⟨a1.1, by push_cast; omega⟩, emberF_Ht (by have := hk4.2.1; omega) a2, fun _ _ _ => trivial, fun j b1 b2 => ?_, fun j b1 b2 => ?_, fun j hj => ?_⟩
      · unfold WdW
        dsimp only
        rw [o _ (by push_cast at b1; omega), o _ (by push_cast at b1; omega), o _ (by push_cast at b1; omega)]
        exact a4 j (by push_cast at b1; omega) b2
      · unfold WdW
        dsimp only
        rw [o _ (by omega), o _ (by omega), o _ (by omega)]
        exact a5 j b1 b2
      · dsimp only
        rw [o j (by omega)]
        exact a6 j hj
    · rw [if_neg c]
      try dsimp only
      have o : ∀ j : Int, j < 27 + 3 * l ∨ 27 + 3 * l + 2 < j → fset (fset (fset g (27 + 3 * l) (g (27 + 3 * (k : Int)))) (27 + 3 * l + 1) (g (27 + 3 * (k : Int) + 1))) (27 + 3 * l + 2) (g (27 + 3 * (k : Int) + 2) - 1) j = g j := fun j hj => by
        rw [fset_ne (by omega), fset_ne (by omega), fset_ne (by omega)]
      refine ⟨⟨by dsimp only; omega, by dsimp only; push_cast; omega⟩, fun x b1 b2 => ?_, fun _ _ _ => trivial, fun j b1 b2 => ?_, fun j b1 b2 => ?_, fun j hj => ?_⟩
      · dsimp only
        rw [o x (by omega)]
        exact a2 x b1 b2
      · unfold WdW
        dsimp only
        rw [o _ (by push_cast at b1; omega), o _ (by push_cast at b1; omega), o _ (by push_cast at b1; omega)]
        exact a4 j (by push_cast at b1; omega) b2
      · dsimp only at b2 ⊢
        by_cases e : j = l
        · subst e
          obtain ⟨q1, q2, q3⟩ := hk4
          refine ⟨?_, ?_, ?_⟩
          · rw [fset_ne (by omega), fset_ne (by omega), fset_same]; exact q1
          · rw [fset_ne (by omega), fset_same]; exact q2
          · rw [fset_same]; omega
        · unfold WdW
          rw [o _ (by omega), o _ (by omega), o _ (by omega)]
          exact a5 j b1 (by omega)
      · dsimp only
        rw [o j (by omega)]
        exact a6 j hj
theorem burnF_Wf {n : Int} {f : Int → Int} (h : Wf n f) : Wf n (burnF f) ∧ ∀ j : Int, 24 ≤ j ∧ j < 26 ∨ 45 ≤ j → burnF f j = f j := by
  have h26 := h.2.2.2.2.1
  obtain ⟨a1, a2, -, a4, a5, a6⟩ := burn_I h (f 26).toNat (by omega)
  obtain ⟨hn, hH, h24, h25, -, hw, h46, hs, h95, h96, hf⟩ := h
  have out : ∀ j : Int, 24 ≤ j ∧ j < 26 ∨ 45 ≤ j → burnF f j = f j := by
    intro j hj
    unfold burnF
    rw [fset_ne (by omega)]
    exact a6 j (by omega)
  have e26 : burnF f 26 = (burnTo (f 26).toNat f).1 := by unfold burnF; rw [fset_same]
  have ne : ∀ j : Int, j ≠ 26 → burnF f j = (burnTo (f 26).toNat f).2 j := by intro j hj; unfold burnF; rw [fset_ne hj]
  refine ⟨⟨hn, fun x a b => ?_, ?_, ?_, ?_, fun i a b => ?_, ?_, fun q a b => ?_, ?_, ?_, fun i a b => ?_⟩, out⟩
  · rw [ne x (by omega)]; exact a2 x a b
  · rw [out 24 (by omega)]; exact h24
  · rw [out 25 (by omega)]; exact h25
  · rw [e26]; omega
  · rw [e26] at b
    unfold WdW
    rw [ne _ (by omega), ne _ (by omega), ne _ (by omega)]
    exact a5 i a b
  · rw [out 46 (by omega)]; exact h46
  · rw [out 46 (by omega)] at b
    unfold SpW
    rw [out _ (by omega), out _ (by omega), out _ (by omega), out _ (by omega), out _ (by omega), out _ (by omega), out _ (by omega), out _ (by omega)]
    exact hs q a b
  · rw [out 95 (by omega)]; exact h95
  · rw [out 96 (by omega)]; exact h96
  · rw [out 96 (by omega)] at b
    unfold FeW
    rw [out _ (by omega), out _ (by omega), out _ (by omega)]
    exact hf i a b
theorem coolTo_out {n x : Int} {f : Int → Int} {j : Int} (h : j < 0 ∨ x ≤ j) : coolTo n x f j = f j := by
  unfold coolTo
  rw [if_neg (by omega)]
theorem lessF_rng {n : Int} {f : Int → Int} (h24 : 0 ≤ f 24 ∧ f 24 ≤ 9) (h25 : 0 ≤ f 25 ∧ f 25 ≤ 9) (x : Int) : 0 ≤ lessF n f x ∧ lessF n f x ≤ 18 := by
  unfold lessF
  split <;> omega
theorem coolF_Wf {n : Int} {f : Int → Int} (h : Wf n f) : Wf n (coolF n f) ∧ ∀ j : Int, 24 ≤ j → coolF n f j = f j := by
  obtain ⟨hn, hH, h24, h25, h26, hw, h46, hs, h95, h96, hf⟩ := h
  have out : ∀ j : Int, 24 ≤ j → coolF n f j = f j := fun j hj => coolTo_out (by omega)
  refine ⟨⟨hn, fun x a b => ?_, ?_, ?_, ?_, fun i a b => ?_, ?_, fun q a b => ?_, ?_, ?_, fun i a b => ?_⟩, out⟩
  · have h1 := hH x a b
    have h2 := lessF_rng (n := n) h24 h25 x
    unfold coolF coolTo
    split <;> omega
  · rw [out 24 (by omega)]; exact h24
  · rw [out 25 (by omega)]; exact h25
  · rw [out 26 (by omega)]; exact h26
  · rw [out 26 (by omega)] at b
    unfold WdW
    rw [out _ (by omega), out _ (by omega), out _ (by omega)]
    exact hw i a b
  · rw [out 46 (by omega)]; exact h46
  · rw [out 46 (by omega)] at b
    unfold SpW
    rw [out _ (by omega), out _ (by omega), out _ (by omega), out _ (by omega), out _ (by omega), out _ (by omega), out _ (by omega), out _ (by omega)]
    exact hs q a b
  · rw [out 95 (by omega)]; exact h95
  · rw [out 96 (by omega)]; exact h96
  · rw [out 96 (by omega)] at b
    unfold FeW
    rw [out _ (by omega), out _ (by omega), out _ (by omega)]
    exact hf i a b
theorem Wf_45 {n v : Int} {f : Int → Int} (h : Wf n f) : Wf n (fset f 45 v) := by
  obtain ⟨hn, hH, h24, h25, h26, hw, h46, hs, h95, h96, hf⟩ := h
  have out : ∀ j : Int, j ≠ 45 → fset f 45 v j = f j := fun j hj => fset_ne hj
  refine ⟨hn, fun x a b => ?_, ?_, ?_, ?_, fun i a b => ?_, ?_, fun q a b => ?_, ?_, ?_, fun i a b => ?_⟩
  · rw [out x (by omega)]; exact hH x a b
  · rw [out 24 (by omega)]; exact h24
  · rw [out 25 (by omega)]; exact h25
  · rw [out 26 (by omega)]; exact h26
  · rw [out 26 (by omega)] at b
    unfold WdW
    rw [out _ (by omega), out _ (by omega), out _ (by omega)]
    exact hw i a b
  · rw [out 46 (by omega)]; exact h46
  · rw [out 46 (by omega)] at b
    unfold SpW
    rw [out _ (by omega), out _ (by omega), out _ (by omega), out _ (by omega), out _ (by omega), out _ (by omega), out _ (by omega), out _ (by omega)]
    exact hs q a b
  · rw [out 95 (by omega)]; exact h95
  · rw [out 96 (by omega)]; exact h96
  · rw [out 96 (by omega)] at b
    unfold FeW
    rw [out _ (by omega), out _ (by omega), out _ (by omega)]
    exact hf i a b
theorem roundF_Wf {n : Int} {f : Int → Int} (h : Wf n f) : Wf n (roundF n f) ∧ (roundF n f) 46 = f 46 ∧ (roundF n f) 45 = f 45 + 1 ∧ ∀ j : Int, 24 ≤ j ∧ j < 26 ∨ 94 < j → roundF n f j = f j := by
  have h46 := h.2.2.2.2.2.2.1
  obtain ⟨a1, a2, a3⟩ := bakeTo_Wf h (f 46).toNat (by omega)
  obtain ⟨b1, b2⟩ := burnF_Wf a1
  obtain ⟨c1, c2⟩ := coolF_Wf b1
  refine ⟨Wf_45 c1, ?_, fset_same, fun j hj => ?_⟩
  · unfold roundF
    rw [fset_ne (by omega), c2 46 (by omega), b2 46 (by omega), a2]
  · unfold roundF
    rw [fset_ne (by omega), c2 j (by omega), b2 j (by omega), a3 j (by omega)]
theorem roundsF_Wf {n : Int} : ∀ (k : Nat) (f : Int → Int), Wf n f → Wf n (roundsF n k f) ∧ (roundsF n k f) 46 = f 46 ∧ (roundsF n k f) 45 = f 45 + k ∧ ∀ j : Int, 24 ≤ j ∧ j < 26 ∨ 94 < j → roundsF n k f j = f j := by
  intro k
  induction k with
  | zero => intro f h; exact ⟨h, rfl, by simp [roundsF], fun _ _ => rfl⟩
  | succ k ih =>
    intro f h
    obtain ⟨a1, a2, a3, a4⟩ := roundF_Wf h
    obtain ⟨b1, b2, b3, b4⟩ := ih _ a1
    refine ⟨b1, b2.trans a2, ?_, fun j hj => (b4 j hj).trans (a4 j hj)⟩
    show roundsF n k (roundF n f) 45 = _
    rw [b3, a3]
    push_cast
    omega
