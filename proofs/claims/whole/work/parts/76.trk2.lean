/-- rows one behind another, a potato p baked from each to the next -/
def spH (R : Nat → Int → Int) (p : Int) (r : Nat) : Int := if R 0 (47 + 8 * p + 2) = -4 then 0 else R r (R 0 (47 + 8 * p + 2))
theorem gain_nonneg {H : Nat → Int} {q : Int} (hq : 0 < q) (hH : ∀ r, 0 ≤ H r) : ∀ k : Nat, 0 ≤ gain H q k := by
  intro k
  induction k with
  | zero => exact Int.le_refl _
  | succ k ih =>
    rw [gain]
    have := Int.ediv_nonneg (hH k) (show 0 ≤ q by omega)
    omega
theorem gain_le {H : Nat → Int} {q : Int} (hq : 0 < q) (hH : ∀ r, 0 ≤ H r ∧ H r ≤ 99) : ∀ k : Nat, gain H q k ≤ 99 * k := by
  intro k
  induction k with
  | zero => exact Int.le_refl _
  | succ k ih =>
    rw [gain]
    have := Int.ediv_le_self q (hH k).1
    have := (hH k).2
    push_cast
    omega
theorem gain_congr {H G : Nat → Int} {q : Int} : ∀ k : Nat, (∀ r, r < k → H r = G r) → gain H q k = gain G q k := by
  intro k
  induction k with
  | zero => intro _; rfl
  | succ k ih =>
    intro h
    rw [gain, gain, ih (fun r hr => h r (by omega)), h k (by omega)]
theorem gain_add {H : Nat → Int} {q : Int} (i : Nat) : ∀ k : Nat, gain H q (i + k) = gain H q i + gain (fun s => H (i + s)) q k := by
  intro k
  induction k with
  | zero => rw [gain, Int.add_zero]; rfl
  | succ k ih =>
    rw [show i + (k + 1) = (i + k) + 1 by omega, gain, gain, ih]
    omega
section
variable {n : Int} {R : Nat → Int → Int} {p : Nat}
theorem spH_rng (hW : ∀ k, Wf n (R k)) (hp : (p : Int) < R 0 46) (r : Nat) : 0 ≤ spH R p r ∧ spH R p r ≤ 99 := by
  have hpl := ((hW 0).sp hp).2.2.1
  have hn := (hW 0).1
  unfold spH
  split
  · omega
  · exact (hW r).2.1 _ (by omega) (by omega)
theorem seq_sp (hW : ∀ k, Wf n (R k)) (hp : (p : Int) < R 0 46) (hs : ∀ (k : Nat) (t : Int), 0 ≤ t → t < 8 → R (k + 1) (47 + 8 * (p : Int) + t) = bakeF p (R k) (47 + 8 * (p : Int) + t)) : ∀ k : Nat, (∀ t : Int, 0 ≤ t → t < 8 → ¬ t = 3 → ¬ t = 4 + R 0 (47 + 8 * (p : Int) + 6) → R k (47 + 8 * (p : Int) + t) = R 0 (47 + 8 * (p : Int) + t)) ∧ R k (47 + 8 * (p : Int) + 3) = min 99 (R 0 (47 + 8 * (p : Int) + 3) + gain (spH R p) (coF (R 0 (47 + 8 * (p : Int) + 1))) k) ∧ R k (47 + 8 * (p : Int) + (4 + R 0 (47 + 8 * (p : Int) + 6))) = min 99 (R 0 (47 + 8 * (p : Int) + (4 + R 0 (47 + 8 * (p : Int) + 6))) + gain (spH R p) (siF (R 0 (47 + 8 * (p : Int) + 1))) k) := by
  have w0 := (hW 0).sp hp
  have hfl := (hW 0).fl hp
  obtain ⟨s0, s1, s2, s3, s4, s5, s6, s7⟩ := w0
  have co := coF_r (R 0 (47 + 8 * (p : Int) + 1))
  have si := siF_r (R 0 (47 + 8 * (p : Int) + 1))
  have hH := fun r => spH_rng hW hp r
  intro k
  induction k with
  | zero =>
    refine ⟨fun t _ _ _ _ => rfl, ?_, ?_⟩
    · show _ = min 99 (_ + 0)
      omega
    · show _ = min 99 (_ + 0)
      obtain e | e : R 0 (47 + 8 * (p : Int) + 6) = 0 ∨ R 0 (47 + 8 * (p : Int) + 6) = 1 := by omega
      · rw [e]; show R 0 (47 + 8 * (p : Int) + 4) = min 99 (R 0 (47 + 8 * (p : Int) + 4) + 0); omega
      · rw [e]; show R 0 (47 + 8 * (p : Int) + 5) = min 99 (R 0 (47 + 8 * (p : Int) + 5) + 0); omega
  | succ k ih =>
    obtain ⟨i1, i2, i3⟩ := ih
    have e1 := i1 1 (by omega) (by omega) (by omega) (by omega)
    have e2 := i1 2 (by omega) (by omega) (by omega) (by omega)
    have e6 := i1 6 (by omega) (by omega) (by omega) (by omega)
    have gc := gain_nonneg (H := spH R p) (q := coF (R 0 (47 + 8 * (p : Int) + 1))) (by omega) (fun r => (hH r).1) k
    have gs := gain_nonneg (H := spH R p) (q := siF (R 0 (47 + 8 * (p : Int) + 1))) (by omega) (fun r => (hH r).1) k
    have dc := div_r (a := spH R p k) (b := coF (R 0 (47 + 8 * (p : Int) + 1))) (hH k).1 (by omega)
    have ds := div_r (a := spH R p k) (b := siF (R 0 (47 + 8 * (p : Int) + 1))) (hH k).1 (by omega)
    have g1 : gain (spH R p) (coF (R 0 (47 + 8 * (p : Int) + 1))) (k + 1) = gain (spH R p) (coF (R 0 (47 + 8 * (p : Int) + 1))) k + spH R p k / coF (R 0 (47 + 8 * (p : Int) + 1)) := rfl
    have g2 : gain (spH R p) (siF (R 0 (47 + 8 * (p : Int) + 1))) (k + 1) = gain (spH R p) (siF (R 0 (47 + 8 * (p : Int) + 1))) k + spH R p k / siF (R 0 (47 + 8 * (p : Int) + 1)) := rfl
    rw [g1, g2]
    by_cases h4 : R 0 (47 + 8 * (p : Int) + 2) = -4
    · have ez : ∀ r, spH R p r = 0 := fun r => by unfold spH; rw [if_pos h4]
      have eb : bakeF p (R k) = R k := by unfold bakeF; rw [if_pos (by rw [e2]; exact h4)]
      rw [ez k] at dc ds ⊢
      rw [Int.zero_ediv, Int.zero_ediv, Int.add_zero, Int.add_zero]
      refine ⟨fun t t0 t1 t3 tf => ?_, ?_, ?_⟩
      · rw [hs k t t0 t1, eb]; exact i1 t t0 t1 t3 tf
      · rw [hs k 3 (by omega) (by omega), eb]; exact i2
      · rw [hs k _ (by omega) (by omega), eb]; exact i3
    · have eH : spH R p k = R k (R 0 (47 + 8 * (p : Int) + 2)) := by unfold spH; rw [if_neg h4]
      have eb : bakeF p (R k) = fset (fset (R k) (47 + 8 * (p : Int) + 3) (min 99 (R k (47 + 8 * (p : Int) + 3) + spH R p k / coF (R 0 (47 + 8 * (p : Int) + 1))))) (47 + 8 * (p : Int) + (4 + R 0 (47 + 8 * (p : Int) + 6))) (min 99 (R k (47 + 8 * (p : Int) + (4 + R 0 (47 + 8 * (p : Int) + 6))) + spH R p k / siF (R 0 (47 + 8 * (p : Int) + 1)))) := by
        unfold bakeF
        rw [if_neg (by rw [e2]; exact h4), e2, e1, e6, eH]
      refine ⟨fun t t0 t1 t3 tf => ?_, ?_, ?_⟩
      · rw [hs k t t0 t1, eb, fset_ne (by omega), fset_ne (by omega)]; exact i1 t t0 t1 t3 tf
      · rw [hs k 3 (by omega) (by omega), eb, fset_ne (by omega), fset_same, i2]
        omega
      · rw [hs k _ (by omega) (by omega), eb, fset_same, i3]
        omega
/-- the side below, the other one -/
abbrev sdB (f : Int → Int) (p : Int) : Int := f (47 + 8 * p + (4 + f (47 + 8 * p + 6)))
abbrev sdO (f : Int → Int) (p : Int) : Int := f (47 + 8 * p + (5 - f (47 + 8 * p + 6)))
theorem black_sd {n : Int} {f : Int → Int} {p : Int} (w : SpW n f p) : isBlackF f p ↔ (40 ≤ sdB f p ∨ 40 ≤ sdO f p) := by
  unfold isBlackF sdB sdO
  obtain e | e : f (47 + 8 * p + 6) = 0 ∨ f (47 + 8 * p + 6) = 1 := by have := w.2.2.2.2.2.2.1; omega
  · rw [e]; exact Iff.rfl
  · rw [e]
    show _ ↔ (40 ≤ f (47 + 8 * p + 5) ∨ 40 ≤ f (47 + 8 * p + 4))
    omega
theorem seq_done (hW : ∀ k, Wf n (R k)) (hp : (p : Int) < R 0 46) (hs : ∀ (k : Nat) (t : Int), 0 ≤ t → t < 8 → R (k + 1) (47 + 8 * (p : Int) + t) = bakeF p (R k) (47 + 8 * (p : Int) + t)) (k : Nat) : isDoneF (R k) p ↔ 10 * R 0 (47 + 8 * (p : Int) + 0) ≤ R 0 (47 + 8 * (p : Int) + 3) + gain (spH R p) (coF (R 0 (47 + 8 * (p : Int) + 1))) k := by
  obtain ⟨i1, i2, i3⟩ := seq_sp hW hp hs k
  have s0 := ((hW 0).sp hp).1
  have hfl := (hW 0).fl hp
  unfold isDoneF
  rw [i1 0 (by omega) (by omega) (by omega) (by omega), i2]
  omega
theorem seq_black (hW : ∀ k, Wf n (R k)) (hp : (p : Int) < R 0 46) (h46 : ∀ k, R k 46 = R 0 46) (hs : ∀ (k : Nat) (t : Int), 0 ≤ t → t < 8 → R (k + 1) (47 + 8 * (p : Int) + t) = bakeF p (R k) (47 + 8 * (p : Int) + t)) (k : Nat) : isBlackF (R k) p ↔ (40 ≤ sdB (R 0) p + gain (spH R p) (siF (R 0 (47 + 8 * (p : Int) + 1))) k ∨ 40 ≤ sdO (R 0) p) := by
  obtain ⟨i1, i2, i3⟩ := seq_sp hW hp hs k
  have hfl := (hW 0).fl hp
  have wk := (hW k).sp (p := p) (by rw [h46]; exact hp)
  rw [black_sd wk]
  unfold sdB sdO
  rw [i1 6 (by omega) (by omega) (by omega) (by omega), i3, i1 (5 - R 0 (47 + 8 * (p : Int) + 6)) (by omega) (by omega) (by omega) (by omega)]
  omega
end
theorem rounds_ok {n : Int} {f : Int → Int} (w : Wf n f) {p : Nat} (hp : (p : Int) < f 46) : (∀ k, Wf n (roundsF n k f)) ∧ (∀ k, roundsF n k f 46 = f 46) ∧ (∀ (k : Nat) (t : Int), 0 ≤ t → t < 8 → roundsF n (k + 1) f (47 + 8 * (p : Int) + t) = bakeF p (roundsF n k f) (47 + 8 * (p : Int) + t)) := by
  refine ⟨fun k => (roundsF_Wf k f w).1, fun k => (roundsF_Wf k f w).2.1, fun k t t0 t1 => ?_⟩
  obtain ⟨w1, w2, -, -⟩ := roundsF_Wf k f w
  rw [roundsF_s]
  exact round_sp w1 (by rw [w2]; exact hp) ⟨t0, t1⟩
/-- good behind k rounds -/
theorem rounds_good {n : Int} {f : Int → Int} (w : Wf n f) {p : Nat} (hp : (p : Int) < f 46) (k : Nat) : isGoodF (roundsF n k f) p ↔ (10 * f (47 + 8 * (p : Int) + 0) ≤ f (47 + 8 * (p : Int) + 3) + gain (spH (fun k => roundsF n k f) p) (coF (f (47 + 8 * (p : Int) + 1))) k ∧ sdB f p + gain (spH (fun k => roundsF n k f) p) (siF (f (47 + 8 * (p : Int) + 1))) k < 40 ∧ sdO f p < 40) := by
  obtain ⟨h1, h2, h3⟩ := rounds_ok w hp
  have d : isDoneF (roundsF n k f) p ↔ 10 * f (47 + 8 * (p : Int) + 0) ≤ f (47 + 8 * (p : Int) + 3) + gain (spH (fun k => roundsF n k f) p) (coF (f (47 + 8 * (p : Int) + 1))) k := seq_done (R := fun k => roundsF n k f) h1 hp h3 k
  have b : isBlackF (roundsF n k f) p ↔ (40 ≤ sdB f p + gain (spH (fun k => roundsF n k f) p) (siF (f (47 + 8 * (p : Int) + 1))) k ∨ 40 ≤ sdO f p) := seq_black (R := fun k => roundsF n k f) h1 hp h2 h3 k
  unfold isGoodF
  rw [d, b]
  constructor
  · intro ⟨a, c⟩; exact ⟨a, by omega, by omega⟩
  · intro ⟨a, c, e⟩; exact ⟨a, by omega⟩
theorem heat_congr {n : Int} {f g : Int → Int} (wf : Wf n f) (wg : Wf n g) (h : ∀ j : Int, j < 45 → g j = f j) {x : Int} (hx : 0 ≤ x ∧ x < 3 * n) (k : Nat) : roundsF n k g x = roundsF n k f x := by
  have hn := wf.1
  rw [rounds_heat wf hx, rounds_heat wg hx, h x (by omega)]
  have e1 : embS g x = embS f x := funext (fun r => embS_congr wf.2.2.2.2.1 (fun j _ _ => h j (by omega)))
  have e2 : lessF n g x = lessF n f x := by unfold lessF; rw [h 24 (by omega), h 25 (by omega)]
  rw [e1, e2]
theorem roundsF_add {n : Int} : ∀ (k i : Nat) (f : Int → Int), roundsF n k (roundsF n i f) = roundsF n (i + k) f := by
  intro k
  induction k with
  | zero => intro i f; rfl
  | succ k ih => intro i f; rw [roundsF_s, ih, show i + (k + 1) = (i + k) + 1 by omega, roundsF_s]
/-- turned behind i of c rounds -/
theorem flip_good {n : Int} {f : Int → Int} (w : Wf n f) {p : Nat} (hp : (p : Int) < f 46) {i c : Nat} (hi : i ≤ c) : isGoodF (roundsF n (c - i) (turnF (roundsF n i f) p)) p ↔ (10 * f (47 + 8 * (p : Int) + 0) ≤ f (47 + 8 * (p : Int) + 3) + gain (spH (fun k => roundsF n k f) p) (coF (f (47 + 8 * (p : Int) + 1))) c ∧ sdB f p + gain (spH (fun k => roundsF n k f) p) (siF (f (47 + 8 * (p : Int) + 1))) i < 40 ∧ sdO f p + gain (fun s => spH (fun k => roundsF n k f) p (i + s)) (siF (f (47 + 8 * (p : Int) + 1))) (c - i) < 40) := by
  obtain ⟨h1, h2, h3⟩ := rounds_ok w hp
  obtain ⟨i1, i2, i3⟩ := seq_sp (R := fun k => roundsF n k f) h1 hp h3 i
  have r0 : roundsF n 0 f = f := rfl
  rw [r0] at i1 i2 i3
  have wi := h1 i
  have pi : (p : Int) < roundsF n i f 46 := by rw [h2 i]; exact hp
  obtain ⟨wt, ot⟩ := turnF_Wf (p := (p : Int)) wi ⟨by omega, pi⟩
  have tf : ∀ j : Int, ¬ j = 47 + 8 * (p : Int) + 6 → turnF (roundsF n i f) p j = roundsF n i f j := fun j hj => by unfold turnF; rw [fset_ne hj]
  have t6 : turnF (roundsF n i f) p (47 + 8 * (p : Int) + 6) = 1 - roundsF n i f (47 + 8 * (p : Int) + 6) := by unfold turnF; rw [fset_same]
  have hfl := w.fl hp
  have e6 := i1 6 (by omega) (by omega) (by omega) (by omega)
  have e0 := i1 0 (by omega) (by omega) (by omega) (by omega)
  have e1 := i1 1 (by omega) (by omega) (by omega) (by omega)
  have e2 := i1 2 (by omega) (by omega) (by omega) (by omega)
  have e5 := i1 (5 - f (47 + 8 * (p : Int) + 6)) (by omega) (by omega) (by omega) (by omega)
  rw [rounds_good wt (by rw [ot 46 (by omega)]; exact pi)]
  have hpl := (w.sp hp).2.2.1
  have eH : ∀ s : Nat, spH (fun k => roundsF n k (turnF (roundsF n i f) p)) p s = spH (fun k => roundsF n k f) p (i + s) := by
    intro s
    unfold spH
    show (if turnF (roundsF n i f) p (47 + 8 * (p : Int) + 2) = -4 then 0 else roundsF n s (turnF (roundsF n i f) p) (turnF (roundsF n i f) p (47 + 8 * (p : Int) + 2))) = (if f (47 + 8 * (p : Int) + 2) = -4 then 0 else roundsF n (i + s) f (f (47 + 8 * (p : Int) + 2)))
    rw [tf _ (by omega), e2]
    split
    · rfl
    · rw [heat_congr wi wt (fun j hj => tf j (by omega)) (by omega), roundsF_add]
  have eH' : spH (fun k => roundsF n k (turnF (roundsF n i f) p)) p = fun s => spH (fun k => roundsF n k f) p (i + s) := funext eH
  rw [eH', tf (47 + 8 * (p : Int) + 0) (by omega), tf (47 + 8 * (p : Int) + 3) (by omega), tf (47 + 8 * (p : Int) + 1) (by omega), e0, e1, i2]
  unfold sdB sdO
  rw [t6, e6, tf (47 + 8 * (p : Int) + (4 + (1 - f (47 + 8 * (p : Int) + 6)))) (by omega), tf (47 + 8 * (p : Int) + (5 - (1 - f (47 + 8 * (p : Int) + 6)))) (by omega), show 4 + (1 - f (47 + 8 * (p : Int) + 6)) = 5 - f (47 + 8 * (p : Int) + 6) by omega, show 5 - (1 - f (47 + 8 * (p : Int) + 6)) = 4 + f (47 + 8 * (p : Int) + 6) by omega, e5, i3]
  have ga := gain_add (H := spH (fun k => roundsF n k f) p) (q := coF (f (47 + 8 * (p : Int) + 1))) i (c - i)
  rw [show i + (c - i) = c by omega] at ga
  rw [ga]
  have co := coF_r (f (47 + 8 * (p : Int) + 1))
  have hH := fun r => spH_rng (R := fun k => roundsF n k f) h1 hp r
  have g1 := gain_nonneg (H := spH (fun k => roundsF n k f) p) (q := coF (f (47 + 8 * (p : Int) + 1))) (by omega) (fun r => (hH r).1) i
  have g2 := gain_nonneg (H := fun s => spH (fun k => roundsF n k f) p (i + s)) (q := coF (f (47 + 8 * (p : Int) + 1))) (by omega) (fun r => (hH (i + r)).1) (c - i)
  have s0 := (w.sp hp).1
  omega
