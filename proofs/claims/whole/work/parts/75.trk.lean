/-! the heat of one place through the rounds to come -/
def shr (v x : Int) : Int := if x % 3 = 0 then v else if x % 3 = 1 then v / 2 else v / 4
theorem shr_rng {v x : Int} (h : 0 ≤ v) : 0 ≤ shr v x ∧ shr v x ≤ v := by
  unfold shr
  (repeat' split) <;> omega
def embTo (f : Int → Int) (x r : Int) : Nat → Int
  | 0 => 0
  | i + 1 => embTo f x r i + (if f (27 + 3 * (i : Int)) = x / 3 ∧ f (27 + 3 * (i : Int) + 2) = r then shr (f (27 + 3 * (i : Int) + 1)) x else 0)
def embS (f : Int → Int) (x r : Int) : Int := embTo f x r (f 26).toNat
theorem embTo_congr {f g : Int → Int} {x r : Int} : ∀ k : Nat, (∀ i : Int, 0 ≤ i → i < k → g (27 + 3 * i) = f (27 + 3 * i) ∧ g (27 + 3 * i + 1) = f (27 + 3 * i + 1) ∧ g (27 + 3 * i + 2) = f (27 + 3 * i + 2)) → embTo g x r k = embTo f x r k := by
  intro k
  induction k with
  | zero => intro _; rfl
  | succ k ih =>
    intro h
    rw [embTo, embTo, ih (fun i a b => h i a (by push_cast; omega))]
    obtain ⟨h1, h2, h3⟩ := h k (by omega) (by push_cast; omega)
    rw [h1, h2, h3]
theorem embTo_rng {f : Int → Int} {x r : Int} : ∀ k : Nat, (∀ i : Int, 0 ≤ i → i < k → 0 ≤ f (27 + 3 * i + 1) ∧ f (27 + 3 * i + 1) ≤ 99) → 0 ≤ embTo f x r k ∧ embTo f x r k ≤ 99 * k := by
  intro k
  induction k with
  | zero => intro _; exact ⟨Int.le_refl _, Int.le_refl _⟩
  | succ k ih =>
    intro h
    have h1 := ih (fun i a b => h i a (by push_cast; omega))
    have h2 := h k (by omega) (by push_cast; omega)
    have h3 := shr_rng (v := f (27 + 3 * (k : Int) + 1)) (x := x) h2.1
    rw [embTo]
    push_cast
    split <;> omega
theorem ember_at {c v x : Int} {f : Int → Int} (hx : 0 ≤ x) : emberF c v f x = if c = x / 3 then min 99 (f x + shr v x) else f x := by
  unfold emberF shr
  by_cases e0 : x = 3 * c
  · rw [if_pos e0, if_pos (by omega), if_pos (by omega)]
  · rw [if_neg e0]
    by_cases e1 : x = 3 * c + 1
    · rw [if_pos e1, if_pos (by omega), if_neg (by omega), if_pos (by omega)]
    · rw [if_neg e1]
      by_cases e2 : x = 3 * c + 2
      · rw [if_pos e2, if_pos (by omega), if_neg (by omega), if_neg (by omega)]
      · rw [if_neg e2, if_neg (by omega)]
theorem burn_all {n : Int} {f : Int → Int} (w : Wf n f) : ∀ k : Nat, (k : Int) ≤ f 26 → (∀ x : Int, 0 ≤ x → x < 24 → (burnTo k f).2 x = min 99 (f x + embTo f x 1 k)) ∧ (∀ x r : Int, 1 ≤ r → embTo (burnTo k f).2 x r (burnTo k f).1.toNat = embTo f x (r + 1) k) ∧ (∀ j : Int, (k : Int) ≤ j → j < f 26 → (burnTo k f).2 (27 + 3 * j) = f (27 + 3 * j) ∧ (burnTo k f).2 (27 + 3 * j + 1) = f (27 + 3 * j + 1) ∧ (burnTo k f).2 (27 + 3 * j + 2) = f (27 + 3 * j + 2)) := by
  intro k
  induction k with
  | zero =>
    intro _
    refine ⟨fun x x0 x1 => ?_, fun x r _ => rfl, fun j _ _ => ⟨rfl, rfl, rfl⟩⟩
    have := w.2.1 x x0 x1
    show f x = min 99 (f x + 0)
    omega
  | succ k ih =>
    intro hk
    push_cast at hk
    obtain ⟨ia, ib, ic⟩ := ih (by omega)
    obtain ⟨a1, a2, -, a4, a5, a6⟩ := burn_I w k (by omega)
    obtain ⟨c1, c2, c3⟩ := ic k (by omega) (by omega)
    obtain ⟨w1, w2, w3⟩ := w.2.2.2.2.2.1 k (by omega) (by omega)
    have sr := fun x => shr_rng (v := f (27 + 3 * (k : Int) + 1)) (x := x) (by omega)
    have er : ∀ x r : Int, 0 ≤ embTo f x r k := fun x r => (embTo_rng (x := x) (r := r) k (fun i a b => by have := (w.2.2.2.2.2.1 i a (by omega)).2.1; omega)).1
    have hn := w.1
    have st : burnTo (k + 1) f = burnStep k (burnTo k f) := rfl
    rw [st]
    unfold burnStep
    rw [c1, c2, c3]
    by_cases h1 : f (27 + 3 * (k : Int) + 2) = 1
    · rw [if_pos h1]
      dsimp only
      refine ⟨fun x x0 x1 => ?_, fun x r hr => ?_, fun j j0 j1 => ?_⟩
      · rw [ember_at x0, embTo, ia x x0 x1]
        have := sr x
        have := er x 1
        by_cases e : f (27 + 3 * (k : Int)) = x / 3
        · rw [if_pos e, if_pos ⟨e, h1⟩]
          omega
        · rw [if_neg e, if_neg (fun z => e z.1)]
          omega
      · rw [embTo, if_neg (fun z => by have := z.2; omega), Int.add_zero, ← ib x r hr]
        exact embTo_congr _ (fun i i0 i1 => ⟨emberF_out (by omega), emberF_out (by omega), emberF_out (by omega)⟩)
      · push_cast at j0
        rw [emberF_out (by omega), emberF_out (by omega), emberF_out (by omega)]
        exact ic j (by omega) j1
    · rw [if_neg h1]
      dsimp only
      refine ⟨fun x x0 x1 => ?_, fun x r hr => ?_, fun j j0 j1 => ?_⟩
      · rw [fset_ne (by omega), fset_ne (by omega), fset_ne (by omega), embTo, if_neg (fun z => h1 z.2), Int.add_zero]
        exact ia x x0 x1
      · rw [embTo, ← ib x r hr, show ((burnTo k f).1 + 1).toNat = (burnTo k f).1.toNat + 1 by omega, embTo]
        have el : (((burnTo k f).1.toNat : Nat) : Int) = (burnTo k f).1 := by omega
        rw [el, fset_ne (j := 27 + 3 * (burnTo k f).1) (by omega), fset_ne (j := 27 + 3 * (burnTo k f).1) (by omega), fset_same, fset_same, fset_ne (j := 27 + 3 * (burnTo k f).1 + 1) (by omega), fset_same]
        have ec := embTo_congr (x := x) (r := r) (f := (burnTo k f).2) (g := fset (fset (fset (burnTo k f).2 (27 + 3 * (burnTo k f).1) (f (27 + 3 * (k : Int)))) (27 + 3 * (burnTo k f).1 + 1) (f (27 + 3 * (k : Int) + 1))) (27 + 3 * (burnTo k f).1 + 2) (f (27 + 3 * (k : Int) + 2) - 1)) (burnTo k f).1.toNat (fun i i0 i1 => ⟨by rw [fset_ne (by omega), fset_ne (by omega), fset_ne (by omega)], by rw [fset_ne (by omega), fset_ne (by omega), fset_ne (by omega)], by rw [fset_ne (by omega), fset_ne (by omega), fset_ne (by omega)]⟩)
        rw [ec]
        by_cases e : f (27 + 3 * (k : Int)) = x / 3 ∧ f (27 + 3 * (k : Int) + 2) - 1 = r
        · rw [if_pos e, if_pos ⟨e.1, by omega⟩]
        · rw [if_neg e, if_neg (fun z => e ⟨z.1, by omega⟩)]
      · push_cast at j0
        rw [fset_ne (by omega), fset_ne (by omega), fset_ne (by omega), fset_ne (by omega), fset_ne (by omega), fset_ne (by omega), fset_ne (by omega), fset_ne (by omega), fset_ne (by omega)]
        exact ic j (by omega) j1
theorem burn_heat {n : Int} {f : Int → Int} (w : Wf n f) {x : Int} (hx : 0 ≤ x ∧ x < 24) : burnF f x = min 99 (f x + embS f x 1) := by
  have w26 := w.2.2.2.2.1
  unfold burnF embS
  rw [fset_ne (by omega)]
  exact (burn_all w (f 26).toNat (by omega)).1 x hx.1 hx.2
theorem burn_emb {n : Int} {f : Int → Int} (w : Wf n f) {x r : Int} (hr : 1 ≤ r) : embS (burnF f) x r = embS f x (r + 1) := by
  have w26 := w.2.2.2.2.1
  have hz := (burn_all w (f 26).toNat (by omega)).2.1 x r hr
  unfold embS
  rw [← hz]
  have e : burnF f 26 = (burnTo (f 26).toNat f).1 := by unfold burnF; rw [fset_same]
  rw [e]
  exact embTo_congr _ (fun i i0 i1 => by unfold burnF; rw [fset_ne (by omega), fset_ne (by omega), fset_ne (by omega)]; exact ⟨rfl, rfl, rfl⟩)
theorem embS_congr {f g : Int → Int} {x r : Int} (h26 : 0 ≤ f 26 ∧ f 26 ≤ 6) (h : ∀ j : Int, 26 ≤ j → j < 45 → g j = f j) : embS g x r = embS f x r := by
  unfold embS
  rw [h 26 (by omega) (by omega)]
  exact embTo_congr _ (fun i i0 i1 => ⟨h _ (by omega) (by omega), h _ (by omega) (by omega), h _ (by omega) (by omega)⟩)
theorem embS_rng {n : Int} {f : Int → Int} (w : Wf n f) (x r : Int) : 0 ≤ embS f x r ∧ embS f x r ≤ 594 := by
  have w26 := w.2.2.2.2.1
  have := embTo_rng (f := f) (x := x) (r := r) (f 26).toNat (fun i a b => by have := (w.2.2.2.2.2.1 i a (by omega)).2.1; omega)
  unfold embS
  omega
/-- one round, without its number -/
theorem cool_burn {n : Int} {g : Int → Int} (w : Wf n g) {x : Int} (hx : 0 ≤ x ∧ x < 3 * n) : coolF n (burnF g) x = max 0 (min 99 (g x + embS g x 1) - lessF n g x) := by
  have hn := w.1
  obtain ⟨w1, w2⟩ := burnF_Wf w
  unfold coolF coolTo
  rw [if_pos hx, burn_heat w (by omega)]
  unfold lessF
  rw [w2 24 (by omega), w2 25 (by omega)]
theorem bake_low {n : Int} {f : Int → Int} (w : Wf n f) {j : Int} (hj : j < 47) : bakeTo (f 46).toNat f j = f j := by
  have w46 := w.n46
  exact (bakeTo_Wf w (f 46).toNat (by omega)).2.2 j (by omega)
theorem round_heat {n : Int} {f : Int → Int} (w : Wf n f) {x : Int} (hx : 0 ≤ x ∧ x < 3 * n) : roundF n f x = max 0 (min 99 (f x + embS f x 1) - lessF n f x) := by
  have hn := w.1
  have w46 := w.n46
  have w26 := w.2.2.2.2.1
  have wb := (bakeTo_Wf w (f 46).toNat (by omega)).1
  unfold roundF
  rw [fset_ne (by omega), cool_burn wb hx, bake_low w (by omega), embS_congr w26 (fun j _ _ => bake_low w (by omega))]
  unfold lessF
  rw [bake_low w (by omega), bake_low w (by omega)]
theorem round_emb {n : Int} {f : Int → Int} (w : Wf n f) {x r : Int} (hr : 1 ≤ r) : embS (roundF n f) x r = embS f x (r + 1) := by
  have hn := w.1
  have w46 := w.n46
  have w26 := w.2.2.2.2.1
  have wb := (bakeTo_Wf w (f 46).toNat (by omega)).1
  have wu := (burnF_Wf wb).1
  rw [← embS_congr (g := bakeTo (f 46).toNat f) w26 (fun j _ _ => bake_low w (by omega)), ← burn_emb wb hr]
  refine embS_congr wu.2.2.2.2.1 (fun j j0 j1 => ?_)
  unfold roundF
  rw [fset_ne (by omega)]
  exact (coolF_Wf wu).2 j (by omega)
theorem rounds_emb {n : Int} : ∀ (k : Nat) (f : Int → Int), Wf n f → ∀ x r : Int, 1 ≤ r → embS (roundsF n k f) x r = embS f x (r + k) := by
  intro k
  induction k with
  | zero => intro f _ x r _; rw [show r + ((0 : Nat) : Int) = r by omega]; rfl
  | succ k ih =>
    intro f w x r hr
    rw [roundsF_s, round_emb (roundsF_Wf k f w).1 hr, ih f w x (r + 1) (by omega)]
    push_cast
    rw [show r + 1 + (k : Int) = r + (k + 1) by omega]
def trk (E : Int → Int) (h l : Int) : Nat → Int
  | 0 => h
  | r + 1 => max 0 (min 99 (trk E h l r + E ((r : Int) + 1)) - l)
theorem rounds_heat {n : Int} {f : Int → Int} (w : Wf n f) {x : Int} (hx : 0 ≤ x ∧ x < 3 * n) : ∀ k : Nat, roundsF n k f x = trk (embS f x) (f x) (lessF n f x) k := by
  intro k
  induction k with
  | zero => rfl
  | succ k ih =>
    obtain ⟨w1, w2, w3, w4⟩ := roundsF_Wf k f w
    rw [roundsF_s, round_heat w1 hx, trk, ih, rounds_emb k f w x 1 (by omega)]
    unfold lessF
    rw [w4 24 (by omega), w4 25 (by omega), Int.add_comm 1 (k : Int)]
theorem trk_rng {E : Int → Int} {h l : Int} (hh : 0 ≤ h ∧ h ≤ 99) (hl : 0 ≤ l) : ∀ k : Nat, 0 ≤ trk E h l k ∧ trk E h l k ≤ 99 := by
  intro k
  cases k with
  | zero => exact hh
  | succ k => rw [trk]; omega
theorem trk_congr {E E' : Int → Int} {h l : Int} : ∀ k : Nat, (∀ r : Int, 1 ≤ r → r ≤ k → E r = E' r) → trk E h l k = trk E' h l k := by
  intro k
  induction k with
  | zero => intro _; rfl
  | succ k ih =>
    intro he
    rw [trk, trk, ih (fun r a b => he r a (by push_cast; omega)), he ((k : Int) + 1) (by omega) (by push_cast; omega)]
/-! one potato through the rounds -/
def gain (H : Nat → Int) (q : Int) : Nat → Int
  | 0 => 0
  | r + 1 => gain H q r + H r / q
theorem bake_at {n : Int} {f : Int → Int} (w : Wf n f) {p : Nat} (hp : (p : Int) < f 46) {t : Int} (ht : 0 ≤ t ∧ t < 8) : ∀ k : Nat, p < k → (k : Int) ≤ f 46 → bakeTo k f (47 + 8 * (p : Int) + t) = bakeF p f (47 + 8 * (p : Int) + t) := by
  intro k
  induction k with
  | zero => intro h; omega
  | succ k ih =>
    intro h1 h2
    push_cast at h2
    obtain ⟨w1, w2, w3⟩ := bakeTo_Wf w k (by omega)
    have st : bakeTo (k + 1) f = bakeF k (bakeTo k f) := rfl
    rw [st]
    by_cases e : p = k
    · subst e
      have lo : ∀ (d : Nat) (q : Nat), q + d = p → ∀ t : Int, 0 ≤ t → t < 8 → bakeTo q f (47 + 8 * (p : Int) + t) = f (47 + 8 * (p : Int) + t) := by
        intro d q hq
        clear ih st w1 w2 w3
        induction q generalizing d with
        | zero => intro t _ _; rfl
        | succ q ih2 =>
          intro t t0 t1
          obtain ⟨u1, u2, u3⟩ := bakeTo_Wf w q (by omega)
          show bakeF q (bakeTo q f) _ = _
          rw [bakeF_out (u1.fl (by omega)) (by omega)]
          exact ih2 (d + 1) (by omega) t t0 t1
      have lo2 := lo 0 p (by omega)
      have hfl := w.fl hp
      have hpl := (w.sp hp).2.2.1
      have hn := w.1
      unfold bakeF
      rw [lo2 1 (by omega) (by omega), lo2 2 (by omega) (by omega), lo2 3 (by omega) (by omega), lo2 6 (by omega) (by omega), lo2 (4 + f (47 + 8 * (p : Int) + 6)) (by omega) (by omega)]
      by_cases e4 : f (47 + 8 * (p : Int) + 2) = -4
      · rw [if_pos e4, if_pos e4]; exact lo2 t ht.1 ht.2
      · rw [if_neg e4, if_neg e4, w3 (f (47 + 8 * (p : Int) + 2)) (by omega)]
        unfold fset
        rw [lo2 t ht.1 ht.2]
    · rw [bakeF_out (w1.fl (by omega)) (by omega)]
      exact ih (by omega) (by omega)
theorem round_sp {n : Int} {f : Int → Int} (w : Wf n f) {p : Nat} (hp : (p : Int) < f 46) {t : Int} (ht : 0 ≤ t ∧ t < 8) : roundF n f (47 + 8 * (p : Int) + t) = bakeF p f (47 + 8 * (p : Int) + t) := by
  have w46 := w.n46
  obtain ⟨w1, w2, w3⟩ := bakeTo_Wf w (f 46).toNat (by omega)
  obtain ⟨w4, w5⟩ := burnF_Wf w1
  obtain ⟨w6, w7⟩ := coolF_Wf w4
  unfold roundF
  rw [fset_ne (by omega), w7 _ (by omega), w5 _ (by omega)]
  exact bake_at w hp ht _ (by omega) (by omega)
