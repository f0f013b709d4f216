/-! HALL'S THEOREM, by columns: ms x = who could lie in place x (bits) -/
def Mc (ms : Nat → Nat) : Nat → Nat → Prop
  | 0, S => S = 0
  | x + 1, S => Mc ms x S ∨ ∃ T p : Nat, T < 64 ∧ p < 6 ∧ Mc ms x T ∧ T.testBit p = false ∧ (ms x).testBit p = true ∧ S = T ||| 1 <<< p
def cntM (ms : Nat → Nat) (T : Nat) : Nat → Nat
  | 0 => 0
  | x + 1 => cntM ms T x + (if T &&& ms x = 0 then 0 else 1)
theorem pc_incl : ∀ s : Nat, s < 64 → ∀ t : Nat, t < 64 → pc6 (s &&& t) + pc6 (s ||| t) = pc6 s + pc6 t := by decide +kernel
theorem pc_sub : ∀ s : Nat, s < 64 → ∀ t : Nat, t < 64 → s &&& t = s → pc6 s ≤ pc6 t := by decide +kernel
theorem pc_add : ∀ s : Nat, s < 64 → ∀ p : Nat, p < 6 → s.testBit p = false → pc6 (s ||| 1 <<< p) = pc6 s + 1 := by decide +kernel
theorem pc_cap : ∀ s : Nat, s < 64 → ∀ t : Nat, t < 64 → ∀ p : Nat, p < 6 → pc6 ((s ||| 1 <<< p) &&& t) ≤ pc6 (s &&& t) + (if t.testBit p then 1 else 0) := by decide +kernel
theorem set_del : ∀ s : Nat, s < 64 → ∀ p : Nat, p < 6 → s.testBit p = true → (s ^^^ 1 <<< p) < 64 ∧ (s ^^^ 1 <<< p) &&& s = (s ^^^ 1 <<< p) ∧ pc6 (s ^^^ 1 <<< p) + 1 = pc6 s ∧ (s ^^^ 1 <<< p).testBit p = false := by decide +kernel
theorem set_ins : ∀ s : Nat, s < 64 → ∀ t : Nat, t < 64 → ∀ p : Nat, p < 6 → t.testBit p = true → s &&& t = s → (s ||| 1 <<< p) &&& t = (s ||| 1 <<< p) := by decide +kernel
theorem and_assoc_sub {a b c : Nat} (h1 : a &&& b = a) (h2 : b &&& c = b) : a &&& c = a := by
  rw [← h1, Nat.and_assoc, h2]
theorem and_testBit_sub {a b p : Nat} (h : a &&& b = a) (hb : b.testBit p = false) : a.testBit p = false := by
  have := congrArg (fun z => z.testBit p) h
  simp only [Nat.testBit_and, hb, Bool.and_false] at this
  exact this.symm
theorem Mc_lt {ms : Nat → Nat} : ∀ (X S : Nat), Mc ms X S → S < 64 := by
  intro X
  induction X with
  | zero => intro S h; rw [show S = 0 from h]; decide
  | succ X ih =>
    intro S h
    rcases h with h | ⟨T, p, h1, h2, -, -, -, rfl⟩
    · exact ih S h
    · exact (set_or T h1 p h2).2.1
theorem Mc_cap {ms : Nat → Nat} {T : Nat} (hT : T < 64) : ∀ (X S : Nat), Mc ms X S → pc6 (S &&& T) ≤ cntM ms T X := by
  intro X
  induction X with
  | zero => intro S h; rw [show S = 0 from h, Nat.zero_and]; exact Nat.le_refl 0
  | succ X ih =>
    intro S h
    rw [cntM]
    rcases h with h | ⟨S', p, h1, h2, h3, h4, h5, rfl⟩
    · have := ih S h
      omega
    · have a := ih S' h3
      have b := pc_cap S' h1 T hT p h2
      by_cases e : T.testBit p = true
      · rw [if_pos e] at b
        have hne : ¬ T &&& ms X = 0 := by
          intro z
          have := congrArg (fun y => y.testBit p) z
          simp only [Nat.testBit_and, e, h5, Bool.and_self, Nat.zero_testBit] at this
          cases this
        rw [if_neg hne]
        omega
      · rw [if_neg e] at b
        omega
theorem or_sub {a b d : Nat} (h1 : a &&& d = a) (h2 : b &&& d = b) : (a ||| b) &&& d = (a ||| b) := by
  rw [Nat.and_or_distrib_right, h1, h2]
/-- no more than this -/
theorem weak {ms : Nat → Nat} {X S T D : Nat} (hM : Mc ms X S) (hT : T < 64) (hD : D < 64) (hS : S &&& D = S) (hTD : T &&& D = T) : pc6 S + pc6 T ≤ pc6 D + cntM ms T X := by
  have hS64 := Mc_lt X S hM
  have h1 := Mc_cap hT X S hM
  have h2 := pc_incl S hS64 T hT
  have h3 : (S ||| T) < 64 := Nat.or_lt_two_pow (n := 6) hS64 hT
  have h4 := pc_sub (S ||| T) h3 D hD (or_sub hS hTD)
  omega
theorem cnt_le {ms : Nat → Nat} {T : Nat} (X : Nat) : cntM ms T (X + 1) ≤ cntM ms T X + 1 := by
  rw [cntM]
  split <;> omega
theorem cnt_sub {ms : Nat → Nat} {T U : Nat} : ∀ X : Nat, cntM ms (T &&& U) X + cntM ms (T ||| U) X ≤ cntM ms T X + cntM ms U X := by
  intro X
  induction X with
  | zero => exact Nat.le_refl _
  | succ X ih =>
    simp only [cntM]
    have a : T &&& ms X = 0 → (T &&& U) &&& ms X = 0 := by
      intro h
      rw [Nat.and_comm T U, Nat.and_assoc, h, Nat.and_zero]
    have b : U &&& ms X = 0 → (T &&& U) &&& ms X = 0 := by
      intro h
      rw [Nat.and_assoc, h, Nat.and_zero]
    have c : T &&& ms X = 0 → U &&& ms X = 0 → (T ||| U) &&& ms X = 0 := by
      intro h1 h2
      rw [Nat.and_or_distrib_right, h1, h2]
      rfl
    by_cases h1 : T &&& ms X = 0
    · by_cases h2 : U &&& ms X = 0
      · rw [if_pos (a h1), if_pos (c h1 h2), if_pos h1, if_pos h2]; omega
      · rw [if_pos (a h1), if_pos h1, if_neg h2]; split <;> omega
    · by_cases h2 : U &&& ms X = 0
      · rw [if_pos (b h2), if_pos h2, if_neg h1]; split <;> omega
      · rw [if_neg h1, if_neg h2]; (repeat' split) <;> omega
theorem hall (ms : Nat → Nat) : ∀ (X D : Nat), D < 64 → ∃ S T : Nat, S < 64 ∧ T < 64 ∧ Mc ms X S ∧ S &&& D = S ∧ T &&& D = T ∧ pc6 S + pc6 T = pc6 D + cntM ms T X := by
  intro X
  induction X with
  | zero =>
    intro D hD
    exact ⟨0, D, by omega, hD, rfl, Nat.zero_and _, Nat.and_self _, by show pc6 0 + pc6 D = pc6 D + 0; rw [show pc6 0 = 0 from rfl]; omega⟩
  | succ X ih =>
    intro D hD
    obtain ⟨S0, T0, s1, t1, m0, sd, td, e0⟩ := ih D hD
    by_cases h : ∃ a : Nat, a < 6 ∧ D.testBit a = true ∧ (ms X).testBit a = true ∧ ∃ S1 : Nat, S1 < 64 ∧ Mc ms X S1 ∧ S1 &&& D = S1 ∧ S1.testBit a = false ∧ pc6 S1 = pc6 S0
    · obtain ⟨a, a1, a2, a3, S1, b1, b2, b3, b4, b5⟩ := h
      have hM : Mc ms (X + 1) (S1 ||| 1 <<< a) := Or.inr ⟨S1, a, b1, a1, b2, b4, a3, rfl⟩
      have hSD := set_ins S1 b1 D hD a a1 a2 b3
      have p1 := pc_add S1 b1 a a1 b4
      have w := weak hM t1 hD hSD td
      have c := cnt_le (ms := ms) (T := T0) X
      exact ⟨S1 ||| 1 <<< a, T0, (set_or S1 b1 a a1).2.1, t1, hM, hSD, td, by omega⟩
    · have key : ∀ a : Nat, a < 6 → D.testBit a = true → (ms X).testBit a = true → ∃ T : Nat, T < 64 ∧ T &&& D = T ∧ T.testBit a = false ∧ pc6 S0 + pc6 T = pc6 D + cntM ms T X := by
        intro a a1 a2 a3
        obtain ⟨d1, d2, d3, d4⟩ := set_del D hD a a1 a2
        obtain ⟨Sa, Ta, b1, b2, b3, b4, b5, b6⟩ := ih (D ^^^ 1 <<< a) d1
        have hSaD : Sa &&& D = Sa := and_assoc_sub b4 d2
        have hTaD : Ta &&& D = Ta := and_assoc_sub b5 d2
        have hne : ¬ pc6 Sa = pc6 S0 := fun z => h ⟨a, a1, a2, a3, Sa, b1, b3, hSaD, and_testBit_sub b4 d4, z⟩
        have w1 := weak b3 t1 hD hSaD td
        have w2 := weak m0 b2 hD sd hTaD
        exact ⟨Ta, b2, hTaD, and_testBit_sub b5 d4, by omega⟩
      have all : ∀ k : Nat, k ≤ 6 → ∃ T : Nat, T < 64 ∧ T &&& D = T ∧ (∀ a, a < k → D.testBit a = true → (ms X).testBit a = true → T.testBit a = false) ∧ pc6 S0 + pc6 T = pc6 D + cntM ms T X := by
        intro k
        induction k with
        | zero => intro _; exact ⟨T0, t1, td, fun a ha => by omega, e0⟩
        | succ k ihk =>
          intro hk
          obtain ⟨T, c1, c2, c3, c4⟩ := ihk (by omega)
          by_cases g : D.testBit k = true ∧ (ms X).testBit k = true
          · obtain ⟨U, u1, u2, u3, u4⟩ := key k (by omega) g.1 g.2
            have hTU : (T &&& U) < 64 := Nat.lt_of_le_of_lt Nat.and_le_left c1
            have hTUD : (T &&& U) &&& D = (T &&& U) := by rw [Nat.and_assoc, u2]
            have hOr : (T ||| U) < 64 := Nat.or_lt_two_pow (n := 6) c1 u1
            have hOrD := or_sub c2 u2
            have w1 := weak m0 hTU hD sd hTUD
            have w2 := weak m0 hOr hD sd hOrD
            have s1 := cnt_sub (ms := ms) (T := T) (U := U) X
            have s2 := pc_incl T c1 U u1
            refine ⟨T &&& U, hTU, hTUD, fun a ha g1 g2 => ?_, by omega⟩
            rw [Nat.testBit_and]
            by_cases e : a = k
            · subst e; rw [u3]; simp
            · rw [c3 a (by omega) g1 g2]; simp
          · refine ⟨T, c1, c2, fun a ha g1 g2 => ?_, c4⟩
            by_cases e : a = k
            · subst e; exact absurd ⟨g1, g2⟩ g
            · exact c3 a (by omega) g1 g2
      obtain ⟨T, c1, c2, c3, c4⟩ := all 6 (Nat.le_refl _)
      have hz : T &&& ms X = 0 := by
        apply Nat.eq_of_testBit_eq
        intro i
        rw [Nat.testBit_and, Nat.zero_testBit]
        by_cases hi : i < 6
        · by_cases g1 : D.testBit i = true
          · by_cases g2 : (ms X).testBit i = true
            · rw [c3 i hi g1 g2]; simp
            · simp only [Bool.not_eq_true] at g2; rw [g2]; simp
          · simp only [Bool.not_eq_true] at g1
            rw [and_testBit_sub c2 g1]; simp
        · rw [Nat.testBit_lt_two_pow (Nat.lt_of_lt_of_le c1 (by have := Nat.pow_le_pow_right (n := 2) (by decide) (show 6 ≤ i by omega); omega))]; simp
      refine ⟨S0, T, s1, c1, Or.inl m0, sd, c2, ?_⟩
      rw [cntM, if_pos hz]
      omega
