/-! the most that can be good: what the reference's sets and Hall's formula have in common -/
theorem six_bits (b0 b1 b2 b3 b4 b5 : Bool) : ∀ p : Nat, p < 6 → ((if b0 then 1 else 0) ||| (if b1 then 2 else 0) ||| (if b2 then 4 else 0) ||| (if b3 then 8 else 0) ||| (if b4 then 16 else 0) ||| (if b5 then 32 else 0)).testBit p = (if p = 0 then b0 else if p = 1 then b1 else if p = 2 then b2 else if p = 3 then b3 else if p = 4 then b4 else b5) := by
  cases b0 <;> cases b1 <;> cases b2 <;> cases b3 <;> cases b4 <;> cases b5 <;> decide
theorem six_lt (b0 b1 b2 b3 b4 b5 : Bool) : ((if b0 then 1 else 0) ||| (if b1 then 2 else 0) ||| (if b2 then 4 else 0) ||| (if b3 then 8 else 0) ||| (if b4 then 16 else 0) ||| (if b5 then 32 else 0)) < 64 := by
  cases b0 <;> cases b1 <;> cases b2 <;> cases b3 <;> cases b4 <;> cases b5 <;> decide
/-- a set of six by its members -/
def mk6 (P : Nat → Bool) : Nat := (if P 0 then 1 else 0) ||| (if P 1 then 2 else 0) ||| (if P 2 then 4 else 0) ||| (if P 3 then 8 else 0) ||| (if P 4 then 16 else 0) ||| (if P 5 then 32 else 0)
theorem mk6_lt (P : Nat → Bool) : mk6 P < 64 := six_lt _ _ _ _ _ _
theorem mk6_bit (P : Nat → Bool) {p : Nat} (hp : p < 6) : (mk6 P).testBit p = P p := by
  unfold mk6
  rw [six_bits _ _ _ _ _ _ p hp]
  obtain rfl | rfl | rfl | rfl | rfl | rfl : p = 0 ∨ p = 1 ∨ p = 2 ∨ p = 3 ∨ p = 4 ∨ p = 5 := by omega
  all_goals rfl
theorem six_ext {s t : Nat} (hs : s < 64) (ht : t < 64) (h : ∀ p, p < 6 → s.testBit p = t.testBit p) : s = t := by
  apply Nat.eq_of_testBit_eq
  intro i
  by_cases hi : i < 6
  · exact h i hi
  · have e : 64 ≤ 2 ^ i := by have := Nat.pow_le_pow_right (n := 2) (by decide) (show 6 ≤ i by omega); omega
    rw [Nat.testBit_lt_two_pow (by omega), Nat.testBit_lt_two_pow (by omega)]
def colB (R : Nat → Nat → Bool) (fi N : Nat) (tk : Nat → Bool) (x : Nat) : Nat := mk6 (fun p => !tk x && (decide (fi ≤ p ∧ p < N) && R p x))
theorem Cn_Mc {R : Nat → Nat → Bool} {fi N : Nat} {tk : Nat → Bool} (hN : N ≤ 6) : ∀ X S : Nat, Cn R fi N tk X S ↔ Mc (colB R fi N tk) X S := by
  intro X
  induction X with
  | zero => intro S; exact Iff.rfl
  | succ X ih =>
    intro S
    have bit : ∀ p, p < 6 → (colB R fi N tk X).testBit p = (!tk X && (decide (fi ≤ p ∧ p < N) && R p X)) := fun p hp => mk6_bit _ hp
    constructor
    · rintro (h | ⟨h0, T, p, h1, h2, h3, h4, h5, h6, h7⟩)
      · exact Or.inl ((ih S).mp h)
      · exact Or.inr ⟨T, p, h1, by omega, (ih T).mp h2, h5, by rw [bit p (by omega), h0, h6]; simp; omega, h7⟩
    · rintro (h | ⟨T, p, h1, h2, h3, h4, h5, h6⟩)
      · exact Or.inl ((ih S).mpr h)
      · rw [bit p h2] at h5
        simp only [Bool.and_eq_true, Bool.not_eq_true', decide_eq_true_eq] at h5
        exact Or.inr ⟨h5.1, T, p, h1, (ih T).mpr h3, h5.2.1.1, h5.2.1.2, h4, h5.2.2, h6⟩
/-- the greatest lack of a set below k that lies in D -/
def defM (ms : Nat → Nat) (X D : Nat) : Nat → Nat
  | 0 => 0
  | T + 1 => max (defM ms X D T) (if T &&& D = T then pc6 T - cntM ms T X else 0)
theorem defM_ge {ms : Nat → Nat} {X D : Nat} : ∀ k T : Nat, T < k → T &&& D = T → pc6 T - cntM ms T X ≤ defM ms X D k := by
  intro k
  induction k with
  | zero => intro T h; omega
  | succ k ih =>
    intro T h hT
    rw [defM]
    by_cases e : T = k
    · subst e; rw [if_pos hT]; omega
    · have := ih T (by omega) hT; omega
theorem defM_le {ms : Nat → Nat} {X D b : Nat} : ∀ k : Nat, (∀ T : Nat, T < k → T &&& D = T → pc6 T - cntM ms T X ≤ b) → defM ms X D k ≤ b := by
  intro k
  induction k with
  | zero => intro _; exact Nat.zero_le _
  | succ k ih =>
    intro h
    rw [defM]
    have a := ih (fun T hT => h T (by omega))
    split
    · next e => have := h k (by omega) e; omega
    · omega
def needyB (go : Nat → Bool) (fi N : Nat) : Nat := mk6 (fun p => decide (fi ≤ p ∧ p < N) && !go p)
def outB (go : Nat → Bool) (fi N : Nat) : Nat := mk6 (fun p => decide (fi ≤ p ∧ p < N) && go p)
/-- the most that can be good from fi on -/
def mostH (R : Nat → Nat → Bool) (go : Nat → Bool) (fi N : Nat) (tk : Nat → Bool) (X : Nat) : Nat := (N - fi) - defM (colB R fi N tk) X (needyB go fi N) 64
theorem weak2 {ms : Nat → Nat} {X S T D : Nat} (hM : Mc ms X S) (hT : T < 64) (hD : D < 64) (hTD : T &&& D = T) : pc6 (S &&& D) + pc6 T ≤ pc6 D + cntM ms T X := by
  have hS64 := Mc_lt X S hM
  have hSD : (S &&& D) < 64 := Nat.lt_of_le_of_lt Nat.and_le_left hS64
  have h1 := Mc_cap hT X S hM
  have h2 := pc_incl (S &&& D) hSD T hT
  have h3 : ((S &&& D) ||| T) < 64 := Nat.or_lt_two_pow (n := 6) hSD hT
  have h4 := pc_sub ((S &&& D) ||| T) h3 D hD (or_sub (by rw [Nat.and_assoc, Nat.and_self]) hTD)
  have h5 : ((S &&& D) &&& T) < 64 := Nat.lt_of_le_of_lt Nat.and_le_left hSD
  have h6 : (S &&& T) < 64 := Nat.lt_of_le_of_lt Nat.and_le_left hS64
  have h7 := pc_sub ((S &&& D) &&& T) h5 (S &&& T) h6 (by
    rw [Nat.and_assoc S D T, Nat.and_comm D T, hTD, Nat.and_self])
  omega
theorem pc_range : ∀ fi : Nat, fi < 7 → ∀ N : Nat, N < 7 → pc6 (mk6 (fun p => decide (fi ≤ p ∧ p < N))) = N - fi := by decide +kernel
theorem Mc_in {R : Nat → Nat → Bool} {fi N : Nat} {tk : Nat → Bool} : ∀ X S : Nat, Mc (colB R fi N tk) X S → ∀ p, p < 6 → S.testBit p = true → fi ≤ p ∧ p < N := by
  intro X
  induction X with
  | zero => intro S h p hp hb; rw [show S = 0 from h, Nat.zero_testBit] at hb; cases hb
  | succ X ih =>
    intro S h p hp hb
    rcases h with h | ⟨T, q, h1, h2, h3, h4, h5, rfl⟩
    · exact ih S h p hp hb
    · rw [Nat.testBit_or, Nat.one_shiftLeft, Nat.testBit_two_pow] at hb
      simp only [Bool.or_eq_true, decide_eq_true_eq] at hb
      rcases hb with hb | rfl
      · exact ih T h3 p hp hb
      · rw [show (colB R fi N tk X).testBit q = (!tk X && (decide (fi ≤ q ∧ q < N) && R q X)) from mk6_bit _ hp] at h5
        simp only [Bool.and_eq_true, decide_eq_true_eq] at h5
        exact h5.2.1
theorem most_eq {R : Nat → Nat → Bool} {go : Nat → Bool} {fi N : Nat} {tk : Nat → Bool} {X r out : Nat} (hN : N ≤ 6) (hfi : fi ≤ 6) (hout : out < 64) (hob : ∀ p : Nat, p < 6 → (out.testBit p = true ↔ fi ≤ p ∧ p < N ∧ go p = true)) (he : ∃ S : Nat, S < 64 ∧ Cn R fi N tk X S ∧ r = pc6 (S ||| out)) (hu : ∀ S : Nat, S < 64 → Cn R fi N tk X S → pc6 (S ||| out) ≤ r) : r = mostH R go fi N tk X := by
  have hD : needyB go fi N < 64 := mk6_lt _
  have eout : out = outB go fi N := six_ext hout (mk6_lt _) (fun p hp => by
    rw [show (outB go fi N).testBit p = (decide (fi ≤ p ∧ p < N) && go p) from mk6_bit _ hp]
    have := hob p hp
    cases h1 : out.testBit p
    · rw [h1] at this
      cases h2 : (decide (fi ≤ p ∧ p < N) && go p)
      · rfl
      · simp only [Bool.and_eq_true, decide_eq_true_eq] at h2
        have := this.mpr ⟨h2.1.1, h2.1.2, h2.2⟩
        cases this
    · obtain ⟨a, b, c⟩ := this.mp h1
      simp [a, b, c])
  have disj : needyB go fi N &&& outB go fi N = 0 := six_ext (Nat.lt_of_le_of_lt Nat.and_le_left hD) (by decide) (fun p hp => by
    rw [Nat.testBit_and, Nat.zero_testBit, show (outB go fi N).testBit p = (decide (fi ≤ p ∧ p < N) && go p) from mk6_bit _ hp, show (needyB go fi N).testBit p = (decide (fi ≤ p ∧ p < N) && !go p) from mk6_bit _ hp]
    cases go p <;> simp)
  have whole : (needyB go fi N ||| outB go fi N) = mk6 (fun p => decide (fi ≤ p ∧ p < N)) := six_ext (Nat.or_lt_two_pow (n := 6) hD (mk6_lt _)) (mk6_lt _) (fun p hp => by
    rw [Nat.testBit_or, show (outB go fi N).testBit p = (decide (fi ≤ p ∧ p < N) && go p) from mk6_bit _ hp, show (needyB go fi N).testBit p = (decide (fi ≤ p ∧ p < N) && !go p) from mk6_bit _ hp, mk6_bit _ hp]
    cases go p <;> simp)
  have pcD : pc6 (needyB go fi N) + pc6 (outB go fi N) = N - fi := by
    have h1 := pc_incl _ hD _ (mk6_lt (fun p => decide (fi ≤ p ∧ p < N) && go p))
    rw [show mk6 (fun p => decide (fi ≤ p ∧ p < N) && go p) = outB go fi N from rfl, disj, whole, pc_range fi (by omega) N (by omega), show pc6 0 = 0 from rfl] at h1
    omega
  have split : ∀ S : Nat, Mc (colB R fi N tk) X S → pc6 (S ||| out) = pc6 (S &&& needyB go fi N) + pc6 (outB go fi N) := by
    intro S hS
    have hS64 := Mc_lt X S hS
    have hSD : (S &&& needyB go fi N) < 64 := Nat.lt_of_le_of_lt Nat.and_le_left hS64
    have e1 : S ||| out = (S &&& needyB go fi N) ||| outB go fi N := six_ext (Nat.or_lt_two_pow (n := 6) hS64 hout) (Nat.or_lt_two_pow (n := 6) hSD (mk6_lt _)) (fun p hp => by
      rw [eout, Nat.testBit_or, Nat.testBit_or, Nat.testBit_and, show (outB go fi N).testBit p = (decide (fi ≤ p ∧ p < N) && go p) from mk6_bit _ hp, show (needyB go fi N).testBit p = (decide (fi ≤ p ∧ p < N) && !go p) from mk6_bit _ hp]
      cases hb : S.testBit p
      · simp
      · have := Mc_in X S hS p hp hb
        cases go p <;> simp [this])
    have h1 := pc_incl _ hSD _ (mk6_lt (fun p => decide (fi ≤ p ∧ p < N) && go p))
    rw [show mk6 (fun p => decide (fi ≤ p ∧ p < N) && go p) = outB go fi N from rfl, ← e1, Nat.and_assoc, disj, Nat.and_zero, show pc6 0 = 0 from rfl] at h1
    omega
  obtain ⟨S, T, s1, t1, m1, sd, td, e0⟩ := hall (colB R fi N tk) X (needyB go fi N) hD
  have hdef : defM (colB R fi N tk) X (needyB go fi N) 64 = pc6 T - cntM (colB R fi N tk) T X := by
    apply Nat.le_antisymm
    · refine defM_le 64 (fun T' h1 h2 => ?_)
      have w := weak m1 h1 hD sd h2
      omega
    · exact defM_ge 64 T t1 td
  have hSle := pc_sub S s1 _ hD sd
  obtain ⟨S', a1, a2, a3⟩ := he
  have hM' := (Cn_Mc hN X S').mp a2
  have w' := weak2 hM' t1 hD td
  have b1 := split S' hM'
  have b2 := split S m1
  rw [sd] at b2
  have b3 := hu S s1 ((Cn_Mc hN X S).mpr m1)
  unfold mostH
  rw [hdef]
  omega
