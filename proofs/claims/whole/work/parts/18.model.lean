/-! THE MATHEMATICS: an evening is a row f of 115 numbers, as the reference lays it, with n cells -/
theorem mset_mcell {mem : Mem} {c : Nat} {f : Int → Int} {k v : Int} : mset (mcell mem c f) c k v = mcell mem c (fset f k v) := by
  funext d
  by_cases h : d = c
  · subst h; simp [mset, mcell]
  · simp [mset, mcell, h]
theorem mcell_mcell {mem : Mem} {c : Nat} {f g : Int → Int} : mcell (mcell mem c f) c g = mcell mem c g := by
  funext d
  by_cases h : d = c
  · subst h; simp [mcell]
  · simp [mcell, h]
theorem mcell_self {mem : Mem} {c : Nat} : mcell mem c (mem c) = mem := by
  funext d
  by_cases h : d = c
  · subst h; simp [mcell]
  · simp [mcell, h]
theorem mset_eq {mem : Mem} {c : Nat} {k v : Int} : mset mem c k v = mcell mem c (fset (mem c) k v) := rfl
/-- what of a potato p -/
def bakeF (p : Int) (f : Int → Int) : Int → Int :=
  if f (47 + 8 * p + 2) = -4 then f
  else fset (fset f (47 + 8 * p + 3) (min 99 (f (47 + 8 * p + 3) + f (f (47 + 8 * p + 2)) / (if f (47 + 8 * p + 1) = 0 then 5 else if f (47 + 8 * p + 1) = 1 then 7 else 6))))
    (47 + 8 * p + (4 + f (47 + 8 * p + 6))) (min 99 (f (47 + 8 * p + (4 + f (47 + 8 * p + 6))) + f (f (47 + 8 * p + 2)) / (if f (47 + 8 * p + 1) = 0 then 8 else if f (47 + 8 * p + 1) = 1 then 16 else 12)))
def bakeTo : Nat → (Int → Int) → Int → Int
  | 0, f => f
  | p + 1, f => bakeF p (bakeTo p f)
/-- embers of an amount in a cell -/
def emberF (c v : Int) (f : Int → Int) : Int → Int := fun j => if j = 3 * c then min 99 (f j + v) else if j = 3 * c + 1 then min 99 (f j + v / 2) else if j = 3 * c + 2 then min 99 (f j + v / 4) else f j
/-- wood i on, left pieces kept so far -/
def burnStep (i : Int) (s : Int × (Int → Int)) : Int × (Int → Int) :=
  if s.2 (27 + 3 * i + 2) = 1 then (s.1, emberF (s.2 (27 + 3 * i)) (s.2 (27 + 3 * i + 1)) s.2)
  else (s.1 + 1, fset (fset (fset s.2 (27 + 3 * s.1) (s.2 (27 + 3 * i))) (27 + 3 * s.1 + 1) (s.2 (27 + 3 * i + 1))) (27 + 3 * s.1 + 2) (s.2 (27 + 3 * i + 2) - 1))
def burnTo : Nat → (Int → Int) → Int × (Int → Int)
  | 0, f => (0, f)
  | i + 1, f => burnStep i (burnTo i f)
def burnF (f : Int → Int) : Int → Int := fset (burnTo (f 26).toNat f).2 26 (burnTo (f 26).toNat f).1
def lessF (n : Int) (f : Int → Int) (x : Int) : Int := f 24 + (if x / 3 = 0 ∨ x / 3 = n - 1 then f 25 else 0)
def coolTo (n x : Int) (f : Int → Int) : Int → Int := fun j => if 0 ≤ j ∧ j < x then max 0 (f j - lessF n f j) else f j
def coolF (n : Int) (f : Int → Int) : Int → Int := coolTo n (3 * n) f
def roundF (n : Int) (f : Int → Int) : Int → Int := fset (coolF n (burnF (bakeTo (f 46).toNat f))) 45 (f 45 + 1)
def roundsF (n : Int) : Nat → (Int → Int) → Int → Int
  | 0, f => f
  | k + 1, f => roundsF n k (roundF n f)
abbrev isDoneF (f : Int → Int) (p : Int) : Prop := 10 * f (47 + 8 * p + 0) ≤ f (47 + 8 * p + 3)
abbrev isBlackF (f : Int → Int) (p : Int) : Prop := 40 ≤ f (47 + 8 * p + 4) ∨ 40 ≤ f (47 + 8 * p + 5)
abbrev isGoodF (f : Int → Int) (p : Int) : Prop := isDoneF f p ∧ ¬ isBlackF f p
