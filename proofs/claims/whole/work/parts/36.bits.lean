def bt (x : Int32) (i : Nat) : Bool := x.toBitVec.getLsbD i
theorem b_ext {x y : Int32} (h : ∀ i, i < 32 → bt x i = bt y i) : x = y := Int32.toBitVec_inj.mp (BitVec.eq_of_getLsbD_eq (fun i hi => h i hi))
theorem b_or (x y : Int32) (i : Nat) : bt (x ||| y) i = (bt x i || bt y i) := by unfold bt; rw [Int32.toBitVec_or, BitVec.getLsbD_or]
theorem b_and (x y : Int32) (i : Nat) : bt (x &&& y) i = (bt x i && bt y i) := by unfold bt; rw [Int32.toBitVec_and, BitVec.getLsbD_and]
theorem b_xor (x y : Int32) (i : Nat) : bt (x ^^^ y) i = (bt x i ^^ bt y i) := by unfold bt; rw [Int32.toBitVec_xor, BitVec.getLsbD_xor]
theorem b_big {x : Int32} {i : Nat} (h : 32 ≤ i) : bt x i = false := BitVec.getLsbD_of_ge _ _ h
theorem b_255 (i : Nat) : bt 255 i = decide (i < 8) := by
  rcases Nat.lt_or_ge i 32 with h | h
  · exact (by decide +kernel : ∀ i, i < 32 → bt 255 i = decide (i < 8)) i h
  · rw [b_big h, decide_eq_false (by omega)]
theorem b_65535 (i : Nat) : bt 65535 i = decide (i < 16) := by
  rcases Nat.lt_or_ge i 32 with h | h
  · exact (by decide +kernel : ∀ i, i < 32 → bt 65535 i = decide (i < 16)) i h
  · rw [b_big h, decide_eq_false (by omega)]
theorem b_m1 : ∀ i, i < 32 → bt (-1) i = true := by decide +kernel
theorem b_0 (i : Nat) : bt 0 i = false := BitVec.getLsbD_zero
theorem s_l : ∀ n, n < 32 → ((nI n &&& 31).toBitVec.smod 32).toNat = n := by decide +kernel
theorem s_u : ∀ n, n < 32 → (((nI n).toUInt32 &&& Int32.toUInt32 31).toBitVec % 32).toNat = n := by decide +kernel
theorem b_shl (n : Nat) (hn : n < 32) (x : Int32) {i : Nat} (hi : i < 32) : bt (x <<< (nI n &&& 31)) i = (decide (n ≤ i) && bt x (i - n)) := by
  unfold bt
  rw [Int32.toBitVec_shiftLeft]
  show (x.toBitVec <<< ((nI n &&& 31).toBitVec.smod 32).toNat).getLsbD i = _
  rw [s_l n hn, BitVec.getLsbD_shiftLeft]
  rcases Nat.lt_or_ge i n with h | h
  · simp [h, Nat.not_le.mpr h]
  · simp [hi, h, Nat.not_lt.mpr h]
theorem b_ushr (n : Nat) (hn : n < 32) (x : Int32) (i : Nat) : bt ((x.toUInt32 >>> ((nI n).toUInt32 &&& Int32.toUInt32 31)).toInt32) i = bt x (n + i) := by
  show (x.toUInt32 >>> ((nI n).toUInt32 &&& Int32.toUInt32 31)).toBitVec.getLsbD i = x.toUInt32.toBitVec.getLsbD (n + i)
  rw [UInt32.toBitVec_shiftRight]
  show (x.toUInt32.toBitVec >>> (((nI n).toUInt32 &&& Int32.toUInt32 31).toBitVec % 32).toNat).getLsbD i = _
  rw [s_u n hn, BitVec.getLsbD_ushiftRight]
theorem b_sshr (n : Nat) (hn : n < 32) (x : Int32) {i : Nat} (hi : i < 32) : bt (x >>> (nI n &&& 31)) i = if n + i < 32 then bt x (n + i) else bt x 31 := by
  unfold bt
  rw [Int32.toBitVec_shiftRight]
  show (x.toBitVec.sshiftRight ((nI n &&& 31).toBitVec.smod 32).toNat).getLsbD i = _
  rw [s_l n hn, BitVec.getLsbD_sshiftRight, BitVec.msb_eq_getLsbD_last]
  simp [hi]
theorem b_shl8 (x : Int32) {i : Nat} (hi : i < 32) : bt (x <<< ((8 : Int32) &&& 31)) i = (decide (8 ≤ i) && bt x (i - 8)) := b_shl 8 (by omega) x hi
theorem b_shl16 (x : Int32) {i : Nat} (hi : i < 32) : bt (x <<< ((16 : Int32) &&& 31)) i = (decide (16 ≤ i) && bt x (i - 16)) := b_shl 16 (by omega) x hi
theorem b_shl24 (x : Int32) {i : Nat} (hi : i < 32) : bt (x <<< ((24 : Int32) &&& 31)) i = (decide (24 ≤ i) && bt x (i - 24)) := b_shl 24 (by omega) x hi
theorem b_sshr8 (x : Int32) {i : Nat} (hi : i < 32) : bt (x >>> ((8 : Int32) &&& 31)) i = if 8 + i < 32 then bt x (8 + i) else bt x 31 := b_sshr 8 (by omega) x hi
/-! ===== nI under and, xor, >>>, one bit, 65535 ===== -/
/-! bits of the abstract machine's numbers -/
def zbt (a : Int) (i : Nat) : Bool := bt (Int32.ofInt a) i
theorem zbt_or (a b : Int) (i : Nat) : zbt (zor a b) i = (zbt a i || zbt b i) := by
  unfold zbt zor
  rw [Int32.ofInt_toInt, b_or]
theorem zbt_and (a b : Int) (i : Nat) : zbt (zand a b) i = (zbt a i && zbt b i) := by
  unfold zbt zand
  rw [Int32.ofInt_toInt, b_and]
theorem zbt_shl1 {x i : Nat} (hx : x < 32) (hi : i < 32) : zbt (zshl 1 (x : Int)) i = decide (i = x) := by
  unfold zbt zshl
  rw [Int32.ofInt_toInt, Int32.ofInt_eq_ofNat, show Int32.ofInt 1 = 1 from rfl]
  show bt (1 <<< (nI x &&& 31)) i = _
  rw [b_shl x hx 1 hi]
  have h1 : ∀ j, j < 32 → bt 1 j = decide (j = 0) := by decide +kernel
  by_cases h : x ≤ i
  · rw [h1 (i - x) (by omega)]
    by_cases e : i = x
    · subst e; simp
    · have : ¬ i - x = 0 := by omega
      simp [this, e]
  · have : ¬ i = x := by omega
    simp [h, this]
theorem zbt_0 (i : Nat) : zbt 0 i = false := b_0 i
theorem and1_eq (x : Int32) : (x &&& 1) = (if bt x 0 then 1 else 0) := by
  apply b_ext
  intro i hi
  rw [b_and]
  have h1 : ∀ j, j < 32 → bt 1 j = decide (j = 0) := by decide +kernel
  rw [h1 i hi]
  by_cases e : i = 0
  · subst e
    cases h : bt x 0
    · simp [b_0]
    · simp [h1 0 (by omega)]
  · cases h : bt x 0
    · simp [e, b_0]
    · simp [e, h1 i hi]
/-- a bit looked at: a >> x & 1 -/
theorem zbit {a : Int} {x : Nat} (hx : x < 32) : zand (zshr a (x : Int)) 1 = if zbt a x then 1 else 0 := by
  unfold zand zshr zbt
  rw [Int32.ofInt_toInt, Int32.ofInt_eq_ofNat, show Int32.ofInt 1 = 1 from rfl, and1_eq]
  rw [show Int32.ofNat x = nI x from rfl, b_sshr x hx _ (show 0 < 32 by omega), if_pos (show x + 0 < 32 by omega), Nat.add_zero]
  cases bt (Int32.ofInt a) x <;> rfl
/-- a bit looked at: a & 1 << x -/
theorem zbit2 {a : Int} {x : Nat} (hx : x < 32) : zand a (zshl 1 (x : Int)) = 0 ↔ zbt a x = false := by
  constructor
  · intro h
    have h2 : zbt (zand a (zshl 1 (x : Int))) x = false := by rw [h]; exact zbt_0 x
    rw [zbt_and, zbt_shl1 hx hx] at h2
    simpa using h2
  · intro h
    unfold zand
    have : Int32.ofInt a &&& Int32.ofInt (zshl 1 (x : Int)) = 0 := by
      apply b_ext
      intro i hi
      rw [b_and, b_0]
      show (zbt a i && zbt (zshl 1 (x : Int)) i) = false
      rw [zbt_shl1 hx hi]
      by_cases e : i = x
      · subst e; simp [h]
      · simp [e]
    rw [this]
    rfl
theorem zor_rng (a b : Int) : -2147483648 ≤ zor a b ∧ zor a b ≤ 2147483647 := by
  unfold zor
  have h1 := Int32.le_toInt (Int32.ofInt a ||| Int32.ofInt b)
  have h2 := Int32.toInt_lt (Int32.ofInt a ||| Int32.ofInt b)
  omega
theorem zor_0 {a : Int} (h : -2147483648 ≤ a ∧ a ≤ 2147483647) : zor a 0 = a := by
  unfold zor
  rw [show Int32.ofInt 0 = 0 from rfl, show Int32.ofInt a ||| 0 = Int32.ofInt a from b_ext (fun i hi => by rw [b_or, b_0]; simp), z32 h]
theorem zshl_0 (x : Int) : zshl 0 x = 0 := by
  unfold zshl
  rw [show Int32.ofInt 0 = 0 from rfl]
  have : (0 : Int32) <<< (Int32.ofInt x &&& 31) = 0 := by
    rw [← Int32.toBitVec_inj]
    simp
  rw [this]
  rfl
/-- sets of six, as numbers -/
theorem set_or : ∀ s : Nat, s < 64 → ∀ p : Nat, p < 6 → zor (s : Int) (zshl 1 (p : Int)) = ((s ||| 1 <<< p : Nat) : Int) ∧ (s ||| 1 <<< p) < 64 ∧ s ≤ (s ||| 1 <<< p) := by decide +kernel
theorem set_bit : ∀ s : Nat, s < 64 → ∀ p : Nat, p < 6 → zbt (s : Int) p = s.testBit p := by decide +kernel
theorem set_or2 : ∀ s : Nat, s < 64 → ∀ t : Nat, t < 64 → zor (s : Int) (t : Int) = ((s ||| t : Nat) : Int) := by decide +kernel
theorem set_gt : ∀ s : Nat, s < 64 → ∀ p : Nat, p < 6 → s.testBit p = false → s < (s ||| 1 <<< p) := by decide +kernel
