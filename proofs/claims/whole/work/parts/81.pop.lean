/-! how many bits are set: the JDK's way -/
theorem land_byte {a p : Nat} (ha : a < 256) (hp : p < 256) (m q : Nat) : (a + 256 * m) &&& (p + 256 * q) = (a &&& p) + 256 * (m &&& q) := by
  have h1 : a &&& p < 2 ^ 8 := Nat.lt_of_le_of_lt Nat.and_le_left ha
  apply Nat.eq_of_testBit_eq
  intro i
  rw [Nat.testBit_and, Nat.add_comm a, Nat.add_comm p, Nat.add_comm (a &&& p), show (256 : Nat) = 2 ^ 8 from rfl, Nat.testBit_two_pow_mul_add _ ha, Nat.testBit_two_pow_mul_add _ hp, Nat.testBit_two_pow_mul_add _ h1]
  split
  · rw [Nat.testBit_and]
  · rw [Nat.testBit_and]
def s8 (a : Nat) : Nat := a - (a / 2 &&& 0x55)
def t8 (a : Nat) : Nat := (a &&& 0x33) + (a / 4 &&& 0x33)
def u8 (a : Nat) : Nat := (a + a / 16) &&& 15
def p8 (a : Nat) : Nat := (if a.testBit 0 then 1 else 0) + (if a.testBit 1 then 1 else 0) + (if a.testBit 2 then 1 else 0) + (if a.testBit 3 then 1 else 0) + (if a.testBit 4 then 1 else 0) + (if a.testBit 5 then 1 else 0) + (if a.testBit 6 then 1 else 0) + (if a.testBit 7 then 1 else 0)
theorem u8_p8 : ∀ a : Nat, a < 256 → u8 (t8 (s8 a)) = p8 a ∧ s8 a < 256 ∧ t8 (s8 a) ≤ 68 ∧ t8 (s8 a) % 16 ≤ 4 := by decide +kernel
theorem m55 : ∀ y : Nat, y < 128 → ∀ e : Nat, e < 2 → (y + 128 * e) &&& 0x55 = y &&& 0x55 := by decide +kernel
theorem m33 : ∀ y : Nat, y < 64 → ∀ e : Nat, e < 4 → (y + 64 * e) &&& 0x33 = y &&& 0x33 := by decide +kernel
def sN (x : Nat) : Nat := x - (x / 2 &&& 0x55555555)
def tN (x : Nat) : Nat := (x &&& 0x33333333) + (x / 4 &&& 0x33333333)
def uN (x : Nat) : Nat := (x + x / 16) &&& 0x0f0f0f0f
theorem land_hi {m M : Nat} (h : m < 16777216) (M' : Nat) (hM : M = M' % 16777216) : m &&& M = m &&& M' := by
  subst hM
  apply Nat.eq_of_testBit_eq
  intro i
  rw [Nat.testBit_and, Nat.testBit_and, show (16777216 : Nat) = 2 ^ 24 from rfl, Nat.testBit_mod_two_pow]
  by_cases hi : i < 24
  · simp [hi]
  · have hp : (2 : Nat) ^ 24 ≤ 2 ^ i := Nat.pow_le_pow_right (by decide) (by omega)
    have : m.testBit i = false := Nat.testBit_lt_two_pow (Nat.lt_of_lt_of_le (show m < 2 ^ 24 from h) hp)
    simp [this]
theorem sN_byte {a m : Nat} (ha : a < 256) (hm : m < 16777216) : sN (a + 256 * m) = s8 a + 256 * sN m := by
  unfold sN s8
  have e : (a + 256 * m) / 2 = (a / 2 + 128 * (m % 2)) + 256 * (m / 2) := by omega
  rw [e, show (0x55555555 : Nat) = 0x55 + 256 * 0x555555 from rfl, land_byte (by omega) (by decide), m55 (a / 2) (by omega) (m % 2) (by omega)]
  rw [land_hi (m := m / 2) (M := 0x555555) (by omega) (0x55 + 256 * 0x555555) (by decide)]
  have h1 : a / 2 &&& 0x55 ≤ a / 2 := Nat.and_le_left
  have h2 : m / 2 &&& (0x55 + 256 * 0x555555) ≤ m / 2 := Nat.and_le_left
  omega
theorem tN_byte {a m : Nat} (ha : a < 256) (hm : m < 16777216) : tN (a + 256 * m) = t8 a + 256 * tN m := by
  unfold tN t8
  have e : (a + 256 * m) / 4 = (a / 4 + 64 * (m % 4)) + 256 * (m / 4) := by omega
  rw [e, show (0x33333333 : Nat) = 0x33 + 256 * 0x333333 from rfl, land_byte ha (by decide), land_byte (by omega) (by decide), m33 (a / 4) (by omega) (m % 4) (by omega)]
  rw [land_hi (m := m / 4) (M := 0x333333) (by omega) (0x33 + 256 * 0x333333) (by decide), land_hi (m := m) (M := 0x333333) (by omega) (0x33 + 256 * 0x333333) (by decide)]
  omega
theorem uN_byte {a m : Nat} (ha : a ≤ 68) (hm : m % 16 ≤ 4) (hm2 : m + m / 16 < 16777216) : uN (a + 256 * m) = u8 a + 256 * uN m := by
  unfold uN u8
  have e : (a + 256 * m) + (a + 256 * m) / 16 = (a + a / 16 + 16 * (m % 16)) + 256 * (m + m / 16) := by omega
  rw [e, show (0x0f0f0f0f : Nat) = 15 + 256 * 0x0f0f0f from rfl, land_byte (by omega) (by decide)]
  rw [land_hi (m := m + m / 16) (M := 0x0f0f0f) (by omega) (15 + 256 * 0x0f0f0f) (by decide)]
  rw [show (15 : Nat) = 2 ^ 4 - 1 from rfl, Nat.and_two_pow_sub_one_eq_mod, Nat.and_two_pow_sub_one_eq_mod]
  omega
theorem sN_small : sN 0 = 0 ∧ tN 0 = 0 ∧ uN 0 = 0 := by decide
theorem swar {a b c : Nat} (ha : a < 256) (hb : b < 256) (hc : c < 256) : uN (tN (sN (a + 256 * (b + 256 * c)))) = p8 a + 256 * (p8 b + 256 * p8 c) := by
  obtain ⟨a1, a2, a3, a4⟩ := u8_p8 a ha
  obtain ⟨b1, b2, b3, b4⟩ := u8_p8 b hb
  obtain ⟨c1, c2, c3, c4⟩ := u8_p8 c hc
  have sc : sN c = s8 c := by have := sN_byte (a := c) (m := 0) hc (by decide); rw [sN_small.1] at this; simpa using this
  have tc : tN (s8 c) = t8 (s8 c) := by have := tN_byte (a := s8 c) (m := 0) c2 (by decide); rw [sN_small.2.1] at this; simpa using this
  have uc : uN (t8 (s8 c)) = u8 (t8 (s8 c)) := by have := uN_byte (a := t8 (s8 c)) (m := 0) c3 (by decide) (by decide); rw [sN_small.2.2] at this; simpa using this
  rw [sN_byte ha (by omega), sN_byte hb (by omega), sc, tN_byte a2 (by omega), tN_byte b2 (by omega), tc, uN_byte a3 (by omega) (by omega), uN_byte b3 (by omega) (by omega), uc, a1, b1, c1]
theorem p8_le : ∀ a : Nat, a < 256 → p8 a ≤ 8 := by decide +kernel
def popN (x : Nat) : Nat := (uN (tN (sN x)) + uN (tN (sN x)) / 256 + (uN (tN (sN x)) + uN (tN (sN x)) / 256) / 65536) &&& 63
theorem popN_eq {a b c : Nat} (ha : a < 256) (hb : b < 256) (hc : c < 256) : popN (a + 256 * (b + 256 * c)) = p8 a + p8 b + p8 c := by
  have h1 := p8_le a ha
  have h2 := p8_le b hb
  have h3 := p8_le c hc
  unfold popN
  rw [swar ha hb hc, show (63 : Nat) = 2 ^ 6 - 1 from rfl, Nat.and_two_pow_sub_one_eq_mod]
  generalize p8 a = p at *
  generalize p8 b = q at *
  generalize p8 c = r at *
  have e1 : (p + 256 * (q + 256 * r)) / 256 = q + 256 * r := by omega
  rw [e1]
  have e2 : (p + 256 * (q + 256 * r) + (q + 256 * r)) / 65536 = r := by omega
  rw [e2]
  omega
/-- bits below k -/
def bitN (x : Nat) : Nat → Nat
  | 0 => 0
  | i + 1 => bitN x i + (if x.testBit i then 1 else 0)
theorem p8_bit (a : Nat) : p8 a = bitN a 8 := by
  unfold p8
  simp only [bitN]
  omega
theorem bitN_hi {a m : Nat} (ha : a < 256) : ∀ k : Nat, bitN (a + 256 * m) (8 + k) = bitN a 8 + bitN m k := by
  have lo : ∀ k : Nat, k ≤ 8 → bitN (a + 256 * m) k = bitN a k := by
    intro k
    induction k with
    | zero => intro _; rfl
    | succ k ih =>
      intro hk
      rw [bitN, bitN, ih (by omega), Nat.add_comm a, show (256 : Nat) = 2 ^ 8 from rfl, Nat.testBit_two_pow_mul_add _ ha, if_pos (show k < 8 by omega)]
  intro k
  induction k with
  | zero => rw [Nat.add_zero, lo 8 (Nat.le_refl _)]; rfl
  | succ k ih =>
    have s1 : bitN (a + 256 * m) (8 + (k + 1)) = bitN (a + 256 * m) (8 + k) + (if (a + 256 * m).testBit (8 + k) then 1 else 0) := rfl
    have s2 : bitN m (k + 1) = bitN m k + (if m.testBit k then 1 else 0) := rfl
    rw [s1, s2, ih, Nat.add_comm a, show (256 : Nat) = 2 ^ 8 from rfl, Nat.testBit_two_pow_mul_add _ ha, if_neg (show ¬ 8 + k < 8 by omega), show 8 + k - 8 = k by omega]
    omega
theorem popN_bit {x : Nat} (hx : x < 16777216) : popN x = bitN x 24 := by
  have e : x = x % 256 + 256 * (x / 256 % 256 + 256 * (x / 65536)) := by omega
  rw [e, popN_eq (by omega) (by omega) (by omega), bitN_hi (k := 16) (by omega), show (16 : Nat) = 8 + 8 from rfl, bitN_hi (k := 8) (by omega), p8_bit, p8_bit, p8_bit]
  omega
/-! the abstract machine's numbers that are not negative -/
theorem z_land {a b : Nat} (ha : a < 2147483648) (hb : b < 2147483648) : zand (a : Int) (b : Int) = ((a &&& b : Nat) : Int) := by
  unfold zand
  have hab : (a &&& b) < 2147483648 := Nat.lt_of_le_of_lt Nat.and_le_left ha
  have h : Int32.ofInt (a : Int) &&& Int32.ofInt (b : Int) = Int32.ofInt ((a &&& b : Nat) : Int) := by
    rw [← Int32.toBitVec_inj, Int32.toBitVec_and]
    apply BitVec.eq_of_toNat_eq
    rw [BitVec.toNat_and]
    simp only [Int32.toBitVec_ofInt, BitVec.ofInt_natCast, BitVec.toNat_ofNat]
    rw [Nat.mod_eq_of_lt (by omega), Nat.mod_eq_of_lt (by omega), Nat.mod_eq_of_lt (by omega)]
  rw [h, z32 (by omega)]
theorem z_ushr {a k : Nat} (ha : a < 2147483648) (hk : k < 32) : zushr (a : Int) (k : Int) = ((a / 2 ^ k : Nat) : Int) := by
  unfold zushr
  have hd : a / 2 ^ k < 2147483648 := Nat.lt_of_le_of_lt (Nat.div_le_self _ _) ha
  have h : ((Int32.ofInt (a : Int)).toUInt32 >>> ((Int32.ofInt (k : Int)).toUInt32 &&& Int32.toUInt32 31)).toInt32 = Int32.ofInt ((a / 2 ^ k : Nat) : Int) := by
    apply b_ext
    intro i hi
    rw [Int32.ofInt_eq_ofNat (n := k)]
    have := b_ushr k hk (Int32.ofInt (a : Int)) i
    rw [show Int32.ofNat k = nI k from rfl, this]
    have bn : ∀ (n j : Nat), n < 2147483648 → bt (Int32.ofInt (n : Int)) j = (decide (j < 32) && n.testBit j) := by
      intro n j hn
      unfold bt
      rw [Int32.toBitVec_ofInt, BitVec.ofInt_natCast, BitVec.getLsbD_ofNat]
    rw [bn a (k + i) ha, bn (a / 2 ^ k) i hd, Nat.testBit_div_two_pow]
    by_cases h2 : k + i < 32
    · simp [h2, hi, Nat.add_comm]
    · have : a.testBit (k + i) = false := Nat.testBit_lt_two_pow (Nat.lt_of_lt_of_le (show a < 2 ^ 31 from ha) (Nat.pow_le_pow_right (by decide) (by omega)))
      simp [h2, hi, Nat.add_comm i k, this]
  rw [h, z32 (by generalize a / 2 ^ k = d at hd ⊢; omega)]
section ZPop
variable {Γ : ZG} {mem : Mem} {Q : Option AV → Mem → Prop}
theorem sC_bitCount {G : List GK} {x : Nat} (hx : x < 16777216) (k : Q (some (vI (bitN x 24 : Nat))) mem) : AMet Γ mJ6_bitCount_0f7a4 [vI x] G mem Q := by
  rw [← popN_bit hx] at k
  have e : x = x % 256 + 256 * (x / 256 % 256 + 256 * (x / 65536)) := by omega
  have s1 : sN x ≤ x := Nat.sub_le _ _
  have l1 : x / 2 &&& 0x55555555 ≤ x / 2 := Nat.and_le_left
  have t1 : tN (sN x) ≤ 2 * x := by
    unfold tN
    have a1 : sN x &&& 0x33333333 ≤ sN x := Nat.and_le_left
    have a2 : sN x / 4 &&& 0x33333333 ≤ sN x / 4 := Nat.and_le_left
    omega
  have u1 : uN (tN (sN x)) ≤ 252645135 := by unfold uN; exact Nat.and_le_right
  have z1 : zushr (x : Int) 1 = ((x / 2 : Nat) : Int) := z_ushr (k := 1) (by omega) (by decide)
  have z2 : zand ((x / 2 : Nat) : Int) 1431655765 = ((x / 2 &&& 0x55555555 : Nat) : Int) := z_land (by omega) (by decide)
  have z3 : (x : Int) - ((x / 2 &&& 0x55555555 : Nat) : Int) = ((sN x : Nat) : Int) := by unfold sN; omega
  have z4 : zand ((sN x : Nat) : Int) 858993459 = ((sN x &&& 0x33333333 : Nat) : Int) := z_land (by omega) (by decide)
  have z5 : zushr ((sN x : Nat) : Int) 2 = ((sN x / 4 : Nat) : Int) := z_ushr (k := 2) (by omega) (by decide)
  have z6 : zand ((sN x / 4 : Nat) : Int) 858993459 = ((sN x / 4 &&& 0x33333333 : Nat) : Int) := z_land (by omega) (by decide)
  have z7 : ((sN x &&& 0x33333333 : Nat) : Int) + ((sN x / 4 &&& 0x33333333 : Nat) : Int) = ((tN (sN x) : Nat) : Int) := by unfold tN; omega
  have z8 : zushr ((tN (sN x) : Nat) : Int) 4 = ((tN (sN x) / 16 : Nat) : Int) := z_ushr (k := 4) (by omega) (by decide)
  have z9 : ((tN (sN x) : Nat) : Int) + ((tN (sN x) / 16 : Nat) : Int) = ((tN (sN x) + tN (sN x) / 16 : Nat) : Int) := by omega
  have z10 : zand ((tN (sN x) + tN (sN x) / 16 : Nat) : Int) 252645135 = ((uN (tN (sN x)) : Nat) : Int) := z_land (by omega) (by decide)
  have z11 : zushr ((uN (tN (sN x)) : Nat) : Int) 8 = ((uN (tN (sN x)) / 256 : Nat) : Int) := z_ushr (k := 8) (by omega) (by decide)
  have z12 : ((uN (tN (sN x)) : Nat) : Int) + ((uN (tN (sN x)) / 256 : Nat) : Int) = ((uN (tN (sN x)) + uN (tN (sN x)) / 256 : Nat) : Int) := by omega
  have z13 : zushr ((uN (tN (sN x)) + uN (tN (sN x)) / 256 : Nat) : Int) 16 = (((uN (tN (sN x)) + uN (tN (sN x)) / 256) / 65536 : Nat) : Int) := z_ushr (k := 16) (by omega) (by decide)
  have z14 : ((uN (tN (sN x)) + uN (tN (sN x)) / 256 : Nat) : Int) + (((uN (tN (sN x)) + uN (tN (sN x)) / 256) / 65536 : Nat) : Int) = ((uN (tN (sN x)) + uN (tN (sN x)) / 256 + (uN (tN (sN x)) + uN (tN (sN x)) / 256) / 65536 : Nat) : Int) := by omega
  have z15 : zand ((uN (tN (sN x)) + uN (tN (sN x)) / 256 + (uN (tN (sN x)) + uN (tN (sN x)) / 256) / 65536 : Nat) : Int) 63 = ((popN x : Nat) : Int) := z_land (by omega) (by decide)
  refine AMet.of' 0 (ls := [some (vI ((x : Int)))]) (by decide) rfl (Nat.le_of_ble_eq_true rfl) ?_
  refine aw_iload_n dJ6_bitCount_0f7a4_0 rfl rfl ?_
  refine aw_iload_n dJ6_bitCount_0f7a4_1 rfl rfl ?_
  refine aw_iconst dJ6_bitCount_0f7a4_2 rfl ?_
  refine aw_iushr dJ6_bitCount_0f7a4_3 rfl ?_
  rw [z1]
  refine aw_ldcw (a := 1431655765) dJ6_bitCount_0f7a4_4 rfl lc_J6_265 (by decide) ?_
  refine aw_iand dJ6_bitCount_0f7a4_7 rfl ?_
  rw [z2]
  refine aw_isub dJ6_bitCount_0f7a4_8 rfl ?_
  rw [z3]
  refine aw_istore0 dJ6_bitCount_0f7a4_9 rfl (by decide) ?_
  refine aw_iload_n dJ6_bitCount_0f7a4_10 rfl rfl ?_
  refine aw_ldcw (a := 858993459) dJ6_bitCount_0f7a4_11 rfl lc_J6_266 (by decide) ?_
  refine aw_iand dJ6_bitCount_0f7a4_14 rfl ?_
  rw [z4]
  refine aw_iload_n dJ6_bitCount_0f7a4_15 rfl rfl ?_
  refine aw_iconst dJ6_bitCount_0f7a4_16 rfl ?_
  refine aw_iushr dJ6_bitCount_0f7a4_17 rfl ?_
  rw [z5]
  refine aw_ldcw (a := 858993459) dJ6_bitCount_0f7a4_18 rfl lc_J6_266 (by decide) ?_
  refine aw_iand dJ6_bitCount_0f7a4_21 rfl ?_
  rw [z6]
  refine aw_iadd dJ6_bitCount_0f7a4_22 rfl ?_
  rw [z7]
  refine aw_istore0 dJ6_bitCount_0f7a4_23 rfl (by decide) ?_
  refine aw_iload_n dJ6_bitCount_0f7a4_24 rfl rfl ?_
  refine aw_iload_n dJ6_bitCount_0f7a4_25 rfl rfl ?_
  refine aw_iconst dJ6_bitCount_0f7a4_26 rfl ?_
  refine aw_iushr dJ6_bitCount_0f7a4_27 rfl ?_
  rw [z8]
  refine aw_iadd dJ6_bitCount_0f7a4_28 rfl ?_
  rw [z9]
  refine aw_ldcw (a := 252645135) dJ6_bitCount_0f7a4_29 rfl lc_J6_267 (by decide) ?_
  refine aw_iand dJ6_bitCount_0f7a4_32 rfl ?_
  rw [z10]
  refine aw_istore0 dJ6_bitCount_0f7a4_33 rfl (by decide) ?_
  refine aw_iload_n dJ6_bitCount_0f7a4_34 rfl rfl ?_
  refine aw_iload_n dJ6_bitCount_0f7a4_35 rfl rfl ?_
  refine aw_bipush dJ6_bitCount_0f7a4_36 rfl (by decide) ?_
  refine aw_iushr dJ6_bitCount_0f7a4_38 rfl ?_
  rw [z11]
  refine aw_iadd dJ6_bitCount_0f7a4_39 rfl ?_
  rw [z12]
  refine aw_istore0 dJ6_bitCount_0f7a4_40 rfl (by decide) ?_
  refine aw_iload_n dJ6_bitCount_0f7a4_41 rfl rfl ?_
  refine aw_iload_n dJ6_bitCount_0f7a4_42 rfl rfl ?_
  refine aw_bipush dJ6_bitCount_0f7a4_43 rfl (by decide) ?_
  refine aw_iushr dJ6_bitCount_0f7a4_45 rfl ?_
  rw [z13]
  refine aw_iadd dJ6_bitCount_0f7a4_46 rfl ?_
  rw [z14]
  refine aw_istore0 dJ6_bitCount_0f7a4_47 rfl (by decide) ?_
  refine aw_iload_n dJ6_bitCount_0f7a4_48 rfl rfl ?_
  refine aw_bipush dJ6_bitCount_0f7a4_49 rfl (by decide) ?_
  refine aw_iand dJ6_bitCount_0f7a4_51 rfl ?_
  rw [z15]
  refine aw_ireturn (ty := .int) dJ6_bitCount_0f7a4_52 rfl rfl ?_
  exact k
end ZPop
