theorem zbt_not {a : Int} {i : Nat} (hi : i < 32) : zbt (zxor a (-1)) i = !zbt a i := by
  unfold zbt zxor
  rw [Int32.ofInt_toInt, b_xor, show Int32.ofInt (-1) = -1 from rfl, b_m1 i hi]
  simp
theorem zbt_nat {n i : Nat} (hn : n < 2147483648) (hi : i < 32) : zbt (n : Int) i = n.testBit i := by
  unfold zbt bt
  rw [Int32.toBitVec_ofInt, BitVec.ofInt_natCast, BitVec.getLsbD_ofNat]
  simp [hi]
/-- a number whose bits from 24 on are clear -/
theorem nat24 {a : Int} (hr : -2147483648 ≤ a ∧ a ≤ 2147483647) (h : ∀ i, 24 ≤ i → i < 32 → zbt a i = false) : ∃ y : Nat, a = y ∧ y < 16777216 := by
  have e : Int32.ofInt a = Int32.ofInt (((Int32.ofInt a).toBitVec.toNat : Nat) : Int) := by
    rw [← Int32.toBitVec_inj, Int32.toBitVec_ofInt (((Int32.ofInt a).toBitVec.toNat : Nat) : Int), BitVec.ofInt_natCast, BitVec.ofNat_toNat, BitVec.setWidth_eq]
  have hy : (Int32.ofInt a).toBitVec.toNat < 2 ^ 24 := by
    apply Nat.lt_pow_two_of_testBit
    intro i hi
    by_cases h32 : i < 32
    · exact h i hi h32
    · exact Nat.testBit_lt_two_pow (Nat.lt_of_lt_of_le (BitVec.isLt _) (Nat.pow_le_pow_right (by decide) (by omega)))
  refine ⟨(Int32.ofInt a).toBitVec.toNat, ?_, hy⟩
  have e2 := congrArg Int32.toInt e
  rw [z32 hr, z32 (by omega)] at e2
  exact e2
theorem zxor_rng (a b : Int) : -2147483648 ≤ zxor a b ∧ zxor a b ≤ 2147483647 := by
  unfold zxor
  have h1 := Int32.le_toInt (Int32.ofInt a ^^^ Int32.ofInt b)
  have h2 := Int32.toInt_lt (Int32.ofInt a ^^^ Int32.ofInt b)
  omega
theorem bitN_congr {x y : Nat} : ∀ k : Nat, (∀ i, i < k → x.testBit i = y.testBit i) → bitN x k = bitN y k := by
  intro k
  induction k with
  | zero => intro _; rfl
  | succ k ih => intro h; rw [bitN, bitN, ih (fun i hi => h i (by omega)), h k (by omega)]
theorem bitN_off {x : Nat} (X : Nat) : ∀ d : Nat, (∀ i, X ≤ i → i < X + d → x.testBit i = false) → bitN x (X + d) = bitN x X := by
  intro d
  induction d with
  | zero => intro _; rfl
  | succ d ih =>
    intro h
    have s : bitN x (X + (d + 1)) = bitN x (X + d) + (if x.testBit (X + d) then 1 else 0) := rfl
    rw [s, ih (fun i a b => h i a (by omega)), h (X + d) (by omega) (by omega)]
    rfl
theorem pc6_bit : ∀ s : Nat, s < 64 → bitN s 24 = pc6 s := by decide +kernel
theorem set_in : ∀ s : Nat, s < 64 → ∀ d : Nat, d < 64 → (zand (s : Int) (zxor (d : Int) (-1)) = 0 ↔ s &&& d = s) := by decide +kernel
theorem shl_pow : ∀ p : Nat, p < 7 → zshl 1 (p : Int) = ((2 ^ p : Nat) : Int) ∧ 2 ^ p ≤ 64 ∧ 0 < 2 ^ p := by decide +kernel
theorem sub_mod : ∀ e : Nat, e < 7 → ∀ d : Nat, d < 64 → d % 2 ^ e = 0 → ∀ s : Nat, s < 64 → s &&& d = s → s % 2 ^ e = 0 := by decide +kernel
theorem or_pow : ∀ p : Nat, p < 6 → ∀ s : Nat, s < 2 ^ p → zor (zshl 1 (p : Int)) (s : Int) = ((2 ^ p + s : Nat) : Int) := by decide +kernel
theorem pow_bit : ∀ p : Nat, p < 6 → ∀ s : Nat, s < 2 ^ p → ∀ q : Nat, q < 6 → (2 ^ p + s).testBit q = (s.testBit q || decide (q = p)) := by decide +kernel
theorem low_bit : ∀ p : Nat, p < 7 → ∀ s : Nat, s < 2 ^ p → ∀ q : Nat, q < 6 → p ≤ q → s.testBit q = false := by decide +kernel
theorem sub_lt : ∀ n : Nat, n < 7 → ∀ d : Nat, d < 2 ^ n → ∀ s : Nat, s &&& d = s → s < 2 ^ n := by
  intro n _ d hd s hs
  exact Nat.lt_of_le_of_lt (hs ▸ Nat.and_le_right) hd
/-- one of a set -/
def rcTo (G : Nat → Bool) (T : Nat) : Nat → Bool
  | 0 => false
  | q + 1 => rcTo G T q || (T.testBit q && G q)
theorem rcTo_iff {G : Nat → Bool} {T : Nat} : ∀ N : Nat, rcTo G T N = true ↔ ∃ q, q < N ∧ T.testBit q = true ∧ G q = true := by
  intro N
  induction N with
  | zero => constructor
            · intro h; cases h
            · intro ⟨q, h, _⟩; omega
  | succ N ih =>
    rw [rcTo, Bool.or_eq_true, Bool.and_eq_true, ih]
    constructor
    · rintro (⟨q, h1, h2⟩ | h)
      · exact ⟨q, by omega, h2⟩
      · exact ⟨N, by omega, h⟩
    · rintro ⟨q, h1, h2⟩
      by_cases e : q = N
      · subst e; exact Or.inr h2
      · exact Or.inl ⟨q, by omega, h2⟩
theorem cnt_bit {R : Nat → Nat → Bool} {fi N X T y : Nat} {tk : Nat → Bool} (hN : N ≤ 6) (hT : ∀ q, q < 6 → T.testBit q = true → fi ≤ q ∧ q < N) (hT6 : T < 64) (hy : ∀ x, x < X → y.testBit x = (rcTo (fun q => R q x) T N && !tk x)) : ∀ k : Nat, k ≤ X → bitN y k = cntM (colB R fi N tk) T k := by
  intro k
  induction k with
  | zero => intro _; rfl
  | succ k ih =>
    intro hk
    rw [bitN, cntM, ih (by omega), hy k (by omega)]
    congr 1
    by_cases h : rcTo (fun q => R q k) T N = true ∧ tk k = false
    · rw [h.1, h.2, if_pos (by decide)]
      obtain ⟨q, h1, h2, h3⟩ := (rcTo_iff N).mp h.1
      have hz : ¬ T &&& colB R fi N tk k = 0 := by
        intro z
        have := congrArg (fun w => w.testBit q) z
        simp only [Nat.testBit_and, Nat.zero_testBit] at this
        have hq := hT q (by omega) h2
        have cb : (colB R fi N tk k).testBit q = (!tk k && (decide (fi ≤ q ∧ q < N) && R q k)) := mk6_bit _ (by omega)
        rw [h2, cb, h.2, h3, decide_eq_true hq] at this
        exact absurd this (by decide)
      rw [if_neg hz]
    · have hz : T &&& colB R fi N tk k = 0 := by
        apply Nat.eq_of_testBit_eq
        intro q
        rw [Nat.testBit_and, Nat.zero_testBit]
        by_cases hq : q < 6
        · have cb : (colB R fi N tk k).testBit q = (!tk k && (decide (fi ≤ q ∧ q < N) && R q k)) := mk6_bit _ hq
          rw [cb]
          by_cases ht : T.testBit q = true
          · have hr := hT q hq ht
            rw [ht]
            cases htk : tk k with
            | true => rfl
            | false =>
              cases hR : R q k with
              | false => simp
              | true => exact absurd ⟨(rcTo_iff N).mpr ⟨q, hr.2, ht, hR⟩, htk⟩ h
          · rw [Bool.eq_false_iff.mpr ht]; rfl
        · have e : (64 : Nat) ≤ 2 ^ q := by have := Nat.pow_le_pow_right (n := 2) (by decide) (show 6 ≤ q by omega); omega
          rw [Nat.testBit_lt_two_pow (show T < 2 ^ q by omega)]; rfl
      rw [if_pos hz]
      have hf : (rcTo (fun q => R q k) T N && !tk k) = false := by
        cases h1 : rcTo (fun q => R q k) T N with
        | false => rfl
        | true =>
          cases h2 : tk k with
          | true => rfl
          | false => exact absurd ⟨h1, h2⟩ h
      rw [hf]
      rfl
theorem needy_mod : ∀ fi : Nat, fi < 7 → ∀ (N : Nat) (go : Nat → Bool), needyB go fi N % 2 ^ fi = 0 := by
  intro fi hfi N go
  have hz : ∀ fi : Nat, fi < 7 → ∀ d : Nat, d < 64 → (∀ q, q < 6 → q < fi → d.testBit q = false) → d % 2 ^ fi = 0 := by decide +kernel
  refine hz fi hfi _ (mk6_lt _) (fun q hq hlt => ?_)
  unfold needyB
  rw [mk6_bit _ hq, decide_eq_false (by omega)]
  rfl
theorem needy_lt {N : Nat} (hN : N < 7) (go : Nat → Bool) (fi : Nat) : needyB go fi N < 2 ^ N := by
  have hz : ∀ n : Nat, n < 7 → ∀ d : Nat, d < 64 → (∀ q, q < 6 → n ≤ q → d.testBit q = false) → d < 2 ^ n := by decide +kernel
  refine hz N hN _ (mk6_lt _) (fun q hq hle => ?_)
  unfold needyB
  rw [mk6_bit _ hq, decide_eq_false (by omega)]
  rfl
section ZCmp18
variable {Γ : ZG} {mem : Mem} {Q : Option AV → Mem → Prop}
/-- what the layout holds -/
def Lay (mem : Mem) (R : Nat → Nat → Bool) (go : Nat → Bool) (N X : Nat) : Prop := mem 90 4 = N ∧ (∀ p : Nat, p < N → mem 92 p = b2i (go p)) ∧ (∀ p : Nat, p < N → (-2147483648 ≤ mem 91 p ∧ mem 91 p ≤ 2147483647) ∧ ∀ x : Nat, x < 32 → zbt (mem 91 p) x = (decide (x < X) && R p x)) ∧ (∀ T : Nat, T < 2 ^ N → (-2147483648 ≤ mem 94 T ∧ mem 94 T ≤ 2147483647) ∧ ∀ x : Nat, x < 32 → zbt (mem 94 T) x = (decide (x < X) && rcTo (fun q => R q x) T N))
theorem sC_mostGood {R : Nat → Nat → Bool} {go tk : Nat → Bool} {N X fi : Nat} {taken : Int} (hN : N ≤ 6) (hX : X ≤ 24) (hf : fi ≤ N) (h : Lay mem R go N X) (htk : ∀ x : Nat, x < X → zbt taken x = tk x) (k : Q (some (vI (mostH R go fi N tk X : Nat))) mem) : AMet Γ mX3_mostGood [vR 90, vI fi, vI taken] zG mem Q := by
  obtain ⟨h4, h2, h1, hr⟩ := h
  have pN := shl_pow N (by omega)
  have pf := shl_pow fi (by omega)
  have D64 : needyB go fi N < 64 := mk6_lt _
  have DN := needy_lt (N := N) (by omega) go fi
  have Dm := needy_mod fi (by omega) N go
  have Db : ∀ q, q < 6 → (needyB go fi N).testBit q = true → fi ≤ q ∧ q < N := by
    intro q hq hb
    unfold needyB at hb
    rw [mk6_bit _ hq, Bool.and_eq_true, decide_eq_true_eq] at hb
    exact hb.1
  -- what a set lacks
  have lackT : ∀ T : Nat, T < 2 ^ N → T &&& needyB go fi N = T → ∃ y : Nat, zand (mem 94 T) (zxor taken (-1)) = y ∧ y < 16777216 ∧ bitN y 24 = cntM (colB R fi N tk) T X := by
    intro T hT hs
    obtain ⟨r1, r2⟩ := hr T hT
    have zb : ∀ i, i < 32 → zbt (zand (mem 94 T) (zxor taken (-1))) i = ((decide (i < X) && rcTo (fun q => R q i) T N) && !zbt taken i) := fun i hi => by rw [zbt_and, r2 i hi, zbt_not hi]
    obtain ⟨y, e, hy⟩ := nat24 (zand_rng _ _) (fun i i0 i1 => by rw [zb i i1, decide_eq_false (by omega)]; rfl)
    refine ⟨y, e, hy, ?_⟩
    have yb : ∀ i, i < 32 → y.testBit i = ((decide (i < X) && rcTo (fun q => R q i) T N) && !zbt taken i) := fun i hi => by rw [← zb i hi, e, zbt_nat (by omega) hi]
    have off := bitN_off (x := y) X (24 - X) (fun i i0 i1 => by rw [yb i (by omega), decide_eq_false (by omega)]; rfl)
    rw [show X + (24 - X) = 24 by omega] at off
    rw [off]
    refine cnt_bit hN (fun q hq ht => Db q hq ?_) (by omega) (fun x hx => ?_) X (Nat.le_refl _)
    · have := congrArg (fun w => w.testBit q) hs
      simp only [Nat.testBit_and] at this
      rw [ht, Bool.true_and] at this
      exact this
    · rw [yb x (by omega), htk x hx, decide_eq_true hx, Bool.true_and]
  have done : ∀ L : Nat, (∀ T : Nat, T < 64 → T &&& needyB go fi N = T → pc6 T - cntM (colB R fi N tk) T X ≤ L) → L ≤ defM (colB R fi N tk) X (needyB go fi N) 64 → L = defM (colB R fi N tk) X (needyB go fi N) 64 := fun L h1 h2 => Nat.le_antisymm h2 (defM_le 64 h1)
  have dle : defM (colB R fi N tk) X (needyB go fi N) 64 ≤ N - fi := by
    refine defM_le 64 (fun T hT hs => ?_)
    have p1 := pc_sub T hT _ D64 hs
    have hq : ∀ q, q < 6 → (if (needyB go fi N).testBit q then 1 else 0) ≤ (if fi ≤ q ∧ q < N then 1 else 0) := by
      intro q hq
      by_cases hb : (needyB go fi N).testBit q = true
      · rw [if_pos hb, if_pos (Db q hq hb)]; exact Nat.le_refl _
      · rw [if_neg hb]; exact Nat.zero_le _
    have p2 : pc6 (needyB go fi N) ≤ N - fi := by
      have q0 := hq 0 (by decide)
      have q1 := hq 1 (by decide)
      have q2 := hq 2 (by decide)
      have q3 := hq 3 (by decide)
      have q4 := hq 4 (by decide)
      have q5 := hq 5 (by decide)
      unfold pc6
      generalize (if (needyB go fi N).testBit 0 then 1 else 0) = b0 at *
      generalize (if (needyB go fi N).testBit 1 then 1 else 0) = b1 at *
      generalize (if (needyB go fi N).testBit 2 then 1 else 0) = b2 at *
      generalize (if (needyB go fi N).testBit 3 then 1 else 0) = b3 at *
      generalize (if (needyB go fi N).testBit 4 then 1 else 0) = b4 at *
      generalize (if (needyB go fi N).testBit 5 then 1 else 0) = b5 at *
      split at q0 <;> split at q1 <;> split at q2 <;> split at q3 <;> split at q4 <;> split at q5 <;> omega
    omega
  have loop2 : ∀ (d T L : Nat) (x6 : Option AV), 64 ≤ T + d → T % 2 ^ fi = 0 → T ≤ 128 → L ≤ 6 → (∀ T' : Nat, T' < T → T' < 64 → T' &&& needyB go fi N = T' → pc6 T' - cntM (colB R fi N tk) T' X ≤ L) → L ≤ defM (colB R fi N tk) X (needyB go fi N) 64 → AW Γ mX3_mostGood (zF Γ zG Q) zG 0 0 43 [some (vR 90), some (vI fi), some (vI taken), some (vI (needyB go fi N : Nat)), some (vI L), some (vI T), x6] [] mem := by
    intro d
    induction d with
    | zero =>
      intro T L x6 hd hm hT hL hup hlo
      have eL := done L (fun T' a b => hup T' (by omega) a b) hlo
      refine aw_iload dX3_mostGood_43 rfl rfl ?_
      refine aw_iconst dX3_mostGood_45 rfl ?_
      refine aw_aload_n dX3_mostGood_46 rfl rfl ?_
      refine aw_getI (kI := 4) dX3_mostGood_47 rfl fl_X3_31 (by first | assumption | rfl) (by rfl) rfl ?_
      rw [h4]
      refine aw_ishl dX3_mostGood_50 rfl ?_
      rw [pN.1]
      refine aw_icmp_ge (tgt := 105) dX3_mostGood_51 (by decide) rfl (by omega) (by omega) (fun c51 => ?_) (fun c51 => ?_)
      · refine aw_aload_n dX3_mostGood_105 rfl rfl ?_
        refine aw_getI (kI := 4) dX3_mostGood_106 rfl fl_X3_31 (by first | assumption | rfl) (by rfl) rfl ?_
        rw [h4]
        refine aw_iload_n dX3_mostGood_109 rfl rfl ?_
        refine aw_isub dX3_mostGood_110 rfl ?_
        refine aw_iload dX3_mostGood_111 rfl rfl ?_
        refine aw_isub dX3_mostGood_113 rfl ?_
        refine aw_ireturn (ty := .int) dX3_mostGood_114 rfl rfl ?_
        refine q_eq k ?_ rfl
        unfold mostH
        rw [← eL] at dle ⊢
        congr 2
        omega
      · exfalso; omega
    | succ d ih =>
      intro T L x6 hd hm hT hL hup hlo
      by_cases hTN : T < 2 ^ N
      · have T64 : T < 64 := by omega
        have si := set_in T T64 (needyB go fi N) D64
        have zr := zand_rng (T : Int) (zxor ((needyB go fi N : Nat) : Int) (-1))
        have nx : ∀ (L' : Nat) (x6 : Option AV), L' ≤ 6 → (∀ T' : Nat, T' < T + 1 → T' < 64 → T' &&& needyB go fi N = T' → pc6 T' - cntM (colB R fi N tk) T' X ≤ L') → L' ≤ defM (colB R fi N tk) X (needyB go fi N) 64 → AW Γ mX3_mostGood (zF Γ zG Q) zG 0 0 94 [some (vR 90), some (vI fi), some (vI taken), some (vI (needyB go fi N : Nat)), some (vI L'), some (vI T), x6] [] mem := by
          intro L' x6 hL' hup' hlo'
          have ihn := ih (T + 2 ^ fi) L' x6 (by omega) (by rw [Nat.add_mod_right]; exact hm) (by omega) hL' (fun T' a b c => by
            by_cases e : T' < T + 1
            · exact hup' T' e b c
            · exfalso
              have m1 := sub_mod fi (by omega) _ D64 Dm T' b c
              have q1 := Nat.div_add_mod T' (2 ^ fi)
              have q2 := Nat.div_add_mod T (2 ^ fi)
              rw [m1] at q1
              rw [hm] at q2
              have hlt : T / 2 ^ fi < T' / 2 ^ fi := by
                rcases Nat.lt_or_ge (T / 2 ^ fi) (T' / 2 ^ fi) with h | h
                · exact h
                · exfalso
                  have := Nat.mul_le_mul_left (2 ^ fi) h
                  omega
              have := Nat.mul_le_mul_left (2 ^ fi) (show T / 2 ^ fi + 1 ≤ T' / 2 ^ fi from hlt)
              rw [Nat.mul_add, Nat.mul_one] at this
              omega) hlo'
          push_cast at ihn
          refine aw_iload dX3_mostGood_94 rfl rfl ?_
          refine aw_iconst dX3_mostGood_96 rfl ?_
          refine aw_iload_n dX3_mostGood_97 rfl rfl ?_
          refine aw_ishl dX3_mostGood_98 rfl ?_
          rw [pf.1]
          push_cast
          refine aw_iadd dX3_mostGood_99 rfl ?_
          refine aw_istore5 rfl dX3_mostGood_100 rfl (by decide) ?_
          refine aw_goto (tgt := 43) dX3_mostGood_102 (by decide) ?_
          exact ihn
        have s63 : T &&& needyB go fi N = T → AW Γ mX3_mostGood (zF Γ zG Q) zG 0 0 63 [some (vR 90), some (vI fi), some (vI taken), some (vI (needyB go fi N : Nat)), some (vI L), some (vI T), x6] [] mem := by
          intro hs
          obtain ⟨y, ey, hy, hb⟩ := lackT T hTN hs
          have hpc := pc6_bit T T64
          have pc6l : ∀ s : Nat, s < 64 → pc6 s ≤ 6 := by decide +kernel
          have l6 := pc6l T T64
          have cl : cntM (colB R fi N tk) T X ≤ X := by
            have hz : ∀ k : Nat, cntM (colB R fi N tk) T k ≤ k := by
              intro k
              induction k with
              | zero => exact Nat.le_refl _
              | succ k ihk => rw [cntM]; split <;> omega
            exact hz X
          have eL : max (L : Int) ((pc6 T : Int) - (cntM (colB R fi N tk) T X : Int)) = ((max L (pc6 T - cntM (colB R fi N tk) T X) : Nat) : Int) := by omega
          refine aw_iload dX3_mostGood_63 rfl rfl ?_
          refine aw_callS [_] _ dX3_mostGood_65 rfl cls_X3_80 (by decide) ⟨Nat.zero_le _, Nat.zero_le _⟩ (Nat.le_of_ble_eq_true rfl) rfl ?_
          refine sC_bitCount (x := T) (by omega) ?_
          rw [hpc]
          refine aw_aload_n dX3_mostGood_68 rfl rfl ?_
          refine aw_getR dX3_mostGood_69 rfl fl_X3_22 (by first | assumption | rfl) (by rfl) ?_
          refine aw_iload dX3_mostGood_72 rfl rfl ?_
          refine aw_iaload dX3_mostGood_74 rfl g94 (by decide) (by omega) ?_
          refine aw_iload_n dX3_mostGood_75 rfl rfl ?_
          refine aw_iconst dX3_mostGood_76 rfl ?_
          refine aw_ixor dX3_mostGood_77 rfl ?_
          refine aw_iand dX3_mostGood_78 rfl ?_
          rw [ey]
          refine aw_callS [_] _ dX3_mostGood_79 rfl cls_X3_80 (by decide) ⟨Nat.zero_le _, Nat.zero_le _⟩ (Nat.le_of_ble_eq_true rfl) rfl ?_
          refine sC_bitCount (x := y) hy ?_
          rw [hb]
          refine aw_isub dX3_mostGood_82 rfl ?_
          refine aw_istore6 rfl dX3_mostGood_83 rfl (by decide) ?_
          refine aw_iload dX3_mostGood_85 rfl rfl ?_
          refine aw_iload dX3_mostGood_87 rfl rfl ?_
          refine aw_max dX3_mostGood_89 rfl clm_X3_86 (by decide) (Nat.le_of_ble_eq_true rfl) ⟨Nat.zero_le _, Nat.zero_le _⟩ (by omega) (by omega) ?_
          rw [eL]
          refine aw_istore4 rfl dX3_mostGood_92 rfl (by decide) ?_
          refine nx _ _ (by omega) (fun T' a b c => ?_) (by have := defM_ge 64 T T64 hs (ms := colB R fi N tk) (X := X); omega)
          by_cases e : T' = T
          · subst e; omega
          · have := hup T' (by omega) b c; omega
        refine aw_iload dX3_mostGood_43 rfl rfl ?_
        refine aw_iconst dX3_mostGood_45 rfl ?_
        refine aw_aload_n dX3_mostGood_46 rfl rfl ?_
        refine aw_getI (kI := 4) dX3_mostGood_47 rfl fl_X3_31 (by first | assumption | rfl) (by rfl) rfl ?_
        rw [h4]
        refine aw_ishl dX3_mostGood_50 rfl ?_
        rw [pN.1]
        refine aw_icmp_ge (tgt := 105) dX3_mostGood_51 (by decide) rfl (by omega) (by omega) (fun c51 => ?_) (fun c51 => ?_)
        · exfalso; omega
        · refine aw_iload dX3_mostGood_54 rfl rfl ?_
          refine aw_iload_n dX3_mostGood_56 rfl rfl ?_
          refine aw_iconst dX3_mostGood_57 rfl ?_
          refine aw_ixor dX3_mostGood_58 rfl ?_
          refine aw_iand dX3_mostGood_59 rfl ?_
          refine aw_if_ne (tgt := 94) dX3_mostGood_60 (by decide) rfl (by omega) (fun c60 => ?_) (fun c60 => ?_)
          · refine nx L _ hL (fun T' a b c => ?_) hlo
            by_cases e : T' = T
            · subst e; exact absurd (si.mpr c) c60
            · exact hup T' (by omega) b c
          · exact s63 (si.mp (by omega))
      · have eL := done L (fun T' a b => hup T' (by have := sub_lt N (by omega) _ DN T' b; omega) a b) hlo
        refine aw_iload dX3_mostGood_43 rfl rfl ?_
        refine aw_iconst dX3_mostGood_45 rfl ?_
        refine aw_aload_n dX3_mostGood_46 rfl rfl ?_
        refine aw_getI (kI := 4) dX3_mostGood_47 rfl fl_X3_31 (by first | assumption | rfl) (by rfl) rfl ?_
        rw [h4]
        refine aw_ishl dX3_mostGood_50 rfl ?_
        rw [pN.1]
        refine aw_icmp_ge (tgt := 105) dX3_mostGood_51 (by decide) rfl (by omega) (by omega) (fun c51 => ?_) (fun c51 => ?_)
        · refine aw_aload_n dX3_mostGood_105 rfl rfl ?_
          refine aw_getI (kI := 4) dX3_mostGood_106 rfl fl_X3_31 (by first | assumption | rfl) (by rfl) rfl ?_
          rw [h4]
          refine aw_iload_n dX3_mostGood_109 rfl rfl ?_
          refine aw_isub dX3_mostGood_110 rfl ?_
          refine aw_iload dX3_mostGood_111 rfl rfl ?_
          refine aw_isub dX3_mostGood_113 rfl ?_
          refine aw_ireturn (ty := .int) dX3_mostGood_114 rfl rfl ?_
          refine q_eq k ?_ rfl
          unfold mostH
          rw [← eL] at dle ⊢
          congr 2
          omega
        · exfalso; omega
  have loop1 : ∀ (d p : Nat), fi ≤ p → p + d = N → AW Γ mX3_mostGood (zF Γ zG Q) zG 0 0 5 [some (vR 90), some (vI fi), some (vI taken), some (vI (needyB go fi p : Nat)), some (vI p), none, none] [] mem := by
    intro d
    induction d with
    | zero =>
      intro p hp hd
      obtain rfl : p = N := by omega
      refine aw_iload dX3_mostGood_5 rfl rfl ?_
      refine aw_aload_n dX3_mostGood_7 rfl rfl ?_
      refine aw_getI (kI := 4) dX3_mostGood_8 rfl fl_X3_31 (by first | assumption | rfl) (by rfl) rfl ?_
      rw [h4]
      refine aw_icmp_ge (tgt := 37) dX3_mostGood_11 (by decide) rfl (by omega) (by omega) (fun c11 => ?_) (fun c11 => ?_)
      · refine aw_iconst dX3_mostGood_37 rfl ?_
        refine aw_istore4 rfl dX3_mostGood_38 rfl (by decide) ?_
        refine aw_iconst dX3_mostGood_40 rfl ?_
        refine aw_istore5 rfl dX3_mostGood_41 rfl (by decide) ?_
        exact loop2 64 0 0 none (by omega) (Nat.zero_mod _) (by omega) (by omega) (fun T' a => by omega) (Nat.zero_le _)
      · exfalso; omega
    | succ d ih =>
      intro p hp hd
      have gp := h2 p (by omega)
      have ihn := ih (p + 1) (by omega) (by omega)
      have so := set_or (needyB go fi p) (mk6_lt _) p (by omega)
      have nb : ∀ q, q < 6 → (needyB go fi (p + 1)).testBit q = ((needyB go fi p).testBit q || (decide (q = p) && !go p)) := by
        intro q hq
        unfold needyB
        rw [mk6_bit _ hq, mk6_bit _ hq]
        by_cases e : q = p
        · subst e
          rw [decide_eq_true (show fi ≤ q ∧ q < q + 1 by omega), decide_eq_false (show ¬ (fi ≤ q ∧ q < q) by omega)]
          simp
        · by_cases e2 : fi ≤ q ∧ q < p
          · rw [decide_eq_true e2, decide_eq_true (show fi ≤ q ∧ q < p + 1 by omega), decide_eq_false e]; simp
          · rw [decide_eq_false e2, decide_eq_false (show ¬ (fi ≤ q ∧ q < p + 1) by omega), decide_eq_false e]; simp
      have e1 : go p = true → needyB go fi (p + 1) = needyB go fi p := fun hg => six_ext (mk6_lt _) (mk6_lt _) (fun q hq => by rw [nb q hq, hg]; simp)
      have ob : ∀ s : Nat, s < 64 → ∀ p : Nat, p < 6 → ∀ q : Nat, q < 6 → (s ||| 1 <<< p).testBit q = (s.testBit q || decide (q = p)) := by decide +kernel
      have e0 : go p = false → needyB go fi (p + 1) = (needyB go fi p ||| 1 <<< p) := fun hg => six_ext (mk6_lt _) so.2.1 (fun q hq => by rw [nb q hq, hg, ob (needyB go fi p) (mk6_lt _) p (by omega) q hq]; simp)
      refine aw_iload dX3_mostGood_5 rfl rfl ?_
      refine aw_aload_n dX3_mostGood_7 rfl rfl ?_
      refine aw_getI (kI := 4) dX3_mostGood_8 rfl fl_X3_31 (by first | assumption | rfl) (by rfl) rfl ?_
      rw [h4]
      refine aw_icmp_ge (tgt := 37) dX3_mostGood_11 (by decide) rfl (by omega) (by omega) (fun c11 => ?_) (fun c11 => ?_)
      · exfalso; omega
      · refine aw_aload_n dX3_mostGood_14 rfl rfl ?_
        refine aw_getR dX3_mostGood_15 rfl fl_X3_15 (by first | assumption | rfl) (by rfl) ?_
        refine aw_iload dX3_mostGood_18 rfl rfl ?_
        refine aw_zaload dX3_mostGood_20 rfl (by first | assumption | rfl) (by decide) (by omega) ?_
        rw [gp]
        refine aw_if_ne (tgt := 31) dX3_mostGood_21 (by decide) rfl (by unfold b2i; split <;> omega) (fun c21 => ?_) (fun c21 => ?_)
        · refine aw_iinc4 rfl dX3_mostGood_31 rfl (by decide) ?_
          refine aw_goto (tgt := 5) dX3_mostGood_34 (by decide) ?_
          cases hg : go p with
          | true => rw [hg] at c21; first | (rw [e1 hg] at ihn; exact ihn) | (exfalso; exact absurd c21 (by decide))
          | false => rw [hg] at c21; first | (rw [e0 hg] at ihn; exact ihn) | (exfalso; exact absurd c21 (by decide)) | (exfalso; exact c21 rfl)
        · refine aw_iload_n dX3_mostGood_24 rfl rfl ?_
          refine aw_iconst dX3_mostGood_25 rfl ?_
          refine aw_iload dX3_mostGood_26 rfl rfl ?_
          refine aw_ishl dX3_mostGood_28 rfl ?_
          refine aw_ior dX3_mostGood_29 rfl ?_
          rw [so.1]
          refine aw_istore3 rfl dX3_mostGood_30 rfl (by decide) ?_
          refine aw_iinc4 rfl dX3_mostGood_31 rfl (by decide) ?_
          refine aw_goto (tgt := 5) dX3_mostGood_34 (by decide) ?_
          cases hg : go p with
          | true => rw [hg] at c21; first | (rw [e1 hg] at ihn; exact ihn) | (exfalso; exact absurd c21 (by decide))
          | false => rw [hg] at c21; first | (rw [e0 hg] at ihn; exact ihn) | (exfalso; exact absurd c21 (by decide)) | (exfalso; exact c21 rfl)
  have n0 : needyB go fi fi = 0 := six_ext (mk6_lt _) (by decide) (fun q hq => by unfold needyB; rw [mk6_bit _ hq, decide_eq_false (by omega), Nat.zero_testBit]; rfl)
  refine AMet.of' 4 (ls := [some (vR (90)), some (vI ((fi : Int))), some (vI (taken)), none, none, none, none]) (by decide) rfl (Nat.le_of_ble_eq_true rfl) ?_
  refine aw_iconst dX3_mostGood_0 rfl ?_
  refine aw_istore3 rfl dX3_mostGood_1 rfl (by decide) ?_
  refine aw_iload_n dX3_mostGood_2 rfl rfl ?_
  refine aw_istore4 rfl dX3_mostGood_3 rfl (by decide) ?_
  have l0 := loop1 (N - fi) fi (Nat.le_refl _) (by omega)
  rw [n0] at l0
  exact l0
end ZCmp18
