abbrev rankF (f : Int → Int) (p : Int) : Int := if isGoodF f p then 2 else if isBlackF f p then 0 else 1
abbrev beforeF (f : Int → Int) (p q : Int) : Prop := (¬ rankF f p = rankF f q ∧ rankF f q < rankF f p) ∨ (rankF f p = rankF f q ∧ rankF f p = 2 ∧ f (47 + 8 * q + 0) < f (47 + 8 * p + 0)) ∨ (rankF f p = rankF f q ∧ rankF f p = 1 ∧ f (47 + 8 * q + 3) < f (47 + 8 * p + 3))
def pickTo (f : Int → Int) (gone : Int) : Nat → Int
  | 0 => -4
  | p + 1 => if zand (zshr gone p) 1 = 0 ∧ (pickTo f gone p = -4 ∨ beforeF f p (pickTo f gone p)) then (p : Int) else pickTo f gone p
def takesAt (f : Int → Int) : Nat → Int × Int
  | 0 => (0, -4)
  | i + 1 => (zor (takesAt f i).1 (if pickTo f (takesAt f i).1 (f 46).toNat = -4 then 0 else zshl 1 (pickTo f (takesAt f i).1 (f 46).toNat)), pickTo f (takesAt f i).1 (f 46).toNat)
def takesM (f : Int → Int) (k : Int) : Int := if k < 0 then -1 else (takesAt f (min k 6 + 1).toNat).2
theorem pickTo_rng (f : Int → Int) (gone : Int) : ∀ p : Nat, pickTo f gone p = -4 ∨ (0 ≤ pickTo f gone p ∧ pickTo f gone p < p) := by
  intro p
  induction p with
  | zero => exact Or.inl rfl
  | succ p ih =>
    rw [pickTo]
    push_cast
    split
    · omega
    · omega
theorem turnF_Wf {n p : Int} {f : Int → Int} (h : Wf n f) (hp : 0 ≤ p ∧ p < f 46) : Wf n (turnF f p) ∧ ∀ j : Int, j < 47 ∨ 94 < j → turnF f p j = f j := by
  obtain ⟨hn, hH, h24, h25, h26, hw, h46, hs, h95, h96, hf⟩ := h
  have out : ∀ j : Int, j ≠ 47 + 8 * p + 6 → turnF f p j = f j := fun j hj => fset_ne hj
  refine ⟨⟨hn, fun x a b => ?_, ?_, ?_, ?_, fun i a b => ?_, ?_, fun q a b => ?_, ?_, ?_, fun i a b => ?_⟩, fun j hj => out j (by omega)⟩
  · rw [out x (by omega)]; exact hH x a b
  · rw [out 24 (by omega)]; exact h24
  · rw [out 25 (by omega)]; exact h25
  · rw [out 26 (by omega)]; exact h26
  · rw [out 26 (by omega)] at b
    unfold WdW
    rw [out _ (by omega), out _ (by omega), out _ (by omega)]
    exact hw i a b
  · rw [out 46 (by omega)]; exact h46
  · rw [out 46 (by omega)] at b
    have hq := hs q a b
    unfold SpW
    by_cases e : q = p
    · subst e
      rw [out _ (by omega), out _ (by omega), out _ (by omega), out _ (by omega), out _ (by omega), out _ (by omega), out (47 + 8 * q + 7) (by omega)]
      obtain ⟨s0, s1, s2, s3, s4, s5, s6, s7⟩ := hq
      refine ⟨s0, s1, s2, s3, s4, s5, ?_, s7⟩
      unfold turnF
      rw [fset_same]
      omega
    · rw [out _ (by omega), out _ (by omega), out _ (by omega), out _ (by omega), out _ (by omega), out _ (by omega), out _ (by omega), out _ (by omega)]
      exact hq
  · rw [out 95 (by omega)]; exact h95
  · rw [out 96 (by omega)]; exact h96
  · rw [out 96 (by omega)] at b
    unfold FeW
    rw [out _ (by omega), out _ (by omega), out _ (by omega)]
    exact hf i a b
theorem place_Wf {n p x : Int} {f : Int → Int} (h : Wf n f) (hp : 0 ≤ p ∧ p < f 46) (hx : x = -4 ∨ (0 ≤ x ∧ x < 3 * n)) : Wf n (fset f (47 + 8 * p + 2) x) ∧ ∀ j : Int, j < 47 ∨ 94 < j → fset f (47 + 8 * p + 2) x j = f j := by
  obtain ⟨hn, hH, h24, h25, h26, hw, h46, hs, h95, h96, hf⟩ := h
  have out : ∀ j : Int, j ≠ 47 + 8 * p + 2 → fset f (47 + 8 * p + 2) x j = f j := fun j hj => fset_ne hj
  refine ⟨⟨hn, fun x a b => ?_, ?_, ?_, ?_, fun i a b => ?_, ?_, fun q a b => ?_, ?_, ?_, fun i a b => ?_⟩, fun j hj => out j (by omega)⟩
  · rw [out x (by omega)]; exact hH x a b
  · rw [out 24 (by omega)]; exact h24
  · rw [out 25 (by omega)]; exact h25
  · rw [out 26 (by omega)]; exact h26
  · rw [out 26 (by omega)] at b
    unfold WdW
    rw [out _ (by omega), out _ (by omega), out _ (by omega)]
    exact hw i a b
  · rw [out 46 (by omega)]; exact h46
  · rw [out 46 (by omega)] at b
    have hq := hs q a b
    unfold SpW
    by_cases e : q = p
    · subst e
      rw [out _ (by omega), out _ (by omega), fset_same, out _ (by omega), out _ (by omega), out _ (by omega), out _ (by omega), out _ (by omega)]
      obtain ⟨s0, s1, s2, s3, s4, s5, s6, s7⟩ := hq
      exact ⟨s0, s1, hx, s3, s4, s5, s6, s7⟩
    · rw [out _ (by omega), out _ (by omega), out _ (by omega), out _ (by omega), out _ (by omega), out _ (by omega), out _ (by omega), out _ (by omega)]
      exact hq
  · rw [out 95 (by omega)]; exact h95
  · rw [out 96 (by omega)]; exact h96
  · rw [out 96 (by omega)] at b
    unfold FeW
    rw [out _ (by omega), out _ (by omega), out _ (by omega)]
    exact hf i a b
theorem meddle_Wf {n p d : Int} {f : Int → Int} (h : Wf n f) (hp : 0 ≤ p ∧ p < f 46) : Wf n (meddleF f p d) ∧ ∀ j : Int, j < 47 ∨ 94 < j → meddleF f p d j = f j := by
  unfold meddleF
  split
  · exact turnF_Wf h hp
  · split
    · exact place_Wf h hp (Or.inl rfl)
    · exact ⟨h, fun _ _ => rfl⟩
theorem emod_rng {a b : Int} (hb : 0 < b) : 0 ≤ a % b ∧ a % b < b := ⟨Int.emod_nonneg _ (by omega), Int.emod_lt_of_pos _ hb⟩
theorem drift_Wf {n seed : Int} {f : Int → Int} (h : Wf n f) (h0 : ¬ f 46 = 0) : ∀ k : Nat, Wf n (driftAt n f seed k).2 ∧ (driftAt n f seed k).2 46 = f 46 := by
  have h46 := h.2.2.2.2.2.2.1
  intro k
  induction k with
  | zero => exact ⟨h, rfl⟩
  | succ k ih =>
    rw [driftAt]
    dsimp only
    have hm := meddle_Wf (d := bitsF (seedF (seedF (driftAt n f seed k).1)) % 3) ih.1 (p := bitsF (seedF (driftAt n f seed k).1) % f 46) (by rw [ih.2]; exact emod_rng (by omega))
    obtain ⟨a, b, c, d⟩ := roundF_Wf hm.1
    exact ⟨a, by rw [b, hm.2 46 (by omega)]; exact ih.2⟩
theorem bitsF_rng (v : Int) : 0 ≤ bitsF v ∧ bitsF v ≤ 32767 := by
  unfold bitsF zand
  have e : Int32.ofInt 32767 = 32767 := rfl
  rw [e]
  have h := pk_andE (Int32.ofInt (zshr v 16)) (m := 32767) 15 (by decide)
  obtain ⟨j, hj, h⟩ := h
  rw [h, nI_toInt (by omega)]
  omega
section ZRef13
variable {Γ : ZG} {mem : Mem} {Q : Option AV → Mem → Prop}
theorem sR_morning {n w : Int} (h : Wf n (mem 110)) (hw : -2147483648 ≤ w ∧ w ≤ 2147483647) (k : Q (some (vL (morningM (mem 110) w))) mem) : AMet Γ mX11_morning [vR 109, vI w] zG mem Q := by
  have h46 := h.2.2.2.2.2.2.1
  have hs := h.2.2.2.2.2.2.2.1
  have hn := h.1
  have rng : ∀ p : Nat, (p : Int) ≤ mem 110 46 → (0 ≤ (mornAt (mem 110) p).1 ∧ (mornAt (mem 110) p).1 ≤ 30) ∧ (1 ≤ (mornAt (mem 110) p).2.1 ∧ (mornAt (mem 110) p).2.1 ≤ 1000000) ∧ (1 ≤ (mornAt (mem 110) p).2.2 ∧ (mornAt (mem 110) p).2.2 ≤ 1000000) := by
    intro p
    induction p with
    | zero => intro _; show ((0 : Int) ≤ 0 ∧ (0 : Int) ≤ 30) ∧ ((1 : Int) ≤ 1 ∧ (1 : Int) ≤ 1000000) ∧ ((1 : Int) ≤ 1 ∧ (1 : Int) ≤ 1000000); omega
    | succ p _ =>
      intro hp
      have key : ∀ q : Nat, (q : Int) ≤ mem 110 46 → (0 ≤ (mornAt (mem 110) q).1 ∧ (mornAt (mem 110) q).1 ≤ 5 * q) ∧ (1 ≤ (mornAt (mem 110) q).2.1 ∧ (mornAt (mem 110) q).2.1 ≤ (10 : Int) ^ q) ∧ (mornAt (mem 110) q).2.2 = (10 : Int) ^ q := by
        intro q
        induction q with
        | zero => intro _; show ((0 : Int) ≤ 0 ∧ (0 : Int) ≤ 0) ∧ ((1 : Int) ≤ 1 ∧ (1 : Int) ≤ 1) ∧ (1 : Int) = 1; omega
        | succ q ihq =>
          intro hq
          obtain ⟨a, b, c⟩ := ihq (by omega)
          obtain ⟨s0, s1, s2, -⟩ := hs q (by omega) (by omega)
          have h2 : 0 ≤ (if mem 110 (47 + 8 * (q : Int) + 2) = -4 then (0 : Int) else 1 + 2 * (mem 110 (47 + 8 * (q : Int) + 2) % 3)) ∧ (if mem 110 (47 + 8 * (q : Int) + 2) = -4 then (0 : Int) else 1 + 2 * (mem 110 (47 + 8 * (q : Int) + 2) % 3)) ≤ 5 := by split <;> omega
          rw [mornAt]
          generalize (if mem 110 (47 + 8 * (q : Int) + 2) = -4 then (0 : Int) else 1 + 2 * (mem 110 (47 + 8 * (q : Int) + 2) % 3)) = r at *
          dsimp only
          rw [Int.pow_succ]
          push_cast
          refine ⟨by omega, ⟨?_, ?_⟩, by rw [c]⟩
          · have := Int.mul_le_mul b.1 (show (1 : Int) ≤ 10 - r by omega) (by decide) (by omega)
            omega
          · exact Int.mul_le_mul b.2 (by omega) (by omega) (by omega)
      obtain ⟨a, b, c⟩ := key (p + 1) hp
      have e : (10 : Int) ^ (p + 1) ≤ 1000000 := by
        have : p + 1 ≤ 6 := by omega
        match p, this with
        | 0, _ => decide
        | 1, _ => decide
        | 2, _ => decide
        | 3, _ => decide
        | 4, _ => decide
        | 5, _ => decide
        | p + 6, h => omega
      refine ⟨by omega, by omega, ?_⟩
      rw [c]
      omega
  have loop : ∀ (d p : Nat) (x9 x10 : Option AV), zlong x9 = false → p + d = (mem 110 46).toNat → 0 ≤ w ∧ w ≤ 3 → AW Γ mX11_morning (zF Γ zG Q) zG 0 0 27 [some (vR 109), some (vI w), some (vL (mornAt (mem 110) p).1), none, some (vL (mornAt (mem 110) p).2.1), none, some (vL (mornAt (mem 110) p).2.2), none, some (vI p), x9, x10] [] mem := by
    intro d
    induction d with
    | zero =>
      intro p x9 x10 z9 hp hok
      obtain rfl : p = (mem 110 46).toNat := by omega
      obtain ⟨r1, r2, r3⟩ := rng (mem 110 46).toNat (by omega)
      refine aw_iload dX11_morning_27 rfl rfl ?_
      refine aw_aload_n dX11_morning_29 rfl rfl ?_
      refine aw_getR dX11_morning_30 rfl fl_X11_7 g109 (by rfl) ?_
      refine aw_bipush dX11_morning_33 rfl (by decide) ?_
      refine aw_iaload dX11_morning_35 rfl g110 (by decide) (by omega) ?_
      refine aw_icmp_ge (tgt := 108) dX11_morning_36 (by decide) rfl (by omega) (by omega) (fun c36 => ?_) (fun c36 => ?_)
      · refine aw_iload_n dX11_morning_108 rfl rfl ?_
        refine aw_iconst dX11_morning_109 rfl ?_
        refine aw_icmp_ge (tgt := 132) dX11_morning_110 (by decide) rfl (by omega) (by omega) (fun c110 => ?_) (fun c110 => ?_)
        · refine aw_lload dX11_morning_132 rfl rfl ?_
          refine aw_lload dX11_morning_134 rfl rfl ?_
          refine aw_iload_n dX11_morning_136 rfl rfl ?_
          refine aw_iconst dX11_morning_137 rfl ?_
          refine aw_icmp_ne (tgt := 145) dX11_morning_138 (by decide) rfl (by omega) (by omega) (fun c138 => ?_) (fun c138 => ?_)
          · refine aw_iconst dX11_morning_145 rfl ?_
            refine aw_callS [_, _, _] _ dX11_morning_146 rfl cls_X11_279 (by decide) ⟨Nat.zero_le _, Nat.zero_le _⟩ (Nat.le_of_ble_eq_true rfl) rfl ?_
            refine sR_told (by omega) (by omega) (by omega) ?_
            refine aw_lreturn dX11_morning_149 rfl ?_
            first | exact q_eq k (by unfold morningM; rw [if_pos hok, if_pos (by omega), show w = 1 - 1 by omega]) rfl | exact q_eq k (by unfold morningM; rw [if_pos hok, if_pos (by omega), show w = 1 - 0 by omega]) rfl | exact q_eq k (by unfold morningM; rw [if_pos hok, if_neg (by omega), show w - 2 = 1 - 1 by omega]) rfl | exact q_eq k (by unfold morningM; rw [if_pos hok, if_neg (by omega), show w - 2 = 1 - 0 by omega]) rfl
          · refine aw_iconst dX11_morning_141 rfl ?_
            refine aw_goto (tgt := 146) dX11_morning_142 (by decide) ?_
            refine aw_callS [_, _, _] _ dX11_morning_146 rfl cls_X11_279 (by decide) ⟨Nat.zero_le _, Nat.zero_le _⟩ (Nat.le_of_ble_eq_true rfl) rfl ?_
            refine sR_told (by omega) (by omega) (by omega) ?_
            refine aw_lreturn dX11_morning_149 rfl ?_
            first | exact q_eq k (by unfold morningM; rw [if_pos hok, if_pos (by omega), show w = 1 - 1 by omega]) rfl | exact q_eq k (by unfold morningM; rw [if_pos hok, if_pos (by omega), show w = 1 - 0 by omega]) rfl | exact q_eq k (by unfold morningM; rw [if_pos hok, if_neg (by omega), show w - 2 = 1 - 1 by omega]) rfl | exact q_eq k (by unfold morningM; rw [if_pos hok, if_neg (by omega), show w - 2 = 1 - 0 by omega]) rfl
        · refine aw_lload_n dX11_morning_113 rfl rfl ?_
          refine aw_ldc2 (a := 10) dX11_morning_114 rfl lc_X11_290 (by decide) ?_
          refine aw_iload_n dX11_morning_117 rfl rfl ?_
          refine aw_if_ne (tgt := 125) dX11_morning_118 (by decide) rfl (by omega) (fun c118 => ?_) (fun c118 => ?_)
          · refine aw_iconst dX11_morning_125 rfl ?_
            refine aw_callS [_, _, _] _ dX11_morning_126 rfl cls_X11_279 (by decide) ⟨Nat.zero_le _, Nat.zero_le _⟩ (Nat.le_of_ble_eq_true rfl) rfl ?_
            refine sR_told (by omega) (by omega) (by omega) ?_
            refine aw_goto (tgt := 149) dX11_morning_129 (by decide) ?_
            refine aw_lreturn dX11_morning_149 rfl ?_
            first | exact q_eq k (by unfold morningM; rw [if_pos hok, if_pos (by omega), show w = 1 - 1 by omega]) rfl | exact q_eq k (by unfold morningM; rw [if_pos hok, if_pos (by omega), show w = 1 - 0 by omega]) rfl | exact q_eq k (by unfold morningM; rw [if_pos hok, if_neg (by omega), show w - 2 = 1 - 1 by omega]) rfl | exact q_eq k (by unfold morningM; rw [if_pos hok, if_neg (by omega), show w - 2 = 1 - 0 by omega]) rfl
          · refine aw_iconst dX11_morning_121 rfl ?_
            refine aw_goto (tgt := 126) dX11_morning_122 (by decide) ?_
            refine aw_callS [_, _, _] _ dX11_morning_126 rfl cls_X11_279 (by decide) ⟨Nat.zero_le _, Nat.zero_le _⟩ (Nat.le_of_ble_eq_true rfl) rfl ?_
            refine sR_told (by omega) (by omega) (by omega) ?_
            refine aw_goto (tgt := 149) dX11_morning_129 (by decide) ?_
            refine aw_lreturn dX11_morning_149 rfl ?_
            first | exact q_eq k (by unfold morningM; rw [if_pos hok, if_pos (by omega), show w = 1 - 1 by omega]) rfl | exact q_eq k (by unfold morningM; rw [if_pos hok, if_pos (by omega), show w = 1 - 0 by omega]) rfl | exact q_eq k (by unfold morningM; rw [if_pos hok, if_neg (by omega), show w - 2 = 1 - 1 by omega]) rfl | exact q_eq k (by unfold morningM; rw [if_pos hok, if_neg (by omega), show w - 2 = 1 - 0 by omega]) rfl
      · exfalso; omega
    | succ d ih =>
      intro p x9 x10 z9 hp hok
      obtain ⟨s0, s1, s2, -⟩ := hs p (by omega) (by omega)
      have ih2 := fun x9 x10 z => ih (p + 1) x9 x10 z (by omega) hok
      rw [mornAt] at ih2
      have seg : ∀ lo : Int, lo = (if mem 110 (47 + 8 * (p : Int) + 2) = -4 then 0 else 1 + 2 * (mem 110 (47 + 8 * (p : Int) + 2) % 3)) → AW Γ mX11_morning (zF Γ zG Q) zG 0 0 77 [some (vR 109), some (vI w), some (vL (mornAt (mem 110) p).1), none, some (vL (mornAt (mem 110) p).2.1), none, some (vL (mornAt (mem 110) p).2.2), none, some (vI p), some (vI (mem 110 (47 + 8 * (p : Int) + 2))), some (vI lo)] [] mem := by
        intro lo hlo
        rw [← hlo] at ih2
        have h2 : 0 ≤ lo ∧ lo ≤ 5 := by rw [hlo]; split <;> omega
        refine aw_lload_n dX11_morning_77 rfl rfl ?_
        refine aw_iload dX11_morning_78 rfl rfl ?_
        refine aw_i2l dX11_morning_80 rfl (by omega) ?_
        refine aw_ladd dX11_morning_81 rfl ?_
        refine aw_lstore2 rfl dX11_morning_82 rfl (by decide) ?_
        refine aw_lload dX11_morning_83 rfl rfl ?_
        refine aw_bipush dX11_morning_85 rfl (by decide) ?_
        refine aw_iload dX11_morning_87 rfl rfl ?_
        refine aw_isub dX11_morning_89 rfl ?_
        refine aw_i2l dX11_morning_90 rfl (by omega) ?_
        refine aw_lmul dX11_morning_91 rfl ?_
        refine aw_lstore4 rfl dX11_morning_92 rfl (by decide) ?_
        refine aw_lload dX11_morning_94 rfl rfl ?_
        refine aw_ldc2 (a := 10) dX11_morning_96 rfl lc_X11_290 (by decide) ?_
        refine aw_lmul dX11_morning_99 rfl ?_
        refine aw_lstore6 rfl dX11_morning_100 rfl (by decide) ?_
        refine aw_iinc8 rfl dX11_morning_102 rfl (by decide) ?_
        refine aw_goto (tgt := 27) dX11_morning_105 (by decide) ?_
        exact ih2 _ _ rfl
      refine aw_iload dX11_morning_27 rfl rfl ?_
      refine aw_aload_n dX11_morning_29 rfl rfl ?_
      refine aw_getR dX11_morning_30 rfl fl_X11_7 g109 (by rfl) ?_
      refine aw_bipush dX11_morning_33 rfl (by decide) ?_
      refine aw_iaload dX11_morning_35 rfl g110 (by decide) (by omega) ?_
      refine aw_icmp_ge (tgt := 108) dX11_morning_36 (by decide) rfl (by omega) (by omega) (fun c36 => ?_) (fun c36 => ?_)
      · exfalso; omega
      · refine aw_aload_n dX11_morning_39 rfl rfl ?_
        refine aw_getR dX11_morning_40 rfl fl_X11_7 g109 (by rfl) ?_
        refine aw_bipush dX11_morning_43 rfl (by decide) ?_
        refine aw_bipush dX11_morning_45 rfl (by decide) ?_
        refine aw_iload dX11_morning_47 rfl rfl ?_
        refine aw_imul dX11_morning_49 rfl ?_
        refine aw_iadd dX11_morning_50 rfl ?_
        refine aw_iconst dX11_morning_51 rfl ?_
        refine aw_iadd dX11_morning_52 rfl ?_
        refine aw_iaload dX11_morning_53 rfl g110 (by decide) (by omega) ?_
        refine aw_istore9 rfl dX11_morning_54 rfl (by decide) ?_
        refine aw_iload dX11_morning_56 rfl rfl ?_
        refine aw_bipush dX11_morning_58 rfl (by decide) ?_
        refine aw_icmp_ne (tgt := 67) dX11_morning_60 (by decide) rfl (by omega) (by omega) (fun c60 => ?_) (fun c60 => ?_)
        · refine aw_iconst dX11_morning_67 rfl ?_
          refine aw_iconst dX11_morning_68 rfl ?_
          refine aw_iload dX11_morning_69 rfl rfl ?_
          refine aw_iconst dX11_morning_71 rfl ?_
          refine aw_irem dX11_morning_72 rfl (by omega) (by omega) ?_
          refine aw_imul dX11_morning_73 rfl ?_
          refine aw_iadd dX11_morning_74 rfl ?_
          refine aw_istore10 rfl dX11_morning_75 rfl (by decide) ?_
          first | (have hz := (if_pos c60 : (if mem 110 (47 + 8 * (p : Int) + 2) = -4 then (0 : Int) else 1 + 2 * (mem 110 (47 + 8 * (p : Int) + 2) % 3)) = _); exact seg _ hz.symm) | (have hz := (if_neg c60 : (if mem 110 (47 + 8 * (p : Int) + 2) = -4 then (0 : Int) else 1 + 2 * (mem 110 (47 + 8 * (p : Int) + 2) % 3)) = _); exact seg _ hz.symm)
        · refine aw_iconst dX11_morning_63 rfl ?_
          refine aw_goto (tgt := 75) dX11_morning_64 (by decide) ?_
          refine aw_istore10 rfl dX11_morning_75 rfl (by decide) ?_
          first | (have hz := (if_pos c60 : (if mem 110 (47 + 8 * (p : Int) + 2) = -4 then (0 : Int) else 1 + 2 * (mem 110 (47 + 8 * (p : Int) + 2) % 3)) = _); exact seg _ hz.symm) | (have hz := (if_neg c60 : (if mem 110 (47 + 8 * (p : Int) + 2) = -4 then (0 : Int) else 1 + 2 * (mem 110 (47 + 8 * (p : Int) + 2) % 3)) = _); exact seg _ hz.symm)
  refine AMet.of' 9 (ls := [some (vR (109)), some (vI (w)), none, none, none, none, none, none, none, none, none]) (by decide) rfl (Nat.le_of_ble_eq_true rfl) ?_
  refine aw_iload_n dX11_morning_0 rfl rfl ?_
  refine aw_i2l dX11_morning_1 rfl (by omega) ?_
  refine aw_lconst (a := 0) dX11_morning_2 rfl (by decide) ?_
  refine aw_ldc2 (a := 3) dX11_morning_3 rfl lc_X11_288 (by decide) ?_
  refine aw_callS [_, _, _] _ dX11_morning_6 rfl cls_X11_78 (by decide) ⟨Nat.zero_le _, Nat.zero_le _⟩ (Nat.le_of_ble_eq_true rfl) rfl ?_
  refine sR_in (by omega) (by omega) (by omega) (fun c6 => ?_) (fun c6 => ?_)
  · refine aw_if_ne (tgt := 16) dX11_morning_9 (by decide) rfl (by omega) (fun _ => ?_) (fun c => absurd c (by decide))
    refine aw_lconst (a := 0) dX11_morning_16 rfl (by decide) ?_
    refine aw_lstore2 rfl dX11_morning_17 rfl (by decide) ?_
    refine aw_lconst (a := 1) dX11_morning_18 rfl (by decide) ?_
    refine aw_lstore4 rfl dX11_morning_19 rfl (by decide) ?_
    refine aw_lconst (a := 1) dX11_morning_21 rfl (by decide) ?_
    refine aw_lstore6 rfl dX11_morning_22 rfl (by decide) ?_
    refine aw_iconst dX11_morning_24 rfl ?_
    refine aw_istore8 rfl dX11_morning_25 rfl (by decide) ?_
    exact loop (mem 110 46).toNat 0 none none rfl (by omega) (by omega)
  · refine aw_if_ne (tgt := 16) dX11_morning_9 (by decide) rfl (by omega) (fun c => absurd c (by decide)) (fun _ => ?_)
    refine aw_ldc2 (a := -1) dX11_morning_12 rfl lc_X11_270 (by decide) ?_
    refine aw_lreturn dX11_morning_15 rfl ?_
    exact q_eq k (by unfold morningM; rw [if_neg (by omega)]) rfl
theorem sR_drift {n seed c w : Int} (h : Wf n (mem 110)) (hm : mem 109 3 = n) (hc : -2147483648 ≤ c ∧ c ≤ 2147483647) (hw : -2147483648 ≤ w ∧ w ≤ 2147483647) (k : ∀ g, Q (some (vI (driftM n (mem 110) seed c w))) (mcell mem 111 g)) : AMet Γ mX11_drift [vR 109, vI seed, vI c, vI w] zG mem Q := by
  have h46 := h.2.2.2.2.2.2.1
  have loop : ∀ (d i : Nat) (x6 x7 : Option AV), zlong x6 = false → (i : Int) + d = c → (1 ≤ c ∧ c ≤ 60) ∧ (0 ≤ w ∧ w ≤ 1) → ¬ mem 110 46 = 0 → AW Γ mX11_drift (zF Γ zG Q) zG 0 0 47 [some (vR 109), some (vI seed), some (vI c), some (vI w), some (vI (driftAt n (mem 110) seed i).1), some (vI i), x6, x7] [] (mcell mem 111 (driftAt n (mem 110) seed i).2) := by
    intro d
    induction d with
    | zero =>
      intro i x6 x7 z6 hi hok h0
      obtain ⟨w1, w2⟩ := drift_Wf (seed := seed) h h0 i
      have e : i = c.toNat := by omega
      refine aw_iload dX11_drift_47 rfl rfl ?_
      refine aw_iload_n dX11_drift_49 rfl rfl ?_
      refine aw_icmp_ge (tgt := 169) dX11_drift_50 (by decide) rfl (by omega) (by omega) (fun c50 => ?_) (fun c50 => ?_)
      · refine aw_iload_n dX11_drift_169 rfl rfl ?_
        refine aw_if_ne (tgt := 180) dX11_drift_170 (by decide) rfl (by omega) (fun c170 => ?_) (fun c170 => ?_)
        · refine aw_aload_n dX11_drift_180 rfl rfl ?_
          refine aw_callV [] _ dX11_drift_181 rfl clv_X11_293 (by decide) ⟨Nat.zero_le _, Nat.zero_le _⟩ g109 (by rfl) (Nat.le_of_ble_eq_true rfl) rfl ?_
          refine sR_blacks (n := n) (by rw [mcell_same]; exact w1) ?_
          refine aw_ireturn (ty := .int) dX11_drift_184 rfl rfl ?_
          first | exact q_eq (k _) (by unfold driftM; rw [if_pos hok, if_neg h0, if_pos c170, ← e, mcell_same, w2]) rfl | exact q_eq (k _) (by unfold driftM; rw [if_pos hok, if_neg h0, if_neg c170, ← e, mcell_same, w2]) rfl
        · refine aw_aload_n dX11_drift_173 rfl rfl ?_
          refine aw_callV [] _ dX11_drift_174 rfl clv_X11_241 (by decide) ⟨Nat.zero_le _, Nat.zero_le _⟩ g109 (by rfl) (Nat.le_of_ble_eq_true rfl) rfl ?_
          refine sR_goods (n := n) (by rw [mcell_same]; exact w1) ?_
          refine aw_goto (tgt := 184) dX11_drift_177 (by decide) ?_
          refine aw_ireturn (ty := .int) dX11_drift_184 rfl rfl ?_
          first | exact q_eq (k _) (by unfold driftM; rw [if_pos hok, if_neg h0, if_pos c170, ← e, mcell_same, w2]) rfl | exact q_eq (k _) (by unfold driftM; rw [if_pos hok, if_neg h0, if_neg c170, ← e, mcell_same, w2]) rfl
      · exfalso; omega
    | succ d ih =>
      intro i x6 x7 z6 hi hok h0
      obtain ⟨w1, w2⟩ := drift_Wf (seed := seed) h h0 i
      have ih2 := fun x6 x7 z => ih (i + 1) x6 x7 z (by push_cast; omega) hok h0
      rw [driftAt] at ih2
      have b1 := bitsF_rng (seedF (driftAt n (mem 110) seed i).1)
      have b2 := bitsF_rng (seedF (seedF (driftAt n (mem 110) seed i).1))
      have p1 := emod_rng (a := bitsF (seedF (driftAt n (mem 110) seed i).1)) (b := mem 110 46) (by omega)
      have p2 := emod_rng (a := bitsF (seedF (seedF (driftAt n (mem 110) seed i).1))) (b := 3) (by omega)
      obtain ⟨s0, s1, s2, s3, s4, s5, s6, s7⟩ := w1.2.2.2.2.2.2.2.1 (bitsF (seedF (driftAt n (mem 110) seed i).1) % mem 110 46) p1.1 (by rw [w2]; exact p1.2)
      have seg : ∀ (g : Int → Int), g = meddleF (driftAt n (mem 110) seed i).2 (bitsF (seedF (driftAt n (mem 110) seed i).1) % mem 110 46) (bitsF (seedF (seedF (driftAt n (mem 110) seed i).1)) % 3) → AW Γ mX11_drift (zF Γ zG Q) zG 0 0 159 [some (vR 109), some (vI seed), some (vI c), some (vI w), some (vI (seedF (seedF (driftAt n (mem 110) seed i).1))), some (vI i), some (vI (bitsF (seedF (driftAt n (mem 110) seed i).1) % mem 110 46)), some (vI (bitsF (seedF (seedF (driftAt n (mem 110) seed i).1)) % 3))] [] (mcell mem 111 g) := by
        intro g hg
        rw [← hg] at ih2
        have hgw := (meddle_Wf (d := bitsF (seedF (seedF (driftAt n (mem 110) seed i).1)) % 3) w1 (p := bitsF (seedF (driftAt n (mem 110) seed i).1) % mem 110 46) (by rw [w2]; exact p1)).1
        rw [← hg] at hgw
        refine aw_aload_n dX11_drift_159 rfl rfl ?_
        refine aw_callV [] _ dX11_drift_160 rfl clv_X11_196 (by decide) ⟨Nat.zero_le _, Nat.zero_le _⟩ g109 (by rfl) (Nat.le_of_ble_eq_true rfl) rfl ?_
        refine sR_rounds (n := n) (by rw [mcell_same]; exact hgw) hm ?_
        rw [mcell_same, mcell_mcell]
        refine aw_iinc5 rfl dX11_drift_163 rfl (by decide) ?_
        refine aw_goto (tgt := 47) dX11_drift_166 (by decide) ?_
        exact ih2 _ _ rfl
      refine aw_iload dX11_drift_47 rfl rfl ?_
      refine aw_iload_n dX11_drift_49 rfl rfl ?_
      refine aw_icmp_ge (tgt := 169) dX11_drift_50 (by decide) rfl (by omega) (by omega) (fun c50 => ?_) (fun c50 => ?_)
      · exfalso; omega
      · refine aw_iload dX11_drift_53 rfl rfl ?_
        refine aw_ldcw (a := 1103515245) dX11_drift_55 rfl lc_X11_292 (by decide) ?_
        refine aw_imul dX11_drift_58 rfl ?_
        refine aw_sipush dX11_drift_59 rfl (by decide) ?_
        refine aw_iadd dX11_drift_62 rfl ?_
        refine aw_istore4 rfl dX11_drift_63 rfl (by decide) ?_
        rw [show (driftAt n (mem 110) seed i).1 * 1103515245 + 12345 = seedF (driftAt n (mem 110) seed i).1 from rfl]
        refine aw_iload dX11_drift_65 rfl rfl ?_
        refine aw_bipush dX11_drift_67 rfl (by decide) ?_
        refine aw_ishr dX11_drift_69 rfl ?_
        refine aw_sipush dX11_drift_70 rfl (by decide) ?_
        refine aw_iand dX11_drift_73 rfl ?_
        rw [show zand (zshr (seedF (driftAt n (mem 110) seed i).1) 16) 32767 = bitsF (seedF (driftAt n (mem 110) seed i).1) from rfl]
        refine aw_aload_n dX11_drift_74 rfl rfl ?_
        refine aw_getR dX11_drift_75 rfl fl_X11_7 g109 (by rfl) ?_
        refine aw_bipush dX11_drift_78 rfl (by decide) ?_
        refine aw_iaload dX11_drift_80 rfl g110 (by decide) (by omega) ?_
        try simp only [mcell_ap, mset_ap, Nat.reduceEqDiff, reduceIte]
        refine aw_irem dX11_drift_81 rfl (by omega) (by omega) ?_
        refine aw_istore6 rfl dX11_drift_82 rfl (by decide) ?_
        refine aw_iload dX11_drift_84 rfl rfl ?_
        refine aw_ldcw (a := 1103515245) dX11_drift_86 rfl lc_X11_292 (by decide) ?_
        refine aw_imul dX11_drift_89 rfl ?_
        refine aw_sipush dX11_drift_90 rfl (by decide) ?_
        refine aw_iadd dX11_drift_93 rfl ?_
        refine aw_istore4 rfl dX11_drift_94 rfl (by decide) ?_
        rw [show seedF (driftAt n (mem 110) seed i).1 * 1103515245 + 12345 = seedF (seedF (driftAt n (mem 110) seed i).1) from rfl]
        refine aw_iload dX11_drift_96 rfl rfl ?_
        refine aw_bipush dX11_drift_98 rfl (by decide) ?_
        refine aw_ishr dX11_drift_100 rfl ?_
        refine aw_sipush dX11_drift_101 rfl (by decide) ?_
        refine aw_iand dX11_drift_104 rfl ?_
        rw [show zand (zshr (seedF (seedF (driftAt n (mem 110) seed i).1)) 16) 32767 = bitsF (seedF (seedF (driftAt n (mem 110) seed i).1)) from rfl]
        refine aw_iconst dX11_drift_105 rfl ?_
        refine aw_irem dX11_drift_106 rfl (by omega) (by omega) ?_
        refine aw_istore7 rfl dX11_drift_107 rfl (by decide) ?_
        refine aw_iload dX11_drift_109 rfl rfl ?_
        refine aw_if_ne (tgt := 135) dX11_drift_111 (by decide) rfl (by omega) (fun c111 => ?_) (fun c111 => ?_)
        · refine aw_iload dX11_drift_135 rfl rfl ?_
          refine aw_iconst dX11_drift_137 rfl ?_
          refine aw_icmp_ne (tgt := 159) dX11_drift_138 (by decide) rfl (by omega) (by omega) (fun c138 => ?_) (fun c138 => ?_)
          · first | (have hz := c144; first | (rw [mset_mcell]; exact seg _ (by unfold meddleF; rw [if_neg c111, if_pos ⟨c138, hz⟩])) | exact seg _ (by unfold meddleF; rw [if_neg c111, if_neg (fun z => hz z.2)])) | (have hz := c138; exact seg _ (by unfold meddleF; rw [if_neg c111, if_neg (fun z => hz z.1)])) | exact seg _ (by unfold meddleF; rw [if_pos c111]; rfl)
          · refine aw_aload_n dX11_drift_141 rfl rfl ?_
            refine aw_iload dX11_drift_142 rfl rfl ?_
            refine aw_callV [_] _ dX11_drift_144 rfl clv_X11_199 (by decide) ⟨Nat.zero_le _, Nat.zero_le _⟩ g109 (by rfl) (Nat.le_of_ble_eq_true rfl) rfl ?_
            refine sR_isDone (by omega) (by rw [mcell_same]; exact ⟨by omega, by omega⟩) (by rw [mcell_same]; exact s3) (fun c144 => ?_) (fun c144 => ?_)
            · rw [mcell_same] at c144
              refine aw_if_eq (tgt := 159) dX11_drift_147 (by decide) rfl (by omega) (fun c => absurd c (by decide)) (fun _ => ?_)
              refine aw_aload_n dX11_drift_150 rfl rfl ?_
              refine aw_iload dX11_drift_151 rfl rfl ?_
              refine aw_iconst dX11_drift_153 rfl ?_
              refine aw_bipush dX11_drift_154 rfl (by decide) ?_
              refine aw_callV [_, _, _] _ dX11_drift_156 rfl clv_X11_179 (by decide) ⟨Nat.zero_le _, Nat.zero_le _⟩ g109 (by rfl) (Nat.le_of_ble_eq_true rfl) rfl ?_
              refine sR_becomesOf (by omega) ?_
              first | (have hz := c144; first | (rw [mset_mcell]; exact seg _ (by unfold meddleF; rw [if_neg c111, if_pos ⟨c138, hz⟩])) | exact seg _ (by unfold meddleF; rw [if_neg c111, if_neg (fun z => hz z.2)])) | (have hz := c138; exact seg _ (by unfold meddleF; rw [if_neg c111, if_neg (fun z => hz z.1)])) | exact seg _ (by unfold meddleF; rw [if_pos c111]; rfl)
            · rw [mcell_same] at c144
              refine aw_if_eq (tgt := 159) dX11_drift_147 (by decide) rfl (by omega) (fun _ => ?_) (fun c => absurd c (by decide))
              first | (have hz := c144; first | (rw [mset_mcell]; exact seg _ (by unfold meddleF; rw [if_neg c111, if_pos ⟨c138, hz⟩])) | exact seg _ (by unfold meddleF; rw [if_neg c111, if_neg (fun z => hz z.2)])) | (have hz := c138; exact seg _ (by unfold meddleF; rw [if_neg c111, if_neg (fun z => hz z.1)])) | exact seg _ (by unfold meddleF; rw [if_pos c111]; rfl)
        · refine aw_aload_n dX11_drift_114 rfl rfl ?_
          refine aw_iload dX11_drift_115 rfl rfl ?_
          refine aw_bipush dX11_drift_117 rfl (by decide) ?_
          refine aw_iconst dX11_drift_119 rfl ?_
          refine aw_aload_n dX11_drift_120 rfl rfl ?_
          refine aw_iload dX11_drift_121 rfl rfl ?_
          refine aw_bipush dX11_drift_123 rfl (by decide) ?_
          refine aw_callV [_, _] _ dX11_drift_125 rfl clv_X11_173 (by decide) ⟨Nat.zero_le _, Nat.zero_le _⟩ g109 (by rfl) (Nat.le_of_ble_eq_true rfl) rfl ?_
          refine sR_of (by omega) ?_
          rw [mcell_same]
          refine aw_isub dX11_drift_128 rfl ?_
          refine aw_callV [_, _, _] _ dX11_drift_129 rfl clv_X11_179 (by decide) ⟨Nat.zero_le _, Nat.zero_le _⟩ g109 (by rfl) (Nat.le_of_ble_eq_true rfl) rfl ?_
          refine sR_becomesOf (by omega) ?_
          rw [mset_mcell]
          refine aw_goto (tgt := 159) dX11_drift_132 (by decide) ?_
          first | (have hz := c144; first | (rw [mset_mcell]; exact seg _ (by unfold meddleF; rw [if_neg c111, if_pos ⟨c138, hz⟩])) | exact seg _ (by unfold meddleF; rw [if_neg c111, if_neg (fun z => hz z.2)])) | (have hz := c138; exact seg _ (by unfold meddleF; rw [if_neg c111, if_neg (fun z => hz z.1)])) | exact seg _ (by unfold meddleF; rw [if_pos c111]; rfl)
  refine AMet.of' 4 (ls := [some (vR (109)), some (vI (seed)), some (vI (c)), some (vI (w)), none, none, none, none]) (by decide) rfl (Nat.le_of_ble_eq_true rfl) ?_
  refine aw_iload_n dX11_drift_0 rfl rfl ?_
  refine aw_i2l dX11_drift_1 rfl (by omega) ?_
  refine aw_lconst (a := 1) dX11_drift_2 rfl (by decide) ?_
  refine aw_ldc2 (a := 60) dX11_drift_3 rfl lc_X11_236 (by decide) ?_
  refine aw_callS [_, _, _] _ dX11_drift_6 rfl cls_X11_78 (by decide) ⟨Nat.zero_le _, Nat.zero_le _⟩ (Nat.le_of_ble_eq_true rfl) rfl ?_
  refine sR_in (by omega) (by omega) (by omega) (fun c6 => ?_) (fun c6 => ?_)
  · refine aw_if_eq (tgt := 22) dX11_drift_9 (by decide) rfl (by omega) (fun c => absurd c (by decide)) (fun _ => ?_)
    refine aw_iload_n dX11_drift_12 rfl rfl ?_
    refine aw_i2l dX11_drift_13 rfl (by omega) ?_
    refine aw_lconst (a := 0) dX11_drift_14 rfl (by decide) ?_
    refine aw_lconst (a := 1) dX11_drift_15 rfl (by decide) ?_
    refine aw_callS [_, _, _] _ dX11_drift_16 rfl cls_X11_78 (by decide) ⟨Nat.zero_le _, Nat.zero_le _⟩ (Nat.le_of_ble_eq_true rfl) rfl ?_
    refine sR_in (by omega) (by omega) (by omega) (fun c16 => ?_) (fun c16 => ?_)
    · refine aw_if_ne (tgt := 24) dX11_drift_19 (by decide) rfl (by omega) (fun _ => ?_) (fun c => absurd c (by decide))
      refine aw_aload_n dX11_drift_24 rfl rfl ?_
      refine aw_getR dX11_drift_25 rfl fl_X11_7 g109 (by rfl) ?_
      refine aw_bipush dX11_drift_28 rfl (by decide) ?_
      refine aw_iaload dX11_drift_30 rfl g110 (by decide) (by omega) ?_
      refine aw_if_ne (tgt := 37) dX11_drift_31 (by decide) rfl (by omega) (fun c31 => ?_) (fun c31 => ?_)
      · refine aw_aload_n dX11_drift_37 rfl rfl ?_
        refine aw_callV [] _ dX11_drift_38 rfl clv_X11_222 (by decide) ⟨Nat.zero_le _, Nat.zero_le _⟩ g109 (by rfl) (Nat.le_of_ble_eq_true rfl) rfl ?_
        refine sR_starts2 ?_
        refine aw_iload_n dX11_drift_41 rfl rfl ?_
        refine aw_istore4 rfl dX11_drift_42 rfl (by decide) ?_
        refine aw_iconst dX11_drift_44 rfl ?_
        refine aw_istore5 rfl dX11_drift_45 rfl (by decide) ?_
        exact loop c.toNat 0 none none rfl (by omega) (by omega) c31
      · refine aw_bipush dX11_drift_34 rfl (by decide) ?_
        refine aw_ireturn (ty := .int) dX11_drift_36 rfl rfl ?_
        exact q_eq (k (mem 111)) (by unfold driftM; rw [if_pos (by omega), if_pos c31]) mcell_self
    · refine aw_if_ne (tgt := 24) dX11_drift_19 (by decide) rfl (by omega) (fun c => absurd c (by decide)) (fun _ => ?_)
      refine aw_iconst dX11_drift_22 rfl ?_
      refine aw_ireturn (ty := .int) dX11_drift_23 rfl rfl ?_
      exact q_eq (k (mem 111)) (by unfold driftM; rw [if_neg (by omega)]) mcell_self
  · refine aw_if_eq (tgt := 22) dX11_drift_9 (by decide) rfl (by omega) (fun _ => ?_) (fun c => absurd c (by decide))
    refine aw_iconst dX11_drift_22 rfl ?_
    refine aw_ireturn (ty := .int) dX11_drift_23 rfl rfl ?_
    exact q_eq (k (mem 111)) (by unfold driftM; rw [if_neg (by omega)]) mcell_self
end ZRef13
