section ZCmp12
variable {Γ : ZG} {mem : Mem} {Q : Option AV → Mem → Prop} {n : Int} {f : Int → Int}
theorem sC_morning {w : Int} (wf : Wf n f) (h : Ev mem 1 n f) (hw : -2147483648 ≤ w ∧ w ≤ 2147483647) (k : Q (some (vL (morningM f w))) mem) : AMet Γ mX10_morning [vR 0, vI w] zG mem Q := by
  have a2 : mem 1 2 = f 46 := h.2.1.1
  have w46 := wf.n46
  have hs6 : ∀ p : Nat, (p : Int) < f 46 → f (47 + 8 * (p : Int) + 2) = -4 ∨ (0 ≤ f (47 + 8 * (p : Int) + 2) ∧ f (47 + 8 * (p : Int) + 2) < 24) := by
    intro p hp
    have := (wf.sp hp).2.2.1
    have := wf.1
    omega
  unfold morningM at k
  have loop : (0 ≤ w ∧ w ≤ 3) → ∀ (d p : Nat) (t a b c : Int) (x9 x10 : Option AV), (p : Int) + d = f 46 → t = (mornAt f p).1 → (mornAt f p).2.1 = c * a → (mornAt f p).2.2 = c * b → 0 < c → (0 ≤ t ∧ t ≤ 5 * p) → (1 ≤ a ∧ a ≤ 10 ^ p) → (1 ≤ b ∧ b ≤ 10 ^ p) → AW Γ mX10_morning (zF Γ zG Q) zG 0 0 24 [some (vR 0), some (vI w), some (vL t), none, some (vL a), none, some (vL b), none, some (vI p), x9, x10] [] mem := by
    intro hw3 d
    rw [if_pos hw3] at k
    induction d with
    | zero =>
      intro p t a b c x9 x10 hp et ea eb hc rt ra rb
      have e : (f 46).toNat = p := by omega
      rw [e] at k
      have p6 : (10 : Int) ^ p ≤ 1000000 := by
        have hp6 : p ≤ 6 := by omega
        have hz : ∀ p : Fin 7, (10 : Int) ^ p.val ≤ 1000000 := by decide
        exact hz ⟨p, by omega⟩
      refine aw_iload dX10_morning_24 rfl rfl ?_
      refine aw_aload_n dX10_morning_26 rfl rfl ?_
      refine aw_getR dX10_morning_27 rfl fl_X10_12 g0 (by rfl) ?_
      refine aw_getI (kI := 2) dX10_morning_30 rfl fl_X10_126 g1 (by rfl) rfl ?_
      rw [a2]
      refine aw_icmp_ge (tgt := 99) dX10_morning_33 (by decide) rfl (by omega) (by omega) (fun c33 => ?_) (fun c33 => ?_)
      · refine aw_iload_n dX10_morning_99 rfl rfl ?_
        refine aw_iconst dX10_morning_100 rfl ?_
        refine aw_icmp_ge (tgt := 115) dX10_morning_101 (by decide) rfl (by omega) (by omega) (fun c101 => ?_) (fun c101 => ?_)
        · refine aw_lload dX10_morning_115 rfl rfl ?_
          refine aw_lload dX10_morning_117 rfl rfl ?_
          refine aw_iload_n dX10_morning_119 rfl rfl ?_
          refine aw_iconst dX10_morning_120 rfl ?_
          refine aw_isub dX10_morning_121 rfl ?_
          refine aw_callS [_, _, _] _ dX10_morning_122 rfl cls_X10_301 (by decide) ⟨Nat.zero_le _, Nat.zero_le _⟩ (Nat.le_of_ble_eq_true rfl) rfl ?_
          refine sC_fractionPart (by omega) (by omega) (by omega) ?_
          refine aw_lreturn dX10_morning_125 rfl ?_
          first | (rw [if_pos (by omega)] at k; rw [et]; exact k) | (rw [if_neg (by omega), ea, eb, ratM_scale hc (by omega)] at k; exact k)
        · refine aw_lload_n dX10_morning_104 rfl rfl ?_
          refine aw_ldc2 (a := 10) dX10_morning_105 rfl lc_X10_319 (by decide) ?_
          refine aw_iload_n dX10_morning_108 rfl rfl ?_
          refine aw_callS [_, _, _] _ dX10_morning_109 rfl cls_X10_301 (by decide) ⟨Nat.zero_le _, Nat.zero_le _⟩ (Nat.le_of_ble_eq_true rfl) rfl ?_
          refine sC_fractionPart (by omega) (by omega) (by omega) ?_
          refine aw_goto (tgt := 125) dX10_morning_112 (by decide) ?_
          refine aw_lreturn dX10_morning_125 rfl ?_
          first | (rw [if_pos (by omega)] at k; rw [et]; exact k) | (rw [if_neg (by omega), ea, eb, ratM_scale hc (by omega)] at k; exact k)
      · exfalso; omega
    | succ d ih =>
      intro p t a b c x9 x10 hp et ea eb hc rt ra rb
      push_cast at hp
      have gp := E1.2.2.2.2.2.2 p (by omega)
      unfold SpG at gp
      have hpl : mem (1 + 10 + p) 2 = f (47 + 8 * (p : Int) + 2) := (h.2.2.1 p (by omega)).2.2.1
      have rpl := hs6 p (by omega)
      have pw : (10 : Int) ^ (p + 1) = 10 ^ p * 10 := Int.pow_succ ..
      have ihn := fun t a b c x9 x10 => ih (p + 1) t a b c x9 x10 (by push_cast; omega)
      rw [mornAt, pw] at ihn
      push_cast at ihn
      try dsimp only at ihn
      refine aw_iload dX10_morning_24 rfl rfl ?_
      refine aw_aload_n dX10_morning_26 rfl rfl ?_
      refine aw_getR dX10_morning_27 rfl fl_X10_12 g0 (by rfl) ?_
      refine aw_getI (kI := 2) dX10_morning_30 rfl fl_X10_126 g1 (by rfl) rfl ?_
      rw [a2]
      refine aw_icmp_ge (tgt := 99) dX10_morning_33 (by decide) rfl (by omega) (by omega) (fun c33 => ?_) (fun c33 => ?_)
      · exfalso; omega
      · refine aw_aload_n dX10_morning_36 rfl rfl ?_
        refine aw_getR dX10_morning_37 rfl fl_X10_12 g0 (by rfl) ?_
        refine aw_getR dX10_morning_40 rfl fl_X10_151 g1 (by rfl) ?_
        refine aw_iload dX10_morning_43 rfl rfl ?_
        refine aw_aaload dX10_morning_45 rfl g7 six_len (by omega) (six_getN (b := 1) (by omega)) ?_
        refine aw_getI (kI := 2) dX10_morning_46 rfl fl_X10_181 (by first | assumption | rfl) (by rfl) rfl ?_
        rw [hpl]
        refine aw_istore9 rfl dX10_morning_49 rfl (by decide) ?_
        refine aw_iload dX10_morning_51 rfl rfl ?_
        refine aw_bipush dX10_morning_53 rfl (by decide) ?_
        refine aw_icmp_eq (tgt := 93) dX10_morning_55 (by decide) rfl (by omega) (by omega) (fun c55 => ?_) (fun c55 => ?_)
        · refine aw_iinc8 rfl dX10_morning_93 rfl (by decide) ?_
          refine aw_goto (tgt := 24) dX10_morning_96 (by decide) ?_
          first | (rw [if_pos c55] at ihn; exact ihn t a b (c * 10) _ _ (by omega) (by rw [ea]; simp only [Int.sub_zero]; rw [Int.mul_right_comm]) (by rw [eb, Int.mul_right_comm]) (by omega) (by omega) (by omega) (by omega)) | (rw [if_neg c55] at ihn; refine ihn _ _ _ c _ _ (by omega) (by rw [ea, Int.mul_assoc]) (by rw [eb, Int.mul_assoc]) hc (by omega) ⟨?_, ?_⟩ (by omega); (have := Int.mul_le_mul ra.1 (show (1 : Int) ≤ 10 - (1 + 2 * (f (47 + 8 * (p : Int) + 2) % 3)) by omega) (by decide) (by omega); omega); exact Int.mul_le_mul ra.2 (by omega) (by omega) (by omega))
        · have mr := emod_rng (a := f (47 + 8 * (p : Int) + 2)) (b := 3) (by omega)
          refine aw_iconst dX10_morning_58 rfl ?_
          refine aw_iconst dX10_morning_59 rfl ?_
          refine aw_iload dX10_morning_60 rfl rfl ?_
          refine aw_iconst dX10_morning_62 rfl ?_
          refine aw_irem dX10_morning_63 rfl (by omega) (by omega) ?_
          refine aw_imul dX10_morning_64 rfl ?_
          refine aw_iadd dX10_morning_65 rfl ?_
          refine aw_istore10 rfl dX10_morning_66 rfl (by decide) ?_
          refine aw_lload_n dX10_morning_68 rfl rfl ?_
          refine aw_iload dX10_morning_69 rfl rfl ?_
          refine aw_i2l dX10_morning_71 rfl (by omega) ?_
          refine aw_ladd dX10_morning_72 rfl ?_
          refine aw_lstore2 rfl dX10_morning_73 rfl (by decide) ?_
          refine aw_lload dX10_morning_74 rfl rfl ?_
          refine aw_bipush dX10_morning_76 rfl (by decide) ?_
          refine aw_iload dX10_morning_78 rfl rfl ?_
          refine aw_isub dX10_morning_80 rfl ?_
          refine aw_i2l dX10_morning_81 rfl (by omega) ?_
          refine aw_lmul dX10_morning_82 rfl ?_
          refine aw_lstore4 rfl dX10_morning_83 rfl (by decide) ?_
          refine aw_lload dX10_morning_85 rfl rfl ?_
          refine aw_ldc2 (a := 10) dX10_morning_87 rfl lc_X10_319 (by decide) ?_
          refine aw_lmul dX10_morning_90 rfl ?_
          refine aw_lstore6 rfl dX10_morning_91 rfl (by decide) ?_
          refine aw_iinc8 rfl dX10_morning_93 rfl (by decide) ?_
          refine aw_goto (tgt := 24) dX10_morning_96 (by decide) ?_
          first | (rw [if_pos c55] at ihn; exact ihn t a b (c * 10) _ _ (by omega) (by rw [ea]; simp only [Int.sub_zero]; rw [Int.mul_right_comm]) (by rw [eb, Int.mul_right_comm]) (by omega) (by omega) (by omega) (by omega)) | (rw [if_neg c55] at ihn; refine ihn _ _ _ c _ _ (by omega) (by rw [ea, Int.mul_assoc]) (by rw [eb, Int.mul_assoc]) hc (by omega) ⟨?_, ?_⟩ (by omega); (have := Int.mul_le_mul ra.1 (show (1 : Int) ≤ 10 - (1 + 2 * (f (47 + 8 * (p : Int) + 2) % 3)) by omega) (by decide) (by omega); omega); exact Int.mul_le_mul ra.2 (by omega) (by omega) (by omega))
  refine AMet.of' 9 (ls := [some (vR (0)), some (vI (w)), none, none, none, none, none, none, none, none, none]) (by decide) rfl (Nat.le_of_ble_eq_true rfl) ?_
  refine aw_iload_n dX10_morning_0 rfl rfl ?_
  refine aw_if_lt (tgt := 9) dX10_morning_1 (by decide) rfl (by omega) (fun c1 => ?_) (fun c1 => ?_)
  · refine aw_ldc2 (a := -1) dX10_morning_9 rfl lc_X10_287 (by decide) ?_
    refine aw_lreturn dX10_morning_12 rfl ?_
    rw [if_neg (by omega)] at k; exact k
  · refine aw_iload_n dX10_morning_4 rfl rfl ?_
    refine aw_iconst dX10_morning_5 rfl ?_
    refine aw_icmp_le (tgt := 13) dX10_morning_6 (by decide) rfl (by omega) (by omega) (fun c6 => ?_) (fun c6 => ?_)
    · refine aw_lconst (a := 0) dX10_morning_13 rfl (by decide) ?_
      refine aw_lstore2 rfl dX10_morning_14 rfl (by decide) ?_
      refine aw_lconst (a := 1) dX10_morning_15 rfl (by decide) ?_
      refine aw_lstore4 rfl dX10_morning_16 rfl (by decide) ?_
      refine aw_lconst (a := 1) dX10_morning_18 rfl (by decide) ?_
      refine aw_lstore6 rfl dX10_morning_19 rfl (by decide) ?_
      refine aw_iconst dX10_morning_21 rfl ?_
      refine aw_istore8 rfl dX10_morning_22 rfl (by decide) ?_
      exact loop (by omega) (f 46).toNat 0 0 1 1 1 none none (by omega) rfl rfl rfl (by decide) (by omega) (by decide) (by decide)
    · refine aw_ldc2 (a := -1) dX10_morning_9 rfl lc_X10_287 (by decide) ?_
      refine aw_lreturn dX10_morning_12 rfl ?_
      rw [if_neg (by omega)] at k; exact k
theorem sC_stepSeed {G : List GK} {v : Int} (k : Q (some (vI (seedF v))) mem) : AMet Γ mX10_stepSeed [vI v] G mem Q := by
  refine AMet.of' 0 (ls := [some (vI (v))]) (by decide) rfl (Nat.le_of_ble_eq_true rfl) ?_
  refine aw_iload_n dX10_stepSeed_0 rfl rfl ?_
  refine aw_ldcw (a := 1103515245) dX10_stepSeed_1 rfl lc_X10_362 (by decide) ?_
  refine aw_imul dX10_stepSeed_4 rfl ?_
  refine aw_sipush dX10_stepSeed_5 rfl (by decide) ?_
  refine aw_iadd dX10_stepSeed_8 rfl ?_
  refine aw_ireturn (ty := .int) dX10_stepSeed_9 rfl rfl ?_
  exact k
theorem sC_seedBits {G : List GK} {v : Int} (k : Q (some (vI (bitsF v))) mem) : AMet Γ mX10_seedBits [vI v] G mem Q := by
  rw [← ushr_bits] at k
  refine AMet.of' 0 (ls := [some (vI (v))]) (by decide) rfl (Nat.le_of_ble_eq_true rfl) ?_
  refine aw_iload_n dX10_seedBits_0 rfl rfl ?_
  refine aw_bipush dX10_seedBits_1 rfl (by decide) ?_
  refine aw_iushr dX10_seedBits_3 rfl ?_
  refine aw_sipush dX10_seedBits_4 rfl (by decide) ?_
  refine aw_iand dX10_seedBits_7 rfl ?_
  refine aw_ireturn (ty := .int) dX10_seedBits_8 rfl rfl ?_
  exact k
theorem sC_drift {seed c w : Int} (wf : Wf n f) (h : Ev mem 1 n f) (hc : -2147483648 ≤ c ∧ c ≤ 2147483647) (hw : -2147483648 ≤ w ∧ w ≤ 2147483647) (k : ∀ m' : Mem, FrI m' mem 17 33 → Q (some (vI (driftM n f seed c w))) m') : AMet Γ mX10_drift [vR 0, vI seed, vI c, vI w] zG mem Q := by
  have a2 : mem 1 2 = f 46 := h.2.1.1
  have w46 := wf.n46
  unfold driftM at k
  have loop : (1 ≤ c ∧ c ≤ 60) ∧ (0 ≤ w ∧ w ≤ 1) → ¬ f 46 = 0 → ∀ (d i : Nat) (m : Mem) (x7 : Option AV), (i : Int) + d = c → FrI m mem 17 33 → Ev m 17 n (driftAt n f seed i).2 → AW Γ mX10_drift (zF Γ zG Q) zG 0 0 56 [some (vR 0), some (vI seed), some (vI c), some (vI w), some (vI (f 46)), some (vI (driftAt n f seed i).1), some (vI i), x7] [] m := by
    intro hok h0 d
    rw [if_pos hok, if_neg h0] at k
    induction d with
    | zero =>
      intro i m x7 hi hF hev
      obtain ⟨w1, w2⟩ := drift_Wf (seed := seed) wf h0 i
      have e : c.toNat = i := by omega
      rw [e] at k
      refine aw_iload dX10_drift_56 rfl rfl ?_
      refine aw_iload_n dX10_drift_58 rfl rfl ?_
      refine aw_icmp_ge (tgt := 115) dX10_drift_59 (by decide) rfl (by omega) (by omega) (fun c59 => ?_) (fun c59 => ?_)
      · refine aw_aload_n dX10_drift_115 rfl rfl ?_
        refine aw_getR dX10_drift_116 rfl fl_X10_16 g0 (by rfl) ?_
        refine aw_iload_n dX10_drift_119 rfl rfl ?_
        refine aw_if_ne (tgt := 127) dX10_drift_120 (by decide) rfl (by omega) (fun c120 => ?_) (fun c120 => ?_)
        · refine aw_iconst dX10_drift_127 rfl ?_
          refine aw_callV [_] _ dX10_drift_128 rfl clv_X10_200 (by decide) ⟨Nat.zero_le _, Nat.zero_le _⟩ g17 (by rfl) (Nat.le_of_ble_eq_true rfl) rfl ?_
          refine sC_tally E17 (by omega) w1 hev ?_
          refine aw_ireturn (ty := .int) dX10_drift_131 rfl rfl ?_
          first | (rw [cnt_good, w2]; rw [if_pos (by omega)] at k; exact k m hF) | (rw [cnt_black, w2]; rw [if_neg (by omega)] at k; exact k m hF)
        · refine aw_iconst dX10_drift_123 rfl ?_
          refine aw_goto (tgt := 128) dX10_drift_124 (by decide) ?_
          refine aw_callV [_] _ dX10_drift_128 rfl clv_X10_200 (by decide) ⟨Nat.zero_le _, Nat.zero_le _⟩ g17 (by rfl) (Nat.le_of_ble_eq_true rfl) rfl ?_
          refine sC_tally E17 (by omega) w1 hev ?_
          refine aw_ireturn (ty := .int) dX10_drift_131 rfl rfl ?_
          first | (rw [cnt_good, w2]; rw [if_pos (by omega)] at k; exact k m hF) | (rw [cnt_black, w2]; rw [if_neg (by omega)] at k; exact k m hF)
      · exfalso; omega
    | succ d ih =>
      intro i m x7 hi hF hev
      push_cast at hi
      obtain ⟨w1, w2⟩ := drift_Wf (seed := seed) wf h0 i
      have ih2 := fun m x7 => ih (i + 1) m x7 (by push_cast; omega)
      rw [driftAt] at ih2
      dsimp only at ih2
      have b1 := bitsF_rng (seedF (driftAt n f seed i).1)
      have b2 := bitsF_rng (seedF (seedF (driftAt n f seed i).1))
      have p1 := emod_rng (a := bitsF (seedF (driftAt n f seed i).1)) (b := f 46) (by omega)
      have p2 := emod_rng (a := bitsF (seedF (seedF (driftAt n f seed i).1))) (b := 3) (by omega)
      obtain ⟨q, hq⟩ : ∃ q : Nat, bitsF (seedF (driftAt n f seed i).1) % f 46 = q := ⟨(bitsF (seedF (driftAt n f seed i).1) % f 46).toNat, by omega⟩
      rw [hq] at ih2
      obtain ⟨w3, w4⟩ := meddle_Wf (p := (q : Int)) (d := bitsF (seedF (seedF (driftAt n f seed i).1)) % 3) w1 (by omega)
      refine aw_iload dX10_drift_56 rfl rfl ?_
      refine aw_iload_n dX10_drift_58 rfl rfl ?_
      refine aw_icmp_ge (tgt := 115) dX10_drift_59 (by decide) rfl (by omega) (by omega) (fun c59 => ?_) (fun c59 => ?_)
      · exfalso; omega
      · refine aw_iload dX10_drift_62 rfl rfl ?_
        refine aw_callS [_] _ dX10_drift_64 rfl cls_X10_321 (by decide) ⟨Nat.zero_le _, Nat.zero_le _⟩ (Nat.le_of_ble_eq_true rfl) rfl ?_
        refine sC_stepSeed ?_
        refine aw_istore5 rfl dX10_drift_67 rfl (by decide) ?_
        refine aw_iload dX10_drift_69 rfl rfl ?_
        refine aw_callS [_] _ dX10_drift_71 rfl cls_X10_324 (by decide) ⟨Nat.zero_le _, Nat.zero_le _⟩ (Nat.le_of_ble_eq_true rfl) rfl ?_
        refine sC_seedBits ?_
        refine aw_iload dX10_drift_74 rfl rfl ?_
        refine aw_irem dX10_drift_76 rfl (by omega) (by omega) ?_
        rw [hq]
        refine aw_istore7 rfl dX10_drift_77 rfl (by decide) ?_
        refine aw_iload dX10_drift_79 rfl rfl ?_
        refine aw_callS [_] _ dX10_drift_81 rfl cls_X10_321 (by decide) ⟨Nat.zero_le _, Nat.zero_le _⟩ (Nat.le_of_ble_eq_true rfl) rfl ?_
        refine sC_stepSeed ?_
        refine aw_istore5 rfl dX10_drift_84 rfl (by decide) ?_
        refine aw_aload_n dX10_drift_86 rfl rfl ?_
        refine aw_getR dX10_drift_87 rfl fl_X10_16 g0 (by rfl) ?_
        refine aw_iload dX10_drift_90 rfl rfl ?_
        refine aw_iload dX10_drift_92 rfl rfl ?_
        refine aw_callS [_] _ dX10_drift_94 rfl cls_X10_324 (by decide) ⟨Nat.zero_le _, Nat.zero_le _⟩ (Nat.le_of_ble_eq_true rfl) rfl ?_
        refine sC_seedBits ?_
        refine aw_iconst dX10_drift_97 rfl ?_
        refine aw_irem dX10_drift_98 rfl (by omega) (by omega) ?_
        refine aw_callV [_, _] _ dX10_drift_99 rfl clv_X10_327 (by decide) ⟨Nat.zero_le _, Nat.zero_le _⟩ g17 (by rfl) (Nat.le_of_ble_eq_true rfl) rfl ?_
        refine sC_meddle E17 (by omega) (by omega) w1 hev (fun m1 f1 v1 => ?_)
        refine aw_aload_n dX10_drift_102 rfl rfl ?_
        refine aw_getR dX10_drift_103 rfl fl_X10_16 g0 (by rfl) ?_
        refine aw_callV [] _ dX10_drift_106 rfl clv_X10_213 (by decide) ⟨Nat.zero_le _, Nat.zero_le _⟩ g17 (by rfl) (Nat.le_of_ble_eq_true rfl) rfl ?_
        refine sC_passRound E17 w3 v1 (fun m2 f2 v2 => ?_)
        refine aw_iinc6 rfl dX10_drift_109 rfl (by decide) ?_
        refine aw_goto (tgt := 56) dX10_drift_112 (by decide) ?_
        exact ih2 m2 _ (f2.tr (f1.tr hF)) v2
  refine AMet.of' 4 (ls := [some (vR (0)), some (vI (seed)), some (vI (c)), some (vI (w)), none, none, none, none]) (by decide) rfl (Nat.le_of_ble_eq_true rfl) ?_
  refine aw_iload_n dX10_drift_0 rfl rfl ?_
  refine aw_iconst dX10_drift_1 rfl ?_
  refine aw_icmp_lt (tgt := 20) dX10_drift_2 (by decide) rfl (by omega) (by omega) (fun c2 => ?_) (fun c2 => ?_)
  · refine aw_iconst dX10_drift_20 rfl ?_
    refine aw_ireturn (ty := .int) dX10_drift_21 rfl rfl ?_
    rw [if_neg (by omega)] at k; exact k _ FrI.rf
  · refine aw_iload_n dX10_drift_5 rfl rfl ?_
    refine aw_bipush dX10_drift_6 rfl (by decide) ?_
    refine aw_icmp_gt (tgt := 20) dX10_drift_8 (by decide) rfl (by omega) (by omega) (fun c8 => ?_) (fun c8 => ?_)
    · refine aw_iconst dX10_drift_20 rfl ?_
      refine aw_ireturn (ty := .int) dX10_drift_21 rfl rfl ?_
      rw [if_neg (by omega)] at k; exact k _ FrI.rf
    · refine aw_iload_n dX10_drift_11 rfl rfl ?_
      refine aw_if_lt (tgt := 20) dX10_drift_12 (by decide) rfl (by omega) (fun c12 => ?_) (fun c12 => ?_)
      · refine aw_iconst dX10_drift_20 rfl ?_
        refine aw_ireturn (ty := .int) dX10_drift_21 rfl rfl ?_
        rw [if_neg (by omega)] at k; exact k _ FrI.rf
      · refine aw_iload_n dX10_drift_15 rfl rfl ?_
        refine aw_iconst dX10_drift_16 rfl ?_
        refine aw_icmp_le (tgt := 22) dX10_drift_17 (by decide) rfl (by omega) (by omega) (fun c17 => ?_) (fun c17 => ?_)
        · refine aw_aload_n dX10_drift_22 rfl rfl ?_
          refine aw_getR dX10_drift_23 rfl fl_X10_12 g0 (by rfl) ?_
          refine aw_getI (kI := 2) dX10_drift_26 rfl fl_X10_126 g1 (by rfl) rfl ?_
          rw [a2]
          refine aw_istore4 rfl dX10_drift_29 rfl (by decide) ?_
          refine aw_iload dX10_drift_31 rfl rfl ?_
          refine aw_if_ne (tgt := 39) dX10_drift_33 (by decide) rfl (by omega) (fun c33 => ?_) (fun c33 => ?_)
          · refine aw_aload_n dX10_drift_39 rfl rfl ?_
            refine aw_getR dX10_drift_40 rfl fl_X10_16 g0 (by rfl) ?_
            refine aw_aload_n dX10_drift_43 rfl rfl ?_
            refine aw_getR dX10_drift_44 rfl fl_X10_12 g0 (by rfl) ?_
            refine aw_callV [_] _ dX10_drift_47 rfl clv_X10_98 (by decide) ⟨Nat.zero_le _, Nat.zero_le _⟩ g17 (by rfl) (Nat.le_of_ble_eq_true rfl) rfl ?_
            refine sC_copyEv E17 E1 (by omega) wf h (fun m1 f1 v1 => ?_)
            refine aw_iload_n dX10_drift_50 rfl rfl ?_
            refine aw_istore5 rfl dX10_drift_51 rfl (by decide) ?_
            refine aw_iconst dX10_drift_53 rfl ?_
            refine aw_istore6 rfl dX10_drift_54 rfl (by decide) ?_
            exact loop (by omega) (by omega) c.toNat 0 m1 none (by omega) f1 v1
          · refine aw_bipush dX10_drift_36 rfl (by decide) ?_
            refine aw_ireturn (ty := .int) dX10_drift_38 rfl rfl ?_
            rw [if_pos (by omega), if_pos (by omega)] at k; exact k _ FrI.rf
        · refine aw_iconst dX10_drift_20 rfl ?_
          refine aw_ireturn (ty := .int) dX10_drift_21 rfl rfl ?_
          rw [if_neg (by omega)] at k; exact k _ FrI.rf
theorem sC_keep {j : Int} (wf : Wf n f) (h : Ev mem 1 n f) (hk : ∀ i : Int, 0 ≤ i → i ≤ 1 → 0 ≤ mem 66 i ∧ mem 66 i ≤ 1) (hj : -2147483648 ≤ j ∧ j ≤ 2147483647) (kb : ¬ (0 ≤ j ∧ j ≤ 1) → Q (some (vI (-1))) mem) (k : ∀ (i : Nat) (m1 : Mem), j = i → i < 2 → FrI m1 mem (34 + 16 * i) (50 + 16 * i) → Ev m1 (34 + 16 * i) n f → Q (some (vI (mem 66 i))) (mset m1 66 i 1)) : AMet Γ mX10_keep [vR 0, vI j] zG mem Q := by
  have s25 : ∀ v : Int, (0 ≤ j ∧ j ≤ 1) → v = mem 66 j → AW Γ mX10_keep (zF Γ zG Q) zG 0 0 25 [some (vR 0), some (vI j), none] [vI v] mem := by
    intro v hj2 hv
    obtain rfl | rfl : j = 0 ∨ j = 1 := by omega
    · have k0 := fun m1 => k 0 m1 rfl (by decide)
      refine aw_istore2 rfl dX10_keep_25 rfl (by decide) ?_
      refine aw_aload_n dX10_keep_26 rfl rfl ?_
      refine aw_getR dX10_keep_27 rfl fl_X10_19 g0 (by rfl) ?_
      refine aw_iload_n dX10_keep_30 rfl rfl ?_
      refine aw_aaload dX10_keep_31 rfl g33 (by decide) (by omega) (by rfl) ?_
      refine aw_aload_n dX10_keep_32 rfl rfl ?_
      refine aw_getR dX10_keep_33 rfl fl_X10_12 g0 (by rfl) ?_
      refine aw_callV [_] _ dX10_keep_36 rfl clv_X10_98 (by decide) ⟨Nat.zero_le _, Nat.zero_le _⟩ g34 (by rfl) (Nat.le_of_ble_eq_true rfl) rfl ?_
      refine sC_copyEv E34 E1 (by omega) wf h (fun m1 f1 v1 => ?_)
      refine aw_aload_n dX10_keep_39 rfl rfl ?_
      refine aw_getR dX10_keep_40 rfl fl_X10_23 g0 (by rfl) ?_
      refine aw_iload_n dX10_keep_43 rfl rfl ?_
      refine aw_iconst dX10_keep_44 rfl ?_
      refine aw_zastore dX10_keep_45 rfl g66 (by decide) (by omega) (by omega) ?_
      refine aw_iload_n dX10_keep_46 rfl rfl ?_
      refine aw_ireturn (ty := .int) dX10_keep_47 rfl rfl ?_
      rw [hv]; exact k0 m1 f1 v1
    · have k0 := fun m1 => k 1 m1 rfl (by decide)
      refine aw_istore2 rfl dX10_keep_25 rfl (by decide) ?_
      refine aw_aload_n dX10_keep_26 rfl rfl ?_
      refine aw_getR dX10_keep_27 rfl fl_X10_19 g0 (by rfl) ?_
      refine aw_iload_n dX10_keep_30 rfl rfl ?_
      refine aw_aaload dX10_keep_31 rfl g33 (by decide) (by omega) (by rfl) ?_
      refine aw_aload_n dX10_keep_32 rfl rfl ?_
      refine aw_getR dX10_keep_33 rfl fl_X10_12 g0 (by rfl) ?_
      refine aw_callV [_] _ dX10_keep_36 rfl clv_X10_98 (by decide) ⟨Nat.zero_le _, Nat.zero_le _⟩ g50 (by rfl) (Nat.le_of_ble_eq_true rfl) rfl ?_
      refine sC_copyEv E50 E1 (by omega) wf h (fun m1 f1 v1 => ?_)
      refine aw_aload_n dX10_keep_39 rfl rfl ?_
      refine aw_getR dX10_keep_40 rfl fl_X10_23 g0 (by rfl) ?_
      refine aw_iload_n dX10_keep_43 rfl rfl ?_
      refine aw_iconst dX10_keep_44 rfl ?_
      refine aw_zastore dX10_keep_45 rfl g66 (by decide) (by omega) (by omega) ?_
      refine aw_iload_n dX10_keep_46 rfl rfl ?_
      refine aw_ireturn (ty := .int) dX10_keep_47 rfl rfl ?_
      rw [hv]; exact k0 m1 f1 v1
  refine AMet.of' 1 (ls := [some (vR (0)), some (vI (j)), none]) (by decide) rfl (Nat.le_of_ble_eq_true rfl) ?_
  refine aw_iload_n dX10_keep_0 rfl rfl ?_
  refine aw_if_lt (tgt := 9) dX10_keep_1 (by decide) rfl (by omega) (fun c1 => ?_) (fun c1 => ?_)
  · refine aw_iconst dX10_keep_9 rfl ?_
    refine aw_ireturn (ty := .int) dX10_keep_10 rfl rfl ?_
    exact kb (by omega)
  · refine aw_iload_n dX10_keep_4 rfl rfl ?_
    refine aw_iconst dX10_keep_5 rfl ?_
    refine aw_icmp_le (tgt := 11) dX10_keep_6 (by decide) rfl (by omega) (by omega) (fun c6 => ?_) (fun c6 => ?_)
    · have r := hk j (by omega) (by omega)
      refine aw_aload_n dX10_keep_11 rfl rfl ?_
      refine aw_getR dX10_keep_12 rfl fl_X10_23 g0 (by rfl) ?_
      refine aw_iload_n dX10_keep_15 rfl rfl ?_
      refine aw_zaload dX10_keep_16 rfl g66 (by decide) (by omega) ?_
      refine aw_if_eq (tgt := 24) dX10_keep_17 (by decide) rfl (by omega) (fun c17 => ?_) (fun c17 => ?_)
      · refine aw_iconst dX10_keep_24 rfl ?_
        exact s25 _ (by omega) (by omega)
      · refine aw_iconst dX10_keep_20 rfl ?_
        refine aw_goto (tgt := 25) dX10_keep_21 (by decide) ?_
        exact s25 _ (by omega) (by omega)
    · refine aw_iconst dX10_keep_9 rfl ?_
      refine aw_ireturn (ty := .int) dX10_keep_10 rfl rfl ?_
      exact kb (by omega)
theorem sC_back {j : Int} {n0 : Int} {g : Int → (Int → Int)} (wf : ∀ i : Nat, i < 2 → ¬ mem 66 i = 0 → Wf n (g i) ∧ Ev mem (34 + 16 * i) n (g i)) (hk : ∀ i : Int, 0 ≤ i → i ≤ 1 → 0 ≤ mem 66 i ∧ mem 66 i ≤ 1) (hj : -2147483648 ≤ j ∧ j ≤ 2147483647) (kb : ¬ (0 ≤ j ∧ j ≤ 1) → Q (some (vI (-1))) mem) (ks : 0 ≤ j ∧ j ≤ 1 → mem 66 j = 0 → Q (some (vI (-2))) mem) (k : ∀ (m1 : Mem), 0 ≤ j ∧ j ≤ 1 → ¬ mem 66 j = 0 → FrI m1 mem 1 17 → Ev m1 1 n (g j) → Q (some (vI (g j 45))) m1) : AMet Γ mX10_back [vR 0, vI j] zG mem Q := by
  have s23 : (0 ≤ j ∧ j ≤ 1) → ¬ mem 66 j = 0 → AW Γ mX10_back (zF Γ zG Q) zG 0 0 23 [some (vR 0), some (vI j)] [] mem := by
    intro hj2 hv
    obtain rfl | rfl : j = 0 ∨ j = 1 := by omega
    · obtain ⟨w1, w2⟩ := wf 0 (by decide) hv
      refine aw_aload_n dX10_back_23 rfl rfl ?_
      refine aw_getR dX10_back_24 rfl fl_X10_12 g0 (by rfl) ?_
      refine aw_aload_n dX10_back_27 rfl rfl ?_
      refine aw_getR dX10_back_28 rfl fl_X10_19 g0 (by rfl) ?_
      refine aw_iload_n dX10_back_31 rfl rfl ?_
      refine aw_aaload dX10_back_32 rfl g33 (by decide) (by omega) (by rfl) ?_
      refine aw_callV [_] _ dX10_back_33 rfl clv_X10_98 (by decide) ⟨Nat.zero_le _, Nat.zero_le _⟩ g1 (by rfl) (Nat.le_of_ble_eq_true rfl) rfl ?_
      refine sC_copyEv E1 E34 (by omega) w1 w2 (fun m1 f1 v1 => ?_)
      refine aw_aload_n dX10_back_36 rfl rfl ?_
      refine aw_getR dX10_back_37 rfl fl_X10_12 g0 (by rfl) ?_
      refine aw_getI (kI := 3) dX10_back_40 rfl fl_X10_123 g1 (by rfl) rfl ?_
      refine aw_ireturn (ty := .int) dX10_back_43 rfl rfl ?_
      have e : m1 1 3 = g 0 45 := v1.2.1.2.1
      rw [e]; exact k m1 hj2 hv f1 v1
    · obtain ⟨w1, w2⟩ := wf 1 (by decide) hv
      refine aw_aload_n dX10_back_23 rfl rfl ?_
      refine aw_getR dX10_back_24 rfl fl_X10_12 g0 (by rfl) ?_
      refine aw_aload_n dX10_back_27 rfl rfl ?_
      refine aw_getR dX10_back_28 rfl fl_X10_19 g0 (by rfl) ?_
      refine aw_iload_n dX10_back_31 rfl rfl ?_
      refine aw_aaload dX10_back_32 rfl g33 (by decide) (by omega) (by rfl) ?_
      refine aw_callV [_] _ dX10_back_33 rfl clv_X10_98 (by decide) ⟨Nat.zero_le _, Nat.zero_le _⟩ g1 (by rfl) (Nat.le_of_ble_eq_true rfl) rfl ?_
      refine sC_copyEv E1 E50 (by omega) w1 w2 (fun m1 f1 v1 => ?_)
      refine aw_aload_n dX10_back_36 rfl rfl ?_
      refine aw_getR dX10_back_37 rfl fl_X10_12 g0 (by rfl) ?_
      refine aw_getI (kI := 3) dX10_back_40 rfl fl_X10_123 g1 (by rfl) rfl ?_
      refine aw_ireturn (ty := .int) dX10_back_43 rfl rfl ?_
      have e : m1 1 3 = g 1 45 := v1.2.1.2.1
      rw [e]; exact k m1 hj2 hv f1 v1
  refine AMet.of' 0 (ls := [some (vR (0)), some (vI (j))]) (by decide) rfl (Nat.le_of_ble_eq_true rfl) ?_
  refine aw_iload_n dX10_back_0 rfl rfl ?_
  refine aw_if_lt (tgt := 9) dX10_back_1 (by decide) rfl (by omega) (fun c1 => ?_) (fun c1 => ?_)
  · refine aw_iconst dX10_back_9 rfl ?_
    refine aw_ireturn (ty := .int) dX10_back_10 rfl rfl ?_
    exact kb (by omega)
  · refine aw_iload_n dX10_back_4 rfl rfl ?_
    refine aw_iconst dX10_back_5 rfl ?_
    refine aw_icmp_le (tgt := 11) dX10_back_6 (by decide) rfl (by omega) (by omega) (fun c6 => ?_) (fun c6 => ?_)
    · have r := hk j (by omega) (by omega)
      refine aw_aload_n dX10_back_11 rfl rfl ?_
      refine aw_getR dX10_back_12 rfl fl_X10_23 g0 (by rfl) ?_
      refine aw_iload_n dX10_back_15 rfl rfl ?_
      refine aw_zaload dX10_back_16 rfl g66 (by decide) (by omega) ?_
      refine aw_if_ne (tgt := 23) dX10_back_17 (by decide) rfl (by omega) (fun c17 => ?_) (fun c17 => ?_)
      · exact s23 (by omega) (by omega)
      · refine aw_bipush dX10_back_20 rfl (by decide) ?_
        refine aw_ireturn (ty := .int) dX10_back_22 rfl rfl ?_
        exact ks (by omega) (by omega)
    · refine aw_iconst dX10_back_9 rfl ?_
      refine aw_ireturn (ty := .int) dX10_back_10 rfl rfl ?_
      exact kb (by omega)
theorem sC_append {c : Int} (hL : 0 ≤ mem 68 1 ∧ mem 68 1 ≤ 160) (hc : 0 ≤ c ∧ c ≤ 127) (k0 : mem 68 1 = 160 → Q (some (vI 0)) mem) (k1 : ¬ mem 68 1 = 160 → Q (some (vI 1)) (mset (mset mem 69 (mem 68 1) c) 68 1 (mem 68 1 + 1))) : AMet Γ mX8_append [vR 68, vI c] zG mem Q := by
  have ei := zi2b_id hc
  refine AMet.of' 0 (ls := [some (vR (68)), some (vI (c))]) (by decide) rfl (Nat.le_of_ble_eq_true rfl) ?_
  refine aw_aload_n dX8_append_0 rfl rfl ?_
  refine aw_getI (kI := 1) dX8_append_1 rfl fl_X8_13 (by first | assumption | rfl) (by rfl) rfl ?_
  refine aw_sipush dX8_append_4 rfl (by decide) ?_
  refine aw_icmp_lt (tgt := 12) dX8_append_7 (by decide) rfl (by omega) (by omega) (fun c7 => ?_) (fun c7 => ?_)
  · refine aw_aload_n dX8_append_12 rfl rfl ?_
    refine aw_getR dX8_append_13 rfl fl_X8_9 (by first | assumption | rfl) (by rfl) ?_
    refine aw_aload_n dX8_append_16 rfl rfl ?_
    refine aw_getI (kI := 1) dX8_append_17 rfl fl_X8_13 (by first | assumption | rfl) (by rfl) rfl ?_
    refine aw_iload_n dX8_append_20 rfl rfl ?_
    refine aw_i2b dX8_append_21 rfl ?_
    rw [ei]
    refine aw_bastore dX8_append_22 rfl g69 (by omega) (by omega) (by omega) ?_
    refine aw_aload_n dX8_append_23 rfl rfl ?_
    refine aw_dup dX8_append_24 rfl rfl ?_
    refine aw_getI (kI := 1) dX8_append_25 rfl fl_X8_13 (by first | assumption | rfl) (by rfl) rfl ?_
    refine aw_iconst dX8_append_28 rfl ?_
    refine aw_iadd dX8_append_29 rfl ?_
    refine aw_putI (kI := 1) dX8_append_30 rfl fp_X8_13 (by first | assumption | rfl) (by rfl) rfl ?_
    refine aw_iconst dX8_append_33 rfl ?_
    refine aw_ireturn (ty := .boolean) dX8_append_34 rfl (znarZ (by omega)).1 ?_
    exact k1 (by omega)
  · refine aw_iconst dX8_append_10 rfl ?_
    refine aw_ireturn (ty := .boolean) dX8_append_11 rfl (znarZ (by omega)).1 ?_
    exact k0 (by omega)
theorem sC_feed {c : Int} (hL : 0 ≤ mem 68 1 ∧ mem 68 1 ≤ 160) (hc : -2147483648 ≤ c ∧ c ≤ 2147483647) (kb : ¬ (0 ≤ c ∧ c ≤ 127) → Q (some (vI (-1))) mem) (kf : (0 ≤ c ∧ c ≤ 127) → mem 68 1 = 160 → Q (some (vI (-3))) mem) (k : (0 ≤ c ∧ c ≤ 127) → ¬ mem 68 1 = 160 → Q (some (vI (mem 68 1 + 1))) (mset (mset mem 69 (mem 68 1) c) 68 1 (mem 68 1 + 1))) : AMet Γ mX10_feed [vR 0, vI c] zG mem Q := by
  refine AMet.of' 0 (ls := [some (vR (0)), some (vI (c))]) (by decide) rfl (Nat.le_of_ble_eq_true rfl) ?_
  refine aw_iload_n dX10_feed_0 rfl rfl ?_
  refine aw_if_lt (tgt := 10) dX10_feed_1 (by decide) rfl (by omega) (fun c1 => ?_) (fun c1 => ?_)
  · refine aw_iconst dX10_feed_10 rfl ?_
    refine aw_ireturn (ty := .int) dX10_feed_11 rfl rfl ?_
    exact kb (by omega)
  · refine aw_iload_n dX10_feed_4 rfl rfl ?_
    refine aw_bipush dX10_feed_5 rfl (by decide) ?_
    refine aw_icmp_le (tgt := 12) dX10_feed_7 (by decide) rfl (by omega) (by omega) (fun c7 => ?_) (fun c7 => ?_)
    · refine aw_aload_n dX10_feed_12 rfl rfl ?_
      refine aw_getR dX10_feed_13 rfl fl_X10_30 g0 (by rfl) ?_
      refine aw_getR dX10_feed_16 rfl fl_X10_69 g67 (by rfl) ?_
      refine aw_iload_n dX10_feed_19 rfl rfl ?_
      refine aw_callV [_] _ dX10_feed_20 rfl clv_X10_73 (by decide) ⟨Nat.zero_le _, Nat.zero_le _⟩ g68 (by rfl) (Nat.le_of_ble_eq_true rfl) rfl ?_
      refine sC_append hL (by omega) (fun h6 => ?_) (fun h6 => ?_)
      · refine aw_if_eq (tgt := 39) dX10_feed_23 (by decide) rfl (by omega) (fun _ => ?_) (fun c => absurd c (by decide))
        refine aw_bipush dX10_feed_39 rfl (by decide) ?_
        refine aw_ireturn (ty := .int) dX10_feed_41 rfl rfl ?_
        first | exact kf (by omega) h6 | exact k (by omega) h6
      · refine aw_if_eq (tgt := 39) dX10_feed_23 (by decide) rfl (by omega) (fun c => absurd c (by decide)) (fun _ => ?_)
        refine aw_aload_n dX10_feed_26 rfl rfl ?_
        refine aw_getR dX10_feed_27 rfl fl_X10_30 g0 (by rfl) ?_
        refine aw_getR dX10_feed_30 rfl fl_X10_69 g67 (by rfl) ?_
        refine aw_getI (kI := 1) dX10_feed_33 rfl fl_X10_79 g68 (by rfl) rfl ?_
        refine aw_goto (tgt := 41) dX10_feed_36 (by decide) ?_
        refine aw_ireturn (ty := .int) dX10_feed_41 rfl rfl ?_
        first | exact kf (by omega) h6 | exact k (by omega) h6
    · refine aw_iconst dX10_feed_10 rfl ?_
      refine aw_ireturn (ty := .int) dX10_feed_11 rfl rfl ?_
      exact kb (by omega)
theorem sC_end {c : Int} (hL : 0 ≤ mem 68 1 ∧ mem 68 1 ≤ 160) (hc : -2147483648 ≤ c ∧ c ≤ 2147483647) (kb : ¬ (0 ≤ c ∧ c ≤ mem 68 1) → Q (some (vI (-1))) mem) (k : (0 ≤ c ∧ c ≤ mem 68 1) → Q (some (vI (mem 68 1))) (mset mem 68 1 c)) : AMet Γ mX10_end [vR 0, vI c] zG mem Q := by
  refine AMet.of' 2 (ls := [some (vR (0)), some (vI (c)), none, none]) (by decide) rfl (Nat.le_of_ble_eq_true rfl) ?_
  refine aw_aload_n dX10_end_0 rfl rfl ?_
  refine aw_getR dX10_end_1 rfl fl_X10_30 g0 (by rfl) ?_
  refine aw_getR dX10_end_4 rfl fl_X10_69 g67 (by rfl) ?_
  refine aw_astore2 rfl dX10_end_7 rfl (by decide) ?_
  refine aw_iload_n dX10_end_8 rfl rfl ?_
  refine aw_if_lt (tgt := 20) dX10_end_9 (by decide) rfl (by omega) (fun c9 => ?_) (fun c9 => ?_)
  · refine aw_iconst dX10_end_20 rfl ?_
    refine aw_ireturn (ty := .int) dX10_end_21 rfl rfl ?_
    exact kb (by omega)
  · refine aw_iload_n dX10_end_12 rfl rfl ?_
    refine aw_aload_n dX10_end_13 rfl rfl ?_
    refine aw_getI (kI := 1) dX10_end_14 rfl fl_X10_79 g68 (by rfl) rfl ?_
    refine aw_icmp_le (tgt := 22) dX10_end_17 (by decide) rfl (by omega) (by omega) (fun c17 => ?_) (fun c17 => ?_)
    · refine aw_aload_n dX10_end_22 rfl rfl ?_
      refine aw_getI (kI := 1) dX10_end_23 rfl fl_X10_79 g68 (by rfl) rfl ?_
      refine aw_istore3 rfl dX10_end_26 rfl (by decide) ?_
      refine aw_aload_n dX10_end_27 rfl rfl ?_
      refine aw_iload_n dX10_end_28 rfl rfl ?_
      refine aw_putI (kI := 1) dX10_end_29 rfl fp_X10_79 g68 (by rfl) rfl ?_
      refine aw_iload_n dX10_end_32 rfl rfl ?_
      refine aw_ireturn (ty := .int) dX10_end_33 rfl rfl ?_
      exact k (by omega)
    · refine aw_iconst dX10_end_20 rfl ?_
      refine aw_ireturn (ty := .int) dX10_end_21 rfl rfl ?_
      exact kb (by omega)
theorem sC_fault (k : Q (some (vI (mem 0 10))) mem) : AMet Γ mX10_fault [vR 0] zG mem Q := by
  refine AMet.of' 0 (ls := [some (vR (0))]) (by decide) rfl (Nat.le_of_ble_eq_true rfl) ?_
  refine aw_aload_n dX10_fault_0 rfl rfl ?_
  refine aw_getI (kI := 10) dX10_fault_1 rfl fl_X10_89 g0 (by rfl) rfl ?_
  refine aw_ireturn (ty := .int) dX10_fault_4 rfl rfl ?_
  exact k
theorem sC_torn (k : Q (some (vI (mem 0 11))) mem) : AMet Γ mX10_torn [vR 0] zG mem Q := by
  refine AMet.of' 0 (ls := [some (vR (0))]) (by decide) rfl (Nat.le_of_ble_eq_true rfl) ?_
  refine aw_aload_n dX10_torn_0 rfl rfl ?_
  refine aw_getI (kI := 11) dX10_torn_1 rfl fl_X10_355 g0 (by rfl) rfl ?_
  refine aw_ireturn (ty := .int) dX10_torn_4 rfl rfl ?_
  exact k
theorem sC_count {w l0 s0 : Int} {cl : Int → Int} (wf : Wf n f) (h : Ev mem 1 n f) (hk : ∀ i : Int, 0 ≤ i → i ≤ 1 → 0 ≤ mem 66 i ∧ mem 66 i ≤ 1) (hs : Sh mem 96 l0 s0 cl) (hw : -2147483648 ≤ w ∧ w ≤ 2147483647) (k : Q (some (vI (countM n f (mem 66 0 + mem 66 1) (mem 68 1) l0 s0 w))) mem) : AMet Γ mX10_count [vR 0, vI w] zG mem Q := by
  have a5 : mem 1 5 = f 96 := h.2.1.2.2.2
  have r0 := hk 0 (by decide) (by decide)
  have r1 := hk 1 (by decide) (by decide)
  have kw : ∀ (j v : Int), w = j → v = countM n f (mem 66 0 + mem 66 1) (mem 68 1) l0 s0 j → Q (some (vI v)) mem := by
    intro j v e ev
    subst e
    rw [ev]
    exact k
  have sz : mem 96 2 = (if l0 = -4 then -4 else s0) := by
    rcases hs with hs | hs
    · rw [if_pos hs.1]; exact hs.2.1
    · rw [if_neg (by omega)]; exact hs.2.2.1
  refine AMet.of' 0 (ls := [some (vR (0)), some (vI (w))]) (by decide) rfl (Nat.le_of_ble_eq_true rfl) ?_
  refine aw_iload_n dX10_count_0 rfl rfl ?_
  refine aw_tsw (tgt := 158) dX10_count_1 (by omega) (by decide) (by decide) (fun c1 => ?_) ?_ (by decide)
  · refine aw_iconst dX10_count_158 rfl ?_
    refine aw_ireturn (ty := .int) dX10_count_159 rfl rfl ?_
    refine kw w (-1) rfl ?_
    unfold countM
    rw [if_neg (by omega), if_neg (by omega), if_neg (by omega), if_neg (by omega), if_neg (by omega), if_neg (by omega), if_neg (by omega), if_neg (by omega), if_neg (by omega)]
  · intro jz offz hoz hj1 tz htz hpz
    match jz, hoz with
    | 0, hoz =>
      obtain rfl : (51 : Int) = offz := Option.some.inj hoz
      obtain rfl : tz = 52 := by omega
      refine aw_aload_n dX10_count_52 rfl rfl ?_
      refine aw_getR dX10_count_53 rfl fl_X10_12 g0 (by rfl) ?_
      refine aw_iconst dX10_count_56 rfl ?_
      refine aw_callV [_] _ dX10_count_57 rfl clv_X10_200 (by decide) ⟨Nat.zero_le _, Nat.zero_le _⟩ g1 (by rfl) (Nat.le_of_ble_eq_true rfl) rfl ?_
      refine sC_tally E1 (by omega) wf h ?_
      refine aw_ireturn (ty := .int) dX10_count_60 rfl rfl ?_
      exact kw 0 _ (by omega) (cnt_done f _)
    | 1, hoz =>
      obtain rfl : (60 : Int) = offz := Option.some.inj hoz
      obtain rfl : tz = 61 := by omega
      refine aw_aload_n dX10_count_61 rfl rfl ?_
      refine aw_getR dX10_count_62 rfl fl_X10_12 g0 (by rfl) ?_
      refine aw_iconst dX10_count_65 rfl ?_
      refine aw_callV [_] _ dX10_count_66 rfl clv_X10_200 (by decide) ⟨Nat.zero_le _, Nat.zero_le _⟩ g1 (by rfl) (Nat.le_of_ble_eq_true rfl) rfl ?_
      refine sC_tally E1 (by omega) wf h ?_
      refine aw_ireturn (ty := .int) dX10_count_69 rfl rfl ?_
      exact kw 1 _ (by omega) (cnt_black f _)
    | 2, hoz =>
      obtain rfl : (69 : Int) = offz := Option.some.inj hoz
      obtain rfl : tz = 70 := by omega
      refine aw_aload_n dX10_count_70 rfl rfl ?_
      refine aw_getR dX10_count_71 rfl fl_X10_12 g0 (by rfl) ?_
      refine aw_iconst dX10_count_74 rfl ?_
      refine aw_callV [_] _ dX10_count_75 rfl clv_X10_200 (by decide) ⟨Nat.zero_le _, Nat.zero_le _⟩ g1 (by rfl) (Nat.le_of_ble_eq_true rfl) rfl ?_
      refine sC_tally E1 (by omega) wf h ?_
      refine aw_ireturn (ty := .int) dX10_count_78 rfl rfl ?_
      exact kw 2 _ (by omega) (cnt_good f _)
    | 3, hoz =>
      obtain rfl : (78 : Int) = offz := Option.some.inj hoz
      obtain rfl : tz = 79 := by omega
      refine aw_aload_n dX10_count_79 rfl rfl ?_
      refine aw_getR dX10_count_80 rfl fl_X10_12 g0 (by rfl) ?_
      refine aw_iconst dX10_count_83 rfl ?_
      refine aw_callV [_] _ dX10_count_84 rfl clv_X10_200 (by decide) ⟨Nat.zero_le _, Nat.zero_le _⟩ g1 (by rfl) (Nat.le_of_ble_eq_true rfl) rfl ?_
      refine sC_tally E1 (by omega) wf h ?_
      refine aw_ireturn (ty := .int) dX10_count_87 rfl rfl ?_
      exact kw 3 _ (by omega) (cnt_out f _)
    | 4, hoz =>
      obtain rfl : (87 : Int) = offz := Option.some.inj hoz
      obtain rfl : tz = 88 := by omega
      refine aw_aload_n dX10_count_88 rfl rfl ?_
      refine aw_getR dX10_count_89 rfl fl_X10_12 g0 (by rfl) ?_
      refine aw_getI (kI := 5) dX10_count_92 rfl fl_X10_271 g1 (by rfl) rfl ?_
      refine aw_ireturn (ty := .int) dX10_count_95 rfl rfl ?_
      exact kw 4 _ (by omega) a5
    | 5, hoz =>
      obtain rfl : (95 : Int) = offz := Option.some.inj hoz
      obtain rfl : tz = 96 := by omega
      refine aw_aload_n dX10_count_96 rfl rfl ?_
      refine aw_getR dX10_count_97 rfl fl_X10_23 g0 (by rfl) ?_
      refine aw_iconst dX10_count_100 rfl ?_
      refine aw_zaload dX10_count_101 rfl g66 (by decide) (by omega) ?_
      refine aw_if_eq (tgt := 109) dX10_count_102 (by decide) rfl (by omega) (fun c102 => ?_) (fun c102 => ?_)
      · refine aw_iconst dX10_count_109 rfl ?_
        refine aw_aload_n dX10_count_110 rfl rfl ?_
        refine aw_getR dX10_count_111 rfl fl_X10_23 g0 (by rfl) ?_
        refine aw_iconst dX10_count_114 rfl ?_
        refine aw_zaload dX10_count_115 rfl g66 (by decide) (by omega) ?_
        refine aw_if_eq (tgt := 123) dX10_count_116 (by decide) rfl (by omega) (fun c116 => ?_) (fun c116 => ?_)
        · refine aw_iconst dX10_count_123 rfl ?_
          refine aw_iadd dX10_count_124 rfl ?_
          refine aw_ireturn (ty := .int) dX10_count_125 rfl rfl ?_
          exact kw 5 _ (by omega) (by show _ = mem 66 0 + mem 66 1; omega)
        · refine aw_iconst dX10_count_119 rfl ?_
          refine aw_goto (tgt := 124) dX10_count_120 (by decide) ?_
          refine aw_iadd dX10_count_124 rfl ?_
          refine aw_ireturn (ty := .int) dX10_count_125 rfl rfl ?_
          exact kw 5 _ (by omega) (by show _ = mem 66 0 + mem 66 1; omega)
      · refine aw_iconst dX10_count_105 rfl ?_
        refine aw_goto (tgt := 110) dX10_count_106 (by decide) ?_
        refine aw_aload_n dX10_count_110 rfl rfl ?_
        refine aw_getR dX10_count_111 rfl fl_X10_23 g0 (by rfl) ?_
        refine aw_iconst dX10_count_114 rfl ?_
        refine aw_zaload dX10_count_115 rfl g66 (by decide) (by omega) ?_
        refine aw_if_eq (tgt := 123) dX10_count_116 (by decide) rfl (by omega) (fun c116 => ?_) (fun c116 => ?_)
        · refine aw_iconst dX10_count_123 rfl ?_
          refine aw_iadd dX10_count_124 rfl ?_
          refine aw_ireturn (ty := .int) dX10_count_125 rfl rfl ?_
          exact kw 5 _ (by omega) (by show _ = mem 66 0 + mem 66 1; omega)
        · refine aw_iconst dX10_count_119 rfl ?_
          refine aw_goto (tgt := 124) dX10_count_120 (by decide) ?_
          refine aw_iadd dX10_count_124 rfl ?_
          refine aw_ireturn (ty := .int) dX10_count_125 rfl rfl ?_
          exact kw 5 _ (by omega) (by show _ = mem 66 0 + mem 66 1; omega)
    | 6, hoz =>
      obtain rfl : (125 : Int) = offz := Option.some.inj hoz
      obtain rfl : tz = 126 := by omega
      refine aw_aload_n dX10_count_126 rfl rfl ?_
      refine aw_getR dX10_count_127 rfl fl_X10_30 g0 (by rfl) ?_
      refine aw_getR dX10_count_130 rfl fl_X10_69 g67 (by rfl) ?_
      refine aw_getI (kI := 1) dX10_count_133 rfl fl_X10_79 g68 (by rfl) rfl ?_
      refine aw_ireturn (ty := .int) dX10_count_136 rfl rfl ?_
      exact kw 6 _ (by omega) rfl
    | 7, hoz =>
      obtain rfl : (136 : Int) = offz := Option.some.inj hoz
      obtain rfl : tz = 137 := by omega
      refine aw_aload_n dX10_count_137 rfl rfl ?_
      refine aw_getR dX10_count_138 rfl fl_X10_51 g0 (by rfl) ?_
      refine aw_iconst dX10_count_141 rfl ?_
      refine aw_aaload dX10_count_142 rfl g95 (by decide) (by omega) (by rfl) ?_
      refine aw_getI (kI := 2) dX10_count_143 rfl fl_X10_358 g96 (by rfl) rfl ?_
      refine aw_ireturn (ty := .int) dX10_count_146 rfl rfl ?_
      exact kw 7 _ (by omega) sz
    | 8, hoz =>
      obtain rfl : (146 : Int) = offz := Option.some.inj hoz
      obtain rfl : tz = 147 := by omega
      refine aw_aload_n dX10_count_147 rfl rfl ?_
      refine aw_getR dX10_count_148 rfl fl_X10_12 g0 (by rfl) ?_
      refine aw_getR dX10_count_151 rfl fl_X10_105 g1 (by rfl) ?_
      refine aw_callV [] _ dX10_count_154 rfl clv_X10_359 (by decide) ⟨Nat.zero_le _, Nat.zero_le _⟩ g2 (by rfl) (Nat.le_of_ble_eq_true rfl) rfl ?_
      refine sC_allHeat E1.2.1 wf h.1 ?_
      refine aw_ireturn (ty := .int) dX10_count_157 rfl rfl ?_
      exact kw 8 _ (by omega) rfl
    | jz + 9, hoz => exact absurd hoz (by simp)
end ZCmp12
