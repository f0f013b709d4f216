theorem weight_none {f : Int → Int} {p x : Int} (h : f (47 + 8 * p + 7) = -4) : weightF f p x = 0 := by
  unfold weightF
  rw [if_pos (Or.inl h)]
theorem all_none {f : Int → Int} {p : Int} (h : f (47 + 8 * p + 7) = -4) : ∀ x : Nat, allTo f p x = 0 := by
  intro x
  induction x with
  | zero => rfl
  | succ x ih => rw [allTo, ih, weight_none h]; rfl
section ZCmp13
variable {Γ : ZG} {mem : Mem} {Q : Option AV → Mem → Prop} {n : Int} {f : Int → Int}
theorem sC_weight {p x : Int} (wf : Wf n f) (h : Ev mem 1 n f) (hp : 0 ≤ p ∧ p < f 46) (hx : 0 ≤ x ∧ x < 24) (hc : ¬ f (47 + 8 * p + 7) = -4) (k : Q (some (vI (weightF f p x))) mem) : AMet Γ mX4_weight [vR 107, vR 1, vI (f (47 + 8 * p + 7)), vI x] zG mem Q := by
  have a4 : mem 1 4 = f 95 := h.2.1.2.2.1
  have rc := (wf.2.2.2.2.2.2.2.1 p hp.1 hp.2).2.2.2.2.2.2.2
  have hn := wf.1
  obtain ⟨y, rfl⟩ : ∃ y : Nat, x = y := ⟨x.toNat, by omega⟩
  have zb := zbit3 (a := f 95) (x := y) (by omega)
  have z1 := zbit (a := f 95) (x := y) (by omega)
  have zr := zand_rng (f 95) (zshl 1 (y : Int))
  have b01 := zb01 (a := f 95) (v := (y : Int)) (by omega)
  have kk : ∀ v : Int, v = weightF f p y → Q (some (vI v)) mem := fun v e => by rw [e]; exact k
  unfold weightF at kk
  refine AMet.of' 1 (ls := [some (vR (107)), some (vR (1)), some (vI ((f (47 + 8 * p + 7)))), some (vI ((y : Int))), none]) (by decide) rfl (Nat.le_of_ble_eq_true rfl) ?_
  refine aw_aload_n dX4_weight_0 rfl rfl ?_
  refine aw_getI (kI := 4) dX4_weight_1 rfl fl_X4_15 (by first | assumption | rfl) (by rfl) rfl ?_
  rw [a4]
  refine aw_iconst dX4_weight_4 rfl ?_
  refine aw_iload_n dX4_weight_5 rfl rfl ?_
  refine aw_ishl dX4_weight_6 rfl ?_
  refine aw_iand dX4_weight_7 rfl ?_
  refine aw_if_eq (tgt := 13) dX4_weight_8 (by decide) rfl (by omega) (fun c8 => ?_) (fun c8 => ?_)
  · have hz : zand (zshr (f 95) (y : Int)) 1 = 0 := zb.mp (by omega)
    refine aw_iload_n dX4_weight_13 rfl rfl ?_
    refine aw_iconst dX4_weight_14 rfl ?_
    refine aw_idiv dX4_weight_15 rfl (by omega) (by omega) ?_
    refine aw_iload_n dX4_weight_16 rfl rfl ?_
    refine aw_isub dX4_weight_17 rfl ?_
    refine aw_abs dX4_weight_18 rfl clm_X4_21 (by decide) (Nat.le_of_ble_eq_true rfl) ⟨Nat.zero_le _, Nat.zero_le _⟩ (by omega) ?_
    refine aw_istore4 rfl dX4_weight_21 rfl (by decide) ?_
    refine aw_iload dX4_weight_23 rfl rfl ?_
    refine aw_iconst dX4_weight_25 rfl ?_
    refine aw_icmp_le (tgt := 33) dX4_weight_26 (by decide) rfl (by omega) (by omega) (fun c26 => ?_) (fun c26 => ?_)
    · refine aw_iconst dX4_weight_33 rfl ?_
      refine aw_iload dX4_weight_34 rfl rfl ?_
      refine aw_isub dX4_weight_36 rfl ?_
      refine aw_ireturn (ty := .int) dX4_weight_37 rfl rfl ?_
      refine kk _ ?_
      rw [if_neg (show ¬ (f (47 + 8 * p + 7) = -4 ∨ zand (zshr (f 95) (y : Int)) 1 = 1) by omega)]
      (repeat' split) <;> omega
    · refine aw_iconst dX4_weight_29 rfl ?_
      refine aw_goto (tgt := 37) dX4_weight_30 (by decide) ?_
      refine aw_ireturn (ty := .int) dX4_weight_37 rfl rfl ?_
      refine kk _ ?_
      rw [if_neg (show ¬ (f (47 + 8 * p + 7) = -4 ∨ zand (zshr (f 95) (y : Int)) 1 = 1) by omega)]
      (repeat' split) <;> omega
  · refine aw_iconst dX4_weight_11 rfl ?_
    refine aw_ireturn (ty := .int) dX4_weight_12 rfl rfl ?_
    refine kk 0 ?_
    have hz : ¬ zand (zshr (f 95) (y : Int)) 1 = 0 := fun z => c8 (zb.mpr z)
    rw [if_pos (Or.inr (by omega))]
theorem sC_allWeights {p : Int} (wf : Wf n f) (h : Ev mem 1 n f) (hp : 0 ≤ p ∧ p < f 46) (hc : ¬ f (47 + 8 * p + 7) = -4) (k : Q (some (vI (allTo f p (3 * n).toNat))) mem) : AMet Γ mX4_allWeights [vR 107, vR 1, vI (f (47 + 8 * p + 7))] zG mem Q := by
  have h0 : mem 2 0 = n := h.1.1
  have hn := wf.1
  have loop : ∀ (d i : Nat), (i : Int) + d = 3 * n → AW Γ mX4_allWeights (zF Γ zG Q) zG 0 0 5 [some (vR 107), some (vR 1), some (vI (f (47 + 8 * p + 7))), some (vI (allTo f p i)), some (vI i)] [] mem := by
    intro d
    induction d with
    | zero =>
      intro i hi
      have e : i = (3 * n).toNat := by omega
      refine aw_iload dX4_allWeights_5 rfl rfl ?_
      refine aw_aload_n dX4_allWeights_7 rfl rfl ?_
      refine aw_getR dX4_allWeights_8 rfl fl_X4_27 g1 (by rfl) ?_
      refine aw_callV [] _ dX4_allWeights_11 rfl clv_X4_31 (by decide) ⟨Nat.zero_le _, Nat.zero_le _⟩ g2 (by rfl) (Nat.le_of_ble_eq_true rfl) rfl ?_
      refine sC_placeCount E1.2.1 ?_
      rw [h0]
      refine aw_icmp_ge (tgt := 34) dX4_allWeights_14 (by decide) rfl (by omega) (by omega) (fun c14 => ?_) (fun c14 => ?_)
      · refine aw_iload_n dX4_allWeights_34 rfl rfl ?_
        refine aw_ireturn (ty := .int) dX4_allWeights_35 rfl rfl ?_
        rw [e]; exact k
      · exfalso; omega
    | succ d ih =>
      intro i hi
      push_cast at hi
      have hz := ih (i + 1) (by push_cast; omega)
      rw [allTo] at hz
      push_cast at hz
      refine aw_iload dX4_allWeights_5 rfl rfl ?_
      refine aw_aload_n dX4_allWeights_7 rfl rfl ?_
      refine aw_getR dX4_allWeights_8 rfl fl_X4_27 g1 (by rfl) ?_
      refine aw_callV [] _ dX4_allWeights_11 rfl clv_X4_31 (by decide) ⟨Nat.zero_le _, Nat.zero_le _⟩ g2 (by rfl) (Nat.le_of_ble_eq_true rfl) rfl ?_
      refine sC_placeCount E1.2.1 ?_
      rw [h0]
      refine aw_icmp_ge (tgt := 34) dX4_allWeights_14 (by decide) rfl (by omega) (by omega) (fun c14 => ?_) (fun c14 => ?_)
      · exfalso; omega
      · refine aw_iload_n dX4_allWeights_17 rfl rfl ?_
        refine aw_aload_n dX4_allWeights_18 rfl rfl ?_
        refine aw_aload_n dX4_allWeights_19 rfl rfl ?_
        refine aw_iload_n dX4_allWeights_20 rfl rfl ?_
        refine aw_iload dX4_allWeights_21 rfl rfl ?_
        refine aw_callV [_, _, _] _ dX4_allWeights_23 rfl clv_X4_37 (by decide) ⟨Nat.zero_le _, Nat.zero_le _⟩ g107 (by rfl) (Nat.le_of_ble_eq_true rfl) rfl ?_
        refine sC_weight wf h hp (by omega) hc ?_
        refine aw_iadd dX4_allWeights_26 rfl ?_
        refine aw_istore3 rfl dX4_allWeights_27 rfl (by decide) ?_
        refine aw_iinc4 rfl dX4_allWeights_28 rfl (by decide) ?_
        refine aw_goto (tgt := 5) dX4_allWeights_31 (by decide) ?_
        exact hz
  refine AMet.of' 2 (ls := [some (vR (107)), some (vR (1)), some (vI ((f (47 + 8 * p + 7)))), none, none]) (by decide) rfl (Nat.le_of_ble_eq_true rfl) ?_
  refine aw_iconst dX4_allWeights_0 rfl ?_
  refine aw_istore3 rfl dX4_allWeights_1 rfl (by decide) ?_
  refine aw_iconst dX4_allWeights_2 rfl ?_
  refine aw_istore4 rfl dX4_allWeights_3 rfl (by decide) ?_
  exact loop (3 * n).toNat 0 (by omega)
theorem sC_meanIn {x : Int} (wf : Wf n f) (h : Ev mem 1 n f) (hw : ∀ p : Nat, (p : Int) < f 46 → mem 108 p = allTo f p (3 * n).toNat) (hx : 0 ≤ x ∧ x < 24) (k : Q (some (vI (meanTo n f x (f 46).toNat))) mem) : AMet Γ mX4_meanIn [vR 107, vR 1, vI x] zG mem Q := by
  have a2 : mem 1 2 = f 46 := h.2.1.1
  have hn := wf.1
  have w46 := wf.n46
  have loop : ∀ (d p : Nat), (p : Int) + d = f 46 → AW Γ mX4_meanIn (zF Γ zG Q) zG 0 0 5 [some (vR 107), some (vR 1), some (vI x), some (vI (meanTo n f x p)), some (vI p)] [] mem := by
    intro d
    induction d with
    | zero =>
      intro p hp
      have e : p = (f 46).toNat := by omega
      refine aw_iload dX4_meanIn_5 rfl rfl ?_
      refine aw_aload_n dX4_meanIn_7 rfl rfl ?_
      refine aw_getI (kI := 2) dX4_meanIn_8 rfl fl_X4_41 g1 (by rfl) rfl ?_
      rw [a2]
      refine aw_icmp_ge (tgt := 61) dX4_meanIn_11 (by decide) rfl (by omega) (by omega) (fun c11 => ?_) (fun c11 => ?_)
      · refine aw_iload_n dX4_meanIn_61 rfl rfl ?_
        refine aw_ireturn (ty := .int) dX4_meanIn_62 rfl rfl ?_
        rw [e]; exact k
      · exfalso; omega
    | succ d ih =>
      intro p hp
      push_cast at hp
      have gp := E1.2.2.2.2.2.2 p (by omega)
      unfold SpG at gp
      have hmm : mem (1 + 10 + p) 6 = f (47 + 8 * (p : Int) + 7) := (h.2.2.1 p (by omega)).2.2.2.2.2.2
      have hz := ih (p + 1) (by push_cast; omega)
      rw [meanTo] at hz
      push_cast at hz
      have hwp := hw p (by omega)
      have ar := allTo_rng f p (3 * n).toNat
      have hne : ¬ allTo f p (3 * n).toNat = 0 → ¬ f (47 + 8 * (p : Int) + 7) = -4 := fun z y => z (all_none y _)
      refine aw_iload dX4_meanIn_5 rfl rfl ?_
      refine aw_aload_n dX4_meanIn_7 rfl rfl ?_
      refine aw_getI (kI := 2) dX4_meanIn_8 rfl fl_X4_41 g1 (by rfl) rfl ?_
      rw [a2]
      refine aw_icmp_ge (tgt := 61) dX4_meanIn_11 (by decide) rfl (by omega) (by omega) (fun c11 => ?_) (fun c11 => ?_)
      · exfalso; omega
      · refine aw_aload_n dX4_meanIn_14 rfl rfl ?_
        refine aw_getR dX4_meanIn_15 rfl fl_X4_9 g107 (by rfl) ?_
        refine aw_iload dX4_meanIn_18 rfl rfl ?_
        refine aw_iaload dX4_meanIn_20 rfl g108 (by decide) (by omega) ?_
        rw [hwp]
        refine aw_if_le (tgt := 55) dX4_meanIn_21 (by decide) rfl (by omega) (fun c21 => ?_) (fun c21 => ?_)
        · refine aw_iinc4 rfl dX4_meanIn_55 rfl (by decide) ?_
          refine aw_goto (tgt := 5) dX4_meanIn_58 (by decide) ?_
          first | (rw [if_pos (by omega), Int.add_zero] at hz; exact hz) | (rw [if_neg (by omega), Int.mul_comm] at hz; exact hz)
        · refine aw_iload_n dX4_meanIn_24 rfl rfl ?_
          refine aw_aload_n dX4_meanIn_25 rfl rfl ?_
          refine aw_aload_n dX4_meanIn_26 rfl rfl ?_
          refine aw_aload_n dX4_meanIn_27 rfl rfl ?_
          refine aw_getR dX4_meanIn_28 rfl fl_X4_44 g1 (by rfl) ?_
          refine aw_iload dX4_meanIn_31 rfl rfl ?_
          refine aw_aaload dX4_meanIn_33 rfl g7 six_len (by omega) (six_getN (b := 1) (by omega)) ?_
          refine aw_getI (kI := 6) dX4_meanIn_34 rfl fl_X4_48 (by first | assumption | rfl) (by rfl) rfl ?_
          rw [hmm]
          refine aw_iload_n dX4_meanIn_37 rfl rfl ?_
          refine aw_callV [_, _, _] _ dX4_meanIn_38 rfl clv_X4_37 (by decide) ⟨Nat.zero_le _, Nat.zero_le _⟩ g107 (by rfl) (Nat.le_of_ble_eq_true rfl) rfl ?_
          refine sC_weight wf h (by omega) hx (hne (by omega)) ?_
          refine aw_sipush dX4_meanIn_41 rfl (by decide) ?_
          refine aw_aload_n dX4_meanIn_44 rfl rfl ?_
          refine aw_getR dX4_meanIn_45 rfl fl_X4_9 g107 (by rfl) ?_
          refine aw_iload dX4_meanIn_48 rfl rfl ?_
          refine aw_iaload dX4_meanIn_50 rfl g108 (by decide) (by omega) ?_
          rw [hwp]
          refine aw_idiv dX4_meanIn_51 rfl (by omega) (by omega) ?_
          refine aw_imul dX4_meanIn_52 rfl ?_
          refine aw_iadd dX4_meanIn_53 rfl ?_
          refine aw_istore3 rfl dX4_meanIn_54 rfl (by decide) ?_
          refine aw_iinc4 rfl dX4_meanIn_55 rfl (by decide) ?_
          refine aw_goto (tgt := 5) dX4_meanIn_58 (by decide) ?_
          first | (rw [if_pos (by omega), Int.add_zero] at hz; exact hz) | (rw [if_neg (by omega), Int.mul_comm] at hz; exact hz)
  refine AMet.of' 2 (ls := [some (vR (107)), some (vR (1)), some (vI (x)), none, none]) (by decide) rfl (Nat.le_of_ble_eq_true rfl) ?_
  refine aw_iconst dX4_meanIn_0 rfl ?_
  refine aw_istore3 rfl dX4_meanIn_1 rfl (by decide) ?_
  refine aw_iconst dX4_meanIn_2 rfl ?_
  refine aw_istore4 rfl dX4_meanIn_3 rfl (by decide) ?_
  exact loop (f 46).toNat 0 (by omega)
theorem sC_searchFullest (wf : Wf n f) (h : Ev mem 1 n f) (k : ∀ m' : Mem, FrI m' mem 107 109 → m' 107 1 = (nextAt n f (3 * n).toNat).1 → m' 107 2 = (nextAt n f (3 * n).toNat).2 → Q none m') : AMet Γ mX4_searchFullest [vR 107, vR 1] zG mem Q := by
  have a2 : mem 1 2 = f 46 := h.2.1.1
  have h0 : mem 2 0 = n := h.1.1
  have hn := wf.1
  have w46 := wf.n46
  have loop2 : ∀ (d x : Nat) (m : Mem) (x3 : Option AV), (x : Int) + d = 3 * n → FrI m mem 107 109 → (∀ p : Nat, (p : Int) < f 46 → m 108 p = allTo f p (3 * n).toNat) → m 107 1 = (nextAt n f x).1 → m 107 2 = (nextAt n f x).2 → AW Γ mX4_searchFullest (zF Γ zG Q) zG 0 0 61 [some (vR 107), some (vR 1), some (vI x), x3] [] m := by
    intro d
    induction d with
    | zero =>
      intro x m x3 hx hF hw e1 e2
      have e : x = (3 * n).toNat := by omega
      have m2 : m 2 0 = n := by rw [hF 2 (by omega)]; exact h0
      refine aw_iload_n dX4_searchFullest_61 rfl rfl ?_
      refine aw_aload_n dX4_searchFullest_62 rfl rfl ?_
      refine aw_getR dX4_searchFullest_63 rfl fl_X4_27 g1 (by rfl) ?_
      refine aw_callV [] _ dX4_searchFullest_66 rfl clv_X4_31 (by decide) ⟨Nat.zero_le _, Nat.zero_le _⟩ g2 (by rfl) (Nat.le_of_ble_eq_true rfl) rfl ?_
      refine sC_placeCount E1.2.1 ?_
      rw [m2]
      refine aw_icmp_ge (tgt := 103) dX4_searchFullest_69 (by decide) rfl (by omega) (by omega) (fun c69 => ?_) (fun c69 => ?_)
      · refine aw_return dX4_searchFullest_103 rfl ?_
        rw [e] at e1 e2; exact k m hF e1 e2
      · exfalso; omega
    | succ d ih =>
      intro x m x3 hx hF hw e1 e2
      push_cast at hx
      have m2 : m 2 0 = n := by rw [hF 2 (by omega)]; exact h0
      have hev : Ev m 1 n f := h.keep w46.2 (fun d d0 d1 => hF d (by omega))
      have nr := nextAt_rng n f w46 x
      have mr := meanTo_rng n f (x : Int) (f 46).toNat
      have nx := fun m x3 => ih (x + 1) m x3 (by push_cast; omega)
      rw [nextAt] at nx
      refine aw_iload_n dX4_searchFullest_61 rfl rfl ?_
      refine aw_aload_n dX4_searchFullest_62 rfl rfl ?_
      refine aw_getR dX4_searchFullest_63 rfl fl_X4_27 g1 (by rfl) ?_
      refine aw_callV [] _ dX4_searchFullest_66 rfl clv_X4_31 (by decide) ⟨Nat.zero_le _, Nat.zero_le _⟩ g2 (by rfl) (Nat.le_of_ble_eq_true rfl) rfl ?_
      refine sC_placeCount E1.2.1 ?_
      rw [m2]
      refine aw_icmp_ge (tgt := 103) dX4_searchFullest_69 (by decide) rfl (by omega) (by omega) (fun c69 => ?_) (fun c69 => ?_)
      · exfalso; omega
      · refine aw_aload_n dX4_searchFullest_72 rfl rfl ?_
        refine aw_aload_n dX4_searchFullest_73 rfl rfl ?_
        refine aw_iload_n dX4_searchFullest_74 rfl rfl ?_
        refine aw_callV [_, _] _ dX4_searchFullest_75 rfl clv_X4_63 (by decide) ⟨Nat.zero_le _, Nat.zero_le _⟩ g107 (by rfl) (Nat.le_of_ble_eq_true rfl) rfl ?_
        refine sC_meanIn wf hev hw (by omega) ?_
        refine aw_istore3 rfl dX4_searchFullest_78 rfl (by decide) ?_
        refine aw_iload_n dX4_searchFullest_79 rfl rfl ?_
        refine aw_aload_n dX4_searchFullest_80 rfl rfl ?_
        refine aw_getI (kI := 2) dX4_searchFullest_81 rfl fl_X4_60 g107 (by rfl) rfl ?_
        rw [e2]
        refine aw_icmp_le (tgt := 97) dX4_searchFullest_84 (by decide) rfl (by omega) (by omega) (fun c84 => ?_) (fun c84 => ?_)
        · refine aw_iinc2 rfl dX4_searchFullest_97 rfl (by decide) ?_
          refine aw_goto (tgt := 61) dX4_searchFullest_100 (by decide) ?_
          first | (rw [if_neg (by omega)] at nx; exact nx m _ hF hw e1 e2) | (rw [if_pos (by omega)] at nx; exact nx _ _ ((hF.set (by omega)).set (by omega)) (fun p hp => by rw [mset_ne (by decide), mset_ne (by decide)]; exact hw p hp) rfl rfl)
        · refine aw_aload_n dX4_searchFullest_87 rfl rfl ?_
          refine aw_iload_n dX4_searchFullest_88 rfl rfl ?_
          refine aw_putI (kI := 2) dX4_searchFullest_89 rfl fp_X4_60 g107 (by rfl) rfl ?_
          refine aw_aload_n dX4_searchFullest_92 rfl rfl ?_
          refine aw_iload_n dX4_searchFullest_93 rfl rfl ?_
          refine aw_putI (kI := 1) dX4_searchFullest_94 rfl fp_X4_57 g107 (by rfl) rfl ?_
          refine aw_iinc2 rfl dX4_searchFullest_97 rfl (by decide) ?_
          refine aw_goto (tgt := 61) dX4_searchFullest_100 (by decide) ?_
          first | (rw [if_neg (by omega)] at nx; exact nx m _ hF hw e1 e2) | (rw [if_pos (by omega)] at nx; exact nx _ _ ((hF.set (by omega)).set (by omega)) (fun p hp => by rw [mset_ne (by decide), mset_ne (by decide)]; exact hw p hp) rfl rfl)
  have loop1 : ∀ (d p : Nat) (m : Mem) (x3 : Option AV), (p : Int) + d = f 46 → FrI m mem 107 109 → (∀ q : Nat, q < p → m 108 q = allTo f q (3 * n).toNat) → AW Γ mX4_searchFullest (zF Γ zG Q) zG 0 0 2 [some (vR 107), some (vR 1), some (vI p), x3] [] m := by
    intro d
    induction d with
    | zero =>
      intro p m x3 hp hF hw
      have m2 : m 1 2 = f 46 := by rw [hF 1 (by omega)]; exact a2
      refine aw_iload_n dX4_searchFullest_2 rfl rfl ?_
      refine aw_aload_n dX4_searchFullest_3 rfl rfl ?_
      refine aw_getI (kI := 2) dX4_searchFullest_4 rfl fl_X4_41 g1 (by rfl) rfl ?_
      rw [m2]
      refine aw_icmp_ge (tgt := 48) dX4_searchFullest_7 (by decide) rfl (by omega) (by omega) (fun c7 => ?_) (fun c7 => ?_)
      · refine aw_aload_n dX4_searchFullest_48 rfl rfl ?_
        refine aw_bipush dX4_searchFullest_49 rfl (by decide) ?_
        refine aw_putI (kI := 1) dX4_searchFullest_51 rfl fp_X4_57 g107 (by rfl) rfl ?_
        refine aw_aload_n dX4_searchFullest_54 rfl rfl ?_
        refine aw_iconst dX4_searchFullest_55 rfl ?_
        refine aw_putI (kI := 2) dX4_searchFullest_56 rfl fp_X4_60 g107 (by rfl) rfl ?_
        refine aw_iconst dX4_searchFullest_59 rfl ?_
        refine aw_istore2 rfl dX4_searchFullest_60 rfl (by decide) ?_
        exact loop2 (3 * n).toNat 0 _ _ (by omega) ((hF.set (by omega)).set (by omega)) (fun q hq => by rw [mset_ne (by decide), mset_ne (by decide)]; exact hw q (by omega)) rfl rfl
      · exfalso; omega
    | succ d ih =>
      intro p m x3 hp hF hw
      push_cast at hp
      have m2 : m 1 2 = f 46 := by rw [hF 1 (by omega)]; exact a2
      have hev : Ev m 1 n f := h.keep w46.2 (fun d d0 d1 => hF d (by omega))
      have gp := E1.2.2.2.2.2.2 p (by omega)
      unfold SpG at gp
      have hmm : m (1 + 10 + p) 6 = f (47 + 8 * (p : Int) + 7) := (hev.2.2.1 p (by omega)).2.2.2.2.2.2
      have rm := (wf.sp (p := p) (by omega)).2.2.2.2.2.2.2
      have nx : ∀ (v : Int) (x3 : Option AV), v = allTo f p (3 * n).toNat → AW Γ mX4_searchFullest (zF Γ zG Q) zG 0 0 41 [some (vR 107), some (vR 1), some (vI p), x3] [vI v, vI p, vR 108] m := by
        intro v x3 hv
        refine aw_iastore dX4_searchFullest_41 rfl g108 (by omega) (by omega) ?_
        refine aw_iinc2 rfl dX4_searchFullest_42 rfl (by decide) ?_
        refine aw_goto (tgt := 2) dX4_searchFullest_45 (by decide) ?_
        refine ih (p + 1) _ _ (by push_cast; omega) (hF.set (by omega)) (fun q hq => ?_)
        rw [mset_same]
        by_cases e : q = p
        · subst e
          rw [fset_same, hv]
        · rw [fset_ne (by omega)]
          exact hw q (by omega)
      refine aw_iload_n dX4_searchFullest_2 rfl rfl ?_
      refine aw_aload_n dX4_searchFullest_3 rfl rfl ?_
      refine aw_getI (kI := 2) dX4_searchFullest_4 rfl fl_X4_41 g1 (by rfl) rfl ?_
      rw [m2]
      refine aw_icmp_ge (tgt := 48) dX4_searchFullest_7 (by decide) rfl (by omega) (by omega) (fun c7 => ?_) (fun c7 => ?_)
      · exfalso; omega
      · refine aw_aload_n dX4_searchFullest_10 rfl rfl ?_
        refine aw_getR dX4_searchFullest_11 rfl fl_X4_44 g1 (by rfl) ?_
        refine aw_iload_n dX4_searchFullest_14 rfl rfl ?_
        refine aw_aaload dX4_searchFullest_15 rfl g7 six_len (by omega) (six_getN (b := 1) (by omega)) ?_
        refine aw_getI (kI := 6) dX4_searchFullest_16 rfl fl_X4_48 (by first | assumption | rfl) (by rfl) rfl ?_
        rw [hmm]
        refine aw_istore3 rfl dX4_searchFullest_19 rfl (by decide) ?_
        refine aw_aload_n dX4_searchFullest_20 rfl rfl ?_
        refine aw_getR dX4_searchFullest_21 rfl fl_X4_9 g107 (by rfl) ?_
        refine aw_iload_n dX4_searchFullest_24 rfl rfl ?_
        refine aw_iload_n dX4_searchFullest_25 rfl rfl ?_
        refine aw_bipush dX4_searchFullest_26 rfl (by decide) ?_
        refine aw_icmp_ne (tgt := 35) dX4_searchFullest_28 (by decide) rfl (by omega) (by omega) (fun c28 => ?_) (fun c28 => ?_)
        · refine aw_aload_n dX4_searchFullest_35 rfl rfl ?_
          refine aw_aload_n dX4_searchFullest_36 rfl rfl ?_
          refine aw_iload_n dX4_searchFullest_37 rfl rfl ?_
          refine aw_callV [_, _] _ dX4_searchFullest_38 rfl clv_X4_53 (by decide) ⟨Nat.zero_le _, Nat.zero_le _⟩ g107 (by rfl) (Nat.le_of_ble_eq_true rfl) rfl ?_
          refine sC_allWeights wf hev (by omega) (by omega) ?_
          first | exact nx _ _ rfl | exact nx 0 _ (all_none (by omega) _).symm
        · refine aw_iconst dX4_searchFullest_31 rfl ?_
          refine aw_goto (tgt := 41) dX4_searchFullest_32 (by decide) ?_
          first | exact nx _ _ rfl | exact nx 0 _ (all_none (by omega) _).symm
  refine AMet.of' 2 (ls := [some (vR (107)), some (vR (1)), none, none]) (by decide) rfl (Nat.le_of_ble_eq_true rfl) ?_
  refine aw_iconst dX4_searchFullest_0 rfl ?_
  refine aw_istore2 rfl dX4_searchFullest_1 rfl (by decide) ?_
  exact loop1 (f 46).toNat 0 mem none (by omega) FrI.rf (fun q hq => by omega)
theorem sC_lies {p x w : Int} (wf : Wf n f) (h : Ev mem 1 n f) (hp : -2147483648 ≤ p ∧ p ≤ 2147483647) (hx : -2147483648 ≤ x ∧ x ≤ 2147483647) (hw : -2147483648 ≤ w ∧ w ≤ 2147483647) (k : Q (some (vL (liesM n f p x w))) mem) : AMet Γ mX10_lies [vR 0, vI p, vI x, vI w] zG mem Q := by
  have a2 : mem 1 2 = f 46 := h.2.1.1
  have h0 : mem 2 0 = n := h.1.1
  have hn := wf.1
  have w46 := wf.n46
  unfold liesM at k
  have s38 : (0 ≤ p ∧ p < f 46) ∧ (0 ≤ x ∧ x < 3 * n) ∧ (0 ≤ w ∧ w ≤ 1) → AW Γ mX10_lies (zF Γ zG Q) zG 0 0 38 [some (vR 0), some (vI p), some (vI x), some (vI w), none, none] [] mem := by
    intro hz
    rw [if_pos hz] at k
    obtain ⟨q, rfl⟩ : ∃ q : Nat, p = q := ⟨p.toNat, by omega⟩
    have gp := E1.2.2.2.2.2.2 q (by omega)
    unfold SpG at gp
    have hmm : mem (1 + 10 + q) 6 = f (47 + 8 * (q : Int) + 7) := (h.2.2.1 q hz.1.2).2.2.2.2.2.2
    have rm := (wf.sp (p := q) hz.1.2).2.2.2.2.2.2.2
    have ar := allTo_rng f q (3 * n).toNat
    have wr := weightF_rng f q x
    refine aw_aload_n dX10_lies_38 rfl rfl ?_
    refine aw_getR dX10_lies_39 rfl fl_X10_12 g0 (by rfl) ?_
    refine aw_getR dX10_lies_42 rfl fl_X10_151 g1 (by rfl) ?_
    refine aw_iload_n dX10_lies_45 rfl rfl ?_
    refine aw_aaload dX10_lies_46 rfl g7 six_len (by omega) (six_getN (b := 1) (by omega)) ?_
    refine aw_getI (kI := 6) dX10_lies_47 rfl fl_X10_193 (by first | assumption | rfl) (by rfl) rfl ?_
    rw [hmm]
    refine aw_istore4 rfl dX10_lies_50 rfl (by decide) ?_
    refine aw_iload dX10_lies_52 rfl rfl ?_
    refine aw_bipush dX10_lies_54 rfl (by decide) ?_
    refine aw_icmp_ne (tgt := 63) dX10_lies_56 (by decide) rfl (by omega) (by omega) (fun c56 => ?_) (fun c56 => ?_)
    · refine aw_aload_n dX10_lies_63 rfl rfl ?_
      refine aw_getR dX10_lies_64 rfl fl_X10_65 g0 (by rfl) ?_
      refine aw_aload_n dX10_lies_67 rfl rfl ?_
      refine aw_getR dX10_lies_68 rfl fl_X10_12 g0 (by rfl) ?_
      refine aw_iload dX10_lies_71 rfl rfl ?_
      refine aw_callV [_, _] _ dX10_lies_73 rfl clv_X10_291 (by decide) ⟨Nat.zero_le _, Nat.zero_le _⟩ g107 (by rfl) (Nat.le_of_ble_eq_true rfl) rfl ?_
      refine sC_allWeights wf h hz.1 (by omega) ?_
      refine aw_istore5 rfl dX10_lies_76 rfl (by decide) ?_
      refine aw_iload dX10_lies_78 rfl rfl ?_
      refine aw_if_ne (tgt := 87) dX10_lies_80 (by decide) rfl (by omega) (fun c80 => ?_) (fun c80 => ?_)
      · refine aw_aload_n dX10_lies_87 rfl rfl ?_
        refine aw_getR dX10_lies_88 rfl fl_X10_65 g0 (by rfl) ?_
        refine aw_aload_n dX10_lies_91 rfl rfl ?_
        refine aw_getR dX10_lies_92 rfl fl_X10_12 g0 (by rfl) ?_
        refine aw_iload dX10_lies_95 rfl rfl ?_
        refine aw_iload_n dX10_lies_97 rfl rfl ?_
        refine aw_callV [_, _, _] _ dX10_lies_98 rfl clv_X10_297 (by decide) ⟨Nat.zero_le _, Nat.zero_le _⟩ g107 (by rfl) (Nat.le_of_ble_eq_true rfl) rfl ?_
        refine sC_weight wf h hz.1 (by omega) (by omega) ?_
        refine aw_i2l dX10_lies_101 rfl (by omega) ?_
        refine aw_iload dX10_lies_102 rfl rfl ?_
        refine aw_i2l dX10_lies_104 rfl (by omega) ?_
        refine aw_iload_n dX10_lies_105 rfl rfl ?_
        refine aw_callS [_, _, _] _ dX10_lies_106 rfl cls_X10_301 (by decide) ⟨Nat.zero_le _, Nat.zero_le _⟩ (Nat.le_of_ble_eq_true rfl) rfl ?_
        refine sC_fractionPart (by omega) (by omega) hz.2.2 ?_
        refine aw_lreturn dX10_lies_109 rfl ?_
        rw [if_neg (by omega), if_neg (by omega)] at k; exact k
      · refine aw_ldc2 (a := -4) dX10_lies_83 rfl lc_X10_295 (by decide) ?_
        refine aw_lreturn dX10_lies_86 rfl ?_
        rw [if_neg (by omega), if_pos (by omega)] at k; exact k
    · refine aw_ldc2 (a := -2) dX10_lies_59 rfl lc_X10_289 (by decide) ?_
      refine aw_lreturn dX10_lies_62 rfl ?_
      rw [if_pos (by omega)] at k; exact k
  refine AMet.of' 2 (ls := [some (vR (0)), some (vI (p)), some (vI (x)), some (vI (w)), none, none]) (by decide) rfl (Nat.le_of_ble_eq_true rfl) ?_
  refine aw_aload_n dX10_lies_0 rfl rfl ?_
  refine aw_getR dX10_lies_1 rfl fl_X10_12 g0 (by rfl) ?_
  refine aw_iload_n dX10_lies_4 rfl rfl ?_
  refine aw_callV [_] _ dX10_lies_5 rfl clv_X10_148 (by decide) ⟨Nat.zero_le _, Nat.zero_le _⟩ g1 (by rfl) (Nat.le_of_ble_eq_true rfl) rfl ?_
  refine sC_hasSpud E1 (by rw [a2]; exact w46) hp (fun c5 => ?_) (fun c5 => ?_)
  · refine aw_if_eq (tgt := 34) dX10_lies_8 (by decide) rfl (by omega) (fun c => absurd c (by decide)) (fun _ => ?_)
    refine aw_aload_n dX10_lies_11 rfl rfl ?_
    refine aw_getR dX10_lies_12 rfl fl_X10_12 g0 (by rfl) ?_
    refine aw_getR dX10_lies_15 rfl fl_X10_105 g1 (by rfl) ?_
    refine aw_iload_n dX10_lies_18 rfl rfl ?_
    refine aw_callV [_] _ dX10_lies_19 rfl clv_X10_132 (by decide) ⟨Nat.zero_le _, Nat.zero_le _⟩ g2 (by rfl) (Nat.le_of_ble_eq_true rfl) rfl ?_
    refine sC_hasPlace E1.2.1 (by rw [h0]; exact hn) hx (fun c19 => ?_) (fun c19 => ?_)
    · refine aw_if_eq (tgt := 34) dX10_lies_22 (by decide) rfl (by omega) (fun c => absurd c (by decide)) (fun _ => ?_)
      refine aw_iload_n dX10_lies_25 rfl rfl ?_
      refine aw_if_lt (tgt := 34) dX10_lies_26 (by decide) rfl (by omega) (fun c26 => ?_) (fun c26 => ?_)
      · refine aw_ldc2 (a := -1) dX10_lies_34 rfl lc_X10_287 (by decide) ?_
        refine aw_lreturn dX10_lies_37 rfl ?_
        first | (rw [a2] at c5; rw [if_neg (by omega)] at k; exact k) | (rw [h0] at c19; rw [if_neg (by omega)] at k; exact k) | (rw [if_neg (by omega)] at k; exact k)
      · refine aw_iload_n dX10_lies_29 rfl rfl ?_
        refine aw_iconst dX10_lies_30 rfl ?_
        refine aw_icmp_le (tgt := 38) dX10_lies_31 (by decide) rfl (by omega) (by omega) (fun c31 => ?_) (fun c31 => ?_)
        · exact s38 (by rw [a2] at c5; rw [h0] at c19; omega)
        · refine aw_ldc2 (a := -1) dX10_lies_34 rfl lc_X10_287 (by decide) ?_
          refine aw_lreturn dX10_lies_37 rfl ?_
          first | (rw [a2] at c5; rw [if_neg (by omega)] at k; exact k) | (rw [h0] at c19; rw [if_neg (by omega)] at k; exact k) | (rw [if_neg (by omega)] at k; exact k)
    · refine aw_if_eq (tgt := 34) dX10_lies_22 (by decide) rfl (by omega) (fun _ => ?_) (fun c => absurd c (by decide))
      refine aw_ldc2 (a := -1) dX10_lies_34 rfl lc_X10_287 (by decide) ?_
      refine aw_lreturn dX10_lies_37 rfl ?_
      first | (rw [a2] at c5; rw [if_neg (by omega)] at k; exact k) | (rw [h0] at c19; rw [if_neg (by omega)] at k; exact k) | (rw [if_neg (by omega)] at k; exact k)
  · refine aw_if_eq (tgt := 34) dX10_lies_8 (by decide) rfl (by omega) (fun _ => ?_) (fun c => absurd c (by decide))
    refine aw_ldc2 (a := -1) dX10_lies_34 rfl lc_X10_287 (by decide) ?_
    refine aw_lreturn dX10_lies_37 rfl ?_
    first | (rw [a2] at c5; rw [if_neg (by omega)] at k; exact k) | (rw [h0] at c19; rw [if_neg (by omega)] at k; exact k) | (rw [if_neg (by omega)] at k; exact k)
theorem sC_next {w : Int} (wf : Wf n f) (h : Ev mem 1 n f) (hw : -2147483648 ≤ w ∧ w ≤ 2147483647) (k : ∀ m' : Mem, FrI m' mem 107 109 → Q (some (vL (nextM n f w))) m') : AMet Γ mX10_next [vR 0, vI w] zG mem Q := by
  have w46 := wf.n46
  have nr := nextAt_rng n f w46 (3 * n).toNat
  have hn := wf.1
  unfold nextM at k
  refine AMet.of' 0 (ls := [some (vR (0)), some (vI (w))]) (by decide) rfl (Nat.le_of_ble_eq_true rfl) ?_
  refine aw_iload_n dX10_next_0 rfl rfl ?_
  refine aw_if_lt (tgt := 9) dX10_next_1 (by decide) rfl (by omega) (fun c1 => ?_) (fun c1 => ?_)
  · refine aw_ldc2 (a := -1) dX10_next_9 rfl lc_X10_287 (by decide) ?_
    refine aw_lreturn dX10_next_12 rfl ?_
    rw [if_neg (by omega)] at k; exact k _ FrI.rf
  · refine aw_iload_n dX10_next_4 rfl rfl ?_
    refine aw_iconst dX10_next_5 rfl ?_
    refine aw_icmp_le (tgt := 13) dX10_next_6 (by decide) rfl (by omega) (by omega) (fun c6 => ?_) (fun c6 => ?_)
    · refine aw_aload_n dX10_next_13 rfl rfl ?_
      refine aw_getR dX10_next_14 rfl fl_X10_65 g0 (by rfl) ?_
      refine aw_aload_n dX10_next_17 rfl rfl ?_
      refine aw_getR dX10_next_18 rfl fl_X10_12 g0 (by rfl) ?_
      refine aw_callV [_] _ dX10_next_21 rfl clv_X10_305 (by decide) ⟨Nat.zero_le _, Nat.zero_le _⟩ g107 (by rfl) (Nat.le_of_ble_eq_true rfl) rfl ?_
      refine sC_searchFullest wf h (fun m1 f1 e1 e2 => ?_)
      refine aw_aload_n dX10_next_24 rfl rfl ?_
      refine aw_getR dX10_next_25 rfl fl_X10_65 g0 (by rfl) ?_
      refine aw_getI (kI := 1) dX10_next_28 rfl fl_X10_308 g107 (by rfl) rfl ?_
      rw [e1]
      refine aw_bipush dX10_next_31 rfl (by decide) ?_
      refine aw_icmp_ne (tgt := 40) dX10_next_33 (by decide) rfl (by omega) (by omega) (fun c33 => ?_) (fun c33 => ?_)
      · refine aw_iload_n dX10_next_40 rfl rfl ?_
        refine aw_if_ne (tgt := 55) dX10_next_41 (by decide) rfl (by omega) (fun c41 => ?_) (fun c41 => ?_)
        · refine aw_aload_n dX10_next_55 rfl rfl ?_
          refine aw_getR dX10_next_56 rfl fl_X10_65 g0 (by rfl) ?_
          refine aw_getI (kI := 2) dX10_next_59 rfl fl_X10_311 g107 (by rfl) rfl ?_
          rw [e2]
          refine aw_i2l dX10_next_62 rfl (by omega) ?_
          refine aw_ldc2 (a := 27720) dX10_next_63 rfl lc_X10_314 (by decide) ?_
          refine aw_iload_n dX10_next_66 rfl rfl ?_
          refine aw_iconst dX10_next_67 rfl ?_
          refine aw_isub dX10_next_68 rfl ?_
          refine aw_callS [_, _, _] _ dX10_next_69 rfl cls_X10_301 (by decide) ⟨Nat.zero_le _, Nat.zero_le _⟩ (Nat.le_of_ble_eq_true rfl) rfl ?_
          refine sC_fractionPart (by omega) (by omega) (by omega) ?_
          refine aw_lreturn dX10_next_72 rfl ?_
          first | (rw [if_pos (by omega), if_neg (by omega), if_pos (by omega)] at k; exact k m1 f1) | (rw [if_pos (by omega), if_neg (by omega), if_neg (by omega)] at k; exact k m1 f1)
        · refine aw_aload_n dX10_next_44 rfl rfl ?_
          refine aw_getR dX10_next_45 rfl fl_X10_65 g0 (by rfl) ?_
          refine aw_getI (kI := 1) dX10_next_48 rfl fl_X10_308 g107 (by rfl) rfl ?_
          rw [e1]
          refine aw_i2l dX10_next_51 rfl (by omega) ?_
          refine aw_goto (tgt := 72) dX10_next_52 (by decide) ?_
          refine aw_lreturn dX10_next_72 rfl ?_
          first | (rw [if_pos (by omega), if_neg (by omega), if_pos (by omega)] at k; exact k m1 f1) | (rw [if_pos (by omega), if_neg (by omega), if_neg (by omega)] at k; exact k m1 f1)
      · refine aw_ldc2 (a := -4) dX10_next_36 rfl lc_X10_295 (by decide) ?_
        refine aw_lreturn dX10_next_39 rfl ?_
        rw [if_pos (by omega), if_pos (by omega)] at k; exact k m1 f1
    · refine aw_ldc2 (a := -1) dX10_next_9 rfl lc_X10_287 (by decide) ?_
      refine aw_lreturn dX10_next_12 rfl ?_
      rw [if_neg (by omega)] at k; exact k _ FrI.rf
end ZCmp13
