theorem embS_big {n : Int} {f : Int → Int} (w : Wf n f) {x r : Int} (hr : 10 ≤ r ∨ r ≤ 0) : embS f x r = 0 := by
  have w26 := w.2.2.2.2.1
  unfold embS
  have hz : ∀ k : Nat, (k : Int) ≤ f 26 → embTo f x r k = 0 := by
    intro k
    induction k with
    | zero => intro _; rfl
    | succ k ih =>
      intro hk
      push_cast at hk
      have := (w.2.2.2.2.2.1 k (by omega) (by omega)).2.2
      rw [embTo, ih (by omega), if_neg (fun z => by have := z.2; omega)]
      rfl
  exact hz _ (by omega)
theorem shr_z {v x : Int} (hv : 0 ≤ v ∧ v ≤ 99) (hx : 0 ≤ x) : zshr v (x % 3) = shr v x := by
  rw [zshr_d (by omega) (by omega)]
  rfl
section ZCmp14
variable {Γ : ZG} {mem : Mem} {Q : Option AV → Mem → Prop} {n : Int} {f : Int → Int}
theorem sC_addEmber {a x r : Int} (ha : 0 ≤ a ∧ a ≤ 99) (hx : 0 ≤ x ∧ x < 24) (hr : 1 ≤ r ∧ r ≤ 9) (k : Q none (mset mem 89 r (mem 89 r + shr a x))) : AMet Γ mX9_addEmber [vR 87, vI a, vI x, vI r] zG mem Q := by
  have es := shr_z ha hx.1
  refine AMet.of' 0 (ls := [some (vR (87)), some (vI (a)), some (vI (x)), some (vI (r))]) (by decide) rfl (Nat.le_of_ble_eq_true rfl) ?_
  refine aw_iload_n dX9_addEmber_0 rfl rfl ?_
  refine aw_if_lt (tgt := 29) dX9_addEmber_1 (by decide) rfl (by omega) (fun c1 => ?_) (fun c1 => ?_)
  · refine aw_return dX9_addEmber_29 rfl ?_
    first | (exfalso; omega) | exact k
  · refine aw_iload_n dX9_addEmber_4 rfl rfl ?_
    refine aw_aload_n dX9_addEmber_5 rfl rfl ?_
    refine aw_getR dX9_addEmber_6 rfl fl_X9_15 (by first | assumption | rfl) (by rfl) ?_
    refine aw_alenI dX9_addEmber_9 rfl (by first | assumption | rfl) ?_
    refine aw_icmp_ge (tgt := 29) dX9_addEmber_10 (by decide) rfl (by omega) (by omega) (fun c10 => ?_) (fun c10 => ?_)
    · refine aw_return dX9_addEmber_29 rfl ?_
      first | (exfalso; omega) | exact k
    · refine aw_aload_n dX9_addEmber_13 rfl rfl ?_
      refine aw_getR dX9_addEmber_14 rfl fl_X9_15 (by first | assumption | rfl) (by rfl) ?_
      refine aw_iload_n dX9_addEmber_17 rfl rfl ?_
      refine aw_dup2 dX9_addEmber_18 rfl rfl rfl ?_
      refine aw_iaload dX9_addEmber_19 rfl (by first | assumption | rfl) (by decide) (by omega) ?_
      refine aw_iload_n dX9_addEmber_20 rfl rfl ?_
      refine aw_iload_n dX9_addEmber_21 rfl rfl ?_
      refine aw_iconst dX9_addEmber_22 rfl ?_
      refine aw_irem dX9_addEmber_23 rfl (by omega) (by omega) ?_
      refine aw_callS [_, _] _ dX9_addEmber_24 rfl cls_X9_57 (by decide) ⟨Nat.zero_le _, Nat.zero_le _⟩ (Nat.le_of_ble_eq_true rfl) rfl ?_
      refine sC_emberShare ?_
      rw [es]
      refine aw_iadd dX9_addEmber_27 rfl ?_
      refine aw_iastore dX9_addEmber_28 rfl (by first | assumption | rfl) (by decide) (by omega) ?_
      refine aw_return dX9_addEmber_29 rfl ?_
      first | (exfalso; omega) | exact k
theorem sC_gatherEmbers {x : Int} (wf : Wf n f) (h : FiR mem 2 n f) (hx : 0 ≤ x ∧ x < 24) (k : ∀ m' : Mem, FrI m' mem 89 90 → (∀ r : Int, 0 ≤ r → r < 10 → m' 89 r = embS f x r) → Q none m') : AMet Γ mX9_gatherEmbers [vR 87, vR 2, vI x] zG mem Q := by
  have h3 : mem 2 3 = f 26 := h.2.2.2.1
  have hw : ∀ i : Int, 0 ≤ i → i < f 26 → mem 4 i = f (27 + 3 * i) ∧ mem 5 i = f (27 + 3 * i + 1) ∧ mem 6 i = f (27 + 3 * i + 2) := h.2.2.2.2.2
  have w26 := wf.2.2.2.2.1
  have hn := wf.1
  have loop : ∀ (d i : Nat) (m : Mem), (i : Int) + d = f 26 → FrI m mem 89 90 → (∀ r : Int, 0 ≤ r → r < 10 → m 89 r = embTo f x r i) → AW Γ mX9_gatherEmbers (zF Γ zG Q) zG 0 0 10 [some (vR 87), some (vR 2), some (vI x), some (vI i)] [] m := by
    intro d
    induction d with
    | zero =>
      intro i m hi hF hr
      have e : (f 26).toNat = i := by omega
      have m2 : m 2 3 = f 26 := by rw [hF 2 (by omega)]; exact h3
      refine aw_iload_n dX9_gatherEmbers_10 rfl rfl ?_
      refine aw_aload_n dX9_gatherEmbers_11 rfl rfl ?_
      refine aw_getI (kI := 3) dX9_gatherEmbers_12 rfl fl_X9_41 g2 (by rfl) rfl ?_
      rw [m2]
      refine aw_icmp_ge (tgt := 53) dX9_gatherEmbers_15 (by decide) rfl (by omega) (by omega) (fun c15 => ?_) (fun c15 => ?_)
      · refine aw_return dX9_gatherEmbers_53 rfl ?_
        exact k m hF (fun r r0 r1 => by rw [hr r r0 r1]; unfold embS; rw [e])
      · exfalso; omega
    | succ d ih =>
      intro i m hi hF hr
      push_cast at hi
      have m2 : m 2 3 = f 26 := by rw [hF 2 (by omega)]; exact h3
      obtain ⟨u1, u2, u3⟩ := hw i (by omega) (by omega)
      have m4 : m 4 i = f (27 + 3 * (i : Int)) := by rw [hF 4 (by omega)]; exact u1
      have m5 : m 5 i = f (27 + 3 * (i : Int) + 1) := by rw [hF 5 (by omega)]; exact u2
      have m6 : m 6 i = f (27 + 3 * (i : Int) + 2) := by rw [hF 6 (by omega)]; exact u3
      obtain ⟨v1, v2, v3⟩ := wf.2.2.2.2.2.1 i (by omega) (by omega)
      have ihn := fun m => ih (i + 1) m (by push_cast; omega)
      refine aw_iload_n dX9_gatherEmbers_10 rfl rfl ?_
      refine aw_aload_n dX9_gatherEmbers_11 rfl rfl ?_
      refine aw_getI (kI := 3) dX9_gatherEmbers_12 rfl fl_X9_41 g2 (by rfl) rfl ?_
      rw [m2]
      refine aw_icmp_ge (tgt := 53) dX9_gatherEmbers_15 (by decide) rfl (by omega) (by omega) (fun c15 => ?_) (fun c15 => ?_)
      · exfalso; omega
      · refine aw_aload_n dX9_gatherEmbers_18 rfl rfl ?_
        refine aw_getR dX9_gatherEmbers_19 rfl fl_X9_45 g2 (by rfl) ?_
        refine aw_iload_n dX9_gatherEmbers_22 rfl rfl ?_
        refine aw_iaload dX9_gatherEmbers_23 rfl g4 (by decide) (by omega) ?_
        rw [m4]
        refine aw_iload_n dX9_gatherEmbers_24 rfl rfl ?_
        refine aw_iconst dX9_gatherEmbers_25 rfl ?_
        refine aw_idiv dX9_gatherEmbers_26 rfl (by omega) (by omega) ?_
        refine aw_icmp_ne (tgt := 47) dX9_gatherEmbers_27 (by decide) rfl (by omega) (by omega) (fun c27 => ?_) (fun c27 => ?_)
        · refine aw_iinc3 rfl dX9_gatherEmbers_47 rfl (by decide) ?_
          refine aw_goto (tgt := 10) dX9_gatherEmbers_50 (by decide) ?_
          first | (refine ihn _ (hF.set (by decide)) (fun r r0 r1 => ?_); rw [mset_same, embTo]; by_cases e : r = f (27 + 3 * (i : Int) + 2); (rw [if_pos ⟨by omega, by omega⟩, e, fset_same, hr _ (by omega) (by omega)]); (rw [if_neg (fun z => by have := z.2; omega), fset_ne e, Int.add_zero]; exact hr r r0 r1)) | (refine ihn m hF (fun r r0 r1 => ?_); rw [embTo, if_neg (fun z => c27 z.1), Int.add_zero]; exact hr r r0 r1)
        · refine aw_aload_n dX9_gatherEmbers_30 rfl rfl ?_
          refine aw_aload_n dX9_gatherEmbers_31 rfl rfl ?_
          refine aw_getR dX9_gatherEmbers_32 rfl fl_X9_48 g2 (by rfl) ?_
          refine aw_iload_n dX9_gatherEmbers_35 rfl rfl ?_
          refine aw_iaload dX9_gatherEmbers_36 rfl g5 (by decide) (by omega) ?_
          rw [m5]
          refine aw_iload_n dX9_gatherEmbers_37 rfl rfl ?_
          refine aw_aload_n dX9_gatherEmbers_38 rfl rfl ?_
          refine aw_getR dX9_gatherEmbers_39 rfl fl_X9_51 g2 (by rfl) ?_
          refine aw_iload_n dX9_gatherEmbers_42 rfl rfl ?_
          refine aw_iaload dX9_gatherEmbers_43 rfl g6 (by decide) (by omega) ?_
          rw [m6]
          refine aw_callV [_, _, _] _ dX9_gatherEmbers_44 rfl clv_X9_54 (by decide) ⟨Nat.zero_le _, Nat.zero_le _⟩ g87 (by rfl) (Nat.le_of_ble_eq_true rfl) rfl ?_
          refine sC_addEmber (by omega) hx v3 ?_
          refine aw_iinc3 rfl dX9_gatherEmbers_47 rfl (by decide) ?_
          refine aw_goto (tgt := 10) dX9_gatherEmbers_50 (by decide) ?_
          first | (refine ihn _ (hF.set (by decide)) (fun r r0 r1 => ?_); rw [mset_same, embTo]; by_cases e : r = f (27 + 3 * (i : Int) + 2); (rw [if_pos ⟨by omega, by omega⟩, e, fset_same, hr _ (by omega) (by omega)]); (rw [if_neg (fun z => by have := z.2; omega), fset_ne e, Int.add_zero]; exact hr r r0 r1)) | (refine ihn m hF (fun r r0 r1 => ?_); rw [embTo, if_neg (fun z => c27 z.1), Int.add_zero]; exact hr r r0 r1)
  refine AMet.of' 1 (ls := [some (vR (87)), some (vR (2)), some (vI (x)), none]) (by decide) rfl (Nat.le_of_ble_eq_true rfl) ?_
  refine aw_aload_n dX9_gatherEmbers_0 rfl rfl ?_
  refine aw_getR dX9_gatherEmbers_1 rfl fl_X9_15 (by first | assumption | rfl) (by rfl) ?_
  refine aw_iconst dX9_gatherEmbers_4 rfl ?_
  refine aw_callS [_, _] _ dX9_gatherEmbers_5 rfl cls_X9_18 (by decide) ⟨Nat.zero_le _, Nat.zero_le _⟩ (Nat.le_of_ble_eq_true rfl) rfl ?_
  refine sC_fill (n := 10) g89 (by decide) ?_
  refine aw_iconst dX9_gatherEmbers_8 rfl ?_
  refine aw_istore3 rfl dX9_gatherEmbers_9 rfl (by decide) ?_
  exact loop (f 26).toNat 0 _ (by omega) (FrI.rf.cell (by decide)) (fun r r0 r1 => by rw [mcell_same]; exact if_pos ⟨r0, by omega⟩)
theorem sC_follow {h l c : Int} (hh : 0 ≤ h ∧ h ≤ 99) (hl : 0 ≤ l ∧ l ≤ 99) (hc : 0 ≤ c ∧ c ≤ 20) (he : ∀ r : Int, 0 ≤ r → r < 10 → 0 ≤ mem 89 r ∧ mem 89 r ≤ 1000) (k : ∀ m' : Mem, FrI m' mem 88 89 → (∀ r : Nat, (r : Int) ≤ c → m' 88 r = trk (fun r => if r < 10 then mem 89 r else 0) h l r) → Q none m') : AMet Γ mX9_follow [vR 87, vI h, vI l, vI c] zG mem Q := by
  have loop : ∀ (d i : Nat) (m : Mem) (x5 : Option AV), (i : Int) + d = c → FrI m mem 88 89 → (∀ r : Nat, r ≤ i → m 88 r = trk (fun r => if r < 10 then mem 89 r else 0) h l r) → AW Γ mX9_follow (zF Γ zG Q) zG 0 0 10 [some (vR 87), some (vI h), some (vI l), some (vI c), some (vI ((i : Int) + 1)), x5] [] m := by
    intro d
    induction d with
    | zero =>
      intro i m x5 hi hF hr
      refine aw_iload dX9_follow_10 rfl rfl ?_
      refine aw_iload_n dX9_follow_12 rfl rfl ?_
      refine aw_icmp_gt (tgt := 85) dX9_follow_13 (by decide) rfl (by omega) (by omega) (fun c13 => ?_) (fun c13 => ?_)
      · refine aw_return dX9_follow_85 rfl ?_
        exact k m hF (fun r hr2 => hr r (by omega))
      · exfalso; omega
    | succ d ih =>
      intro i m x5 hi hF hr
      push_cast at hi
      have m89 : m 89 = mem 89 := hF 89 (by omega)
      have ei := hr i (Nat.le_refl _)
      have ri := trk_rng (E := fun r => if r < 10 then mem 89 r else 0) (h := h) (l := l) hh hl.1 i
      have ihn := fun m x5 => ih (i + 1) m x5 (by push_cast; omega)
      push_cast at ihn
      have s47 : ∀ e : Int, e = (if (i : Int) + 1 < 10 then mem 89 ((i : Int) + 1) else 0) → (0 ≤ e ∧ e ≤ 1000) → AW Γ mX9_follow (zF Γ zG Q) zG 0 0 47 [some (vR 87), some (vI h), some (vI l), some (vI c), some (vI ((i : Int) + 1)), x5] [vI e] m := by
        intro e ee re
        refine aw_istore5 rfl dX9_follow_47 rfl (by decide) ?_
        refine aw_aload_n dX9_follow_49 rfl rfl ?_
        refine aw_getR dX9_follow_50 rfl fl_X9_9 (by first | assumption | rfl) (by rfl) ?_
        refine aw_iload dX9_follow_53 rfl rfl ?_
        refine aw_iconst dX9_follow_55 rfl ?_
        refine aw_bipush dX9_follow_56 rfl (by decide) ?_
        refine aw_aload_n dX9_follow_58 rfl rfl ?_
        refine aw_getR dX9_follow_59 rfl fl_X9_9 (by first | assumption | rfl) (by rfl) ?_
        refine aw_iload dX9_follow_62 rfl rfl ?_
        refine aw_iconst dX9_follow_64 rfl ?_
        refine aw_isub dX9_follow_65 rfl ?_
        rw [show (i : Int) + 1 - 1 = i by omega]
        refine aw_iaload dX9_follow_66 rfl (by first | assumption | rfl) (by decide) (by omega) ?_
        rw [ei]
        refine aw_iload dX9_follow_67 rfl rfl ?_
        refine aw_iadd dX9_follow_69 rfl ?_
        refine aw_min dX9_follow_70 rfl clm_X9_61 (by decide) (Nat.le_of_ble_eq_true rfl) ⟨Nat.zero_le _, Nat.zero_le _⟩ (by omega) (by omega) ?_
        refine aw_iload_n dX9_follow_73 rfl rfl ?_
        refine aw_isub dX9_follow_74 rfl ?_
        refine aw_max dX9_follow_75 rfl clm_X9_66 (by decide) (Nat.le_of_ble_eq_true rfl) ⟨Nat.zero_le _, Nat.zero_le _⟩ (by omega) (by omega) ?_
        refine aw_iastore dX9_follow_78 rfl (by first | assumption | rfl) (by decide) (by omega) ?_
        refine aw_iinc4 rfl dX9_follow_79 rfl (by decide) ?_
        refine aw_goto (tgt := 10) dX9_follow_82 (by decide) ?_
        refine ihn _ _ (hF.set (by decide)) (fun r hr2 => ?_)
        rw [mset_same]
        by_cases er : r = i + 1
        · subst er
          push_cast
          rw [fset_same, trk, ee]
        · rw [fset_ne (by omega)]
          exact hr r (by omega)
      refine aw_iload dX9_follow_10 rfl rfl ?_
      refine aw_iload_n dX9_follow_12 rfl rfl ?_
      refine aw_icmp_gt (tgt := 85) dX9_follow_13 (by decide) rfl (by omega) (by omega) (fun c13 => ?_) (fun c13 => ?_)
      · exfalso; omega
      · refine aw_iload dX9_follow_16 rfl rfl ?_
        refine aw_aload_n dX9_follow_18 rfl rfl ?_
        refine aw_getR dX9_follow_19 rfl fl_X9_9 (by first | assumption | rfl) (by rfl) ?_
        refine aw_alenI dX9_follow_22 rfl (by first | assumption | rfl) ?_
        refine aw_icmp_ge (tgt := 85) dX9_follow_23 (by decide) rfl (by omega) (by omega) (fun c23 => ?_) (fun c23 => ?_)
        · exfalso; omega
        · refine aw_iload dX9_follow_26 rfl rfl ?_
          refine aw_aload_n dX9_follow_28 rfl rfl ?_
          refine aw_getR dX9_follow_29 rfl fl_X9_15 (by first | assumption | rfl) (by rfl) ?_
          refine aw_alenI dX9_follow_32 rfl (by first | assumption | rfl) ?_
          refine aw_icmp_ge (tgt := 46) dX9_follow_33 (by decide) rfl (by omega) (by omega) (fun c33 => ?_) (fun c33 => ?_)
          · refine aw_iconst dX9_follow_46 rfl ?_
            first | exact s47 0 (by rw [if_neg (by omega)]) (by omega) | exact s47 _ (by rw [if_pos (by omega)]) (he _ (by omega) (by omega))
          · refine aw_aload_n dX9_follow_36 rfl rfl ?_
            refine aw_getR dX9_follow_37 rfl fl_X9_15 (by first | assumption | rfl) (by rfl) ?_
            refine aw_iload dX9_follow_40 rfl rfl ?_
            refine aw_iaload dX9_follow_42 rfl (by first | assumption | rfl) (by decide) (by omega) ?_
            rw [m89]
            refine aw_goto (tgt := 47) dX9_follow_43 (by decide) ?_
            first | exact s47 0 (by rw [if_neg (by omega)]) (by omega) | exact s47 _ (by rw [if_pos (by omega)]) (he _ (by omega) (by omega))
  refine AMet.of' 2 (ls := [some (vR (87)), some (vI (h)), some (vI (l)), some (vI (c)), none, none]) (by decide) rfl (Nat.le_of_ble_eq_true rfl) ?_
  refine aw_aload_n dX9_follow_0 rfl rfl ?_
  refine aw_getR dX9_follow_1 rfl fl_X9_9 (by first | assumption | rfl) (by rfl) ?_
  refine aw_iconst dX9_follow_4 rfl ?_
  refine aw_iload_n dX9_follow_5 rfl rfl ?_
  refine aw_iastore dX9_follow_6 rfl (by first | assumption | rfl) (by decide) (by omega) ?_
  refine aw_iconst dX9_follow_7 rfl ?_
  refine aw_istore4 rfl dX9_follow_8 rfl (by decide) ?_
  refine loop c.toNat 0 _ none (by omega) (FrI.rf.set (by decide)) (fun r hr => ?_)
  obtain rfl : r = 0 := by omega
  rfl
theorem trk_emb {n : Int} {f g : Int → Int} (w : Wf n f) {x h l : Int} (hg : ∀ r : Int, 0 ≤ r → r < 10 → g r = embS f x r) (k : Nat) : trk (fun r => if r < 10 then g r else 0) h l k = trk (embS f x) h l k := by
  refine trk_congr k (fun r r0 r1 => ?_)
  by_cases e : r < 10
  · rw [if_pos e]; exact hg r (by omega) e
  · rw [if_neg e, embS_big w (Or.inl (by omega))]
theorem sC_followFor {x c : Int} (wf : Wf n f) (h : FiR mem 2 n f) (hx : x = -4 ∨ (0 ≤ x ∧ x < 3 * n)) (hc : 0 ≤ c ∧ c ≤ 20) (k : ∀ m' : Mem, FrI m' mem 88 90 → (∀ r : Nat, (r : Int) ≤ c → m' 88 r = if x = -4 then 0 else roundsF n r f x) → Q none m') : AMet Γ mX9_followFor [vR 87, vR 2, vI x, vI c] zG mem Q := by
  have hn := wf.1
  have h0 : mem 2 0 = n := h.1
  have h1 : mem 2 1 = f 24 := h.2.1
  have h2 : mem 2 2 = f 25 := h.2.2.1
  have hh : ∀ x : Int, 0 ≤ x → x < 24 → mem 3 x = f x := h.2.2.2.2.1
  have s15 : 0 ≤ x ∧ x < 3 * n → AW Γ mX9_followFor (zF Γ zG Q) zG 0 0 15 [some (vR 87), some (vR 2), some (vI x), some (vI c)] [] mem := by
    intro hz
    have rl := lessF_rng (n := n) (f := f) wf.2.2.1 wf.2.2.2.1 x
    have rh := wf.2.1 x (by omega) (by omega)
    refine aw_aload_n dX9_followFor_15 rfl rfl ?_
    refine aw_aload_n dX9_followFor_16 rfl rfl ?_
    refine aw_iload_n dX9_followFor_17 rfl rfl ?_
    refine aw_callV [_, _] _ dX9_followFor_18 rfl clv_X9_24 (by decide) ⟨Nat.zero_le _, Nat.zero_le _⟩ g87 (by rfl) (Nat.le_of_ble_eq_true rfl) rfl ?_
    refine sC_gatherEmbers wf h (by omega) (fun m1 f1 e1 => ?_)
    have q2 : m1 2 = mem 2 := f1 2 (by omega)
    have q3 : m1 3 = mem 3 := f1 3 (by omega)
    refine aw_aload_n dX9_followFor_21 rfl rfl ?_
    refine aw_aload_n dX9_followFor_22 rfl rfl ?_
    refine aw_iload_n dX9_followFor_23 rfl rfl ?_
    refine aw_callV [_] _ dX9_followFor_24 rfl clv_X9_28 (by decide) ⟨Nat.zero_le _, Nat.zero_le _⟩ g2 (by rfl) (Nat.le_of_ble_eq_true rfl) rfl ?_
    refine sC_heatAt E1.2.1 (by show 3 ≤ m1 2 0 ∧ m1 2 0 ≤ 8; rw [q2, h0]; exact hn) (by omega) ?_
    have eh : (if 0 ≤ x ∧ x < 3 * m1 (1 + 1) 0 then m1 (1 + 1 + 1) x else 0) = f x := by
      show (if 0 ≤ x ∧ x < 3 * m1 2 0 then m1 3 x else 0) = f x
      rw [q2, h0, if_pos hz, q3, hh x (by omega) (by omega)]
    rw [eh]
    refine aw_aload_n dX9_followFor_27 rfl rfl ?_
    refine aw_iload_n dX9_followFor_28 rfl rfl ?_
    refine aw_callV [_] _ dX9_followFor_29 rfl clv_X9_34 (by decide) ⟨Nat.zero_le _, Nat.zero_le _⟩ g2 (by rfl) (Nat.le_of_ble_eq_true rfl) rfl ?_
    refine sC_lossAt E1.2.1 (by show 3 ≤ m1 2 0 ∧ m1 2 0 ≤ 8; rw [q2, h0]; exact hn) (by omega) ?_
    have el : m1 (1 + 1) 1 + (if x / 3 = 0 ∨ x / 3 = m1 (1 + 1) 0 - 1 then m1 (1 + 1) 2 else 0) = lessF n f x := by
      show m1 2 1 + (if x / 3 = 0 ∨ x / 3 = m1 2 0 - 1 then m1 2 2 else 0) = lessF n f x
      rw [q2, h0, h1, h2]; rfl
    rw [el]
    refine aw_iload_n dX9_followFor_32 rfl rfl ?_
    refine aw_callV [_, _, _] _ dX9_followFor_33 rfl clv_X9_37 (by decide) ⟨Nat.zero_le _, Nat.zero_le _⟩ g87 (by rfl) (Nat.le_of_ble_eq_true rfl) rfl ?_
    refine sC_follow rh (by omega) hc (fun r r0 r1 => by rw [e1 r r0 r1]; have := embS_rng wf x r; omega) (fun m2 f2 e2 => ?_)
    refine aw_return dX9_followFor_36 rfl ?_
    refine k m2 ((f2.wd (by omega) (by omega)).tr (f1.wd (by omega) (by omega))) (fun r hr => ?_)
    rw [e2 r hr, if_neg (by omega), rounds_heat wf hz, trk_emb wf (fun r r0 r1 => e1 r r0 r1)]
  refine AMet.of' 0 (ls := [some (vR (87)), some (vR (2)), some (vI (x)), some (vI (c))]) (by decide) rfl (Nat.le_of_ble_eq_true rfl) ?_
  refine aw_iload_n dX9_followFor_0 rfl rfl ?_
  refine aw_bipush dX9_followFor_1 rfl (by decide) ?_
  refine aw_icmp_ne (tgt := 15) dX9_followFor_3 (by decide) rfl (by omega) (by omega) (fun c3 => ?_) (fun c3 => ?_)
  · exact s15 (by omega)
  · refine aw_aload_n dX9_followFor_6 rfl rfl ?_
    refine aw_getR dX9_followFor_7 rfl fl_X9_9 (by first | assumption | rfl) (by rfl) ?_
    refine aw_iconst dX9_followFor_10 rfl ?_
    refine aw_callS [_, _] _ dX9_followFor_11 rfl cls_X9_18 (by decide) ⟨Nat.zero_le _, Nat.zero_le _⟩ (Nat.le_of_ble_eq_true rfl) rfl ?_
    refine sC_fill (n := 21) g88 (by decide) ?_
    refine aw_return dX9_followFor_14 rfl ?_
    refine k _ (FrI.rf.cell (by decide)) (fun r hr => ?_)
    rw [mcell_same]
    exact (if_pos (show 0 ≤ (r : Int) ∧ (r : Int) < ((21 : Nat) : Int) from ⟨by omega, by omega⟩)).trans (if_pos (show x = -4 by omega)).symm
theorem sC_coreGain {w c : Int} (hw : 0 ≤ w ∧ w ≤ 2) (hc : 0 ≤ c ∧ c ≤ 20) (hh : ∀ r : Nat, (r : Int) < c → 0 ≤ mem 88 r ∧ mem 88 r ≤ 99) (k : Q (some (vI (gain (fun r => mem 88 r) (coF w) c.toNat))) mem) : AMet Γ mX9_coreGain [vR 87, vI w, vI c] zG mem Q := by
  have loop : ∀ (d i : Nat), (i : Int) + d = c → AW Γ mX9_coreGain (zF Γ zG Q) zG 0 0 5 [some (vR 87), some (vI w), some (vI c), some (vI (gain (fun r => mem 88 r) (coF w) i)), some (vI i)] [] mem := by
    intro d
    induction d with
    | zero =>
      intro i hi
      have e : c.toNat = i := by omega
      rw [e] at k
      refine aw_iload dX9_coreGain_5 rfl rfl ?_
      refine aw_iload_n dX9_coreGain_7 rfl rfl ?_
      refine aw_icmp_ge (tgt := 41) dX9_coreGain_8 (by decide) rfl (by omega) (by omega) (fun c8 => ?_) (fun c8 => ?_)
      · refine aw_iload_n dX9_coreGain_41 rfl rfl ?_
        refine aw_ireturn (ty := .int) dX9_coreGain_42 rfl rfl ?_
        exact k
      · exfalso; omega
    | succ d ih =>
      intro i hi
      push_cast at hi
      have hz := ih (i + 1) (by push_cast; omega)
      rw [gain] at hz
      push_cast at hz
      have hr := hh i (by omega)
      refine aw_iload dX9_coreGain_5 rfl rfl ?_
      refine aw_iload_n dX9_coreGain_7 rfl rfl ?_
      refine aw_icmp_ge (tgt := 41) dX9_coreGain_8 (by decide) rfl (by omega) (by omega) (fun c8 => ?_) (fun c8 => ?_)
      · exfalso; omega
      · refine aw_iload dX9_coreGain_11 rfl rfl ?_
        refine aw_aload_n dX9_coreGain_13 rfl rfl ?_
        refine aw_getR dX9_coreGain_14 rfl fl_X9_9 (by first | assumption | rfl) (by rfl) ?_
        refine aw_alenI dX9_coreGain_17 rfl (by first | assumption | rfl) ?_
        refine aw_icmp_ge (tgt := 41) dX9_coreGain_18 (by decide) rfl (by omega) (by omega) (fun c18 => ?_) (fun c18 => ?_)
        · exfalso; omega
        · refine aw_iload_n dX9_coreGain_21 rfl rfl ?_
          refine aw_aload_n dX9_coreGain_22 rfl rfl ?_
          refine aw_getR dX9_coreGain_23 rfl fl_X9_9 (by first | assumption | rfl) (by rfl) ?_
          refine aw_iload dX9_coreGain_26 rfl rfl ?_
          refine aw_iaload dX9_coreGain_28 rfl (by first | assumption | rfl) (by decide) (by omega) ?_
          refine aw_iload_n dX9_coreGain_29 rfl rfl ?_
          refine aw_callS [_, _] _ dX9_coreGain_30 rfl cls_X9_69 (by decide) ⟨Nat.zero_le _, Nat.zero_le _⟩ (Nat.le_of_ble_eq_true rfl) rfl ?_
          refine sC_coreShare (by omega) hw ?_
          refine aw_iadd dX9_coreGain_33 rfl ?_
          refine aw_istore3 rfl dX9_coreGain_34 rfl (by decide) ?_
          refine aw_iinc4 rfl dX9_coreGain_35 rfl (by decide) ?_
          refine aw_goto (tgt := 5) dX9_coreGain_38 (by decide) ?_
          exact hz
  refine AMet.of' 2 (ls := [some (vR (87)), some (vI (w)), some (vI (c)), none, none]) (by decide) rfl (Nat.le_of_ble_eq_true rfl) ?_
  refine aw_iconst dX9_coreGain_0 rfl ?_
  refine aw_istore3 rfl dX9_coreGain_1 rfl (by decide) ?_
  refine aw_iconst dX9_coreGain_2 rfl ?_
  refine aw_istore4 rfl dX9_coreGain_3 rfl (by decide) ?_
  exact loop c.toNat 0 (by omega)
theorem sC_sideGain {w a : Int} {b : Nat} (hw : 0 ≤ w ∧ w ≤ 2) (ha : (b : Int) ≤ a ∧ a ≤ 20) (hh : ∀ r : Nat, (r : Int) < a → 0 ≤ mem 88 r ∧ mem 88 r ≤ 99) (k : Q (some (vI (gain (fun s => mem 88 ((b + s : Nat) : Int)) (siF w) (a - b).toNat))) mem) : AMet Γ mX9_sideGain [vR 87, vI w, vI b, vI a] zG mem Q := by
  have loop : ∀ (d i : Nat), (b : Int) + i + d = a → AW Γ mX9_sideGain (zF Γ zG Q) zG 0 0 6 [some (vR 87), some (vI w), some (vI b), some (vI a), some (vI (gain (fun s => mem 88 ((b + s : Nat) : Int)) (siF w) i)), some (vI ((b + i : Nat) : Int))] [] mem := by
    intro d
    induction d with
    | zero =>
      intro i hi
      have e : (a - b).toNat = i := by omega
      rw [e] at k
      refine aw_iload dX9_sideGain_6 rfl rfl ?_
      refine aw_iload_n dX9_sideGain_8 rfl rfl ?_
      refine aw_icmp_ge (tgt := 44) dX9_sideGain_9 (by decide) rfl (by omega) (by omega) (fun c9 => ?_) (fun c9 => ?_)
      · refine aw_iload dX9_sideGain_44 rfl rfl ?_
        refine aw_ireturn (ty := .int) dX9_sideGain_46 rfl rfl ?_
        exact k
      · exfalso; omega
    | succ d ih =>
      intro i hi
      push_cast at hi
      have hz := ih (i + 1) (by push_cast; omega)
      rw [gain] at hz
      rw [show (((b + (i + 1) : Nat)) : Int) = ((b + i : Nat) : Int) + 1 by push_cast; omega] at hz
      have hr := hh (b + i) (by push_cast; omega)
      refine aw_iload dX9_sideGain_6 rfl rfl ?_
      refine aw_iload_n dX9_sideGain_8 rfl rfl ?_
      refine aw_icmp_ge (tgt := 44) dX9_sideGain_9 (by decide) rfl (by omega) (by omega) (fun c9 => ?_) (fun c9 => ?_)
      · exfalso; omega
      · refine aw_iload dX9_sideGain_12 rfl rfl ?_
        refine aw_aload_n dX9_sideGain_14 rfl rfl ?_
        refine aw_getR dX9_sideGain_15 rfl fl_X9_9 (by first | assumption | rfl) (by rfl) ?_
        refine aw_alenI dX9_sideGain_18 rfl (by first | assumption | rfl) ?_
        refine aw_icmp_ge (tgt := 44) dX9_sideGain_19 (by decide) rfl (by omega) (by omega) (fun c19 => ?_) (fun c19 => ?_)
        · exfalso; omega
        · refine aw_iload dX9_sideGain_22 rfl rfl ?_
          refine aw_aload_n dX9_sideGain_24 rfl rfl ?_
          refine aw_getR dX9_sideGain_25 rfl fl_X9_9 (by first | assumption | rfl) (by rfl) ?_
          refine aw_iload dX9_sideGain_28 rfl rfl ?_
          refine aw_iaload dX9_sideGain_30 rfl (by first | assumption | rfl) (by decide) (by omega) ?_
          refine aw_iload_n dX9_sideGain_31 rfl rfl ?_
          refine aw_callS [_, _] _ dX9_sideGain_32 rfl cls_X9_74 (by decide) ⟨Nat.zero_le _, Nat.zero_le _⟩ (Nat.le_of_ble_eq_true rfl) rfl ?_
          refine sC_sideShare (by omega) hw ?_
          refine aw_iadd dX9_sideGain_35 rfl ?_
          refine aw_istore4 rfl dX9_sideGain_36 rfl (by decide) ?_
          refine aw_iinc5 rfl dX9_sideGain_38 rfl (by decide) ?_
          refine aw_goto (tgt := 6) dX9_sideGain_41 (by decide) ?_
          exact hz
  refine AMet.of' 2 (ls := [some (vR (87)), some (vI (w)), some (vI ((b : Int))), some (vI (a)), none, none]) (by decide) rfl (Nat.le_of_ble_eq_true rfl) ?_
  refine aw_iconst dX9_sideGain_0 rfl ?_
  refine aw_istore4 rfl dX9_sideGain_1 rfl (by decide) ?_
  refine aw_iload_n dX9_sideGain_3 rfl rfl ?_
  refine aw_istore5 rfl dX9_sideGain_4 rfl (by decide) ?_
  exact loop (a - b).toNat 0 (by omega)
end ZCmp14
