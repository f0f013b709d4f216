/-- the token b .. e is the literal j -/
def nmP (t : Int → Int) (L b e : Int) (j : Nat) : Prop := e - b = (zlen.getD j 0 : Nat) ∧ ∀ i : Nat, i < zlen.getD j 0 → lookF t L (b + (i : Int)) = zby j i
abbrev TBad (a : Int) (m : Mem) : Prop := (0 < m 68 5 ∧ m 68 5 ≤ 6) ∧ 8 * m 68 6 + m 68 5 = a
theorem numP_eq (t : Int → Int) (L lo hi : Int) (s : PSt) : numP t L lo hi s = if tkX t L s.p then .error (erX t L s.p) else if numC t L lo hi s then .ok (fset (fset s.1 1 (tkV t L s.p)) 0 (tkE t L s.p), s.2) else .error (8 * tkB t L s.p + numD t L s) := by
  unfold numP chkP
  split
  · rfl
  · next hx =>
    split
    · show advP t L (ghV t L s) = _
      unfold advP
      rw [if_neg (show ¬ tkX t L (ghV t L s).p from hx)]
      rfl
    · rfl
theorem numP_n {t : Int → Int} {L lo hi : Int} {s : PSt} (hx : ¬ tkX t L s.p) (hn : ¬ numC t L lo hi s) : numP t L lo hi s = .error (8 * tkB t L s.p + numD t L s) := by
  rw [numP_eq, if_neg hx, if_neg hn]
section ZCmp22
variable {Γ : ZG} {mem : Mem} {Q : Option AV → Mem → Prop}
theorem sC_isName {j : Nat} (hj : j < 9) (hT : TpC mem) (hN : TpN mem) (k1 : mem 68 2 = 1 → nmP (mem 69) (mem 68 1) (mem 68 3) (mem 68 4) j → Q (some (vI 1)) mem) (k0 : ¬ (mem 68 2 = 1 ∧ nmP (mem 69) (mem 68 1) (mem 68 3) (mem 68 4) j) → Q (some (vI 0)) mem) : AMet Γ mX8_isName [vR 68, vR (9000 + j)] zG mem Q := by
  have hl := zlen_rng j hj
  have hT1 := hT.1
  obtain ⟨n2, n3, n4, n5⟩ := hN
  have loop : mem 68 2 = 1 → mem 68 4 - mem 68 3 = (zlen.getD j 0 : Nat) → ∀ (d i : Nat), i + d = zlen.getD j 0 → (∀ q : Nat, q < i → lookF (mem 69) (mem 68 1) (mem 68 3 + (q : Int)) = zby j q) → AW Γ mX8_isName (zF Γ zG Q) zG 0 0 28 [some (vR 68), some (vR (9000 + j)), some (vI i)] [] mem := by
    intro hk hlen d
    induction d with
    | zero =>
      intro i hi hq
      refine aw_iload_n dX8_isName_28 rfl rfl ?_
      refine aw_aload_n dX8_isName_29 rfl rfl ?_
      refine aw_callStr hj [] _ dX8_isName_30 rfl clv_X8_57 (by decide) ⟨Nat.zero_le _, Nat.zero_le _⟩ (by rfl) (Nat.le_of_ble_eq_true rfl) rfl ?_
      refine sC_strLen hj ?_
      refine aw_icmp_ge (tgt := 62) dX8_isName_33 (by decide) rfl (by omega) (by omega) (fun c33 => ?_) (fun c33 => ?_)
      · refine aw_iconst dX8_isName_62 rfl ?_
        refine aw_ireturn (ty := .boolean) dX8_isName_63 rfl (znarZ (by omega)).1 ?_
        exact k1 hk ⟨hlen, fun q hq2 => hq q (by omega)⟩
      · exfalso; omega
    | succ d ih =>
      intro i hi hq
      have lr := lookF_rng (t := mem 69) (L := mem 68 1) (p := mem 68 3 + (i : Int)) hT.2 (by omega)
      have zr := zby_rng j hj i (by omega)
      have i2 := ih (i + 1) (by omega)
      push_cast at i2
      refine aw_iload_n dX8_isName_28 rfl rfl ?_
      refine aw_aload_n dX8_isName_29 rfl rfl ?_
      refine aw_callStr hj [] _ dX8_isName_30 rfl clv_X8_57 (by decide) ⟨Nat.zero_le _, Nat.zero_le _⟩ (by rfl) (Nat.le_of_ble_eq_true rfl) rfl ?_
      refine sC_strLen hj ?_
      refine aw_icmp_ge (tgt := 62) dX8_isName_33 (by decide) rfl (by omega) (by omega) (fun c33 => ?_) (fun c33 => ?_)
      · exfalso; omega
      · refine aw_aload_n dX8_isName_36 rfl rfl ?_
        refine aw_aload_n dX8_isName_37 rfl rfl ?_
        refine aw_getI (kI := 3) dX8_isName_38 rfl fl_X8_20 (by first | assumption | rfl) (by rfl) rfl ?_
        refine aw_iload_n dX8_isName_41 rfl rfl ?_
        refine aw_iadd dX8_isName_42 rfl ?_
        refine aw_callV [_] _ dX8_isName_43 rfl clv_X8_54 (by decide) ⟨Nat.zero_le _, Nat.zero_le _⟩ g68 (by rfl) (Nat.le_of_ble_eq_true rfl) rfl ?_
        refine sC_byteAt hT1 (by omega) ?_
        refine aw_aload_n dX8_isName_46 rfl rfl ?_
        refine aw_iload_n dX8_isName_47 rfl rfl ?_
        refine aw_callStr hj [_] _ dX8_isName_48 rfl clv_X8_62 (by decide) ⟨Nat.zero_le _, Nat.zero_le _⟩ (by rfl) (Nat.le_of_ble_eq_true rfl) rfl ?_
        refine sC_charAt hj (by omega) ?_
        refine aw_icmp_eq (tgt := 56) dX8_isName_51 (by decide) rfl (by omega) (by omega) (fun c51 => ?_) (fun c51 => ?_)
        · refine aw_iinc2 rfl dX8_isName_56 rfl (by decide) ?_
          refine aw_goto (tgt := 28) dX8_isName_59 (by decide) ?_
          refine i2 (fun q hq2 => ?_)
          by_cases e : q = i
          · subst e; omega
          · exact hq q (by omega)
        · refine aw_iconst dX8_isName_54 rfl ?_
          refine aw_ireturn (ty := .boolean) dX8_isName_55 rfl (znarZ (by omega)).1 ?_
          exact k0 (fun z => c51 (z.2.2 i (by omega)))
  refine AMet.of' 1 (ls := [some (vR (68)), some (vR ((9000 + j))), none]) (by decide) rfl (Nat.le_of_ble_eq_true rfl) ?_
  refine aw_aload_n dX8_isName_0 rfl rfl ?_
  refine aw_getI (kI := 2) dX8_isName_1 rfl fl_X8_17 (by first | assumption | rfl) (by rfl) rfl ?_
  refine aw_iconst dX8_isName_4 rfl ?_
  refine aw_icmp_ne (tgt := 24) dX8_isName_5 (by decide) rfl (by omega) (by omega) (fun c5 => ?_) (fun c5 => ?_)
  · refine aw_iconst dX8_isName_24 rfl ?_
    refine aw_ireturn (ty := .boolean) dX8_isName_25 rfl (znarZ (by omega)).1 ?_
    exact k0 (fun z => by have h1 := z.1; have h2 := z.2.1; omega)
  · refine aw_aload_n dX8_isName_8 rfl rfl ?_
    refine aw_getI (kI := 4) dX8_isName_9 rfl fl_X8_23 (by first | assumption | rfl) (by rfl) rfl ?_
    refine aw_aload_n dX8_isName_12 rfl rfl ?_
    refine aw_getI (kI := 3) dX8_isName_13 rfl fl_X8_20 (by first | assumption | rfl) (by rfl) rfl ?_
    refine aw_isub dX8_isName_16 rfl ?_
    refine aw_aload_n dX8_isName_17 rfl rfl ?_
    refine aw_callStr hj [] _ dX8_isName_18 rfl clv_X8_57 (by decide) ⟨Nat.zero_le _, Nat.zero_le _⟩ (by rfl) (Nat.le_of_ble_eq_true rfl) rfl ?_
    refine sC_strLen hj ?_
    refine aw_icmp_eq (tgt := 26) dX8_isName_21 (by decide) rfl (by omega) (by omega) (fun c21 => ?_) (fun c21 => ?_)
    · refine aw_iconst dX8_isName_26 rfl ?_
      refine aw_istore2 rfl dX8_isName_27 rfl (by decide) ?_
      exact loop (by omega) (by omega) (zlen.getD j 0) 0 (by omega) (fun q hq => by omega)
    · refine aw_iconst dX8_isName_24 rfl ?_
      refine aw_ireturn (ty := .boolean) dX8_isName_25 rfl (znarZ (by omega)).1 ?_
      exact k0 (fun z => by have h1 := z.1; have h2 := z.2.1; omega)
theorem TkR.n {m : Mem} {t : Int → Int} {L p : Int} (h : TkR m t L p) (hp : 0 ≤ p ∧ p ≤ L) : TpN m := by
  obtain ⟨e1, e3, e4, e2, ex, en⟩ := h
  have rB := tkB_rng (t := t) hp
  have rE := tkE_rng (t := t) hp
  have dr := kdC_rng (lookF t L (tkB t L p))
  refine ⟨by rw [e2]; exact dr, by omega, by omega, ?_⟩
  by_cases hx : tkX t L p
  · have := ex hx; omega
  · have := en hx; omega
theorem sC_takeNumberB {lo hi : Int} (hL : 0 ≤ mem 68 1 ∧ mem 68 1 ≤ 160) (hN : TpN mem) (h5 : 0 < mem 68 5) (k : Q (some (vI lo)) mem) : AMet Γ mX8_takeNumber [vR 68, vI lo, vI hi] zG mem Q := by
  obtain ⟨n2, n3, n4, n5⟩ := hN
  refine AMet.of' 2 (ls := [some (vR (68)), some (vI (lo)), some (vI (hi)), none, none]) (by decide) rfl (Nat.le_of_ble_eq_true rfl) ?_
  refine aw_aload_n dX8_takeNumber_0 rfl rfl ?_
  refine aw_callV [] _ dX8_takeNumber_1 rfl clv_X8_66 (by decide) ⟨Nat.zero_le _, Nat.zero_le _⟩ g68 (by rfl) (Nat.le_of_ble_eq_true rfl) rfl ?_
  refine sC_advanceB (by omega) ?_
  refine aw_aload_n dX8_takeNumber_4 rfl rfl ?_
  refine aw_callV [] _ dX8_takeNumber_5 rfl clv_X8_36 (by decide) ⟨Nat.zero_le _, Nat.zero_le _⟩ g68 (by rfl) (Nat.le_of_ble_eq_true rfl) rfl ?_
  refine sC_isSound (by omega) (fun c5 => ?_) (fun c5 => ?_)
  · refine aw_if_eq (tgt := 24) dX8_takeNumber_8 (by decide) rfl (by omega) (fun c => absurd c (by decide)) (fun _ => ?_)
    exfalso; omega
  · refine aw_if_eq (tgt := 24) dX8_takeNumber_8 (by decide) rfl (by omega) (fun _ => ?_) (fun c => absurd c (by decide))
    refine aw_iconst dX8_takeNumber_24 rfl ?_
    refine aw_istore3 rfl dX8_takeNumber_25 rfl (by decide) ?_
    refine aw_aload_n dX8_takeNumber_26 rfl rfl ?_
    refine aw_getI (kI := 3) dX8_takeNumber_27 rfl fl_X8_20 (by first | assumption | rfl) (by rfl) rfl ?_
    refine aw_istore4 rfl dX8_takeNumber_30 rfl (by decide) ?_
    refine aw_iload dX8_takeNumber_32 rfl rfl ?_
    refine aw_aload_n dX8_takeNumber_34 rfl rfl ?_
    refine aw_getI (kI := 4) dX8_takeNumber_35 rfl fl_X8_23 (by first | assumption | rfl) (by rfl) rfl ?_
    refine aw_icmp_ge (tgt := 69) dX8_takeNumber_38 (by decide) rfl (by omega) (by omega) (fun c38 => ?_) (fun c38 => ?_)
    · refine aw_aload_n dX8_takeNumber_69 rfl rfl ?_
      refine aw_callV [] _ dX8_takeNumber_70 rfl clv_X8_36 (by decide) ⟨Nat.zero_le _, Nat.zero_le _⟩ g68 (by rfl) (Nat.le_of_ble_eq_true rfl) rfl ?_
      refine sC_isSound (by omega) (fun c70 => ?_) (fun c70 => ?_)
      · refine aw_if_eq (tgt := 91) dX8_takeNumber_73 (by decide) rfl (by omega) (fun c => absurd c (by decide)) (fun _ => ?_)
        exfalso; omega
      · refine aw_if_eq (tgt := 91) dX8_takeNumber_73 (by decide) rfl (by omega) (fun _ => ?_) (fun c => absurd c (by decide))
        refine aw_aload_n dX8_takeNumber_91 rfl rfl ?_
        refine aw_callV [] _ dX8_takeNumber_92 rfl clv_X8_36 (by decide) ⟨Nat.zero_le _, Nat.zero_le _⟩ g68 (by rfl) (Nat.le_of_ble_eq_true rfl) rfl ?_
        refine sC_isSound (by omega) (fun c92 => ?_) (fun c92 => ?_)
        · refine aw_if_eq (tgt := 102) dX8_takeNumber_95 (by decide) rfl (by omega) (fun c => absurd c (by decide)) (fun _ => ?_)
          exfalso; omega
        · refine aw_if_eq (tgt := 102) dX8_takeNumber_95 (by decide) rfl (by omega) (fun _ => ?_) (fun c => absurd c (by decide))
          refine aw_iload_n dX8_takeNumber_102 rfl rfl ?_
          refine aw_ireturn (ty := .int) dX8_takeNumber_103 rfl rfl ?_
          exact k
    · refine aw_aload_n dX8_takeNumber_41 rfl rfl ?_
      refine aw_callV [] _ dX8_takeNumber_42 rfl clv_X8_36 (by decide) ⟨Nat.zero_le _, Nat.zero_le _⟩ g68 (by rfl) (Nat.le_of_ble_eq_true rfl) rfl ?_
      refine sC_isSound (by omega) (fun c42 => ?_) (fun c42 => ?_)
      · refine aw_if_eq (tgt := 69) dX8_takeNumber_45 (by decide) rfl (by omega) (fun c => absurd c (by decide)) (fun _ => ?_)
        exfalso; omega
      · refine aw_if_eq (tgt := 69) dX8_takeNumber_45 (by decide) rfl (by omega) (fun _ => ?_) (fun c => absurd c (by decide))
        refine aw_aload_n dX8_takeNumber_69 rfl rfl ?_
        refine aw_callV [] _ dX8_takeNumber_70 rfl clv_X8_36 (by decide) ⟨Nat.zero_le _, Nat.zero_le _⟩ g68 (by rfl) (Nat.le_of_ble_eq_true rfl) rfl ?_
        refine sC_isSound (by omega) (fun c70 => ?_) (fun c70 => ?_)
        · refine aw_if_eq (tgt := 91) dX8_takeNumber_73 (by decide) rfl (by omega) (fun c => absurd c (by decide)) (fun _ => ?_)
          exfalso; omega
        · refine aw_if_eq (tgt := 91) dX8_takeNumber_73 (by decide) rfl (by omega) (fun _ => ?_) (fun c => absurd c (by decide))
          refine aw_aload_n dX8_takeNumber_91 rfl rfl ?_
          refine aw_callV [] _ dX8_takeNumber_92 rfl clv_X8_36 (by decide) ⟨Nat.zero_le _, Nat.zero_le _⟩ g68 (by rfl) (Nat.le_of_ble_eq_true rfl) rfl ?_
          refine sC_isSound (by omega) (fun c92 => ?_) (fun c92 => ?_)
          · refine aw_if_eq (tgt := 102) dX8_takeNumber_95 (by decide) rfl (by omega) (fun c => absurd c (by decide)) (fun _ => ?_)
            exfalso; omega
          · refine aw_if_eq (tgt := 102) dX8_takeNumber_95 (by decide) rfl (by omega) (fun _ => ?_) (fun c => absurd c (by decide))
            refine aw_iload_n dX8_takeNumber_102 rfl rfl ?_
            refine aw_ireturn (ty := .int) dX8_takeNumber_103 rfl rfl ?_
            exact k
theorem sC_takeNumber {lo hi : Int} (hT : TpC mem) (h5 : mem 68 5 = 0) (hp : 0 ≤ mem 68 4 ∧ mem 68 4 ≤ mem 68 1) (hlh : 0 ≤ lo ∧ lo ≤ hi ∧ hi ≤ 99)
    (kb : ∀ (m' : Mem) (a : Int), FrI m' mem 68 69 → m' 68 1 = mem 68 1 → TBad a m' → TpN m' → (∀ s : PSt, s.p = mem 68 4 → numP (mem 69) (mem 68 1) lo hi s = .error a) → Q (some (vI lo)) m')
    (kg : ∀ m' : Mem, FrI m' mem 68 69 → m' 68 1 = mem 68 1 → m' 68 5 = 0 → m' 68 3 = tkB (mem 69) (mem 68 1) (mem 68 4) → m' 68 4 = tkE (mem 69) (mem 68 1) (mem 68 4) → TpN m' → ¬ tkX (mem 69) (mem 68 1) (mem 68 4) → tkK (mem 69) (mem 68 1) (mem 68 4) = 2 → (lo ≤ tkV (mem 69) (mem 68 1) (mem 68 4) ∧ tkV (mem 69) (mem 68 1) (mem 68 4) ≤ hi) → Q (some (vI (tkV (mem 69) (mem 68 1) (mem 68 4)))) m') : AMet Γ mX8_takeNumber [vR 68, vI lo, vI hi] zG mem Q := by
  have rB := tkB_rng (t := mem 69) hp
  have rE := tkE_rng (t := mem 69) hp
  have kK := kdF_K (t := mem 69) hp
  have hT1 := hT.1
  -- a fault: low, and no more
  have s24 : ∀ (m : Mem) (a : Int), FrI m mem 68 69 → m 68 1 = mem 68 1 → TBad a m → TpN m → (∀ s : PSt, s.p = mem 68 4 → numP (mem 69) (mem 68 1) lo hi s = .error a) → AW Γ mX8_takeNumber (zF Γ zG Q) zG 0 0 24 [some (vR 68), some (vI lo), some (vI hi), none, none] [] m := by
    intro m a hF e1 hB hN hE
    obtain ⟨n2, n3, n4, n5⟩ := id hN
    have b5 := hB.1
    refine aw_iconst dX8_takeNumber_24 rfl ?_
    refine aw_istore3 rfl dX8_takeNumber_25 rfl (by decide) ?_
    refine aw_aload_n dX8_takeNumber_26 rfl rfl ?_
    refine aw_getI (kI := 3) dX8_takeNumber_27 rfl fl_X8_20 (by first | assumption | rfl) (by rfl) rfl ?_
    refine aw_istore4 rfl dX8_takeNumber_30 rfl (by decide) ?_
    refine aw_iload dX8_takeNumber_32 rfl rfl ?_
    refine aw_aload_n dX8_takeNumber_34 rfl rfl ?_
    refine aw_getI (kI := 4) dX8_takeNumber_35 rfl fl_X8_23 (by first | assumption | rfl) (by rfl) rfl ?_
    refine aw_icmp_ge (tgt := 69) dX8_takeNumber_38 (by decide) rfl (by omega) (by omega) (fun c38 => ?_) (fun c38 => ?_)
    · refine aw_aload_n dX8_takeNumber_69 rfl rfl ?_
      refine aw_callV [] _ dX8_takeNumber_70 rfl clv_X8_36 (by decide) ⟨Nat.zero_le _, Nat.zero_le _⟩ g68 (by rfl) (Nat.le_of_ble_eq_true rfl) rfl ?_
      refine sC_isSound (by omega) (fun c70 => ?_) (fun c70 => ?_)
      · refine aw_if_eq (tgt := 91) dX8_takeNumber_73 (by decide) rfl (by omega) (fun c => absurd c (by decide)) (fun _ => ?_)
        exfalso; omega
      · refine aw_if_eq (tgt := 91) dX8_takeNumber_73 (by decide) rfl (by omega) (fun _ => ?_) (fun c => absurd c (by decide))
        refine aw_aload_n dX8_takeNumber_91 rfl rfl ?_
        refine aw_callV [] _ dX8_takeNumber_92 rfl clv_X8_36 (by decide) ⟨Nat.zero_le _, Nat.zero_le _⟩ g68 (by rfl) (Nat.le_of_ble_eq_true rfl) rfl ?_
        refine sC_isSound (by omega) (fun c92 => ?_) (fun c92 => ?_)
        · refine aw_if_eq (tgt := 102) dX8_takeNumber_95 (by decide) rfl (by omega) (fun c => absurd c (by decide)) (fun _ => ?_)
          exfalso; omega
        · refine aw_if_eq (tgt := 102) dX8_takeNumber_95 (by decide) rfl (by omega) (fun _ => ?_) (fun c => absurd c (by decide))
          refine aw_iload_n dX8_takeNumber_102 rfl rfl ?_
          refine aw_ireturn (ty := .int) dX8_takeNumber_103 rfl rfl ?_
          exact kb m a hF e1 hB hN hE
    · refine aw_aload_n dX8_takeNumber_41 rfl rfl ?_
      refine aw_callV [] _ dX8_takeNumber_42 rfl clv_X8_36 (by decide) ⟨Nat.zero_le _, Nat.zero_le _⟩ g68 (by rfl) (Nat.le_of_ble_eq_true rfl) rfl ?_
      refine sC_isSound (by omega) (fun c42 => ?_) (fun c42 => ?_)
      · refine aw_if_eq (tgt := 69) dX8_takeNumber_45 (by decide) rfl (by omega) (fun c => absurd c (by decide)) (fun _ => ?_)
        exfalso; omega
      · refine aw_if_eq (tgt := 69) dX8_takeNumber_45 (by decide) rfl (by omega) (fun _ => ?_) (fun c => absurd c (by decide))
        refine aw_aload_n dX8_takeNumber_69 rfl rfl ?_
        refine aw_callV [] _ dX8_takeNumber_70 rfl clv_X8_36 (by decide) ⟨Nat.zero_le _, Nat.zero_le _⟩ g68 (by rfl) (Nat.le_of_ble_eq_true rfl) rfl ?_
        refine sC_isSound (by omega) (fun c70 => ?_) (fun c70 => ?_)
        · refine aw_if_eq (tgt := 91) dX8_takeNumber_73 (by decide) rfl (by omega) (fun c => absurd c (by decide)) (fun _ => ?_)
          exfalso; omega
        · refine aw_if_eq (tgt := 91) dX8_takeNumber_73 (by decide) rfl (by omega) (fun _ => ?_) (fun c => absurd c (by decide))
          refine aw_aload_n dX8_takeNumber_91 rfl rfl ?_
          refine aw_callV [] _ dX8_takeNumber_92 rfl clv_X8_36 (by decide) ⟨Nat.zero_le _, Nat.zero_le _⟩ g68 (by rfl) (Nat.le_of_ble_eq_true rfl) rfl ?_
          refine sC_isSound (by omega) (fun c92 => ?_) (fun c92 => ?_)
          · refine aw_if_eq (tgt := 102) dX8_takeNumber_95 (by decide) rfl (by omega) (fun c => absurd c (by decide)) (fun _ => ?_)
            exfalso; omega
          · refine aw_if_eq (tgt := 102) dX8_takeNumber_95 (by decide) rfl (by omega) (fun _ => ?_) (fun c => absurd c (by decide))
            refine aw_iload_n dX8_takeNumber_102 rfl rfl ?_
            refine aw_ireturn (ty := .int) dX8_takeNumber_103 rfl rfl ?_
            exact kb m a hF e1 hB hN hE
  have s69 : ∀ (m : Mem) (x4 : Option AV), FrI m mem 68 69 → TkR m (mem 69) (mem 68 1) (mem 68 4) → ¬ tkX (mem 69) (mem 68 1) (mem 68 4) → tkK (mem 69) (mem 68 1) (mem 68 4) = 2 → AW Γ mX8_takeNumber (zF Γ zG Q) zG 0 0 69 [some (vR 68), some (vI lo), some (vI hi), some (vI (tkV (mem 69) (mem 68 1) (mem 68 4))), x4] [] m := by
    intro m x4 hF hR hx h2
    have hN := hR.n hp
    obtain ⟨e1, e3, e4, e2, ex, en⟩ := hR
    have e5 := en hx
    have vr := tkV_rng h2
    have s91 : ∀ m2 : Mem, ¬ (lo ≤ tkV (mem 69) (mem 68 1) (mem 68 4) ∧ tkV (mem 69) (mem 68 1) (mem 68 4) ≤ hi) → m2 = mset (mset m 68 5 3) 68 6 (m 68 3) → AW Γ mX8_takeNumber (zF Γ zG Q) zG 0 0 91 [some (vR 68), some (vI lo), some (vI hi), some (vI (tkV (mem 69) (mem 68 1) (mem 68 4))), x4] [] m2 := by
      intro m2 hn em
      have f2 : FrI m2 mem 68 69 := by rw [em]; exact (hF.set (by decide)).set (by decide)
      have g5 : m2 68 5 = 3 := by rw [em, mset_same, fset_ne (by decide), mset_same, fset_same]
      have g6 : m2 68 6 = m 68 3 := by rw [em, mset_same, fset_same]
      have gj : ∀ j : Int, ¬ j = 5 → ¬ j = 6 → m2 68 j = m 68 j := fun j a b => by rw [em, mset_same, fset_ne b, mset_same, fset_ne a]
      have N2 : TpN m2 := by
        obtain ⟨n2, n3, n4, n5⟩ := hN
        refine ⟨?_, ?_, ?_, by omega⟩
        · rw [gj 2 (by decide) (by decide)]; exact n2
        · rw [gj 3 (by decide) (by decide), gj 1 (by decide) (by decide)]; exact n3
        · rw [gj 4 (by decide) (by decide), gj 1 (by decide) (by decide)]; exact n4
      have kk := kb m2 (8 * tkB (mem 69) (mem 68 1) (mem 68 4) + 3) f2 (by rw [gj 1 (by decide) (by decide)]; exact e1) ⟨by omega, by omega⟩ N2 (fun s hs => by
        rw [numP_n (by rw [hs]; exact hx) (fun z => hn (by have z2 := z.2; rw [hs] at z2; exact z2))]
        unfold numD
        rw [hs, if_pos h2])
      refine aw_aload_n dX8_takeNumber_91 rfl rfl ?_
      refine aw_callV [] _ dX8_takeNumber_92 rfl clv_X8_36 (by decide) ⟨Nat.zero_le _, Nat.zero_le _⟩ g68 (by rfl) (Nat.le_of_ble_eq_true rfl) rfl ?_
      refine sC_isSound (by omega) (fun c92 => ?_) (fun c92 => ?_)
      · refine aw_if_eq (tgt := 102) dX8_takeNumber_95 (by decide) rfl (by omega) (fun c => absurd c (by decide)) (fun _ => ?_)
        exfalso; omega
      · refine aw_if_eq (tgt := 102) dX8_takeNumber_95 (by decide) rfl (by omega) (fun _ => ?_) (fun c => absurd c (by decide))
        refine aw_iload_n dX8_takeNumber_102 rfl rfl ?_
        refine aw_ireturn (ty := .int) dX8_takeNumber_103 rfl rfl ?_
        exact kk
    have s91g : (lo ≤ tkV (mem 69) (mem 68 1) (mem 68 4) ∧ tkV (mem 69) (mem 68 1) (mem 68 4) ≤ hi) → AW Γ mX8_takeNumber (zF Γ zG Q) zG 0 0 91 [some (vR 68), some (vI lo), some (vI hi), some (vI (tkV (mem 69) (mem 68 1) (mem 68 4))), x4] [] m := by
      intro hv
      refine aw_aload_n dX8_takeNumber_91 rfl rfl ?_
      refine aw_callV [] _ dX8_takeNumber_92 rfl clv_X8_36 (by decide) ⟨Nat.zero_le _, Nat.zero_le _⟩ g68 (by rfl) (Nat.le_of_ble_eq_true rfl) rfl ?_
      refine sC_isSound (by omega) (fun c92 => ?_) (fun c92 => ?_)
      · refine aw_if_eq (tgt := 102) dX8_takeNumber_95 (by decide) rfl (by omega) (fun c => absurd c (by decide)) (fun _ => ?_)
        refine aw_iload_n dX8_takeNumber_98 rfl rfl ?_
        refine aw_goto (tgt := 103) dX8_takeNumber_99 (by decide) ?_
        refine aw_ireturn (ty := .int) dX8_takeNumber_103 rfl rfl ?_
        exact kg m hF e1 e5 e3 e4 hN hx h2 hv
      · refine aw_if_eq (tgt := 102) dX8_takeNumber_95 (by decide) rfl (by omega) (fun _ => ?_) (fun c => absurd c (by decide))
        exfalso; omega
    have s86 : ¬ (lo ≤ tkV (mem 69) (mem 68 1) (mem 68 4) ∧ tkV (mem 69) (mem 68 1) (mem 68 4) ≤ hi) → AW Γ mX8_takeNumber (zF Γ zG Q) zG 0 0 86 [some (vR 68), some (vI lo), some (vI hi), some (vI (tkV (mem 69) (mem 68 1) (mem 68 4))), x4] [] m := by
      intro hn
      refine aw_aload_n dX8_takeNumber_86 rfl rfl ?_
      refine aw_iconst dX8_takeNumber_87 rfl ?_
      refine aw_callV [_] _ dX8_takeNumber_88 rfl clv_X8_50 (by decide) ⟨Nat.zero_le _, Nat.zero_le _⟩ g68 (by rfl) (Nat.le_of_ble_eq_true rfl) rfl ?_
      refine sC_fail (by omega) (fun c6 => ?_) (fun c6 => ?_)
      · first | exact absurd e5 c6 | exact s91 _ hn rfl
      · first | exact absurd e5 c6 | exact s91 _ hn rfl
    refine aw_aload_n dX8_takeNumber_69 rfl rfl ?_
    refine aw_callV [] _ dX8_takeNumber_70 rfl clv_X8_36 (by decide) ⟨Nat.zero_le _, Nat.zero_le _⟩ g68 (by rfl) (Nat.le_of_ble_eq_true rfl) rfl ?_
    refine sC_isSound (by omega) (fun c70 => ?_) (fun c70 => ?_)
    · refine aw_if_eq (tgt := 91) dX8_takeNumber_73 (by decide) rfl (by omega) (fun c => absurd c (by decide)) (fun _ => ?_)
      refine aw_iload_n dX8_takeNumber_76 rfl rfl ?_
      refine aw_iload_n dX8_takeNumber_77 rfl rfl ?_
      refine aw_icmp_lt (tgt := 86) dX8_takeNumber_78 (by decide) rfl (by omega) (by omega) (fun c78 => ?_) (fun c78 => ?_)
      · exact s86 (by omega)
      · refine aw_iload_n dX8_takeNumber_81 rfl rfl ?_
        refine aw_iload_n dX8_takeNumber_82 rfl rfl ?_
        refine aw_icmp_le (tgt := 91) dX8_takeNumber_83 (by decide) rfl (by omega) (by omega) (fun c83 => ?_) (fun c83 => ?_)
        · first | (exfalso; omega) | exact s91g (by omega)
        · exact s86 (by omega)
    · refine aw_if_eq (tgt := 91) dX8_takeNumber_73 (by decide) rfl (by omega) (fun _ => ?_) (fun c => absurd c (by decide))
      first | (exfalso; omega) | exact s91g (by omega)
  have s32 : ∀ (m : Mem), FrI m mem 68 69 → TkR m (mem 69) (mem 68 1) (mem 68 4) → ¬ tkX (mem 69) (mem 68 1) (mem 68 4) → tkK (mem 69) (mem 68 1) (mem 68 4) = 2 → ∀ (d : Nat) (i : Int), i + d = tkE (mem 69) (mem 68 1) (mem 68 4) → tkB (mem 69) (mem 68 1) (mem 68 4) ≤ i → AW Γ mX8_takeNumber (zF Γ zG Q) zG 0 0 32 [some (vR 68), some (vI lo), some (vI hi), some (vI (vF (mem 69) (tkB (mem 69) (mem 68 1) (mem 68 4)) i)), some (vI i)] [] m := by
    intro m hF hR hx h2 d
    have hN := hR.n hp
    have e1 := hR.1
    have e4 := hR.2.2.1
    have e5 := hR.2.2.2.2.2 hx
    have m69 : m 69 = mem 69 := hF 69 (by omega)
    have w2 : tkE (mem 69) (mem 68 1) (mem 68 4) - tkB (mem 69) (mem 68 1) (mem 68 4) ≤ 2 := by
      by_cases z : tkE (mem 69) (mem 68 1) (mem 68 4) - tkB (mem 69) (mem 68 1) (mem 68 4) ≤ 2
      · exact z
      · exact absurd (Or.inl ⟨h2, by omega⟩) hx
    have w1 : tkB (mem 69) (mem 68 1) (mem 68 4) < tkE (mem 69) (mem 68 1) (mem 68 4) := by
      have hE : tkE (mem 69) (mem 68 1) (mem 68 4) = endF (mem 69) (mem 68 1) 48 57 (tkB (mem 69) (mem 68 1) (mem 68 4)) := by unfold tkE; rw [if_neg (by omega), if_neg (by omega), if_pos h2]
      have hc : 48 ≤ lookF (mem 69) (mem 68 1) (tkB (mem 69) (mem 68 1) (mem 68 4)) ∧ lookF (mem 69) (mem 68 1) (tkB (mem 69) (mem 68 1) (mem 68 4)) ≤ 57 := by
        have := kK.2.2.1.mpr h2
        unfold kdF kdC at this
        (repeat' split at this) <;> omega
      have hlt := (lookF_lt (t := mem 69) (L := mem 68 1) (p := tkB (mem 69) (mem 68 1) (mem 68 4)) (by omega)).1
      rw [hE, endF_y (by decide) hc]
      have := (endF_r (t := mem 69) (L := mem 68 1) (lo := 48) (hi := 57) (p := tkB (mem 69) (mem 68 1) (mem 68 4) + 1) (by decide) (by omega)).1
      omega
    have tpm : TpC m := ⟨by rw [e1]; exact hT1, fun i i0 i1 => by rw [m69]; exact hT.2 i i0 (by omega)⟩
    induction d with
    | zero =>
      intro i hi hb
      have ev : vF (mem 69) (tkB (mem 69) (mem 68 1) (mem 68 4)) i = tkV (mem 69) (mem 68 1) (mem 68 4) := by
        unfold vF tkV
        rw [if_neg (by omega), show i = tkE (mem 69) (mem 68 1) (mem 68 4) by omega]
      rw [ev]
      refine aw_iload dX8_takeNumber_32 rfl rfl ?_
      refine aw_aload_n dX8_takeNumber_34 rfl rfl ?_
      refine aw_getI (kI := 4) dX8_takeNumber_35 rfl fl_X8_23 (by first | assumption | rfl) (by rfl) rfl ?_
      rw [e4]
      refine aw_icmp_ge (tgt := 69) dX8_takeNumber_38 (by decide) rfl (by omega) (by omega) (fun c38 => ?_) (fun c38 => ?_)
      · exact s69 m _ hF hR hx h2
      · exfalso; omega
    | succ d ih =>
      intro i hi hb
      push_cast at hi
      have vs := vF_s1 (t := mem 69) (b := tkB (mem 69) (mem 68 1) (mem 68 4)) (p := i) hb (by omega)
      have lk : lookF (m 69) (m 68 1) i = mem 69 i := by rw [m69, e1]; unfold lookF; rw [if_pos (by omega)]
      have ihn := ih (i + 1) (by omega) (by omega)
      rw [← vs] at ihn
      refine aw_iload dX8_takeNumber_32 rfl rfl ?_
      refine aw_aload_n dX8_takeNumber_34 rfl rfl ?_
      refine aw_getI (kI := 4) dX8_takeNumber_35 rfl fl_X8_23 (by first | assumption | rfl) (by rfl) rfl ?_
      rw [e4]
      refine aw_icmp_ge (tgt := 69) dX8_takeNumber_38 (by decide) rfl (by omega) (by omega) (fun c38 => ?_) (fun c38 => ?_)
      · exfalso; omega
      · refine aw_aload_n dX8_takeNumber_41 rfl rfl ?_
        refine aw_callV [] _ dX8_takeNumber_42 rfl clv_X8_36 (by decide) ⟨Nat.zero_le _, Nat.zero_le _⟩ g68 (by rfl) (Nat.le_of_ble_eq_true rfl) rfl ?_
        refine sC_isSound (by omega) (fun c42 => ?_) (fun c42 => ?_)
        · refine aw_if_eq (tgt := 69) dX8_takeNumber_45 (by decide) rfl (by omega) (fun c => absurd c (by decide)) (fun _ => ?_)
          refine aw_bipush dX8_takeNumber_48 rfl (by decide) ?_
          refine aw_iload_n dX8_takeNumber_50 rfl rfl ?_
          refine aw_imul dX8_takeNumber_51 rfl ?_
          refine aw_aload_n dX8_takeNumber_52 rfl rfl ?_
          refine aw_iload dX8_takeNumber_53 rfl rfl ?_
          refine aw_callV [_] _ dX8_takeNumber_55 rfl clv_X8_54 (by decide) ⟨Nat.zero_le _, Nat.zero_le _⟩ g68 (by rfl) (Nat.le_of_ble_eq_true rfl) rfl ?_
          refine sC_byteAt (by rw [e1]; exact hT1) (by omega) ?_
          rw [lk]
          refine aw_iadd dX8_takeNumber_58 rfl ?_
          refine aw_bipush dX8_takeNumber_59 rfl (by decide) ?_
          refine aw_isub dX8_takeNumber_61 rfl ?_
          refine aw_istore3 rfl dX8_takeNumber_62 rfl (by decide) ?_
          refine aw_iinc4 rfl dX8_takeNumber_63 rfl (by decide) ?_
          refine aw_goto (tgt := 32) dX8_takeNumber_66 (by decide) ?_
          exact ihn
        · refine aw_if_eq (tgt := 69) dX8_takeNumber_45 (by decide) rfl (by omega) (fun _ => ?_) (fun c => absurd c (by decide))
          exfalso; omega
  have s4 : ∀ (m : Mem), FrI m mem 68 69 → TkR m (mem 69) (mem 68 1) (mem 68 4) → AW Γ mX8_takeNumber (zF Γ zG Q) zG 0 0 4 [some (vR 68), some (vI lo), some (vI hi), none, none] [] m := by
    intro m hF hR
    have hN := hR.n hp
    obtain ⟨e1, e3, e4, e2, ex, en⟩ := id hR
    obtain ⟨n2, n3, n4, n5⟩ := id hN
    by_cases hx : tkX (mem 69) (mem 68 1) (mem 68 4)
    · obtain ⟨f5, f6⟩ := ex hx
      have bad := s24 m (erX (mem 69) (mem 68 1) (mem 68 4)) hF e1 ⟨by omega, by unfold erX; omega⟩ hN (fun s hs => by rw [numP_x s (by rw [hs]; exact hx), hs])
      refine aw_aload_n dX8_takeNumber_4 rfl rfl ?_
      refine aw_callV [] _ dX8_takeNumber_5 rfl clv_X8_36 (by decide) ⟨Nat.zero_le _, Nat.zero_le _⟩ g68 (by rfl) (Nat.le_of_ble_eq_true rfl) rfl ?_
      refine sC_isSound (by omega) (fun c5 => ?_) (fun c5 => ?_)
      · refine aw_if_eq (tgt := 24) dX8_takeNumber_8 (by decide) rfl (by omega) (fun c => absurd c (by decide)) (fun _ => ?_)
        exfalso; omega
      · refine aw_if_eq (tgt := 24) dX8_takeNumber_8 (by decide) rfl (by omega) (fun _ => ?_) (fun c => absurd c (by decide))
        exact bad
    · have e5 := en hx
      have q2 := kK.2.2.1
      rw [← e2] at q2
      have bad : ∀ m2 : Mem, ¬ tkK (mem 69) (mem 68 1) (mem 68 4) = 2 → m2 = mset (mset m 68 5 2) 68 6 (m 68 3) → AW Γ mX8_takeNumber (zF Γ zG Q) zG 0 0 24 [some (vR 68), some (vI lo), some (vI hi), none, none] [] m2 := by
        intro m2 hn em
        have f2 : FrI m2 mem 68 69 := by rw [em]; exact (hF.set (by decide)).set (by decide)
        have g5 : m2 68 5 = 2 := by rw [em, mset_same, fset_ne (by decide), mset_same, fset_same]
        have g6 : m2 68 6 = m 68 3 := by rw [em, mset_same, fset_same]
        have gj : ∀ j : Int, ¬ j = 5 → ¬ j = 6 → m2 68 j = m 68 j := fun j a b => by rw [em, mset_same, fset_ne b, mset_same, fset_ne a]
        refine s24 m2 (8 * tkB (mem 69) (mem 68 1) (mem 68 4) + 2) f2 (by rw [gj 1 (by decide) (by decide)]; exact e1) ⟨by omega, by omega⟩ ⟨?_, ?_, ?_, by omega⟩ (fun s hs => ?_)
        · rw [gj 2 (by decide) (by decide)]; exact n2
        · rw [gj 3 (by decide) (by decide), gj 1 (by decide) (by decide)]; exact n3
        · rw [gj 4 (by decide) (by decide), gj 1 (by decide) (by decide)]; exact n4
        · rw [numP_n (by rw [hs]; exact hx) (fun z => hn (by have z2 := z.1; rw [hs] at z2; exact z2))]
          unfold numD
          rw [hs, if_neg hn]
      have good : tkK (mem 69) (mem 68 1) (mem 68 4) = 2 → AW Γ mX8_takeNumber (zF Γ zG Q) zG 0 0 24 [some (vR 68), some (vI lo), some (vI hi), none, none] [] m := by
        intro h2
        have go := s32 m hF hR hx h2 (tkE (mem 69) (mem 68 1) (mem 68 4) - tkB (mem 69) (mem 68 1) (mem 68 4)).toNat (tkB (mem 69) (mem 68 1) (mem 68 4)) (by omega) (Int.le_refl _)
        rw [show vF (mem 69) (tkB (mem 69) (mem 68 1) (mem 68 4)) (tkB (mem 69) (mem 68 1) (mem 68 4)) = 0 by unfold vF; rw [if_pos (Int.le_refl _)]] at go
        refine aw_iconst dX8_takeNumber_24 rfl ?_
        refine aw_istore3 rfl dX8_takeNumber_25 rfl (by decide) ?_
        refine aw_aload_n dX8_takeNumber_26 rfl rfl ?_
        refine aw_getI (kI := 3) dX8_takeNumber_27 rfl fl_X8_20 (by first | assumption | rfl) (by rfl) rfl ?_
        rw [e3]
        refine aw_istore4 rfl dX8_takeNumber_30 rfl (by decide) ?_
        exact go
      refine aw_aload_n dX8_takeNumber_4 rfl rfl ?_
      refine aw_callV [] _ dX8_takeNumber_5 rfl clv_X8_36 (by decide) ⟨Nat.zero_le _, Nat.zero_le _⟩ g68 (by rfl) (Nat.le_of_ble_eq_true rfl) rfl ?_
      refine sC_isSound (by omega) (fun c5 => ?_) (fun c5 => ?_)
      · refine aw_if_eq (tgt := 24) dX8_takeNumber_8 (by decide) rfl (by omega) (fun c => absurd c (by decide)) (fun _ => ?_)
        refine aw_aload_n dX8_takeNumber_11 rfl rfl ?_
        refine aw_getI (kI := 2) dX8_takeNumber_12 rfl fl_X8_17 (by first | assumption | rfl) (by rfl) rfl ?_
        refine aw_iconst dX8_takeNumber_15 rfl ?_
        refine aw_icmp_eq (tgt := 24) dX8_takeNumber_16 (by decide) rfl (by omega) (by omega) (fun c16 => ?_) (fun c16 => ?_)
        · first | (have hz := c6; exact absurd e5 hz) | (have hz := c6; exact bad _ (fun z => c16 (q2.mpr z)) rfl) | exact absurd e5 c5 | exact good (q2.mp (by omega))
        · refine aw_aload_n dX8_takeNumber_19 rfl rfl ?_
          refine aw_iconst dX8_takeNumber_20 rfl ?_
          refine aw_callV [_] _ dX8_takeNumber_21 rfl clv_X8_50 (by decide) ⟨Nat.zero_le _, Nat.zero_le _⟩ g68 (by rfl) (Nat.le_of_ble_eq_true rfl) rfl ?_
          refine sC_fail (by omega) (fun c6 => ?_) (fun c6 => ?_)
          · first | (have hz := c6; exact absurd e5 hz) | (have hz := c6; exact bad _ (fun z => c16 (q2.mpr z)) rfl) | exact absurd e5 c5 | exact good (q2.mp (by omega))
          · first | (have hz := c6; exact absurd e5 hz) | (have hz := c6; exact bad _ (fun z => c16 (q2.mpr z)) rfl) | exact absurd e5 c5 | exact good (q2.mp (by omega))
      · refine aw_if_eq (tgt := 24) dX8_takeNumber_8 (by decide) rfl (by omega) (fun _ => ?_) (fun c => absurd c (by decide))
        first | (have hz := c6; exact absurd e5 hz) | (have hz := c6; exact bad _ (fun z => c16 (q2.mpr z)) rfl) | exact absurd e5 c5 | exact good (q2.mp (by omega))
  refine AMet.of' 2 (ls := [some (vR (68)), some (vI (lo)), some (vI (hi)), none, none]) (by decide) rfl (Nat.le_of_ble_eq_true rfl) ?_
  refine aw_aload_n dX8_takeNumber_0 rfl rfl ?_
  refine aw_callV [] _ dX8_takeNumber_1 rfl clv_X8_66 (by decide) ⟨Nat.zero_le _, Nat.zero_le _⟩ g68 (by rfl) (Nat.le_of_ble_eq_true rfl) rfl ?_
  refine sC_advance hT h5 hp (fun m1 f1 r1 => ?_)
  exact s4 m1 f1 r1
end ZCmp22
