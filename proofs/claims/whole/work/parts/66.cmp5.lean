def whoF (f : Int → Int) (x : Int) : Nat → Nat → Int
  | 0, _ => -4
  | d + 1, p => if f (47 + 8 * (p : Int) + 2) = x then (p : Int) else whoF f x d (p + 1)
theorem whoF_rng (f : Int → Int) (x : Int) : ∀ d p : Nat, whoF f x d p = -4 ∨ ((p : Int) ≤ whoF f x d p ∧ whoF f x d p < p + d ∧ f (47 + 8 * whoF f x d p + 2) = x) := by
  intro d
  induction d with
  | zero => intro p; exact Or.inl rfl
  | succ d ih =>
    intro p
    rw [whoF]
    split
    · next h => exact Or.inr ⟨Int.le_refl _, by push_cast; omega, h⟩
    · rcases ih (p + 1) with h | ⟨h1, h2, h3⟩
      · exact Or.inl h
      · exact Or.inr ⟨by push_cast at h1; omega, by push_cast at h2 ⊢; omega, h3⟩
/-- how much a potato is wanted -/
def aplF (f : Int → Int) (p : Int) : Int := if isGoodF f p then 200 + f (47 + 8 * p + 0) else if isBlackF f p then 0 else 100 + f (47 + 8 * p + 3)
theorem apl_before {n : Int} {f : Int → Int} {p q : Int} (wp : SpW n f p) (wq : SpW n f q) : beforeF f p q ↔ aplF f q < aplF f p := by
  have p0 := wp.1
  have p3 := wp.2.2.2.1
  have q0 := wq.1
  have q3 := wq.2.2.2.1
  unfold beforeF rankF aplF
  (repeat' split) <;> omega
theorem aplF_rng {n : Int} {f : Int → Int} {p : Int} (wp : SpW n f p) : 0 ≤ aplF f p ∧ aplF f p ≤ 300 := by
  have p0 := wp.1
  have p3 := wp.2.2.2.1
  unfold aplF
  (repeat' split) <;> omega
theorem zbit3 {a : Int} {x : Nat} (hx : x < 32) : zand a (zshl 1 (x : Int)) = 0 ↔ zand (zshr a (x : Int)) 1 = 0 := by
  rw [zbit2 hx, zbit hx]
  cases zbt a x <;> simp
section ZCmp5
variable {Γ : ZG} {mem : Mem} {Q : Option AV → Mem → Prop} {b : Nat} {n : Int} {f : Int → Int}
theorem sC_startAnew (hE : EvG zG b) (k : ∀ m' : Mem, FrI m' mem b (b + 16) → (∀ d : Nat, b + 6 ≤ d → m' d = mem d) → (∀ f : Int → Int, f 24 = 1 → f 25 = 1 → f 26 = 0 → f 46 = 0 → f 45 = 0 → f 95 = 0 → f 96 = 0 → (∀ x : Int, 0 ≤ x → x < 24 → f x = 0) → Ev m' b 3 f) → Q none m') : AMet Γ mX0_startAnew [vR b] zG mem Q := by
  obtain ⟨e0, eF, e6, e7, e8, e9, eS⟩ := hE
  have eF0 := eF.1
  refine AMet.of' 0 (ls := [some (vR (b))]) (by decide) rfl (Nat.le_of_ble_eq_true rfl) ?_
  refine aw_aload_n dX0_startAnew_0 rfl rfl ?_
  refine aw_getR dX0_startAnew_1 rfl fl_X0_12 (by first | assumption | rfl) (by rfl) ?_
  refine aw_callV [] _ dX0_startAnew_4 rfl clv_X0_35 (by decide) ⟨Nat.zero_le _, Nat.zero_le _⟩ (by first | assumption | rfl) (by rfl) (Nat.le_of_ble_eq_true rfl) rfl ?_
  refine sC_becomeCold eF (fun m1 f1 r1 => ?_)
  refine aw_aload_n dX0_startAnew_7 rfl rfl ?_
  refine aw_iconst dX0_startAnew_8 rfl ?_
  refine aw_putI (kI := 2) dX0_startAnew_9 rfl fp_X0_38 (by first | assumption | rfl) (by rfl) rfl ?_
  refine aw_aload_n dX0_startAnew_12 rfl rfl ?_
  refine aw_iconst dX0_startAnew_13 rfl ?_
  refine aw_putI (kI := 3) dX0_startAnew_14 rfl fp_X0_42 (by first | assumption | rfl) (by rfl) rfl ?_
  refine aw_aload_n dX0_startAnew_17 rfl rfl ?_
  refine aw_iconst dX0_startAnew_18 rfl ?_
  refine aw_putI (kI := 4) dX0_startAnew_19 rfl fp_X0_45 (by first | assumption | rfl) (by rfl) rfl ?_
  refine aw_aload_n dX0_startAnew_22 rfl rfl ?_
  refine aw_iconst dX0_startAnew_23 rfl ?_
  refine aw_putI (kI := 5) dX0_startAnew_24 rfl fp_X0_48 (by first | assumption | rfl) (by rfl) rfl ?_
  refine aw_return dX0_startAnew_27 rfl ?_
  refine k _ (((((f1.wd (by omega) (by omega)).set (by omega)).set (by omega)).set (by omega)).set (by omega)) (fun d hd => ?_) (fun f f24 f25 f26 f46 f45 f95 f96 fx => ?_)
  · rw [mset_ne (by omega), mset_ne (by omega), mset_ne (by omega), mset_ne (by omega)]; exact f1 d (by omega)
  · have hr := r1 f f24 f25 f26 fx
    have hk : ∀ d : Nat, b < d → (mset (mset (mset (mset m1 b 2 0) b 3 0) b 4 0) b 5 0) d = m1 d := fun d hd => by rw [mset_ne (by omega), mset_ne (by omega), mset_ne (by omega), mset_ne (by omega)]
    refine ⟨?_, ?_, fun p hp => by omega, fun i i0 i1 => by omega⟩
    · unfold FiR
      rw [hk (b + 1) (by omega), hk (b + 1 + 1) (by omega), hk (b + 1 + 2) (by omega), hk (b + 1 + 3) (by omega), hk (b + 1 + 4) (by omega)]
      exact hr
    · rw [f46, f45, f95, f96]
      simp only [mset_eq, mcell_same]
      exact ⟨rfl, rfl, rfl, rfl⟩
theorem sC_copyEv {d : Nat} (hE : EvG zG b) (hD : EvG zG d) (hbd : d + 16 ≤ b ∨ b + 16 ≤ d) (wf : Wf n f) (h : Ev mem d n f) (k : ∀ m' : Mem, FrI m' mem b (b + 16) → Ev m' b n f → Q none m') : AMet Γ mX0_copyFrom [vR b, vR d] zG mem Q := by
  obtain ⟨e0, eF, e6, e7, e8, e9, eS⟩ := hE
  obtain ⟨d0, dF, d6, d7, d8, d9, dS⟩ := hD
  have eF0 := eF.1
  have w46 := wf.n46
  have w96 := wf.2.2.2.2.2.2.2.2.2.1
  obtain ⟨hFi, ⟨a2, a3, a4, a5⟩, hs, hfe⟩ := h
  have fc : ∀ (a b : Int → Int) (z i : Int), 0 ≤ i → i < z → fcopy a b 0 0 z i = a i := by
    intro a b z i i0 i1
    unfold fcopy
    rw [if_pos (by omega), show (0 : Int) + (i - 0) = i by omega]
  have n0 : d ≠ b := by omega
  have loop : ∀ (e p : Nat) (m : Mem), (p : Int) + e = f 46 → FrI m mem b (b + 16) → FiR m (b + 1) n f → (∀ q : Nat, q < p → SpR (m (b + 10 + q)) f q) → AW Γ mX0_copyFrom (zF Γ zG Q) zG 0 0 13 [some (vR b), some (vR d), some (vI p)] [] m := by
    intro e
    induction e with
    | zero =>
      intro p m hp hF hR hq
      have md : m d = mem d := hF d (by omega)
      refine aw_iload_n dX0_copyFrom_13 rfl rfl ?_
      refine aw_aload_n dX0_copyFrom_14 rfl rfl ?_
      refine aw_getI (kI := 2) dX0_copyFrom_15 rfl fl_X0_38 (by first | assumption | rfl) (by rfl) rfl ?_
      rw [md, a2]
      refine aw_icmp_ge (tgt := 42) dX0_copyFrom_18 (by decide) rfl (by omega) (by omega) (fun c18 => ?_) (fun c18 => ?_)
      · refine aw_aload_n dX0_copyFrom_42 rfl rfl ?_
        refine aw_aload_n dX0_copyFrom_43 rfl rfl ?_
        refine aw_getI (kI := 2) dX0_copyFrom_44 rfl fl_X0_38 (by first | assumption | rfl) (by rfl) rfl ?_
        rw [md]
        refine aw_putI (kI := 2) dX0_copyFrom_47 rfl fp_X0_38 (by first | assumption | rfl) (by rfl) rfl ?_
        refine aw_aload_n dX0_copyFrom_50 rfl rfl ?_
        refine aw_aload_n dX0_copyFrom_51 rfl rfl ?_
        refine aw_getI (kI := 3) dX0_copyFrom_52 rfl fl_X0_42 (by first | assumption | rfl) (by rfl) rfl ?_
        rw [mset_ne n0, md]
        refine aw_putI (kI := 3) dX0_copyFrom_55 rfl fp_X0_42 (by first | assumption | rfl) (by rfl) rfl ?_
        refine aw_aload_n dX0_copyFrom_58 rfl rfl ?_
        refine aw_aload_n dX0_copyFrom_59 rfl rfl ?_
        refine aw_getI (kI := 4) dX0_copyFrom_60 rfl fl_X0_45 (by first | assumption | rfl) (by rfl) rfl ?_
        rw [mset_ne n0, mset_ne n0, md]
        refine aw_putI (kI := 4) dX0_copyFrom_63 rfl fp_X0_45 (by first | assumption | rfl) (by rfl) rfl ?_
        refine aw_aload_n dX0_copyFrom_66 rfl rfl ?_
        refine aw_aload_n dX0_copyFrom_67 rfl rfl ?_
        refine aw_getI (kI := 5) dX0_copyFrom_68 rfl fl_X0_48 (by first | assumption | rfl) (by rfl) rfl ?_
        rw [mset_ne n0, mset_ne n0, mset_ne n0, md]
        refine aw_putI (kI := 5) dX0_copyFrom_71 rfl fp_X0_48 (by first | assumption | rfl) (by rfl) rfl ?_
        refine aw_aload_n dX0_copyFrom_74 rfl rfl ?_
        refine aw_getR dX0_copyFrom_75 rfl fl_X0_24 (by first | assumption | rfl) (by rfl) ?_
        refine aw_iconst dX0_copyFrom_78 rfl ?_
        refine aw_aload_n dX0_copyFrom_79 rfl rfl ?_
        refine aw_getR dX0_copyFrom_80 rfl fl_X0_24 (by first | assumption | rfl) (by rfl) ?_
        refine aw_iconst dX0_copyFrom_83 rfl ?_
        refine aw_bipush dX0_copyFrom_84 rfl (by decide) ?_
        refine aw_copy dX0_copyFrom_86 rfl clc_X0_58 (by first | assumption | rfl) (by first | assumption | rfl) (by decide) (by decide) (by decide) (by decide) (by decide) (by decide) (by decide) (by decide) (Nat.le_of_ble_eq_true rfl) ?_
        refine aw_aload_n dX0_copyFrom_89 rfl rfl ?_
        refine aw_getR dX0_copyFrom_90 rfl fl_X0_28 (by first | assumption | rfl) (by rfl) ?_
        refine aw_iconst dX0_copyFrom_93 rfl ?_
        refine aw_aload_n dX0_copyFrom_94 rfl rfl ?_
        refine aw_getR dX0_copyFrom_95 rfl fl_X0_28 (by first | assumption | rfl) (by rfl) ?_
        refine aw_iconst dX0_copyFrom_98 rfl ?_
        refine aw_bipush dX0_copyFrom_99 rfl (by decide) ?_
        refine aw_copy dX0_copyFrom_101 rfl clc_X0_58 (by first | assumption | rfl) (by first | assumption | rfl) (by decide) (by decide) (by decide) (by decide) (by decide) (by decide) (by decide) (by decide) (Nat.le_of_ble_eq_true rfl) ?_
        refine aw_aload_n dX0_copyFrom_104 rfl rfl ?_
        refine aw_getR dX0_copyFrom_105 rfl fl_X0_31 (by first | assumption | rfl) (by rfl) ?_
        refine aw_iconst dX0_copyFrom_108 rfl ?_
        refine aw_aload_n dX0_copyFrom_109 rfl rfl ?_
        refine aw_getR dX0_copyFrom_110 rfl fl_X0_31 (by first | assumption | rfl) (by rfl) ?_
        refine aw_iconst dX0_copyFrom_113 rfl ?_
        refine aw_bipush dX0_copyFrom_114 rfl (by decide) ?_
        refine aw_copy dX0_copyFrom_116 rfl clc_X0_58 (by first | assumption | rfl) (by first | assumption | rfl) (by decide) (by decide) (by decide) (by decide) (by decide) (by decide) (by decide) (by decide) (Nat.le_of_ble_eq_true rfl) ?_
        refine aw_return dX0_copyFrom_119 rfl ?_
        refine k _ (((((((hF.set (by omega)).set (by omega)).set (by omega)).set (by omega)).cell (by omega)).cell (by omega)).cell (by omega)) ?_
        refine ⟨?_, ⟨?_, ?_, ?_, ?_⟩, fun q hq2 => ?_, fun i i0 i1 => ⟨?_, ?_, ?_⟩⟩
        · unfold FiR
          rw [mcell_ne (d := b + 1) (by omega), mcell_ne (d := b + 1) (by omega), mcell_ne (d := b + 1) (by omega), mset_ne (d := b + 1) (by omega), mset_ne (d := b + 1) (by omega), mset_ne (d := b + 1) (by omega), mset_ne (d := b + 1) (by omega)]
          rw [mcell_ne (d := b + 1 + 1) (by omega), mcell_ne (d := b + 1 + 1) (by omega), mcell_ne (d := b + 1 + 1) (by omega), mset_ne (d := b + 1 + 1) (by omega), mset_ne (d := b + 1 + 1) (by omega), mset_ne (d := b + 1 + 1) (by omega), mset_ne (d := b + 1 + 1) (by omega)]
          rw [mcell_ne (d := b + 1 + 2) (by omega), mcell_ne (d := b + 1 + 2) (by omega), mcell_ne (d := b + 1 + 2) (by omega), mset_ne (d := b + 1 + 2) (by omega), mset_ne (d := b + 1 + 2) (by omega), mset_ne (d := b + 1 + 2) (by omega), mset_ne (d := b + 1 + 2) (by omega)]
          rw [mcell_ne (d := b + 1 + 3) (by omega), mcell_ne (d := b + 1 + 3) (by omega), mcell_ne (d := b + 1 + 3) (by omega), mset_ne (d := b + 1 + 3) (by omega), mset_ne (d := b + 1 + 3) (by omega), mset_ne (d := b + 1 + 3) (by omega), mset_ne (d := b + 1 + 3) (by omega)]
          rw [mcell_ne (d := b + 1 + 4) (by omega), mcell_ne (d := b + 1 + 4) (by omega), mcell_ne (d := b + 1 + 4) (by omega), mset_ne (d := b + 1 + 4) (by omega), mset_ne (d := b + 1 + 4) (by omega), mset_ne (d := b + 1 + 4) (by omega), mset_ne (d := b + 1 + 4) (by omega)]
          exact hR
        · rw [mcell_ne (by omega), mcell_ne (by omega), mcell_ne (by omega)]; simp only [mset_eq, mcell_same]; exact a2
        · rw [mcell_ne (by omega), mcell_ne (by omega), mcell_ne (by omega)]; simp only [mset_eq, mcell_same]; exact a3
        · rw [mcell_ne (by omega), mcell_ne (by omega), mcell_ne (by omega)]; simp only [mset_eq, mcell_same]; exact a4
        · rw [mcell_ne (by omega), mcell_ne (by omega), mcell_ne (by omega)]; simp only [mset_eq, mcell_same]; exact a5
        · rw [mcell_ne (by omega), mcell_ne (by omega), mcell_ne (by omega), mset_ne (by omega), mset_ne (by omega), mset_ne (by omega), mset_ne (by omega)]
          exact hq q (by omega)
        · rw [mcell_ne (by omega), mcell_ne (by omega), mcell_same, fc _ _ 6 i i0 (by omega)]
          exact (congrFun (((((hF.set (by omega)).set (by omega)).set (by omega)).set (by omega) : FrI _ mem b (b + 16)) (d + 7) (by omega)) i).trans (hfe i i0 i1).1
        · rw [mcell_ne (by omega), mcell_same, fc _ _ 6 i i0 (by omega)]
          exact (congrFun ((((((hF.set (by omega)).set (by omega)).set (by omega)).set (by omega)).cell (by omega) : FrI _ mem b (b + 16)) (d + 8) (by omega)) i).trans (hfe i i0 i1).2.1
        · rw [mcell_same, fc _ _ 6 i i0 (by omega)]
          exact (congrFun (((((((hF.set (by omega)).set (by omega)).set (by omega)).set (by omega)).cell (by omega)).cell (by omega) : FrI _ mem b (b + 16)) (d + 9) (by omega)) i).trans (hfe i i0 i1).2.2
      · exfalso; omega
    | succ e ih =>
      intro p m hp hF hR hq
      push_cast at hp
      have md : m d = mem d := hF d (by omega)
      have mp : m (d + 10 + p) = mem (d + 10 + p) := hF _ (by omega)
      have hsp := hs p (by omega)
      have gb := eS p (by omega)
      have gd := dS p (by omega)
      have gb0 := gb
      unfold SpG at gb0
      refine aw_iload_n dX0_copyFrom_13 rfl rfl ?_
      refine aw_aload_n dX0_copyFrom_14 rfl rfl ?_
      refine aw_getI (kI := 2) dX0_copyFrom_15 rfl fl_X0_38 (by first | assumption | rfl) (by rfl) rfl ?_
      rw [md, a2]
      refine aw_icmp_ge (tgt := 42) dX0_copyFrom_18 (by decide) rfl (by omega) (by omega) (fun c18 => ?_) (fun c18 => ?_)
      · exfalso; omega
      · refine aw_aload_n dX0_copyFrom_21 rfl rfl ?_
        refine aw_getR dX0_copyFrom_22 rfl fl_X0_20 (by first | assumption | rfl) (by rfl) ?_
        refine aw_iload_n dX0_copyFrom_25 rfl rfl ?_
        refine aw_aaload dX0_copyFrom_26 rfl (by first | assumption | rfl) six_len (by omega) (six_getN (by omega)) ?_
        refine aw_aload_n dX0_copyFrom_27 rfl rfl ?_
        refine aw_getR dX0_copyFrom_28 rfl fl_X0_20 (by first | assumption | rfl) (by rfl) ?_
        refine aw_iload_n dX0_copyFrom_31 rfl rfl ?_
        refine aw_aaload dX0_copyFrom_32 rfl (by first | assumption | rfl) six_len (by omega) (six_getN (by omega)) ?_
        refine aw_callV [_] _ dX0_copyFrom_33 rfl clv_X0_55 (by decide) ⟨Nat.zero_le _, Nat.zero_le _⟩ (by first | assumption | rfl) (by rfl) (Nat.le_of_ble_eq_true rfl) rfl ?_
        refine sC_copySpud gb gd (by omega) ?_
        refine aw_iinc2 rfl dX0_copyFrom_36 rfl (by decide) ?_
        refine aw_goto (tgt := 13) dX0_copyFrom_39 (by decide) ?_
        refine ih (p + 1) _ (by push_cast; omega) (hF.cell (by omega)) ?_ (fun q hq2 => ?_)
        · unfold FiR
          rw [mcell_ne (d := b + 1) (by omega), mcell_ne (d := b + 1 + 1) (by omega), mcell_ne (d := b + 1 + 2) (by omega), mcell_ne (d := b + 1 + 3) (by omega), mcell_ne (d := b + 1 + 4) (by omega)]
          exact hR
        · by_cases eq : q = p
          · subst eq
            rw [mcell_same, mp]
            exact hsp
          · rw [mcell_ne (by omega)]
            exact hq q (by omega)
  have w26 := wf.2.2.2.2.1
  refine AMet.of' 1 (ls := [some (vR (b)), some (vR (d)), none]) (by decide) rfl (Nat.le_of_ble_eq_true rfl) ?_
  refine aw_aload_n dX0_copyFrom_0 rfl rfl ?_
  refine aw_getR dX0_copyFrom_1 rfl fl_X0_12 (by first | assumption | rfl) (by rfl) ?_
  refine aw_aload_n dX0_copyFrom_4 rfl rfl ?_
  refine aw_getR dX0_copyFrom_5 rfl fl_X0_12 (by first | assumption | rfl) (by rfl) ?_
  refine aw_callV [_] _ dX0_copyFrom_8 rfl clv_X0_51 (by decide) ⟨Nat.zero_le _, Nat.zero_le _⟩ (by first | assumption | rfl) (by rfl) (Nat.le_of_ble_eq_true rfl) rfl ?_
  refine sC_copyFire eF dF (by omega) w26 hFi (fun m1 f1 r1 => ?_)
  refine aw_iconst dX0_copyFrom_11 rfl ?_
  refine aw_istore2 rfl dX0_copyFrom_12 rfl (by decide) ?_
  exact loop (f 46).toNat 0 m1 (by omega) (f1.wd (by omega) (by omega)) r1 (fun q hq => by omega)
theorem sC_whoLiesIn {x : Int} (hE : EvG zG b) (hx : -2147483648 ≤ x ∧ x ≤ 2147483647) (wf : Wf n f) (h : Ev mem b n f) (k : Q (some (vI (whoF f x (f 46).toNat 0))) mem) : AMet Γ mX0_whoLiesIn [vR b, vI x] zG mem Q := by
  obtain ⟨e0, eF, e6, e7, e8, e9, eS⟩ := hE
  have hn := wf.1
  have w46 := wf.n46
  obtain ⟨hFi, ⟨a2, a3, a4, a5⟩, hs, hfe⟩ := h
  have loop : ∀ (d p : Nat), (p : Int) + d = f 46 → whoF f x (f 46).toNat 0 = whoF f x d p → AW Γ mX0_whoLiesIn (zF Γ zG Q) zG 0 0 2 [some (vR b), some (vI x), some (vI p)] [] mem := by
    intro d
    induction d with
    | zero =>
      intro p hp e
      rw [e] at k
      refine aw_iload_n dX0_whoLiesIn_2 rfl rfl ?_
      refine aw_aload_n dX0_whoLiesIn_3 rfl rfl ?_
      refine aw_getI (kI := 2) dX0_whoLiesIn_4 rfl fl_X0_38 (by first | assumption | rfl) (by rfl) rfl ?_
      rw [a2]
      refine aw_icmp_ge (tgt := 31) dX0_whoLiesIn_7 (by decide) rfl (by omega) (by omega) (fun c7 => ?_) (fun c7 => ?_)
      · refine aw_bipush dX0_whoLiesIn_31 rfl (by decide) ?_
        refine aw_ireturn (ty := .int) dX0_whoLiesIn_33 rfl rfl ?_
        exact k
      · exfalso; omega
    | succ d ih =>
      intro p hp e
      push_cast at hp
      have gp := eS p (by omega)
      unfold SpG at gp
      have hpl := (hs p (by omega)).2.2.1
      have rpl := (wf.sp (p := p) (by omega)).2.2.1
      rw [whoF] at e
      refine aw_iload_n dX0_whoLiesIn_2 rfl rfl ?_
      refine aw_aload_n dX0_whoLiesIn_3 rfl rfl ?_
      refine aw_getI (kI := 2) dX0_whoLiesIn_4 rfl fl_X0_38 (by first | assumption | rfl) (by rfl) rfl ?_
      rw [a2]
      refine aw_icmp_ge (tgt := 31) dX0_whoLiesIn_7 (by decide) rfl (by omega) (by omega) (fun c7 => ?_) (fun c7 => ?_)
      · exfalso; omega
      · refine aw_aload_n dX0_whoLiesIn_10 rfl rfl ?_
        refine aw_getR dX0_whoLiesIn_11 rfl fl_X0_20 (by first | assumption | rfl) (by rfl) ?_
        refine aw_iload_n dX0_whoLiesIn_14 rfl rfl ?_
        refine aw_aaload dX0_whoLiesIn_15 rfl (by first | assumption | rfl) six_len (by omega) (six_getN (by omega)) ?_
        refine aw_getI (kI := 2) dX0_whoLiesIn_16 rfl fl_X0_68 (by first | assumption | rfl) (by rfl) rfl ?_
        rw [hpl]
        refine aw_iload_n dX0_whoLiesIn_19 rfl rfl ?_
        refine aw_icmp_ne (tgt := 25) dX0_whoLiesIn_20 (by decide) rfl (by omega) (by omega) (fun c20 => ?_) (fun c20 => ?_)
        · refine aw_iinc2 rfl dX0_whoLiesIn_25 rfl (by decide) ?_
          refine aw_goto (tgt := 2) dX0_whoLiesIn_28 (by decide) ?_
          rw [if_neg c20] at e
          exact ih (p + 1) (by push_cast; omega) e
        · refine aw_iload_n dX0_whoLiesIn_23 rfl rfl ?_
          refine aw_ireturn (ty := .int) dX0_whoLiesIn_24 rfl rfl ?_
          rw [if_pos (by omega)] at e; rw [e] at k; exact k
  refine AMet.of' 1 (ls := [some (vR (b)), some (vI (x)), none]) (by decide) rfl (Nat.le_of_ble_eq_true rfl) ?_
  refine aw_iconst dX0_whoLiesIn_0 rfl ?_
  refine aw_istore2 rfl dX0_whoLiesIn_1 rfl (by decide) ?_
  exact loop (f 46).toNat 0 (by omega) rfl
theorem sC_bring {s w : Int} (hE : EvG zG b) (wf : Wf n f) (h : Ev mem b n f) (k0 : f 46 = 6 → Q (some (vI 0)) mem) (k1 : ∀ m' : Mem, ¬ f 46 = 6 → FrI m' mem b (b + 16) → Ev m' b n (addF f s w) → Q (some (vI 1)) m') : AMet Γ mX0_bring [vR b, vI s, vI w] zG mem Q := by
  obtain ⟨e0, eF, e6, e7, e8, e9, eS⟩ := hE
  have w46 := wf.n46
  obtain ⟨⟨h0, h1, h2, h3, hh, hw⟩, ⟨a2, a3, a4, a5⟩, hs, hfe⟩ := h
  have w26 := wf.2.2.2.2.1
  obtain ⟨p, hp⟩ : ∃ p : Nat, f 46 = p := ⟨(f 46).toNat, by omega⟩
  have out : ∀ j : Int, ¬ j = 46 → j < 47 + 8 * (p : Int) ∨ 47 + 8 * (p : Int) + 8 ≤ j → addF f s w j = f j := by
    intro j j1 j2
    unfold addF
    rw [if_neg j1, hp, if_neg (by omega), if_neg (by omega), if_neg (by omega), if_neg (by omega)]
  have s11 : (p : Int) < 6 → AW Γ mX0_bring (zF Γ zG Q) zG 0 0 11 [some (vR b), some (vI s), some (vI w)] [] mem := by
    intro hlt
    have gp := eS p (by omega)
    have gp0 := gp
    unfold SpG at gp0
    have fin : Q (some (vI 1)) (mset (mcell mem (b + 10 + p) (rawG s w (mem (b + 10 + p)))) b 2 ((p : Int) + 1)) := by
      refine k1 _ (by omega) ((FrI.rf.cell (by omega)).set (by omega)) ?_
      have hk : ∀ d : Nat, b < d → d ≠ b + 10 + p → (mset (mcell mem (b + 10 + p) (rawG s w (mem (b + 10 + p)))) b 2 ((p : Int) + 1)) d = mem d := fun d d1 d2 => by rw [mset_ne (by omega), mcell_ne d2]
      have e46 : addF f s w 46 = (p : Int) + 1 := by unfold addF; rw [if_pos rfl, hp]
      unfold Ev FiR
      rw [hk (b + 1) (by omega) (by omega), hk (b + 1 + 1) (by omega) (by omega), hk (b + 1 + 2) (by omega) (by omega), hk (b + 1 + 3) (by omega) (by omega), hk (b + 1 + 4) (by omega) (by omega), hk (b + 7) (by omega) (by omega), hk (b + 8) (by omega) (by omega), hk (b + 9) (by omega) (by omega)]
      rw [out 24 (by omega) (by omega), out 25 (by omega) (by omega), out 26 (by omega) (by omega), out 45 (by omega) (by omega), out 95 (by omega) (by omega), out 96 (by omega) (by omega), e46]
      refine ⟨⟨h0, h1, h2, h3, fun x x0 x1 => by rw [out x (by omega) (by omega)]; exact hh x x0 x1, fun i i0 i1 => ?_⟩, ⟨?_, ?_, ?_, ?_⟩, fun q hq => ?_, fun i i0 i1 => ?_⟩
      · rw [out _ (by omega) (by omega), out _ (by omega) (by omega), out _ (by omega) (by omega)]; exact hw i i0 i1
      · rw [mset_same, fset_same]
      · rw [mset_same, fset_ne (by decide), mcell_ne (by omega)]; exact a3
      · rw [mset_same, fset_ne (by decide), mcell_ne (by omega)]; exact a4
      · rw [mset_same, fset_ne (by decide), mcell_ne (by omega)]; exact a5
      · by_cases eq : q = p
        · subst eq
          rw [mset_ne (by omega), mcell_same]
          unfold SpR
          have f6 : addF f s w (47 + 8 * (q : Int) + 6) = 0 := by unfold addF; rw [hp, if_neg (by omega), if_neg (by omega), if_neg (by omega), if_neg (by omega), if_pos (by omega)]
          rw [f6]
          refine ⟨?_, ?_, ?_, ?_, ?_, ?_, ?_⟩
          · unfold addF; rw [hp, if_neg (by omega), if_pos (by omega)]; rfl
          · unfold addF; rw [hp, if_neg (by omega), if_neg (by omega), if_pos (by omega)]; rfl
          · unfold addF; rw [hp, if_neg (by omega), if_neg (by omega), if_neg (by omega), if_pos (by omega)]; rfl
          · unfold addF; rw [hp, if_neg (by omega), if_neg (by omega), if_neg (by omega), if_neg (by omega), if_pos (by omega)]; rfl
          · unfold addF; rw [hp, if_neg (by omega), if_neg (by omega), if_neg (by omega), if_neg (by omega), if_pos (by omega)]; rfl
          · unfold addF; rw [hp, if_neg (by omega), if_neg (by omega), if_neg (by omega), if_neg (by omega), if_pos (by omega)]; rfl
          · unfold addF; rw [hp, if_neg (by omega), if_neg (by omega), if_neg (by omega), if_pos (by omega)]; rfl
        · rw [mset_ne (by omega), mcell_ne (by omega)]
          exact (hs q (by omega)).ext (wf.fl (by omega)) (fun j j0 j1 => out j (by omega) (by omega))
      · rw [out _ (by omega) (by omega), out _ (by omega) (by omega), out _ (by omega) (by omega)]; exact hfe i i0 i1
    refine aw_aload_n dX0_bring_11 rfl rfl ?_
    refine aw_getR dX0_bring_12 rfl fl_X0_20 (by first | assumption | rfl) (by rfl) ?_
    refine aw_aload_n dX0_bring_15 rfl rfl ?_
    refine aw_getI (kI := 2) dX0_bring_16 rfl fl_X0_38 (by first | assumption | rfl) (by rfl) rfl ?_
    rw [a2, hp]
    refine aw_aaload dX0_bring_19 rfl (by first | assumption | rfl) six_len (by omega) (six_getN (by omega)) ?_
    refine aw_iload_n dX0_bring_20 rfl rfl ?_
    refine aw_iload_n dX0_bring_21 rfl rfl ?_
    refine aw_callV [_, _] _ dX0_bring_22 rfl clv_X0_64 (by decide) ⟨Nat.zero_le _, Nat.zero_le _⟩ (by first | assumption | rfl) (by rfl) (Nat.le_of_ble_eq_true rfl) rfl ?_
    refine sC_becomeRaw gp ?_
    refine aw_aload_n dX0_bring_25 rfl rfl ?_
    refine aw_dup dX0_bring_26 rfl rfl ?_
    refine aw_getI (kI := 2) dX0_bring_27 rfl fl_X0_38 (by first | assumption | rfl) (by rfl) rfl ?_
    rw [mcell_ne (by omega), a2, hp]
    refine aw_iconst dX0_bring_30 rfl ?_
    refine aw_iadd dX0_bring_31 rfl ?_
    refine aw_putI (kI := 2) dX0_bring_32 rfl fp_X0_38 (by first | assumption | rfl) (by rfl) rfl ?_
    refine aw_iconst dX0_bring_35 rfl ?_
    refine aw_ireturn (ty := .boolean) dX0_bring_36 rfl (znarZ (by omega)).1 ?_
    exact fin
  refine AMet.of' 0 (ls := [some (vR (b)), some (vI (s)), some (vI (w))]) (by decide) rfl (Nat.le_of_ble_eq_true rfl) ?_
  refine aw_aload_n dX0_bring_0 rfl rfl ?_
  refine aw_getI (kI := 2) dX0_bring_1 rfl fl_X0_38 (by first | assumption | rfl) (by rfl) rfl ?_
  rw [a2]
  refine aw_bipush dX0_bring_4 rfl (by decide) ?_
  refine aw_icmp_lt (tgt := 11) dX0_bring_6 (by decide) rfl (by omega) (by omega) (fun c6 => ?_) (fun c6 => ?_)
  · exact s11 (by omega)
  · refine aw_iconst dX0_bring_9 rfl ?_
    refine aw_ireturn (ty := .boolean) dX0_bring_10 rfl (znarZ (by omega)).1 ?_
    exact k0 (by omega)
theorem sC_appeal {c : Nat} {p : Int} (hG : SpG zG c) (hn : 3 ≤ n ∧ n ≤ 8) (hR : SpR (mem c) f p) (w : SpW n f p) (k : Q (some (vI (aplF f p))) mem) : AMet Γ mX7_appeal [vR c] zG mem Q := by
  have hG' := hG
  unfold SpG at hG
  have hc := hR.c hn w
  have r0 := hR.1
  have r3 := hR.2.2.2.1
  unfold aplF at k
  refine AMet.of' 0 (ls := [some (vR (c))]) (by decide) rfl (Nat.le_of_ble_eq_true rfl) ?_
  refine aw_aload_n dX7_appeal_0 rfl rfl ?_
  refine aw_callV [] _ dX7_appeal_1 rfl clv_X7_56 (by decide) ⟨Nat.zero_le _, Nat.zero_le _⟩ (by first | assumption | rfl) (by rfl) (Nat.le_of_ble_eq_true rfl) rfl ?_
  refine sC_isGood hG' hc (fun c1 => ?_) (fun c1 => ?_)
  · refine aw_if_eq (tgt := 16) dX7_appeal_4 (by decide) rfl (by omega) (fun c => absurd c (by decide)) (fun _ => ?_)
    refine aw_sipush dX7_appeal_7 rfl (by decide) ?_
    refine aw_aload_n dX7_appeal_10 rfl rfl ?_
    refine aw_getI (kI := 0) dX7_appeal_11 rfl fl_X7_9 (by first | assumption | rfl) (by rfl) rfl ?_
    refine aw_iadd dX7_appeal_14 rfl ?_
    refine aw_ireturn (ty := .int) dX7_appeal_15 rfl rfl ?_
    rw [if_pos ((hR.gd w).mp c1)] at k; rw [r0]; exact k
  · refine aw_if_eq (tgt := 16) dX7_appeal_4 (by decide) rfl (by omega) (fun _ => ?_) (fun c => absurd c (by decide))
    refine aw_aload_n dX7_appeal_16 rfl rfl ?_
    refine aw_callV [] _ dX7_appeal_17 rfl clv_X7_53 (by decide) ⟨Nat.zero_le _, Nat.zero_le _⟩ (by first | assumption | rfl) (by rfl) (Nat.le_of_ble_eq_true rfl) rfl ?_
    refine sC_isBlack hG' hc (fun c17 => ?_) (fun c17 => ?_)
    · refine aw_if_eq (tgt := 27) dX7_appeal_20 (by decide) rfl (by omega) (fun c => absurd c (by decide)) (fun _ => ?_)
      refine aw_iconst dX7_appeal_23 rfl ?_
      refine aw_goto (tgt := 34) dX7_appeal_24 (by decide) ?_
      refine aw_ireturn (ty := .int) dX7_appeal_34 rfl rfl ?_
      first | (rw [if_neg (fun z => c1 ((hR.gd w).mpr z)), if_pos ((hR.bl w).mp c17)] at k; exact k) | (rw [if_neg (fun z => c1 ((hR.gd w).mpr z)), if_neg (fun z => c17 ((hR.bl w).mpr z))] at k; rw [r3]; exact k)
    · refine aw_if_eq (tgt := 27) dX7_appeal_20 (by decide) rfl (by omega) (fun _ => ?_) (fun c => absurd c (by decide))
      refine aw_bipush dX7_appeal_27 rfl (by decide) ?_
      refine aw_aload_n dX7_appeal_29 rfl rfl ?_
      refine aw_getI (kI := 3) dX7_appeal_30 rfl fl_X7_21 (by first | assumption | rfl) (by rfl) rfl ?_
      refine aw_iadd dX7_appeal_33 rfl ?_
      refine aw_ireturn (ty := .int) dX7_appeal_34 rfl rfl ?_
      first | (rw [if_neg (fun z => c1 ((hR.gd w).mpr z)), if_pos ((hR.bl w).mp c17)] at k; exact k) | (rw [if_neg (fun z => c1 ((hR.gd w).mpr z)), if_neg (fun z => c17 ((hR.bl w).mpr z))] at k; rw [r3]; exact k)
end ZCmp5
