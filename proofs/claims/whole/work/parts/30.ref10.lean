noncomputable def soB (n : Int) (f : Int → Int) (fall rim : Int) : Bool := @decide (soP n f fall rim) (Classical.propDecidable _)
theorem soB_iff {n : Int} {f : Int → Int} {fall rim : Int} : soB n f fall rim = true ↔ soP n f fall rim := by
  unfold soB
  exact @decide_eq_true_iff _ (Classical.propDecidable _)
/-- how many of the first c pairs fit, the least, the greatest -/
noncomputable def fitAt (n : Int) (f : Int → Int) : Nat → Int × Int × Int
  | 0 => (0, -4, -4)
  | c + 1 => if soB n f ((c : Int) / 10) ((c : Int) % 10) = true then ((fitAt n f c).1 + 1, (if (fitAt n f c).1 = 0 then (c : Int) else (fitAt n f c).2.1), (c : Int)) else fitAt n f c
noncomputable def fitsM (n : Int) (f : Int → Int) (w : Int) : Int := if 0 ≤ w ∧ w ≤ 2 then (if w = 0 then (fitAt n f 100).1 else if w = 1 then (fitAt n f 100).2.1 else (fitAt n f 100).2.2) else -1
theorem fitAt_rng (n : Int) (f : Int → Int) : ∀ c : Nat, 0 ≤ (fitAt n f c).1 ∧ (fitAt n f c).1 ≤ c := by
  intro c
  induction c with
  | zero => show (0 : Int) ≤ 0 ∧ (0 : Int) ≤ 0; omega
  | succ c ih =>
    rw [fitAt]
    push_cast
    split
    · dsimp only; omega
    · omega
/-- how likely potato p lies in x, by halves -/
def weightF (f : Int → Int) (p x : Int) : Int := if f (47 + 8 * p + 7) = -4 ∨ zand (zshr (f 95) x) 1 = 1 then 0 else if x / 3 - f (47 + 8 * p + 7) = 0 then 2 else if x / 3 - f (47 + 8 * p + 7) = 1 ∨ x / 3 - f (47 + 8 * p + 7) = -1 then 1 else 0
def allTo (f : Int → Int) (p : Int) : Nat → Int
  | 0 => 0
  | x + 1 => allTo f p x + weightF f p x
theorem weightF_rng (f : Int → Int) (p x : Int) : 0 ≤ weightF f p x ∧ weightF f p x ≤ 2 := by
  unfold weightF
  (repeat' split) <;> omega
theorem allTo_rng (f : Int → Int) (p : Int) : ∀ x : Nat, 0 ≤ allTo f p x ∧ allTo f p x ≤ 2 * x := by
  intro x
  induction x with
  | zero => exact ⟨Int.le_refl _, Int.le_refl _⟩
  | succ x ih =>
    have := weightF_rng f p x
    rw [allTo]
    push_cast
    omega
theorem zand_rng (a b : Int) : -2147483648 ≤ zand a b ∧ zand a b ≤ 2147483647 := by
  unfold zand
  have h1 := Int32.le_toInt (Int32.ofInt a &&& Int32.ofInt b)
  have h2 := Int32.toInt_lt (Int32.ofInt a &&& Int32.ofInt b)
  omega
section ZRef10
variable {Γ : ZG} {mem : Mem} {Q : Option AV → Mem → Prop}
theorem sR_fits {n w : Int} (h : Wf n (mem 110)) (hm : mem 109 3 = n) (hw : -2147483648 ≤ w ∧ w ≤ 2147483647) (k : ∀ g, Q (some (vI (fitsM n (mem 110) w))) (mcell mem 111 g)) : AMet Γ mX11_fits [vR 109, vI w] zG mem Q := by
  have loop : ∀ (d c : Nat) (g : Int → Int), c + d = 100 → 0 ≤ w ∧ w ≤ 2 → AW Γ mX11_fits (zF Γ zG Q) zG 0 0 26 [some (vR 109), some (vI w), some (vI (fitAt n (mem 110) c).1), some (vI (fitAt n (mem 110) c).2.1), some (vI (fitAt n (mem 110) c).2.2), some (vI c)] [] (mcell mem 111 g) := by
    intro d
    induction d with
    | zero =>
      intro c g hc hok
      obtain rfl : c = 100 := by omega
      refine aw_iload dX11_fits_26 rfl rfl ?_
      refine aw_bipush dX11_fits_28 rfl (by decide) ?_
      refine aw_icmp_ge (tgt := 74) dX11_fits_30 (by decide) rfl (by omega) (by omega) (fun c30 => ?_) (fun c30 => ?_)
      · refine aw_iload_n dX11_fits_74 rfl rfl ?_
        refine aw_if_ne (tgt := 82) dX11_fits_75 (by decide) rfl (by omega) (fun c75 => ?_) (fun c75 => ?_)
        · refine aw_iload_n dX11_fits_82 rfl rfl ?_
          refine aw_iconst dX11_fits_83 rfl ?_
          refine aw_icmp_ne (tgt := 91) dX11_fits_84 (by decide) rfl (by omega) (by omega) (fun c84 => ?_) (fun c84 => ?_)
          · refine aw_iload dX11_fits_91 rfl rfl ?_
            refine aw_ireturn (ty := .int) dX11_fits_93 rfl rfl ?_
            first | exact q_eq (k _) (by unfold fitsM; rw [if_pos hok, if_pos c75]) rfl | exact q_eq (k _) (by unfold fitsM; rw [if_pos hok, if_neg c75, if_pos c84]) rfl | exact q_eq (k _) (by unfold fitsM; rw [if_pos hok, if_neg c75, if_neg c84]) rfl
          · refine aw_iload_n dX11_fits_87 rfl rfl ?_
            refine aw_goto (tgt := 93) dX11_fits_88 (by decide) ?_
            refine aw_ireturn (ty := .int) dX11_fits_93 rfl rfl ?_
            first | exact q_eq (k _) (by unfold fitsM; rw [if_pos hok, if_pos c75]) rfl | exact q_eq (k _) (by unfold fitsM; rw [if_pos hok, if_neg c75, if_pos c84]) rfl | exact q_eq (k _) (by unfold fitsM; rw [if_pos hok, if_neg c75, if_neg c84]) rfl
        · refine aw_iload_n dX11_fits_78 rfl rfl ?_
          refine aw_goto (tgt := 93) dX11_fits_79 (by decide) ?_
          refine aw_ireturn (ty := .int) dX11_fits_93 rfl rfl ?_
          first | exact q_eq (k _) (by unfold fitsM; rw [if_pos hok, if_pos c75]) rfl | exact q_eq (k _) (by unfold fitsM; rw [if_pos hok, if_neg c75, if_pos c84]) rfl | exact q_eq (k _) (by unfold fitsM; rw [if_pos hok, if_neg c75, if_neg c84]) rfl
      · exfalso; omega
    | succ d ih =>
      intro c g hc hok
      have r1 := fitAt_rng n (mem 110) c
      have ih2 := fun g => ih (c + 1) g (by omega) hok
      rw [fitAt] at ih2
      have yes : soP n (mem 110) ((c : Int) / 10) ((c : Int) % 10) → ∀ (le : Int) (g : Int → Int), le = (if (fitAt n (mem 110) c).1 = 0 then (c : Int) else (fitAt n (mem 110) c).2.1) → AW Γ mX11_fits (zF Γ zG Q) zG 0 0 61 [some (vR 109), some (vI w), some (vI (fitAt n (mem 110) c).1), some (vI le), some (vI (fitAt n (mem 110) c).2.2), some (vI c)] [] (mcell mem 111 g) := by
        intro hs le g2 hle
        rw [if_pos (soB_iff.mpr hs), ← hle] at ih2
        refine aw_iload dX11_fits_61 rfl rfl ?_
        refine aw_istore4 rfl dX11_fits_63 rfl (by decide) ?_
        refine aw_iinc2 rfl dX11_fits_65 rfl (by decide) ?_
        refine aw_iinc5 rfl dX11_fits_68 rfl (by decide) ?_
        refine aw_goto (tgt := 26) dX11_fits_71 (by decide) ?_
        exact ih2 g2
      refine aw_iload dX11_fits_26 rfl rfl ?_
      refine aw_bipush dX11_fits_28 rfl (by decide) ?_
      refine aw_icmp_ge (tgt := 74) dX11_fits_30 (by decide) rfl (by omega) (by omega) (fun c30 => ?_) (fun c30 => ?_)
      · exfalso; omega
      · refine aw_aload_n dX11_fits_33 rfl rfl ?_
        refine aw_iload dX11_fits_34 rfl rfl ?_
        refine aw_bipush dX11_fits_36 rfl (by decide) ?_
        refine aw_idiv dX11_fits_38 rfl (by omega) (by omega) ?_
        refine aw_iload dX11_fits_39 rfl rfl ?_
        refine aw_bipush dX11_fits_41 rfl (by decide) ?_
        refine aw_irem dX11_fits_43 rfl (by omega) (by omega) ?_
        refine aw_callV [_, _] _ dX11_fits_44 rfl clv_X11_259 (by decide) ⟨Nat.zero_le _, Nat.zero_le _⟩ g109 (by rfl) (Nat.le_of_ble_eq_true rfl) rfl ?_
        refine sR_isSo (n := n) h hm (by omega) (by omega) (fun c44 y44 => ?_) (fun c44 y44 => ?_)
        · rw [mcell_mcell]
          have hc44 := c44
          rw [show mcell mem 111 g 110 = mem 110 from rfl] at hc44
          refine aw_if_eq (tgt := 68) dX11_fits_47 (by decide) rfl (by omega) (fun c => absurd c (by decide)) (fun _ => ?_)
          refine aw_iload_n dX11_fits_50 rfl rfl ?_
          refine aw_if_ne (tgt := 59) dX11_fits_51 (by decide) rfl (by omega) (fun c51 => ?_) (fun c51 => ?_)
          · refine aw_iload_n dX11_fits_59 rfl rfl ?_
            refine aw_istore3 rfl dX11_fits_60 rfl (by decide) ?_
            exact yes hc44 _ _ (by (repeat' split) <;> omega)
          · refine aw_iload dX11_fits_54 rfl rfl ?_
            refine aw_goto (tgt := 60) dX11_fits_56 (by decide) ?_
            refine aw_istore3 rfl dX11_fits_60 rfl (by decide) ?_
            exact yes hc44 _ _ (by (repeat' split) <;> omega)
        · rw [mcell_mcell]
          have hc44 := c44
          rw [show mcell mem 111 g 110 = mem 110 from rfl] at hc44
          refine aw_if_eq (tgt := 68) dX11_fits_47 (by decide) rfl (by omega) (fun _ => ?_) (fun c => absurd c (by decide))
          refine aw_iinc5 rfl dX11_fits_68 rfl (by decide) ?_
          refine aw_goto (tgt := 26) dX11_fits_71 (by decide) ?_
          rw [if_neg (fun z => hc44 (soB_iff.mp z))] at ih2
          exact ih2 _
  refine AMet.of' 4 (ls := [some (vR (109)), some (vI (w)), none, none, none, none]) (by decide) rfl (Nat.le_of_ble_eq_true rfl) ?_
  refine aw_iload_n dX11_fits_0 rfl rfl ?_
  refine aw_i2l dX11_fits_1 rfl (by omega) ?_
  refine aw_lconst (a := 0) dX11_fits_2 rfl (by decide) ?_
  refine aw_ldc2 (a := 2) dX11_fits_3 rfl lc_X11_215 (by decide) ?_
  refine aw_callS [_, _, _] _ dX11_fits_6 rfl cls_X11_78 (by decide) ⟨Nat.zero_le _, Nat.zero_le _⟩ (Nat.le_of_ble_eq_true rfl) rfl ?_
  refine sR_in (by omega) (by omega) (by omega) (fun c6 => ?_) (fun c6 => ?_)
  · refine aw_if_ne (tgt := 14) dX11_fits_9 (by decide) rfl (by omega) (fun _ => ?_) (fun c => absurd c (by decide))
    refine aw_iconst dX11_fits_14 rfl ?_
    refine aw_istore2 rfl dX11_fits_15 rfl (by decide) ?_
    refine aw_bipush dX11_fits_16 rfl (by decide) ?_
    refine aw_istore3 rfl dX11_fits_18 rfl (by decide) ?_
    refine aw_bipush dX11_fits_19 rfl (by decide) ?_
    refine aw_istore4 rfl dX11_fits_21 rfl (by decide) ?_
    refine aw_iconst dX11_fits_23 rfl ?_
    refine aw_istore5 rfl dX11_fits_24 rfl (by decide) ?_
    have l0 := loop 100 0 (mem 111) (by omega) (by omega)
    rw [mcell_self] at l0
    exact l0
  · refine aw_if_ne (tgt := 14) dX11_fits_9 (by decide) rfl (by omega) (fun c => absurd c (by decide)) (fun _ => ?_)
    refine aw_iconst dX11_fits_12 rfl ?_
    refine aw_ireturn (ty := .int) dX11_fits_13 rfl rfl ?_
    exact q_eq (k (mem 111)) (by unfold fitsM; rw [if_neg (by omega)]) mcell_self
theorem sR_weightOf {p x : Int} (hp : 0 ≤ p ∧ p < 6) (hx : 0 ≤ x ∧ x < 24) (hc : -4 ≤ mem 110 (47 + 8 * p + 7) ∧ mem 110 (47 + 8 * p + 7) ≤ 8) (k : Q (some (vI (weightF (mem 110) p x))) mem) : AMet Γ mX11_weightOf [vR 109, vI p, vI x] zG mem Q := by
  refine AMet.of' 2 (ls := [some (vR (109)), some (vI (p)), some (vI (x)), none, none]) (by decide) rfl (Nat.le_of_ble_eq_true rfl) ?_
  refine aw_aload_n dX11_weightOf_0 rfl rfl ?_
  refine aw_getR dX11_weightOf_1 rfl fl_X11_7 g109 (by rfl) ?_
  refine aw_bipush dX11_weightOf_4 rfl (by decide) ?_
  refine aw_bipush dX11_weightOf_6 rfl (by decide) ?_
  refine aw_iload_n dX11_weightOf_8 rfl rfl ?_
  refine aw_imul dX11_weightOf_9 rfl ?_
  refine aw_iadd dX11_weightOf_10 rfl ?_
  refine aw_bipush dX11_weightOf_11 rfl (by decide) ?_
  refine aw_iadd dX11_weightOf_13 rfl ?_
  refine aw_iaload dX11_weightOf_14 rfl g110 (by decide) (by omega) ?_
  refine aw_istore3 rfl dX11_weightOf_15 rfl (by decide) ?_
  refine aw_iload_n dX11_weightOf_16 rfl rfl ?_
  refine aw_bipush dX11_weightOf_17 rfl (by decide) ?_
  refine aw_icmp_eq (tgt := 37) dX11_weightOf_19 (by decide) rfl (by omega) (by omega) (fun c19 => ?_) (fun c19 => ?_)
  · refine aw_iconst dX11_weightOf_37 rfl ?_
    refine aw_ireturn (ty := .int) dX11_weightOf_38 rfl rfl ?_
    exact q_eq k (by unfold weightF; rw [if_pos (by first | exact Or.inl c19 | exact Or.inr c34)]) rfl
  · refine aw_aload_n dX11_weightOf_22 rfl rfl ?_
    refine aw_getR dX11_weightOf_23 rfl fl_X11_7 g109 (by rfl) ?_
    refine aw_bipush dX11_weightOf_26 rfl (by decide) ?_
    refine aw_iaload dX11_weightOf_28 rfl g110 (by decide) (by omega) ?_
    refine aw_iload_n dX11_weightOf_29 rfl rfl ?_
    refine aw_ishr dX11_weightOf_30 rfl ?_
    refine aw_iconst dX11_weightOf_31 rfl ?_
    refine aw_iand dX11_weightOf_32 rfl ?_
    refine aw_iconst dX11_weightOf_33 rfl ?_
    refine aw_icmp_ne (tgt := 39) dX11_weightOf_34 (by decide) rfl (by first | omega | exact zand_rng _ _) (by first | omega | exact zand_rng _ _) (fun c34 => ?_) (fun c34 => ?_)
    · refine aw_iload_n dX11_weightOf_39 rfl rfl ?_
      refine aw_iconst dX11_weightOf_40 rfl ?_
      refine aw_idiv dX11_weightOf_41 rfl (by omega) (by omega) ?_
      refine aw_iload_n dX11_weightOf_42 rfl rfl ?_
      refine aw_isub dX11_weightOf_43 rfl ?_
      refine aw_istore4 rfl dX11_weightOf_44 rfl (by decide) ?_
      refine aw_iload dX11_weightOf_46 rfl rfl ?_
      refine aw_if_ne (tgt := 55) dX11_weightOf_48 (by decide) rfl (by omega) (fun c48 => ?_) (fun c48 => ?_)
      · refine aw_iload dX11_weightOf_55 rfl rfl ?_
        refine aw_iconst dX11_weightOf_57 rfl ?_
        refine aw_icmp_eq (tgt := 67) dX11_weightOf_58 (by decide) rfl (by omega) (by omega) (fun c58 => ?_) (fun c58 => ?_)
        · refine aw_iconst dX11_weightOf_67 rfl ?_
          refine aw_goto (tgt := 72) dX11_weightOf_68 (by decide) ?_
          refine aw_ireturn (ty := .int) dX11_weightOf_72 rfl rfl ?_
          refine q_eq k ?_ rfl
          unfold weightF
          rw [if_neg (by intro z; rcases z with z | z; exact c19 z; exact c34 z)]
          congr 2
          (repeat' split) <;> omega
        · refine aw_iload dX11_weightOf_61 rfl rfl ?_
          refine aw_iconst dX11_weightOf_63 rfl ?_
          refine aw_icmp_ne (tgt := 71) dX11_weightOf_64 (by decide) rfl (by omega) (by omega) (fun c64 => ?_) (fun c64 => ?_)
          · refine aw_iconst dX11_weightOf_71 rfl ?_
            refine aw_ireturn (ty := .int) dX11_weightOf_72 rfl rfl ?_
            refine q_eq k ?_ rfl
            unfold weightF
            rw [if_neg (by intro z; rcases z with z | z; exact c19 z; exact c34 z)]
            congr 2
            (repeat' split) <;> omega
          · refine aw_iconst dX11_weightOf_67 rfl ?_
            refine aw_goto (tgt := 72) dX11_weightOf_68 (by decide) ?_
            refine aw_ireturn (ty := .int) dX11_weightOf_72 rfl rfl ?_
            refine q_eq k ?_ rfl
            unfold weightF
            rw [if_neg (by intro z; rcases z with z | z; exact c19 z; exact c34 z)]
            congr 2
            (repeat' split) <;> omega
      · refine aw_iconst dX11_weightOf_51 rfl ?_
        refine aw_goto (tgt := 72) dX11_weightOf_52 (by decide) ?_
        refine aw_ireturn (ty := .int) dX11_weightOf_72 rfl rfl ?_
        refine q_eq k ?_ rfl
        unfold weightF
        rw [if_neg (by intro z; rcases z with z | z; exact c19 z; exact c34 z)]
        congr 2
        (repeat' split) <;> omega
    · refine aw_iconst dX11_weightOf_37 rfl ?_
      refine aw_ireturn (ty := .int) dX11_weightOf_38 rfl rfl ?_
      exact q_eq k (by unfold weightF; rw [if_pos (by first | exact Or.inl c19 | exact Or.inr c34)]) rfl
theorem sR_allOf {n p : Int} (hn : 3 ≤ n ∧ n ≤ 8) (hm : mem 109 3 = n) (hp : 0 ≤ p ∧ p < 6) (hc : -4 ≤ mem 110 (47 + 8 * p + 7) ∧ mem 110 (47 + 8 * p + 7) ≤ 8) (k : Q (some (vI (allTo (mem 110) p (3 * n).toNat))) mem) : AMet Γ mX11_allOf [vR 109, vI p] zG mem Q := by
  have loop : ∀ (d x : Nat), (x : Int) + d = 3 * n → AW Γ mX11_allOf (zF Γ zG Q) zG 0 0 4 [some (vR 109), some (vI p), some (vI (allTo (mem 110) p x)), some (vI x)] [] mem := by
    intro d
    induction d with
    | zero =>
      intro x hx
      refine aw_iload_n dX11_allOf_4 rfl rfl ?_
      refine aw_iconst dX11_allOf_5 rfl ?_
      refine aw_aload_n dX11_allOf_6 rfl rfl ?_
      refine aw_getI (kI := 3) dX11_allOf_7 rfl fl_X11_73 g109 (by rfl) rfl ?_
      refine aw_imul dX11_allOf_10 rfl ?_
      refine aw_icmp_ge (tgt := 29) dX11_allOf_11 (by decide) rfl (by omega) (by omega) (fun c11 => ?_) (fun c11 => ?_)
      · refine aw_iload_n dX11_allOf_29 rfl rfl ?_
        refine aw_ireturn (ty := .int) dX11_allOf_30 rfl rfl ?_
        exact q_eq k (by rw [show (3 * n).toNat = x by omega]) rfl
      · exfalso; omega
    | succ d ih =>
      intro x hx
      have ih2 := ih (x + 1) (by push_cast; omega)
      refine aw_iload_n dX11_allOf_4 rfl rfl ?_
      refine aw_iconst dX11_allOf_5 rfl ?_
      refine aw_aload_n dX11_allOf_6 rfl rfl ?_
      refine aw_getI (kI := 3) dX11_allOf_7 rfl fl_X11_73 g109 (by rfl) rfl ?_
      refine aw_imul dX11_allOf_10 rfl ?_
      refine aw_icmp_ge (tgt := 29) dX11_allOf_11 (by decide) rfl (by omega) (by omega) (fun c11 => ?_) (fun c11 => ?_)
      · exfalso; omega
      · refine aw_iload_n dX11_allOf_14 rfl rfl ?_
        refine aw_aload_n dX11_allOf_15 rfl rfl ?_
        refine aw_iload_n dX11_allOf_16 rfl rfl ?_
        refine aw_iload_n dX11_allOf_17 rfl rfl ?_
        refine aw_callV [_, _] _ dX11_allOf_18 rfl clv_X11_263 (by decide) ⟨Nat.zero_le _, Nat.zero_le _⟩ g109 (by rfl) (Nat.le_of_ble_eq_true rfl) rfl ?_
        refine sR_weightOf hp (by omega) hc ?_
        refine aw_iadd dX11_allOf_21 rfl ?_
        refine aw_istore2 rfl dX11_allOf_22 rfl (by decide) ?_
        refine aw_iinc3 rfl dX11_allOf_23 rfl (by decide) ?_
        refine aw_goto (tgt := 4) dX11_allOf_26 (by decide) ?_
        exact ih2
  refine AMet.of' 2 (ls := [some (vR (109)), some (vI (p)), none, none]) (by decide) rfl (Nat.le_of_ble_eq_true rfl) ?_
  refine aw_iconst dX11_allOf_0 rfl ?_
  refine aw_istore2 rfl dX11_allOf_1 rfl (by decide) ?_
  refine aw_iconst dX11_allOf_2 rfl ?_
  refine aw_istore3 rfl dX11_allOf_3 rfl (by decide) ?_
  exact loop (3 * n).toNat 0 (by omega)
end ZRef10
