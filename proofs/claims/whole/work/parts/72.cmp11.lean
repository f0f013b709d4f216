theorem addF_Wf {n s w : Int} {f : Int → Int} (h : Wf n f) (h6 : ¬ f 46 = 6) (hs : 1 ≤ s ∧ s ≤ 9) (hw : 0 ≤ w ∧ w ≤ 2) : Wf n (addF f s w) := by
  obtain ⟨hn, hH, h24, h25, h26, hww, h46, hss, h95, h96, hf⟩ := h
  have out : ∀ j : Int, ¬ j = 46 → j < 47 + 8 * f 46 ∨ 47 + 8 * f 46 + 8 ≤ j → addF f s w j = f j := by
    intro j j1 j2
    unfold addF
    rw [if_neg j1, if_neg (by omega), if_neg (by omega), if_neg (by omega), if_neg (by omega)]
  have e46 := addF_46 (f := f) (s := s) (w := w)
  refine ⟨hn, fun x a b => ?_, ?_, ?_, ?_, fun i a b => ?_, by omega, fun q a b => ?_, ?_, ?_, fun i a b => ?_⟩
  · rw [out x (by omega) (by omega)]; exact hH x a b
  · rw [out 24 (by omega) (by omega)]; exact h24
  · rw [out 25 (by omega) (by omega)]; exact h25
  · rw [out 26 (by omega) (by omega)]; exact h26
  · rw [out 26 (by omega) (by omega)] at b
    unfold WdW
    rw [out _ (by omega) (by omega), out _ (by omega) (by omega), out _ (by omega) (by omega)]
    exact hww i a b
  · by_cases e : q = f 46
    · subst e
      have a0 : addF f s w (47 + 8 * f 46 + 0) = s := by unfold addF; rw [if_neg (by omega), if_pos (by omega)]
      have a1 : addF f s w (47 + 8 * f 46 + 1) = w := by unfold addF; rw [if_neg (by omega), if_neg (by omega), if_pos (by omega)]
      have a2 : addF f s w (47 + 8 * f 46 + 2) = -4 := by unfold addF; rw [if_neg (by omega), if_neg (by omega), if_neg (by omega), if_pos (by omega)]
      have a3 : addF f s w (47 + 8 * f 46 + 3) = 0 := by unfold addF; rw [if_neg (by omega), if_neg (by omega), if_neg (by omega), if_neg (by omega), if_pos (by omega)]
      have a4 : addF f s w (47 + 8 * f 46 + 4) = 0 := by unfold addF; rw [if_neg (by omega), if_neg (by omega), if_neg (by omega), if_neg (by omega), if_pos (by omega)]
      have a5 : addF f s w (47 + 8 * f 46 + 5) = 0 := by unfold addF; rw [if_neg (by omega), if_neg (by omega), if_neg (by omega), if_neg (by omega), if_pos (by omega)]
      have a6 : addF f s w (47 + 8 * f 46 + 6) = 0 := by unfold addF; rw [if_neg (by omega), if_neg (by omega), if_neg (by omega), if_neg (by omega), if_pos (by omega)]
      have a7 : addF f s w (47 + 8 * f 46 + 7) = -4 := by unfold addF; rw [if_neg (by omega), if_neg (by omega), if_neg (by omega), if_pos (by omega)]
      exact ⟨by omega, by omega, by omega, by omega, by omega, by omega, by omega, by omega⟩
    · unfold SpW
      rw [out _ (by omega) (by omega), out _ (by omega) (by omega), out _ (by omega) (by omega), out _ (by omega) (by omega), out _ (by omega) (by omega), out _ (by omega) (by omega), out _ (by omega) (by omega), out _ (by omega) (by omega)]
      exact hss q a (by omega)
  · rw [out 95 (by omega) (by omega)]; exact h95
  · rw [out 96 (by omega) (by omega)]; exact h96
  · rw [out 96 (by omega) (by omega)] at b
    unfold FeW
    rw [out _ (by omega) (by omega), out _ (by omega) (by omega), out _ (by omega) (by omega)]
    exact hf i a b
theorem addM_Wf {n s w : Int} {f : Int → Int} (h : Wf n f) : Wf n (addM f s w).2 := by
  unfold addM
  split
  · next hz =>
    split
    · exact h
    · next h6 => exact addF_Wf h h6 hz.1 hz.2
  · exact h
theorem addM_lt {f : Int → Int} {s w : Int} (h46 : 0 ≤ f 46) : ((addM f s w).1 < 0 → (addM f s w).2 = f) ∧ (¬ (addM f s w).1 < 0 → (addM f s w).2 46 = f 46 + 1) := by
  unfold addM
  split
  · split
    · exact ⟨fun _ => rfl, fun z => absurd (show (-3 : Int) < 0 by decide) z⟩
    · refine ⟨fun z => ?_, fun _ => addF_46 (f := f) (s := s) (w := w)⟩
      have : f 46 + 1 < 0 := z
      omega
  · exact ⟨fun _ => rfl, fun z => absurd (show (-1 : Int) < 0 by decide) z⟩
section ZCmp11
variable {Γ : ZG} {mem : Mem} {Q : Option AV → Mem → Prop} {n : Int} {f : Int → Int}
theorem Sh.fr {m m' : Mem} {c : Nat} {lk sz : Int} {cl : Int → Int} (h : Sh m c lk sz cl) (h0 : m' c = m c) (h1 : m' (c + 1) = m (c + 1)) : Sh m' c lk sz cl := by
  unfold Sh
  rw [h0, h1]
  exact h
theorem sC_read {j l f0 z : Int} {lk sz : Int → Int} {cl : Int → Int → Int} (wf : Wf n f) (h : Ev mem 1 n f) (hs : ∀ x : Nat, x < 4 → Sh mem (96 + 2 * x) (lk x) (sz x) (cl x)) (hcl : ∀ x : Nat, x < 4 → ∀ i : Int, 0 ≤ i → i < 40 → -2147483648 ≤ cl x i ∧ cl x i ≤ 2147483647) (hsz : ∀ x : Nat, x < 4 → ¬ lk x = -4 → 0 ≤ sz x ∧ sz x ≤ 40) (hj : -2147483648 ≤ j ∧ j ≤ 2147483647) (hl : -2147483648 ≤ l ∧ l ≤ 2147483647) (hf : -2147483648 ≤ f0 ∧ f0 ≤ 2147483647) (hz : -2147483648 ≤ z ∧ z ≤ 2147483647)
    (kb : ¬ (((0 ≤ j ∧ j ≤ 3) ∧ (0 ≤ l ∧ l ≤ 2)) ∧ (0 ≤ z ∧ z ≤ 13)) → Q (some (vI (-1))) mem)
    (k : ((0 ≤ j ∧ j ≤ 3) ∧ (0 ≤ l ∧ l ≤ 2)) ∧ (0 ≤ z ∧ z ≤ 13) → ∀ (r : Int) (t : Option Int) (g : Int → Int), readGo l (lk j) (sz j) (cl j) f0 (f 46) z.toNat 0 f = (r, t, g) → ∀ m1 : Mem, FrI m1 mem 1 17 → Ev m1 1 n g → Q (some (vI r)) (match t with
      | some v => mset m1 0 11 v
      | none => m1)) : AMet Γ mX10_read [vR 0, vI j, vI l, vI f0, vI z] zG mem Q := by
  have a2 : mem 1 2 = f 46 := h.2.1.1
  have s28 : (0 ≤ j ∧ j ≤ 3) → (0 ≤ l ∧ l ≤ 2) → (0 ≤ z ∧ z ≤ 13) → AW Γ mX10_read (zF Γ zG Q) zG 0 0 28 [some (vR 0), some (vI j), some (vI l), some (vI f0), some (vI z), none, none, none, none, none] [] mem := by
    intro hj2 hl2 hz2
    replace k := k ⟨⟨hj2, hl2⟩, hz2⟩
    obtain ⟨x, rfl⟩ : ∃ x : Nat, j = x := ⟨j.toNat, by omega⟩
    have gs := ShG.of (j := x) (by omega)
    have gs0 := gs.1
    have hsx := hs x (by omega)
    have hclx := hcl x (by omega)
    have hszx := hsz x (by omega)
    have s130 : ∀ (fo i : Int) (g : Int → Int) (m : Mem) (i8 : Int) (x9 : Option AV), FrI m mem 1 17 → Ev m 1 n g → g 46 = f 46 + i → readGo l (lk x) (sz x) (cl x) f0 (f 46) z.toNat 0 f = (i, some fo, g) → AW Γ mX10_read (zF Γ zG Q) zG 0 0 130 [some (vR 0), some (vI x), some (vI l), some (vI f0), some (vI z), some (vR (96 + 2 * x)), some (vI (f 46)), some (vI fo), some (vI i8), x9] [] m := by
      intro fo i g m i8 x9 hF hev hg e
      have e2 : m 1 2 = g 46 := hev.2.1.1
      refine aw_aload_n dX10_read_130 rfl rfl ?_
      refine aw_iload dX10_read_131 rfl rfl ?_
      refine aw_putI (kI := 11) dX10_read_133 rfl fp_X10_355 g0 (by rfl) rfl ?_
      refine aw_aload_n dX10_read_136 rfl rfl ?_
      refine aw_getR dX10_read_137 rfl fl_X10_12 g0 (by rfl) ?_
      refine aw_getI (kI := 2) dX10_read_140 rfl fl_X10_126 g1 (by rfl) rfl ?_
      rw [mset_ne (by decide), e2, hg]
      refine aw_iload dX10_read_143 rfl rfl ?_
      refine aw_isub dX10_read_145 rfl ?_
      refine aw_ireturn (ty := .int) dX10_read_146 rfl rfl ?_
      rw [show f 46 + i - f 46 = i by omega]; exact k i (some fo) g e m hF hev
    have loop : ∀ (d : Nat) (i : Int) (g : Int → Int) (m : Mem) (x9 : Option AV), i + d = z → 0 ≤ i → Wf n g → FrI m mem 1 17 → Ev m 1 n g → g 46 = f 46 + i → readGo l (lk x) (sz x) (cl x) f0 (f 46) z.toNat 0 f = readGo l (lk x) (sz x) (cl x) f0 (f 46) d i g → AW Γ mX10_read (zF Γ zG Q) zG 0 0 51 [some (vR 0), some (vI x), some (vI l), some (vI f0), some (vI z), some (vR (96 + 2 * x)), some (vI (f 46)), some (vI 0), some (vI i), x9] [] m := by
      intro d
      induction d with
      | zero =>
        intro i g m x9 hi h0 hw hF hev hg e
        refine aw_iload dX10_read_51 rfl rfl ?_
        refine aw_iload dX10_read_53 rfl rfl ?_
        refine aw_icmp_ge (tgt := 130) dX10_read_55 (by decide) rfl (by omega) (by omega) (fun c55 => ?_) (fun c55 => ?_)
        · exact s130 0 i g m _ _ hF hev hg e
        · exfalso; omega
      | succ d ih =>
        intro i g m x9 hi h0 hw hF hev hg e
        have hsm : Sh m (96 + 2 * x) (lk x) (sz x) (cl x) := hsx.fr (hF _ (by omega)) (hF _ (by omega))
        have w46 := hw.n46
        rw [readGo] at e
        -- a fault
        have bad : ∀ (fo : Int) (x9' : Option AV), fo = reasonF l (lk x) (sz x) (f0 + 2 * i) → ¬ fo = 0 → (0 ≤ fo ∧ fo ≤ 3) → AW Γ mX10_read (zF Γ zG Q) zG 0 0 124 [some (vR 0), some (vI x), some (vI l), some (vI f0), some (vI z), some (vR (96 + 2 * x)), some (vI (f 46)), some (vI fo), some (vI i), x9'] [] m := by
          intro fo x9' efo nfo rfo
          rw [if_pos (by rw [← efo]; exact nfo), ← efo] at e
          refine aw_iinc8 rfl dX10_read_124 rfl (by decide) ?_
          refine aw_goto (tgt := 51) dX10_read_127 (by decide) ?_
          refine aw_iload dX10_read_51 rfl rfl ?_
          refine aw_iload dX10_read_53 rfl rfl ?_
          refine aw_icmp_ge (tgt := 130) dX10_read_55 (by decide) rfl (by omega) (by omega) (fun c55 => ?_) (fun c55 => ?_)
          · exact s130 fo i g m _ _ hF hev hg e
          · refine aw_iload dX10_read_58 rfl rfl ?_
            refine aw_if_ne (tgt := 130) dX10_read_60 (by decide) rfl (by omega) (fun c60 => ?_) (fun c60 => ?_)
            · exact s130 fo i g m _ _ hF hev hg e
            · exfalso; omega
        have rr : 0 ≤ reasonF l (lk x) (sz x) (f0 + 2 * i) ∧ reasonF l (lk x) (sz x) (f0 + 2 * i) ≤ 3 := by unfold reasonF; ((repeat' split) <;> omega)
        -- no fault: the pair is read
        have s86 : (f0 + 2 * i ≤ 2147483647) → reasonF l (lk x) (sz x) (f0 + 2 * i) = 0 → AW Γ mX10_read (zF Γ zG Q) zG 0 0 86 [some (vR 0), some (vI x), some (vI l), some (vI f0), some (vI z), some (vR (96 + 2 * x)), some (vI (f 46)), some (vI 0), some (vI i), some (vI (f0 + 2 * i))] [] m := by
          intro hle hre
          have hq : ¬ lk x = -4 ∧ 0 ≤ f0 + 2 * i ∧ f0 + 2 * i + 1 < sz x := by
            unfold reasonF at hre
            split at hre
            · omega
            · split at hre
              · omega
              · next h4 h5 =>
                split at hre
                · next h6 => exact ⟨h4, h6⟩
                · omega
          have hs40 := hszx hq.1
          rw [if_neg (fun y => y hre)] at e
          obtain ⟨al, ag⟩ := addM_lt (f := g) (s := cl x (f0 + 2 * i)) (w := cl x (f0 + 2 * i + 1)) w46.1
          refine aw_aload_n dX10_read_86 rfl rfl ?_
          refine aw_aload dX10_read_87 rfl rfl ?_
          refine aw_iload dX10_read_89 rfl rfl ?_
          refine aw_callV [_] _ dX10_read_91 rfl clv_X10_349 (by decide) ⟨Nat.zero_le _, Nat.zero_le _⟩ (by first | assumption | rfl) (by rfl) (Nat.le_of_ble_eq_true rfl) rfl ?_
          refine sC_valueAt gs hsm (by omega) hq.1 ?_
          refine aw_aload dX10_read_94 rfl rfl ?_
          refine aw_iload dX10_read_96 rfl rfl ?_
          refine aw_iconst dX10_read_98 rfl ?_
          refine aw_iadd dX10_read_99 rfl ?_
          refine aw_callV [_] _ dX10_read_100 rfl clv_X10_349 (by decide) ⟨Nat.zero_le _, Nat.zero_le _⟩ (by first | assumption | rfl) (by rfl) (Nat.le_of_ble_eq_true rfl) rfl ?_
          refine sC_valueAt gs hsm (by omega) hq.1 ?_
          refine aw_callV [_, _] _ dX10_read_103 rfl clv_X10_352 (by decide) ⟨Nat.zero_le _, Nat.zero_le _⟩ g0 (by rfl) (Nat.le_of_ble_eq_true rfl) rfl ?_
          refine sC_bringSort hw hev (hclx _ (by omega) (by omega)) (hclx _ (by omega) (by omega)) (fun lt => ?_) (fun m1 nl f1 v1 => ?_)
          · refine aw_if_ne (tgt := 124) dX10_read_106 (by decide) rfl (by omega) (fun c => absurd c (by decide)) (fun _ => ?_)
            rw [if_pos lt, al lt] at e
            refine aw_aload_n dX10_read_109 rfl rfl ?_
            refine aw_getR dX10_read_110 rfl fl_X10_12 g0 (by rfl) ?_
            refine aw_iload dX10_read_113 rfl rfl ?_
            refine aw_putI (kI := 2) dX10_read_115 rfl fp_X10_126 g1 (by rfl) rfl ?_
            refine aw_bipush dX10_read_118 rfl (by decide) ?_
            refine aw_iload dX10_read_120 rfl rfl ?_
            refine aw_isub dX10_read_122 rfl ?_
            refine aw_ireturn (ty := .int) dX10_read_123 rfl rfl ?_
            refine k _ none _ e _ (hF.set (by decide)) ?_
            obtain ⟨b2, b3, b4, b5⟩ := hev.2.1
            rw [mset_eq]
            refine hev.fld hw (fun j j1 j2 j3 j4 => fset_ne j2) ⟨?_, ?_, ?_, ?_⟩ (by rw [fset_same]; omega) (by rw [fset_ne (by decide)]; omega)
            · rw [fset_same, fset_same]
            · rw [fset_ne (by decide), fset_ne (by decide)]; exact b3
            · rw [fset_ne (by decide), fset_ne (by decide)]; exact b4
            · rw [fset_ne (by decide), fset_ne (by decide)]; exact b5
          · refine aw_if_ne (tgt := 124) dX10_read_106 (by decide) rfl (by omega) (fun _ => ?_) (fun c => absurd c (by decide))
            rw [if_neg nl] at e
            refine aw_iinc8 rfl dX10_read_124 rfl (by decide) ?_
            refine aw_goto (tgt := 51) dX10_read_127 (by decide) ?_
            exact ih (i + 1) _ m1 _ (by omega) (by omega) (addM_Wf hw) (f1.tr hF) v1 (by rw [ag nl]; omega) e
        have s71 : ∀ a : Int, (-2147483648 ≤ a ∧ a ≤ 2147483647) → (a = f0 + 2 * i ∨ (2147483647 < f0 + 2 * i ∧ a < 0)) → AW Γ mX10_read (zF Γ zG Q) zG 0 0 71 [some (vR 0), some (vI x), some (vI l), some (vI f0), some (vI z), some (vR (96 + 2 * x)), some (vI (f 46)), some (vI 0), some (vI i), some (vI a)] [] m := by
          intro a ra ha
          have er : reasonF l (lk x) (sz x) a = reasonF l (lk x) (sz x) (f0 + 2 * i) := by
            rcases ha with rfl | ⟨h1, h2⟩
            · rfl
            · unfold reasonF
              by_cases h4 : lk x = -4
              · rw [if_pos h4, if_pos h4]
              · have := hszx h4
                rw [if_neg h4, if_neg h4]
                split
                · rfl
                · rw [if_neg (by omega), if_neg (by omega)]
          have e0 : reasonF l (lk x) (sz x) (f0 + 2 * i) = 0 → a = f0 + 2 * i := by
            intro hre
            rcases ha with ha | ⟨h1, h2⟩
            · exact ha
            · exfalso
              unfold reasonF at hre
              split at hre
              · omega
              · next h4 =>
                have := hszx h4
                split at hre
                · omega
                · split at hre <;> omega
          refine aw_aload dX10_read_71 rfl rfl ?_
          refine aw_iload_n dX10_read_73 rfl rfl ?_
          refine aw_iload dX10_read_74 rfl rfl ?_
          refine aw_callV [_, _] _ dX10_read_76 rfl clv_X10_346 (by decide) ⟨Nat.zero_le _, Nat.zero_le _⟩ (by first | assumption | rfl) (by rfl) (Nat.le_of_ble_eq_true rfl) rfl ?_
          refine sC_pairFault gs hsm hl2 ra ?_
          rw [er]
          refine aw_istore7 rfl dX10_read_79 rfl (by decide) ?_
          refine aw_iload dX10_read_81 rfl rfl ?_
          refine aw_if_ne (tgt := 124) dX10_read_83 (by decide) rfl (by omega) (fun c83 => ?_) (fun c83 => ?_)
          · exact bad _ _ rfl (by omega) rr
          · have hre : reasonF l (lk x) (sz x) (f0 + 2 * i) = 0 := by omega
            have ea := e0 hre
            subst ea
            rw [hre]
            exact s86 (by omega) hre
        refine aw_iload dX10_read_51 rfl rfl ?_
        refine aw_iload dX10_read_53 rfl rfl ?_
        refine aw_icmp_ge (tgt := 130) dX10_read_55 (by decide) rfl (by omega) (by omega) (fun c55 => ?_) (fun c55 => ?_)
        · exfalso; omega
        · refine aw_iload dX10_read_58 rfl rfl ?_
          refine aw_if_ne (tgt := 130) dX10_read_60 (by decide) rfl (by omega) (fun c60 => ?_) (fun c60 => ?_)
          · exfalso; omega
          · refine aw_iload_n dX10_read_63 rfl rfl ?_
            refine aw_iconst dX10_read_64 rfl ?_
            refine aw_iload dX10_read_65 rfl rfl ?_
            refine aw_imul dX10_read_67 rfl ?_
            refine aw_iadd dX10_read_68 rfl ?_
            by_cases ov : f0 + 2 * i ≤ 2147483647
            · refine aw_istore9 rfl dX10_read_69 rfl (by decide) ?_
              exact s71 _ (by omega) (Or.inl rfl)
            · refine aw_wrap wr32 ?_
              refine aw_istore9 rfl dX10_read_69 rfl (by decide) ?_
              exact s71 _ (by omega) (Or.inr ⟨by omega, by omega⟩)
    refine aw_aload_n dX10_read_28 rfl rfl ?_
    refine aw_getR dX10_read_29 rfl fl_X10_51 g0 (by rfl) ?_
    refine aw_iload_n dX10_read_32 rfl rfl ?_
    refine aw_aaload dX10_read_33 rfl g95 (by decide) (by omega) (four_get (by omega)) ?_
    refine aw_astore5 rfl dX10_read_34 rfl (by decide) ?_
    refine aw_aload_n dX10_read_36 rfl rfl ?_
    refine aw_getR dX10_read_37 rfl fl_X10_12 g0 (by rfl) ?_
    refine aw_getI (kI := 2) dX10_read_40 rfl fl_X10_126 g1 (by rfl) rfl ?_
    rw [a2]
    refine aw_istore6 rfl dX10_read_43 rfl (by decide) ?_
    refine aw_iconst dX10_read_45 rfl ?_
    refine aw_istore7 rfl dX10_read_46 rfl (by decide) ?_
    refine aw_iconst dX10_read_48 rfl ?_
    refine aw_istore8 rfl dX10_read_49 rfl (by decide) ?_
    exact loop z.toNat 0 f mem none (by omega) (by omega) wf FrI.rf h (by omega) rfl
  refine AMet.of' 5 (ls := [some (vR (0)), some (vI (j)), some (vI (l)), some (vI (f0)), some (vI (z)), none, none, none, none, none]) (by decide) rfl (Nat.le_of_ble_eq_true rfl) ?_
  refine aw_iload_n dX10_read_0 rfl rfl ?_
  refine aw_callS [_] _ dX10_read_1 rfl cls_X10_331 (by decide) ⟨Nat.zero_le _, Nat.zero_le _⟩ (Nat.le_of_ble_eq_true rfl) rfl ?_
  refine sC_isSheet hj (fun c1 => ?_) (fun c1 => ?_)
  · refine aw_if_eq (tgt := 26) dX10_read_4 (by decide) rfl (by omega) (fun c => absurd c (by decide)) (fun _ => ?_)
    refine aw_iload_n dX10_read_7 rfl rfl ?_
    refine aw_callS [_] _ dX10_read_8 rfl cls_X10_334 (by decide) ⟨Nat.zero_le _, Nat.zero_le _⟩ (Nat.le_of_ble_eq_true rfl) rfl ?_
    refine sC_isLane hl (fun c8 => ?_) (fun c8 => ?_)
    · refine aw_if_eq (tgt := 26) dX10_read_11 (by decide) rfl (by omega) (fun c => absurd c (by decide)) (fun _ => ?_)
      refine aw_iload dX10_read_14 rfl rfl ?_
      refine aw_if_lt (tgt := 26) dX10_read_16 (by decide) rfl (by omega) (fun c16 => ?_) (fun c16 => ?_)
      · refine aw_iconst dX10_read_26 rfl ?_
        refine aw_ireturn (ty := .int) dX10_read_27 rfl rfl ?_
        exact kb (by omega)
      · refine aw_iload dX10_read_19 rfl rfl ?_
        refine aw_bipush dX10_read_21 rfl (by decide) ?_
        refine aw_icmp_le (tgt := 28) dX10_read_23 (by decide) rfl (by omega) (by omega) (fun c23 => ?_) (fun c23 => ?_)
        · exact s28 c1 c8 (by omega)
        · refine aw_iconst dX10_read_26 rfl ?_
          refine aw_ireturn (ty := .int) dX10_read_27 rfl rfl ?_
          exact kb (by omega)
    · refine aw_if_eq (tgt := 26) dX10_read_11 (by decide) rfl (by omega) (fun _ => ?_) (fun c => absurd c (by decide))
      refine aw_iconst dX10_read_26 rfl ?_
      refine aw_ireturn (ty := .int) dX10_read_27 rfl rfl ?_
      exact kb (by omega)
  · refine aw_if_eq (tgt := 26) dX10_read_4 (by decide) rfl (by omega) (fun _ => ?_) (fun c => absurd c (by decide))
    refine aw_iconst dX10_read_26 rfl ?_
    refine aw_ireturn (ty := .int) dX10_read_27 rfl rfl ?_
    exact kb (by omega)
end ZCmp11
