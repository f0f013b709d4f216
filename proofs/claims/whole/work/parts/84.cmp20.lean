abbrev wbG (f : Int → Int) (p cg sg : Int) : Prop := 10 * f (47 + 8 * p + 0) ≤ f (47 + 8 * p + 3) + cg ∧ sdB f p + sg < 40 ∧ sdO f p < 40
section ZCmp20
variable {Γ : ZG} {mem : Mem} {Q : Option AV → Mem → Prop} {n : Int} {f : Int → Int}
theorem sC_surveyWrap {x : Nat} {w cg sg : Int} {N : Nat} (wf : Wf n f) (h : Ev mem 1 n f) (hN : f 46 = N) (h4 : mem 90 4 = N) (hw : 0 ≤ w ∧ w ≤ 2) (hcg : 0 ≤ cg ∧ cg ≤ 100000) (hsg : 0 ≤ sg ∧ sg ≤ 100000) (k : ∀ m' : Mem, FrI m' mem 91 92 → (∀ p : Nat, p < N → m' 91 p = if f (47 + 8 * (p : Int) + 1) = w ∧ wbG f p cg sg then zor (mem 91 p) (zshl 1 (x : Int)) else mem 91 p) → Q none m') : AMet Γ mX3_surveyWrap [vR 90, vR 1, vI x, vI w, vI cg, vI sg] zG mem Q := by
  have hn := wf.1
  have w46 := wf.n46
  have loop : ∀ (d p : Nat) (m : Mem) (x7 : Option AV), p + d = N → FrI m mem 91 92 → (∀ q : Nat, q < p → m 91 q = if f (47 + 8 * (q : Int) + 1) = w ∧ wbG f q cg sg then zor (mem 91 q) (zshl 1 (x : Int)) else mem 91 q) → (∀ q : Nat, p ≤ q → q < N → m 91 q = mem 91 q) → AW Γ mX3_surveyWrap (zF Γ zG Q) zG 0 0 3 [some (vR 90), some (vR 1), some (vI x), some (vI w), some (vI cg), some (vI sg), some (vI p), x7] [] m := by
    intro d
    induction d with
    | zero =>
      intro p m x7 hd hF hlo hhi
      have m4 : m 90 4 = N := by rw [hF 90 (by omega)]; exact h4
      refine aw_iload dX3_surveyWrap_3 rfl rfl ?_
      refine aw_aload_n dX3_surveyWrap_5 rfl rfl ?_
      refine aw_getI (kI := 4) dX3_surveyWrap_6 rfl fl_X3_31 (by first | assumption | rfl) (by rfl) rfl ?_
      rw [m4]
      refine aw_icmp_ge (tgt := 62) dX3_surveyWrap_9 (by decide) rfl (by omega) (by omega) (fun c9 => ?_) (fun c9 => ?_)
      · refine aw_return dX3_surveyWrap_62 rfl ?_
        exact k m hF (fun q hq => hlo q (by omega))
      · exfalso; omega
    | succ d ih =>
      intro p m x7 hd hF hlo hhi
      have m4 : m 90 4 = N := by rw [hF 90 (by omega)]; exact h4
      have hev : Ev m 1 n f := h.keep w46.2 (fun d d0 d1 => hF d (by omega))
      have gp := E1.2.2.2.2.2.2 p (by omega)
      have gp0 := gp
      unfold SpG at gp0
      have hsp := hev.2.2.1 p (by omega)
      have wsp := wf.sp (p := p) (by omega)
      have hwr : m (1 + 10 + p) 1 = f (47 + 8 * (p : Int) + 1) := hsp.2.1
      have rwr := wsp.2.1
      obtain ⟨y0, y1, y2, y3, y4, y5, y6⟩ := id hsp
      have gd : (dnC (m (1 + 10 + p)) cg ∧ m (1 + 10 + p) 4 + sg < 40 ∧ m (1 + 10 + p) 5 + 0 < 40) ↔ wbG f p cg sg := by
        unfold dnC wbG sdB sdO
        rw [y0, y3, y4, y5]
        omega
      have mp := hhi p (Nat.le_refl _) (by omega)
      have nxt : ∀ (m2 : Mem) (x7 : Option AV), FrI m2 mem 91 92 → (∀ q : Nat, ¬ q = p → m2 91 q = m 91 q) → (m2 91 p = if f (47 + 8 * (p : Int) + 1) = w ∧ wbG f p cg sg then zor (mem 91 p) (zshl 1 (x : Int)) else mem 91 p) → AW Γ mX3_surveyWrap (zF Γ zG Q) zG 0 0 3 [some (vR 90), some (vR 1), some (vI x), some (vI w), some (vI cg), some (vI sg), some (vI ((p : Int) + 1)), x7] [] m2 := by
        intro m2 x7 f2 hne he
        have i2 := ih (p + 1) m2 x7 (by omega) f2 (fun q hq => by
          by_cases e : q = p
          · subst e; exact he
          · rw [hne q e]; exact hlo q (by omega)) (fun q h1 h2 => by rw [hne q (by omega)]; exact hhi q (by omega) h2)
        push_cast at i2
        exact i2
      refine aw_iload dX3_surveyWrap_3 rfl rfl ?_
      refine aw_aload_n dX3_surveyWrap_5 rfl rfl ?_
      refine aw_getI (kI := 4) dX3_surveyWrap_6 rfl fl_X3_31 (by first | assumption | rfl) (by rfl) rfl ?_
      rw [m4]
      refine aw_icmp_ge (tgt := 62) dX3_surveyWrap_9 (by decide) rfl (by omega) (by omega) (fun c9 => ?_) (fun c9 => ?_)
      · exfalso; omega
      · refine aw_aload_n dX3_surveyWrap_12 rfl rfl ?_
        refine aw_getR dX3_surveyWrap_13 rfl fl_X3_32 g1 (by rfl) ?_
        refine aw_iload dX3_surveyWrap_16 rfl rfl ?_
        refine aw_aaload dX3_surveyWrap_18 rfl g7 six_len (by omega) (six_getN (b := 1) (by omega)) ?_
        refine aw_astore7 rfl dX3_surveyWrap_19 rfl (by decide) ?_
        refine aw_aload dX3_surveyWrap_21 rfl rfl ?_
        refine aw_getI (kI := 1) dX3_surveyWrap_23 rfl fl_X3_73 (by first | assumption | rfl) (by rfl) rfl ?_
        rw [hwr]
        refine aw_iload_n dX3_surveyWrap_26 rfl rfl ?_
        refine aw_icmp_ne (tgt := 56) dX3_surveyWrap_27 (by decide) rfl (by omega) (by omega) (fun c27 => ?_) (fun c27 => ?_)
        · refine aw_iinc6 rfl dX3_surveyWrap_56 rfl (by decide) ?_
          refine aw_goto (tgt := 3) dX3_surveyWrap_59 (by decide) ?_
          first | (have hz := gd.mp c37; exact nxt _ _ (hF.set (by decide)) (fun q hq => by rw [mset_same, fset_ne (by omega)]) (by rw [mset_same, fset_same, if_pos ⟨by omega, hz⟩])) | (have hz := fun z => c37 (gd.mpr z); exact nxt m _ hF (fun q _ => rfl) (by rw [if_neg (fun z => hz z.2)]; exact mp)) | exact nxt m _ hF (fun q _ => rfl) (by rw [if_neg (fun z => c27 z.1)]; exact mp)
        · refine aw_aload dX3_surveyWrap_30 rfl rfl ?_
          refine aw_iload dX3_surveyWrap_32 rfl rfl ?_
          refine aw_iload dX3_surveyWrap_34 rfl rfl ?_
          refine aw_iconst dX3_surveyWrap_36 rfl ?_
          refine aw_callV [_, _, _] _ dX3_surveyWrap_37 rfl clv_X3_76 (by decide) ⟨Nat.zero_le _, Nat.zero_le _⟩ (by first | assumption | rfl) (by rfl) (Nat.le_of_ble_eq_true rfl) rfl ?_
          refine sC_wouldBeGood gp (hsp.c hn wsp) hcg hsg (by omega) (fun c37 => ?_) (fun c37 => ?_)
          · refine aw_if_eq (tgt := 56) dX3_surveyWrap_40 (by decide) rfl (by omega) (fun c => absurd c (by decide)) (fun _ => ?_)
            refine aw_aload_n dX3_surveyWrap_43 rfl rfl ?_
            refine aw_getR dX3_surveyWrap_44 rfl fl_X3_9 (by first | assumption | rfl) (by rfl) ?_
            refine aw_iload dX3_surveyWrap_47 rfl rfl ?_
            refine aw_dup2 dX3_surveyWrap_49 rfl rfl rfl ?_
            refine aw_iaload dX3_surveyWrap_50 rfl g91 (by decide) (by omega) ?_
            rw [mp]
            refine aw_iconst dX3_surveyWrap_51 rfl ?_
            refine aw_iload_n dX3_surveyWrap_52 rfl rfl ?_
            refine aw_ishl dX3_surveyWrap_53 rfl ?_
            refine aw_ior dX3_surveyWrap_54 rfl ?_
            refine aw_iastore dX3_surveyWrap_55 rfl g91 (by omega) (by omega) ?_
            refine aw_iinc6 rfl dX3_surveyWrap_56 rfl (by decide) ?_
            refine aw_goto (tgt := 3) dX3_surveyWrap_59 (by decide) ?_
            first | (have hz := gd.mp c37; exact nxt _ _ (hF.set (by decide)) (fun q hq => by rw [mset_same, fset_ne (by omega)]) (by rw [mset_same, fset_same, if_pos ⟨by omega, hz⟩])) | (have hz := fun z => c37 (gd.mpr z); exact nxt m _ hF (fun q _ => rfl) (by rw [if_neg (fun z => hz z.2)]; exact mp)) | exact nxt m _ hF (fun q _ => rfl) (by rw [if_neg (fun z => c27 z.1)]; exact mp)
          · refine aw_if_eq (tgt := 56) dX3_surveyWrap_40 (by decide) rfl (by omega) (fun _ => ?_) (fun c => absurd c (by decide))
            refine aw_iinc6 rfl dX3_surveyWrap_56 rfl (by decide) ?_
            refine aw_goto (tgt := 3) dX3_surveyWrap_59 (by decide) ?_
            first | (have hz := gd.mp c37; exact nxt _ _ (hF.set (by decide)) (fun q hq => by rw [mset_same, fset_ne (by omega)]) (by rw [mset_same, fset_same, if_pos ⟨by omega, hz⟩])) | (have hz := fun z => c37 (gd.mpr z); exact nxt m _ hF (fun q _ => rfl) (by rw [if_neg (fun z => hz z.2)]; exact mp)) | exact nxt m _ hF (fun q _ => rfl) (by rw [if_neg (fun z => c27 z.1)]; exact mp)
  refine AMet.of' 2 (ls := [some (vR (90)), some (vR (1)), some (vI ((x : Int))), some (vI (w)), some (vI (cg)), some (vI (sg)), none, none]) (by decide) rfl (Nat.le_of_ble_eq_true rfl) ?_
  refine aw_iconst dX3_surveyWrap_0 rfl ?_
  refine aw_istore6 rfl dX3_surveyWrap_1 rfl (by decide) ?_
  exact loop N 0 mem none (by omega) FrI.rf (fun q hq => by omega) (fun q _ _ => rfl)
theorem sC_survey {c : Nat} (wf : Wf n f) (h : Ev mem 1 n f) (hc : c ≤ 20) (h0 : mem 94 0 = 0) (k : ∀ m' : Mem, FrI m' mem 88 95 → m' 94 0 = 0 → Lay m' (gdB n f c) (goB f) (f 46).toNat (3 * n).toNat → Q none m') : AMet Γ mX3_survey [vR 90, vR 1, vR 87, vI c] zG mem Q := by
  have hn := wf.1
  have w46 := wf.n46
  obtain ⟨N, hN⟩ : ∃ N : Nat, f 46 = N := ⟨(f 46).toNat, by omega⟩
  obtain ⟨X, hX⟩ : ∃ X : Nat, 3 * n = X := ⟨(3 * n).toNat, by omega⟩
  have eN : (f 46).toNat = N := by omega
  have eX : (3 * n).toNat = X := by omega
  rw [eN, eX] at k
  have a2 : mem 1 2 = N := by have := h.2.1.1; omega
  have n20 : ∀ m : Mem, FrI m mem 88 95 → m 2 0 = n := fun m hF => by rw [hF 2 (by omega)]; exact h.1.1
  have evk : ∀ m : Mem, FrI m mem 88 95 → Ev m 1 n f := fun m hF => h.keep w46.2 (fun d d0 d1 => hF d (by omega))
  have loop2 : ∀ (d x : Nat) (m : Mem) (x5 : Option AV), x + d = X → FrI m mem 88 95 → m 94 0 = 0 → m 90 4 = N → (∀ p : Nat, p < N → m 92 p = b2i (goB f p)) → (∀ p : Nat, p < N → (-2147483648 ≤ m 91 p ∧ m 91 p ≤ 2147483647) ∧ ∀ y : Nat, y < 32 → zbt (m 91 p) y = (decide (y < x) && gdB n f c p y)) → AW Γ mX3_survey (zF Γ zG Q) zG 0 0 54 [some (vR 90), some (vR 1), some (vR 87), some (vI c), some (vI x), x5] [] m := by
    intro d
    induction d with
    | zero =>
      intro x m x5 hd hF z0 h4 h92 h91
      obtain rfl : x = X := by omega
      refine aw_iload dX3_survey_54 rfl rfl ?_
      refine aw_aload_n dX3_survey_56 rfl rfl ?_
      refine aw_getR dX3_survey_57 rfl fl_X3_42 g1 (by rfl) ?_
      refine aw_callV [] _ dX3_survey_60 rfl clv_X3_46 (by decide) ⟨Nat.zero_le _, Nat.zero_le _⟩ g2 (by rfl) (Nat.le_of_ble_eq_true rfl) rfl ?_
      refine sC_placeCount E1.2.1 ?_
      rw [n20 m hF, hX]
      refine aw_icmp_ge (tgt := 122) dX3_survey_63 (by decide) rfl (by omega) (by omega) (fun c63 => ?_) (fun c63 => ?_)
      · refine aw_aload_n dX3_survey_122 rfl rfl ?_
        refine aw_callV [] _ dX3_survey_123 rfl clv_X3_70 (by decide) ⟨Nat.zero_le _, Nat.zero_le _⟩ g90 (by rfl) (Nat.le_of_ble_eq_true rfl) rfl ?_
        refine sC_uniteReached (by omega) h4 h91 z0 (fun m1 f1 z1 t1 => ?_)
        refine aw_return dX3_survey_126 rfl ?_
        refine k m1 ((f1.wd (by omega) (by omega)).tr hF) z1 ⟨?_, ?_, ?_, t1⟩
        · rw [f1 90 (by omega)]; exact h4
        · rw [f1 92 (by omega)]; exact h92
        · rw [f1 91 (by omega)]; exact h91
      · exfalso; omega
    | succ d ih =>
      intro x m x5 hd hF z0 h4 h92 h91
      have hev := evk m hF
      have hH : ∀ r : Nat, 0 ≤ roundsF n r f x ∧ roundsF n r f x ≤ 99 := fun r => (roundsF_Wf r f wf).1.2.1 x (by omega) (by omega)
      have inner : ∀ (e w : Nat) (m2 : Mem), w + e = 3 → FrI m2 mem 88 95 → m2 94 0 = 0 → m2 90 4 = N → (∀ p : Nat, p < N → m2 92 p = b2i (goB f p)) → (∀ r : Nat, r ≤ c → m2 88 r = roundsF n r f x) → (∀ p : Nat, p < N → (-2147483648 ≤ m2 91 p ∧ m2 91 p ≤ 2147483647) ∧ ∀ y : Nat, y < 32 → zbt (m2 91 p) y = (decide (y < x ∨ (y = x ∧ f (47 + 8 * (p : Int) + 1) < w)) && gdB n f c p y)) → AW Γ mX3_survey (zF Γ zG Q) zG 0 0 80 [some (vR 90), some (vR 1), some (vR 87), some (vI c), some (vI x), some (vI w)] [] m2 := by
        intro e
        induction e with
        | zero =>
          intro w m2 hw f2 z2 g4 g92 g88 g91
          obtain rfl : w = 3 := by omega
          refine aw_iload dX3_survey_80 rfl rfl ?_
          refine aw_iconst dX3_survey_82 rfl ?_
          refine aw_icmp_gt (tgt := 116) dX3_survey_83 (by decide) rfl (by omega) (by omega) (fun c83 => ?_) (fun c83 => ?_)
          · refine aw_iinc4 rfl dX3_survey_116 rfl (by decide) ?_
            refine aw_goto (tgt := 54) dX3_survey_119 (by decide) ?_
            refine ih (x + 1) m2 _ (by omega) f2 z2 g4 g92 (fun p hp => ⟨(g91 p hp).1, fun y hy => ?_⟩)
            have rw2 := (wf.sp (p := p) (by omega)).2.1
            rw [(g91 p hp).2 y hy]
            congr 1
            exact decide_eq_decide.mpr (by omega)
          · exfalso; omega
        | succ e ihe =>
          intro w m2 hw f2 z2 g4 g92 g88 g91
          have ev2 := evk m2 f2
          have co := coF_r (w : Int)
          have si := siF_r (w : Int)
          have rr : ∀ r : Nat, (r : Int) < (c : Int) → 0 ≤ m2 88 r ∧ m2 88 r ≤ 99 := fun r hr => by rw [g88 r (by omega)]; exact hH r
          have e1 : gain (fun r => m2 88 r) (coF (w : Int)) (c : Int).toNat = gain (fun r => roundsF n r f x) (coF (w : Int)) c := by
            rw [Int.toNat_natCast]
            exact gain_congr c (fun r hr => g88 r (by omega))
          have e2 : gain (fun s => m2 88 ((0 + s : Nat) : Int)) (siF (w : Int)) ((c : Int) - ((0 : Nat) : Int)).toNat = gain (fun r => roundsF n r f x) (siF (w : Int)) c := by
            rw [show ((c : Int) - ((0 : Nat) : Int)).toNat = c by omega]
            exact gain_congr c (fun r hr => by rw [Nat.zero_add]; exact g88 r (by omega))
          have n1 := gain_nonneg (H := fun r => roundsF n r f x) (q := coF (w : Int)) (by omega) (fun r => (hH r).1) c
          have n2 := gain_nonneg (H := fun r => roundsF n r f x) (q := siF (w : Int)) (by omega) (fun r => (hH r).1) c
          have l1 := gain_le (H := fun r => roundsF n r f x) (q := coF (w : Int)) (by omega) hH c
          have l2 := gain_le (H := fun r => roundsF n r f x) (q := siF (w : Int)) (by omega) hH c
          refine aw_iload dX3_survey_80 rfl rfl ?_
          refine aw_iconst dX3_survey_82 rfl ?_
          refine aw_icmp_gt (tgt := 116) dX3_survey_83 (by decide) rfl (by omega) (by omega) (fun c83 => ?_) (fun c83 => ?_)
          · exfalso; omega
          · refine aw_aload_n dX3_survey_86 rfl rfl ?_
            refine aw_aload_n dX3_survey_87 rfl rfl ?_
            refine aw_iload dX3_survey_88 rfl rfl ?_
            refine aw_iload dX3_survey_90 rfl rfl ?_
            refine aw_aload_n dX3_survey_92 rfl rfl ?_
            refine aw_iload dX3_survey_93 rfl rfl ?_
            refine aw_iload_n dX3_survey_95 rfl rfl ?_
            refine aw_callV [_, _] _ dX3_survey_96 rfl clv_X3_58 (by decide) ⟨Nat.zero_le _, Nat.zero_le _⟩ g87 (by rfl) (Nat.le_of_ble_eq_true rfl) rfl ?_
            refine sC_coreGain (by omega) (by omega) rr ?_
            rw [e1]
            refine aw_aload_n dX3_survey_99 rfl rfl ?_
            refine aw_iload dX3_survey_100 rfl rfl ?_
            refine aw_iconst dX3_survey_102 rfl ?_
            refine aw_iload_n dX3_survey_103 rfl rfl ?_
            refine aw_callV [_, _, _] _ dX3_survey_104 rfl clv_X3_62 (by decide) ⟨Nat.zero_le _, Nat.zero_le _⟩ g87 (by rfl) (Nat.le_of_ble_eq_true rfl) rfl ?_
            refine sC_sideGain (b := 0) (by omega) (by omega) rr ?_
            rw [e2]
            refine aw_callV [_, _, _, _, _] _ dX3_survey_107 rfl clv_X3_66 (by decide) ⟨Nat.zero_le _, Nat.zero_le _⟩ g90 (by rfl) (Nat.le_of_ble_eq_true rfl) rfl ?_
            refine sC_surveyWrap wf ev2 hN g4 (by omega) (by omega) (by omega) (fun m3 f3 e3 => ?_)
            refine aw_iinc5 rfl dX3_survey_110 rfl (by decide) ?_
            refine aw_goto (tgt := 80) dX3_survey_113 (by decide) ?_
            refine ihe (w + 1) m3 (by omega) ((f3.wd (by omega) (by omega)).tr f2) (by rw [f3 94 (by omega)]; exact z2) (by rw [f3 90 (by omega)]; exact g4) (by rw [f3 92 (by omega)]; exact g92) (by rw [f3 88 (by omega)]; exact g88) (fun p hp => ?_)
            obtain ⟨r1, r2⟩ := g91 p hp
            have pg := place_good wf (p := p) (by omega) (x := x) (by omega) c
            have rw2 := (wf.sp (p := p) (by omega)).2.1
            rw [e3 p hp]
            push_cast
            by_cases ew : f (47 + 8 * (p : Int) + 1) = w
            · rw [ew] at pg
              by_cases eg : wbG f p (gain (fun r => roundsF n r f x) (coF (w : Int)) c) (gain (fun r => roundsF n r f x) (siF (w : Int)) c)
              · rw [if_pos ⟨ew, eg⟩]
                refine ⟨zor_rng _ _, fun y hy => ?_⟩
                rw [zbt_or, r2 y hy, zbt_shl1 (by omega) hy]
                by_cases ey : y = x
                · subst ey
                  have gb : gdB n f c p y = true := decide_eq_true (pg.mpr eg)
                  rw [gb, decide_eq_true (show y < y ∨ (y = y ∧ f (47 + 8 * (p : Int) + 1) < (w : Int) + 1) from Or.inr ⟨rfl, by omega⟩)]
                  simp
                · rw [decide_eq_false ey, Bool.or_false]
                  congr 1
                  exact decide_eq_decide.mpr (by omega)
              · rw [if_neg (fun z => eg z.2)]
                refine ⟨r1, fun y hy => ?_⟩
                rw [r2 y hy]
                by_cases ey : y = x
                · subst ey
                  have gb : gdB n f c p y = false := decide_eq_false (fun z => eg (pg.mp z))
                  rw [gb, Bool.and_false, Bool.and_false]
                · congr 1
                  exact decide_eq_decide.mpr (by omega)
            · rw [if_neg (fun z => ew z.1)]
              refine ⟨r1, fun y hy => ?_⟩
              rw [r2 y hy]
              congr 1
              exact decide_eq_decide.mpr (by omega)
      refine aw_iload dX3_survey_54 rfl rfl ?_
      refine aw_aload_n dX3_survey_56 rfl rfl ?_
      refine aw_getR dX3_survey_57 rfl fl_X3_42 g1 (by rfl) ?_
      refine aw_callV [] _ dX3_survey_60 rfl clv_X3_46 (by decide) ⟨Nat.zero_le _, Nat.zero_le _⟩ g2 (by rfl) (Nat.le_of_ble_eq_true rfl) rfl ?_
      refine sC_placeCount E1.2.1 ?_
      rw [n20 m hF, hX]
      refine aw_icmp_ge (tgt := 122) dX3_survey_63 (by decide) rfl (by omega) (by omega) (fun c63 => ?_) (fun c63 => ?_)
      · exfalso; omega
      · refine aw_aload_n dX3_survey_66 rfl rfl ?_
        refine aw_aload_n dX3_survey_67 rfl rfl ?_
        refine aw_getR dX3_survey_68 rfl fl_X3_42 g1 (by rfl) ?_
        refine aw_iload dX3_survey_71 rfl rfl ?_
        refine aw_iload_n dX3_survey_73 rfl rfl ?_
        refine aw_callV [_, _, _] _ dX3_survey_74 rfl clv_X3_52 (by decide) ⟨Nat.zero_le _, Nat.zero_le _⟩ g87 (by rfl) (Nat.le_of_ble_eq_true rfl) rfl ?_
        refine sC_followFor wf hev.1 (by omega) (by omega) (fun m1 f1 e1 => ?_)
        refine aw_iconst dX3_survey_77 rfl ?_
        refine aw_istore5 rfl dX3_survey_78 rfl (by decide) ?_
        refine inner 3 0 m1 (by omega) ((f1.wd (by omega) (by omega)).tr hF) (by rw [f1 94 (by omega)]; exact z0) (by rw [f1 90 (by omega)]; exact h4) (by rw [f1 92 (by omega)]; exact h92) (fun r hr => by rw [e1 r (by omega), if_neg (by omega)]) (fun p hp => ?_)
        rw [f1 91 (by omega)]
        refine ⟨(h91 p hp).1, fun y hy => ?_⟩
        have rw2 := (wf.sp (p := p) (by omega)).2.1
        rw [(h91 p hp).2 y hy]
        congr 1
        exact decide_eq_decide.mpr (by omega)
  have loop1 : ∀ (d p : Nat) (m : Mem), p + d = N → FrI m mem 88 95 → m 94 0 = 0 → m 90 4 = N → (∀ q : Nat, q < p → m 92 q = b2i (goB f q)) → (∀ q : Nat, q < p → m 91 q = 0) → AW Γ mX3_survey (zF Γ zG Q) zG 0 0 11 [some (vR 90), some (vR 1), some (vR 87), some (vI c), some (vI p), none] [] m := by
    intro d
    induction d with
    | zero =>
      intro p m hd hF z0 h4 h92 h91
      obtain rfl : p = N := by omega
      refine aw_iload dX3_survey_11 rfl rfl ?_
      refine aw_aload_n dX3_survey_13 rfl rfl ?_
      refine aw_getI (kI := 4) dX3_survey_14 rfl fl_X3_31 (by first | assumption | rfl) (by rfl) rfl ?_
      rw [h4]
      refine aw_icmp_ge (tgt := 51) dX3_survey_17 (by decide) rfl (by omega) (by omega) (fun c17 => ?_) (fun c17 => ?_)
      · refine aw_iconst dX3_survey_51 rfl ?_
        refine aw_istore4 rfl dX3_survey_52 rfl (by decide) ?_
        refine loop2 X 0 m none (by omega) hF z0 h4 h92 (fun q hq => ?_)
        rw [h91 q hq]
        refine ⟨by omega, fun y hy => ?_⟩
        rw [zbt_0]
        rfl
      · exfalso; omega
    | succ d ih =>
      intro p m hd hF z0 h4 h92 h91
      have gp := E1.2.2.2.2.2.2 p (by omega)
      have gp0 := gp
      unfold SpG at gp0
      have hev : Ev (mset m 91 (p : Int) 0) 1 n f := evk _ (hF.set (by decide))
      have hsp := hev.2.2.1 p (by omega)
      have wsp := wf.sp (p := p) (by omega)
      have nx : ∀ b : Int, b = b2i (goB f p) → (0 ≤ b ∧ b ≤ 1) → AW Γ mX3_survey (zF Γ zG Q) zG 0 0 44 [some (vR 90), some (vR 1), some (vR 87), some (vI c), some (vI p), none] [vI b, vI p, vR 92] (mset m 91 (p : Int) 0) := by
        intro b hb rb
        have i2 := ih (p + 1) (mset (mset m 91 (p : Int) 0) 92 (p : Int) b) (by omega) ((hF.set (by decide)).set (by decide)) (by rw [mset_ne (by decide), mset_ne (by decide)]; exact z0) (by rw [mset_ne (by decide), mset_ne (by decide)]; exact h4) (fun q hq => by
          rw [mset_same]
          by_cases e : q = p
          · subst e; rw [fset_same, hb]
          · rw [fset_ne (by omega), mset_ne (by decide)]; exact h92 q (by omega)) (fun q hq => by
          rw [mset_ne (by decide), mset_same]
          by_cases e : q = p
          · subst e; rw [fset_same]
          · rw [fset_ne (by omega)]; exact h91 q (by omega))
        push_cast at i2
        refine aw_zastore dX3_survey_44 rfl g92 (by omega) (by omega) (by omega) ?_
        refine aw_iinc4 rfl dX3_survey_45 rfl (by decide) ?_
        refine aw_goto (tgt := 11) dX3_survey_48 (by decide) ?_
        exact i2
      refine aw_iload dX3_survey_11 rfl rfl ?_
      refine aw_aload_n dX3_survey_13 rfl rfl ?_
      refine aw_getI (kI := 4) dX3_survey_14 rfl fl_X3_31 (by first | assumption | rfl) (by rfl) rfl ?_
      rw [h4]
      refine aw_icmp_ge (tgt := 51) dX3_survey_17 (by decide) rfl (by omega) (by omega) (fun c17 => ?_) (fun c17 => ?_)
      · exfalso; omega
      · refine aw_aload_n dX3_survey_20 rfl rfl ?_
        refine aw_getR dX3_survey_21 rfl fl_X3_9 (by first | assumption | rfl) (by rfl) ?_
        refine aw_iload dX3_survey_24 rfl rfl ?_
        refine aw_iconst dX3_survey_26 rfl ?_
        refine aw_iastore dX3_survey_27 rfl (by first | assumption | rfl) (by decide) (by omega) ?_
        refine aw_aload_n dX3_survey_28 rfl rfl ?_
        refine aw_getR dX3_survey_29 rfl fl_X3_15 (by first | assumption | rfl) (by rfl) ?_
        refine aw_iload dX3_survey_32 rfl rfl ?_
        refine aw_aload_n dX3_survey_34 rfl rfl ?_
        refine aw_getR dX3_survey_35 rfl fl_X3_32 g1 (by rfl) ?_
        refine aw_iload dX3_survey_38 rfl rfl ?_
        refine aw_aaload dX3_survey_40 rfl g7 six_len (by omega) (six_getN (b := 1) (by omega)) ?_
        refine aw_callV [] _ dX3_survey_41 rfl clv_X3_36 (by decide) ⟨Nat.zero_le _, Nat.zero_le _⟩ (by first | assumption | rfl) (by rfl) (Nat.le_of_ble_eq_true rfl) rfl ?_
        refine sC_isGood gp (hsp.c hn wsp) (fun c41 => ?_) (fun c41 => ?_)
        · first | exact nx 1 (by rw [show goB f p = true from decide_eq_true ((hsp.gd wsp).mp c41)]; rfl) (by omega) | exact nx 0 (by rw [show goB f p = false from decide_eq_false (fun z => c41 ((hsp.gd wsp).mpr z))]; rfl) (by omega)
        · first | exact nx 1 (by rw [show goB f p = true from decide_eq_true ((hsp.gd wsp).mp c41)]; rfl) (by omega) | exact nx 0 (by rw [show goB f p = false from decide_eq_false (fun z => c41 ((hsp.gd wsp).mpr z))]; rfl) (by omega)
  refine AMet.of' 2 (ls := [some (vR (90)), some (vR (1)), some (vR (87)), some (vI ((c : Int))), none, none]) (by decide) rfl (Nat.le_of_ble_eq_true rfl) ?_
  refine aw_aload_n dX3_survey_0 rfl rfl ?_
  refine aw_aload_n dX3_survey_1 rfl rfl ?_
  refine aw_getI (kI := 2) dX3_survey_2 rfl fl_X3_25 g1 (by rfl) rfl ?_
  rw [a2]
  refine aw_putI (kI := 4) dX3_survey_5 rfl fp_X3_31 g90 (by rfl) rfl ?_
  refine aw_iconst dX3_survey_8 rfl ?_
  refine aw_istore4 rfl dX3_survey_9 rfl (by decide) ?_
  exact loop1 N 0 _ (by omega) (FrI.rf.set (by decide)) (by rw [mset_ne (by decide)]; exact h0) rfl (fun q hq => by omega) (fun q hq => by omega)
theorem sC_places {c w : Int} (wf : Wf n f) (h : Ev mem 1 n f) (h0 : mem 94 0 = 0) (hc : -2147483648 ≤ c ∧ c ≤ 2147483647) (hw : -2147483648 ≤ w ∧ w ≤ 2147483647) (k : ∀ m' : Mem, FrI m' mem 88 95 → m' 94 0 = 0 → Q (some (vI (placesM n f c w))) m') : AMet Γ mX10_places [vR 0, vI c, vI w] zG mem Q := by
  have a2 : mem 1 2 = f 46 := h.2.1.1
  have hn := wf.1
  have w46 := wf.n46
  unfold placesM at k
  have s32 : ∀ p : Int, (0 ≤ c ∧ c ≤ 20) ∧ (w = 0 ∨ (0 ≤ w - 10 ∧ w - 10 < f 46)) → (¬ w = 0 → p = w - 10) → AW Γ mX10_places (zF Γ zG Q) zG 0 0 32 [some (vR 0), some (vI c), some (vI w), some (vI p)] [] mem := by
    intro p hz hp
    rw [if_pos hz] at k
    obtain ⟨z, rfl⟩ : ∃ z : Nat, c = z := ⟨c.toNat, by omega⟩
    rw [Int.toNat_natCast] at k
    refine aw_aload_n dX10_places_32 rfl rfl ?_
    refine aw_getR dX10_places_33 rfl fl_X10_44 g0 (by rfl) ?_
    refine aw_aload_n dX10_places_36 rfl rfl ?_
    refine aw_getR dX10_places_37 rfl fl_X10_12 g0 (by rfl) ?_
    refine aw_aload_n dX10_places_40 rfl rfl ?_
    refine aw_getR dX10_places_41 rfl fl_X10_37 g0 (by rfl) ?_
    refine aw_iload_n dX10_places_44 rfl rfl ?_
    refine aw_callV [_, _, _] _ dX10_places_45 rfl clv_X10_216 (by decide) ⟨Nat.zero_le _, Nat.zero_le _⟩ g90 (by rfl) (Nat.le_of_ble_eq_true rfl) rfl ?_
    refine sC_survey wf h (by omega) h0 (fun m1 f1 z1 l1 => ?_)
    refine aw_iload_n dX10_places_48 rfl rfl ?_
    refine aw_if_ne (tgt := 62) dX10_places_49 (by decide) rfl (by omega) (fun c49 => ?_) (fun c49 => ?_)
    · have n20 : m1 2 0 = n := by rw [f1 2 (by omega)]; exact h.1.1
      refine aw_aload_n dX10_places_62 rfl rfl ?_
      refine aw_getR dX10_places_63 rfl fl_X10_44 g0 (by rfl) ?_
      refine aw_aload_n dX10_places_66 rfl rfl ?_
      refine aw_getR dX10_places_67 rfl fl_X10_12 g0 (by rfl) ?_
      refine aw_getR dX10_places_70 rfl fl_X10_105 g1 (by rfl) ?_
      refine aw_callV [] _ dX10_places_73 rfl clv_X10_224 (by decide) ⟨Nat.zero_le _, Nat.zero_le _⟩ g2 (by rfl) (Nat.le_of_ble_eq_true rfl) rfl ?_
      refine sC_placeCount E1.2.1 ?_
      have eX : 3 * m1 (1 + 1) 0 = (((3 * n).toNat : Nat) : Int) := by show 3 * m1 2 0 = _; rw [n20]; omega
      rw [eX]
      refine aw_callV [_] _ dX10_places_76 rfl clv_X10_228 (by decide) ⟨Nat.zero_le _, Nat.zero_le _⟩ g90 (by rfl) (Nat.le_of_ble_eq_true rfl) rfl ?_
      refine sC_choose (by omega) (by omega) l1 (fun m2 f2 e2 => ?_)
      have ep := hp (by omega)
      have e3 := e2 (w - 10).toNat (by omega)
      rw [show (((w - 10).toNat : Nat) : Int) = p by omega] at e3
      refine aw_aload_n dX10_places_79 rfl rfl ?_
      refine aw_getR dX10_places_80 rfl fl_X10_44 g0 (by rfl) ?_
      refine aw_getR dX10_places_83 rfl fl_X10_231 g90 (by rfl) ?_
      refine aw_iload_n dX10_places_86 rfl rfl ?_
      refine aw_iaload dX10_places_87 rfl g93 (by decide) (by omega) ?_
      refine aw_ireturn (ty := .int) dX10_places_88 rfl rfl ?_
      rw [if_neg (by omega), show (w - 10 + 1).toNat = (w - 10).toNat + 1 by omega] at k; rw [e3]; exact k m2 ((f2.wd (by omega) (by omega)).tr f1) (by rw [f2 94 (by omega)]; exact z1)
    · refine aw_aload_n dX10_places_52 rfl rfl ?_
      refine aw_getR dX10_places_53 rfl fl_X10_44 g0 (by rfl) ?_
      refine aw_iconst dX10_places_56 rfl ?_
      refine aw_iconst dX10_places_57 rfl ?_
      refine aw_callV [_, _] _ dX10_places_58 rfl clv_X10_220 (by decide) ⟨Nat.zero_le _, Nat.zero_le _⟩ g90 (by rfl) (Nat.le_of_ble_eq_true rfl) rfl ?_
      refine sC_mostGood (fi := 0) (tk := fun _ => false) (taken := 0) (by omega) (by omega) (Nat.zero_le _) l1 (fun x hx => zbt_0 x) ?_
      refine aw_ireturn (ty := .int) dX10_places_61 rfl rfl ?_
      rw [if_pos (by omega)] at k; exact k m1 f1 z1
  have s5 : ∀ p : Int, (-2147483648 ≤ p ∧ p ≤ 2147483647) → (p = w - 10 ∨ (w - 10 < -2147483648 ∧ 1000 < p)) → AW Γ mX10_places (zF Γ zG Q) zG 0 0 5 [some (vR 0), some (vI c), some (vI w), some (vI p)] [] mem := by
    intro p hp he
    refine aw_iload_n dX10_places_5 rfl rfl ?_
    refine aw_if_lt (tgt := 30) dX10_places_6 (by decide) rfl (by omega) (fun c6 => ?_) (fun c6 => ?_)
    · refine aw_iconst dX10_places_30 rfl ?_
      refine aw_ireturn (ty := .int) dX10_places_31 rfl rfl ?_
      first | (rw [if_neg (by omega)] at k; exact k _ FrI.rf h0) | (rw [a2] at c24; rw [if_neg (by omega)] at k; exact k _ FrI.rf h0)
    · refine aw_iload_n dX10_places_9 rfl rfl ?_
      refine aw_bipush dX10_places_10 rfl (by decide) ?_
      refine aw_icmp_gt (tgt := 30) dX10_places_12 (by decide) rfl (by omega) (by omega) (fun c12 => ?_) (fun c12 => ?_)
      · refine aw_iconst dX10_places_30 rfl ?_
        refine aw_ireturn (ty := .int) dX10_places_31 rfl rfl ?_
        first | (rw [if_neg (by omega)] at k; exact k _ FrI.rf h0) | (rw [a2] at c24; rw [if_neg (by omega)] at k; exact k _ FrI.rf h0)
      · refine aw_iload_n dX10_places_15 rfl rfl ?_
        refine aw_if_eq (tgt := 32) dX10_places_16 (by decide) rfl (by omega) (fun c16 => ?_) (fun c16 => ?_)
        · first | exact s32 p ⟨by omega, Or.inl (by omega)⟩ (fun z => absurd (by omega) z) | exact s32 p ⟨by omega, Or.inr (by rw [a2] at c24; omega)⟩ (fun z => by rw [a2] at c24; omega)
        · refine aw_aload_n dX10_places_19 rfl rfl ?_
          refine aw_getR dX10_places_20 rfl fl_X10_12 g0 (by rfl) ?_
          refine aw_iload_n dX10_places_23 rfl rfl ?_
          refine aw_callV [_] _ dX10_places_24 rfl clv_X10_148 (by decide) ⟨Nat.zero_le _, Nat.zero_le _⟩ g1 (by rfl) (Nat.le_of_ble_eq_true rfl) rfl ?_
          refine sC_hasSpud E1 (by rw [a2]; exact w46) hp (fun c24 => ?_) (fun c24 => ?_)
          · refine aw_if_ne (tgt := 32) dX10_places_27 (by decide) rfl (by omega) (fun _ => ?_) (fun c => absurd c (by decide))
            first | exact s32 p ⟨by omega, Or.inl (by omega)⟩ (fun z => absurd (by omega) z) | exact s32 p ⟨by omega, Or.inr (by rw [a2] at c24; omega)⟩ (fun z => by rw [a2] at c24; omega)
          · refine aw_if_ne (tgt := 32) dX10_places_27 (by decide) rfl (by omega) (fun c => absurd c (by decide)) (fun _ => ?_)
            refine aw_iconst dX10_places_30 rfl ?_
            refine aw_ireturn (ty := .int) dX10_places_31 rfl rfl ?_
            first | (rw [if_neg (by omega)] at k; exact k _ FrI.rf h0) | (rw [a2] at c24; rw [if_neg (by omega)] at k; exact k _ FrI.rf h0)
  refine AMet.of' 1 (ls := [some (vR (0)), some (vI (c)), some (vI (w)), none]) (by decide) rfl (Nat.le_of_ble_eq_true rfl) ?_
  refine aw_iload_n dX10_places_0 rfl rfl ?_
  refine aw_bipush dX10_places_1 rfl (by decide) ?_
  refine aw_isub dX10_places_3 rfl ?_
  by_cases ov : -2147483648 ≤ w - 10
  · refine aw_istore3 rfl dX10_places_4 rfl (by decide) ?_
    exact s5 _ (by omega) (Or.inl rfl)
  · refine aw_wrap (a' := w - 10 + 4294967296) (by have := wr32 (c := w - 10 + 4294967296); rw [this]; congr 1; omega) ?_
    refine aw_istore3 rfl dX10_places_4 rfl (by decide) ?_
    exact s5 _ (by omega) (Or.inr ⟨by omega, by omega⟩)
end ZCmp20
