theorem so_trk {n : Int} {f : Int → Int} (w : Wf n f) {fall rim k : Int} (h1 : 0 ≤ fall ∧ fall ≤ 9) (h2 : 0 ≤ rim ∧ rim ≤ 9) (hk : 0 ≤ k ∧ k < f 96) : soC n f fall rim k ↔ trk (embS f (f (97 + 3 * k + 1))) (f (f (97 + 3 * k + 1))) (fall + (if f (97 + 3 * k + 1) / 3 = 0 ∨ f (97 + 3 * k + 1) / 3 = n - 1 then rim else 0)) (f (97 + 3 * k)).toNat = f (97 + 3 * k + 2) := by
  have hn := w.1
  have w26 := w.2.2.2.2.1
  obtain ⟨f1, f2, f3⟩ := w.2.2.2.2.2.2.2.2.2.2 k hk.1 hk.2
  have wg := Wf_25 (Wf_24 w h1) h2
  unfold soC
  rw [rounds_heat wg f2]
  have e1 : embS (fset (fset f 24 fall) 25 rim) (f (97 + 3 * k + 1)) = embS f (f (97 + 3 * k + 1)) := funext (fun r => embS_congr w26 (fun j j0 j1 => by rw [fset_ne (by omega), fset_ne (by omega)]))
  have e2 : fset (fset f 24 fall) 25 rim (f (97 + 3 * k + 1)) = f (f (97 + 3 * k + 1)) := by rw [fset_ne (by omega), fset_ne (by omega)]
  have e3 : lessF n (fset (fset f 24 fall) 25 rim) (f (97 + 3 * k + 1)) = fall + (if f (97 + 3 * k + 1) / 3 = 0 ∨ f (97 + 3 * k + 1) / 3 = n - 1 then rim else 0) := by
    unfold lessF
    rw [fset_ne (by decide), fset_same, fset_same]
  rw [e1, e2, e3]
theorem leastFrom_s (n : Int) (f : Int → Int) (p c : Int) (k d v : Nat) : leastFrom n f p c k (d + 1) v = (if isDoneF (leastRow n f c v k) p then (v : Int) else leastFrom n f p c k d (v + 1)) := rfl
section ZCmp16
variable {Γ : ZG} {mem : Mem} {Q : Option AV → Mem → Prop} {n : Int} {f : Int → Int}
theorem sC_least {p c : Int} (wf : Wf n f) (h : Ev mem 1 n f) (hp : -2147483648 ≤ p ∧ p ≤ 2147483647) (hc : -2147483648 ≤ c ∧ c ≤ 2147483647) (k : ∀ m' : Mem, FrI m' mem 88 90 → Q (some (vI (leastM n f p c))) m') : AMet Γ mX10_least [vR 0, vI p, vI c] zG mem Q := by
  have a2 : mem 1 2 = f 46 := h.2.1.1
  have w46 := wf.n46
  have hn := wf.1
  unfold leastM at k
  have s24 : (0 ≤ p ∧ p < f 46) ∧ (1 ≤ c ∧ c ≤ 20) → AW Γ mX10_least (zF Γ zG Q) zG 0 0 24 [some (vR 0), some (vI p), some (vI c), none, none] [] mem := by
    intro hz
    rw [if_pos hz] at k
    obtain ⟨q, rfl⟩ : ∃ q : Nat, p = q := ⟨p.toNat, by omega⟩
    obtain ⟨z, rfl⟩ : ∃ z : Nat, c = z := ⟨c.toNat, by omega⟩
    rw [Int.toNat_natCast] at k
    have gp := E1.2.2.2.2.2.2 q (by omega)
    have gp0 := gp
    unfold SpG at gp0
    have hsp := h.2.2.1 q hz.1.2
    have wsp := wf.sp hz.1.2
    have hpl : mem (1 + 10 + q) 2 = f (47 + 8 * (q : Int) + 2) := hsp.2.2.1
    have hwr : mem (1 + 10 + q) 1 = f (47 + 8 * (q : Int) + 1) := hsp.2.1
    have rwr := wsp.2.1
    have rpl := wsp.2.2.1
    have co := coF_r (f (47 + 8 * (q : Int) + 1))
    have loop : ¬ f (47 + 8 * (q : Int) + 2) = -4 → ∀ (d v : Nat) (m : Mem), v + d = 100 → FrI m mem 88 90 → leastFrom n f q (f (47 + 8 * (q : Int) + 2) / 3) z 100 0 = leastFrom n f q (f (47 + 8 * (q : Int) + 2) / 3) z d v → AW Γ mX10_least (zF Γ zG Q) zG 0 0 49 [some (vR 0), some (vI q), some (vI z), some (vR (1 + 10 + q)), some (vI v)] [] m := by
      intro hne d
      rw [if_neg hne] at k
      have hx : 0 ≤ f (47 + 8 * (q : Int) + 2) ∧ f (47 + 8 * (q : Int) + 2) < 3 * n := by omega
      have rl := lessF_rng (n := n) (f := f) wf.2.2.1 wf.2.2.2.1 (f (47 + 8 * (q : Int) + 2))
      have rh := wf.2.1 (f (47 + 8 * (q : Int) + 2)) (by omega) (by omega)
      induction d with
      | zero =>
        intro v m hv hF e
        rw [e] at k
        refine aw_iload dX10_least_49 rfl rfl ?_
        refine aw_bipush dX10_least_51 rfl (by decide) ?_
        refine aw_icmp_gt (tgt := 152) dX10_least_53 (by decide) rfl (by omega) (by omega) (fun c53 => ?_) (fun c53 => ?_)
        · refine aw_bipush dX10_least_152 rfl (by decide) ?_
          refine aw_ireturn (ty := .int) dX10_least_154 rfl rfl ?_
          exact k m hF
        · exfalso; omega
      | succ d ih =>
        intro v m hv hF e
        rw [leastFrom_s n f q _ z d v] at e
        have hev : Ev m 1 n f := h.keep w46.2 (fun d d0 d1 => hF d (by omega))
        have ld := least_done wf hz.1.2 hne (v := (v : Int)) (by omega) z
        have sr := shr_rng (v := (v : Int)) (x := f (47 + 8 * (q : Int) + 2)) (by omega)
        have ms : ∀ m' : Mem, FrI m' m 88 90 → m' (1 + 10 + q) = mem (1 + 10 + q) := fun m' hf => by rw [hf _ (by omega)]; exact hF _ (by omega)
        have mp : ∀ m' : Mem, FrI m' m 88 90 → m' (1 + 10 + q) 2 = f (47 + 8 * (q : Int) + 2) := fun m' hf => by rw [ms m' hf]; exact hpl
        have mw : ∀ m' : Mem, FrI m' m 88 90 → m' (1 + 10 + q) 1 = f (47 + 8 * (q : Int) + 1) := fun m' hf => by rw [ms m' hf]; exact hwr
        have h20 : ∀ m' : Mem, FrI m' m 88 90 → m' 2 0 = n := fun m' hf => by rw [hf 2 (by omega)]; exact hev.1.1
        refine aw_iload dX10_least_49 rfl rfl ?_
        refine aw_bipush dX10_least_51 rfl (by decide) ?_
        refine aw_icmp_gt (tgt := 152) dX10_least_53 (by decide) rfl (by omega) (by omega) (fun c53 => ?_) (fun c53 => ?_)
        · exfalso; omega
        · refine aw_aload_n dX10_least_56 rfl rfl ?_
          refine aw_getR dX10_least_57 rfl fl_X10_37 g0 (by rfl) ?_
          refine aw_aload_n dX10_least_60 rfl rfl ?_
          refine aw_getR dX10_least_61 rfl fl_X10_12 g0 (by rfl) ?_
          refine aw_getR dX10_least_64 rfl fl_X10_105 g1 (by rfl) ?_
          refine aw_aload_n dX10_least_67 rfl rfl ?_
          refine aw_getI (kI := 2) dX10_least_68 rfl fl_X10_181 (by first | assumption | rfl) (by rfl) rfl ?_
          rw [mp m FrI.rf]
          refine aw_callV [_, _] _ dX10_least_71 rfl clv_X10_248 (by decide) ⟨Nat.zero_le _, Nat.zero_le _⟩ g87 (by rfl) (Nat.le_of_ble_eq_true rfl) rfl ?_
          refine sC_gatherEmbers wf hev.1 (by omega) (fun m1 f1 e1 => ?_)
          have F1 : FrI m1 m 88 90 := f1.wd (by omega) (by omega)
          refine aw_aload_n dX10_least_74 rfl rfl ?_
          refine aw_getR dX10_least_75 rfl fl_X10_37 g0 (by rfl) ?_
          refine aw_iload dX10_least_78 rfl rfl ?_
          refine aw_aload_n dX10_least_80 rfl rfl ?_
          refine aw_getI (kI := 2) dX10_least_81 rfl fl_X10_181 (by first | assumption | rfl) (by rfl) rfl ?_
          rw [mp m1 F1]
          refine aw_iconst dX10_least_84 rfl ?_
          refine aw_callV [_, _, _] _ dX10_least_85 rfl clv_X10_252 (by decide) ⟨Nat.zero_le _, Nat.zero_le _⟩ g87 (by rfl) (Nat.le_of_ble_eq_true rfl) rfl ?_
          refine sC_addEmber (by omega) (by omega) (by omega) ?_
          have F2 : FrI (mset m1 89 1 (m1 89 1 + shr (v : Int) (f (47 + 8 * (q : Int) + 2)))) m 88 90 := F1.set (by decide)
          have e2 : ∀ r : Int, 0 ≤ r → r < 10 → (mset m1 89 1 (m1 89 1 + shr (v : Int) (f (47 + 8 * (q : Int) + 2)))) 89 r = embS f (f (47 + 8 * (q : Int) + 2)) r + (if r = 1 then shr (v : Int) (f (47 + 8 * (q : Int) + 2)) else 0) := by
            intro r r0 r1
            rw [mset_same]
            by_cases er : r = 1
            · subst er
              rw [fset_same, if_pos rfl, e1 1 (by omega) (by omega)]
            · rw [fset_ne er, if_neg er, Int.add_zero]
              exact e1 r r0 r1
          generalize mset m1 89 1 (m1 89 1 + shr (v : Int) (f (47 + 8 * (q : Int) + 2))) = m2 at F2 e2 ⊢
          have q3 : m2 3 (f (47 + 8 * (q : Int) + 2)) = f (f (47 + 8 * (q : Int) + 2)) := by rw [F2 3 (by omega)]; exact hev.1.2.2.2.2.1 _ (by omega) (by omega)
          have q21 : m2 2 1 = f 24 := by rw [F2 2 (by omega)]; exact hev.1.2.1
          have q22 : m2 2 2 = f 25 := by rw [F2 2 (by omega)]; exact hev.1.2.2.1
          refine aw_aload_n dX10_least_88 rfl rfl ?_
          refine aw_getR dX10_least_89 rfl fl_X10_37 g0 (by rfl) ?_
          refine aw_aload_n dX10_least_92 rfl rfl ?_
          refine aw_getR dX10_least_93 rfl fl_X10_12 g0 (by rfl) ?_
          refine aw_getR dX10_least_96 rfl fl_X10_105 g1 (by rfl) ?_
          refine aw_aload_n dX10_least_99 rfl rfl ?_
          refine aw_getI (kI := 2) dX10_least_100 rfl fl_X10_181 (by first | assumption | rfl) (by rfl) rfl ?_
          rw [mp m2 F2]
          refine aw_callV [_] _ dX10_least_103 rfl clv_X10_256 (by decide) ⟨Nat.zero_le _, Nat.zero_le _⟩ g2 (by rfl) (Nat.le_of_ble_eq_true rfl) rfl ?_
          refine sC_heatAt E1.2.1 (by show 3 ≤ m2 2 0 ∧ m2 2 0 ≤ 8; rw [h20 m2 F2]; exact hn) (by omega) ?_
          have eh : (if 0 ≤ f (47 + 8 * (q : Int) + 2) ∧ f (47 + 8 * (q : Int) + 2) < 3 * m2 (1 + 1) 0 then m2 (1 + 1 + 1) (f (47 + 8 * (q : Int) + 2)) else 0) = f (f (47 + 8 * (q : Int) + 2)) := by
            show (if 0 ≤ f (47 + 8 * (q : Int) + 2) ∧ f (47 + 8 * (q : Int) + 2) < 3 * m2 2 0 then m2 3 (f (47 + 8 * (q : Int) + 2)) else 0) = _
            rw [h20 m2 F2, if_pos hx, q3]
          rw [eh]
          refine aw_aload_n dX10_least_106 rfl rfl ?_
          refine aw_getR dX10_least_107 rfl fl_X10_12 g0 (by rfl) ?_
          refine aw_getR dX10_least_110 rfl fl_X10_105 g1 (by rfl) ?_
          refine aw_aload_n dX10_least_113 rfl rfl ?_
          refine aw_getI (kI := 2) dX10_least_114 rfl fl_X10_181 (by first | assumption | rfl) (by rfl) rfl ?_
          rw [mp m2 F2]
          refine aw_callV [_] _ dX10_least_117 rfl clv_X10_259 (by decide) ⟨Nat.zero_le _, Nat.zero_le _⟩ g2 (by rfl) (Nat.le_of_ble_eq_true rfl) rfl ?_
          refine sC_lossAt E1.2.1 (by show 3 ≤ m2 2 0 ∧ m2 2 0 ≤ 8; rw [h20 m2 F2]; exact hn) (by omega) ?_
          have el : m2 (1 + 1) 1 + (if f (47 + 8 * (q : Int) + 2) / 3 = 0 ∨ f (47 + 8 * (q : Int) + 2) / 3 = m2 (1 + 1) 0 - 1 then m2 (1 + 1) 2 else 0) = lessF n f (f (47 + 8 * (q : Int) + 2)) := by
            show m2 2 1 + (if f (47 + 8 * (q : Int) + 2) / 3 = 0 ∨ f (47 + 8 * (q : Int) + 2) / 3 = m2 2 0 - 1 then m2 2 2 else 0) = _
            rw [h20 m2 F2, q21, q22]; rfl
          rw [el]
          refine aw_iload_n dX10_least_120 rfl rfl ?_
          refine aw_callV [_, _, _] _ dX10_least_121 rfl clv_X10_262 (by decide) ⟨Nat.zero_le _, Nat.zero_le _⟩ g87 (by rfl) (Nat.le_of_ble_eq_true rfl) rfl ?_
          refine sC_follow rh (by omega) (by omega) (fun r r0 r1 => by rw [e2 r r0 r1]; have := embS_rng wf (f (47 + 8 * (q : Int) + 2)) r; split <;> omega) (fun m3 f3 e3 => ?_)
          have F3 : FrI m3 m 88 90 := (f3.wd (by omega) (by omega)).tr F2
          have e4 : ∀ r : Nat, (r : Int) ≤ z → m3 88 r = trk (fun r => embS f (f (47 + 8 * (q : Int) + 2)) r + (if r = 1 then shr (v : Int) (f (47 + 8 * (q : Int) + 2)) else 0)) (f (f (47 + 8 * (q : Int) + 2))) (lessF n f (f (47 + 8 * (q : Int) + 2))) r := by
            intro r hr
            rw [e3 r hr]
            refine trk_congr r (fun s s0 s1 => ?_)
            by_cases es : s < 10
            · rw [if_pos es]; exact e2 s (by omega) es
            · rw [if_neg es, embS_big wf (Or.inl (by omega)), if_neg (by omega)]; rfl
          have tr := fun r => trk_rng (E := fun r => embS f (f (47 + 8 * (q : Int) + 2)) r + (if r = 1 then shr (v : Int) (f (47 + 8 * (q : Int) + 2)) else 0)) (l := lessF n f (f (47 + 8 * (q : Int) + 2))) rh rl.1 r
          have gn := gain_nonneg (q := coF (f (47 + 8 * (q : Int) + 1))) (by omega) (fun r => (tr r).1) z
          have gl := gain_le (q := coF (f (47 + 8 * (q : Int) + 1))) (by omega) tr z
          have hspc : SpC (m3 (1 + 10 + q)) := by rw [ms m3 F3]; exact hsp.c hn wsp
          obtain ⟨y0, y1, y2, y3, y4, y5, y6⟩ := id hsp
          have dd : dnC (m3 (1 + 10 + q)) (gain (trk (fun r => embS f (f (47 + 8 * (q : Int) + 2)) r + (if r = 1 then shr (v : Int) (f (47 + 8 * (q : Int) + 2)) else 0)) (f (f (47 + 8 * (q : Int) + 2))) (lessF n f (f (47 + 8 * (q : Int) + 2)))) (coF (f (47 + 8 * (q : Int) + 1))) z) ↔ isDoneF (leastRow n f (f (47 + 8 * (q : Int) + 2) / 3) v z) q := by
            rw [ld, ms m3 F3]
            unfold dnC
            rw [y0, y3]
          refine aw_aload_n dX10_least_124 rfl rfl ?_
          refine aw_aload_n dX10_least_125 rfl rfl ?_
          refine aw_getR dX10_least_126 rfl fl_X10_37 g0 (by rfl) ?_
          refine aw_aload_n dX10_least_129 rfl rfl ?_
          refine aw_getI (kI := 1) dX10_least_130 rfl fl_X10_190 (by first | assumption | rfl) (by rfl) rfl ?_
          rw [mw m3 F3]
          refine aw_iload_n dX10_least_133 rfl rfl ?_
          refine aw_callV [_, _] _ dX10_least_134 rfl clv_X10_238 (by decide) ⟨Nat.zero_le _, Nat.zero_le _⟩ g87 (by rfl) (Nat.le_of_ble_eq_true rfl) rfl ?_
          refine sC_coreGain rwr (by omega) (fun r hr => by rw [e4 r (by omega)]; exact tr r) ?_
          rw [Int.toNat_natCast, gain_congr z (fun r hr => e4 r (by omega))]
          refine aw_callV [_] _ dX10_least_137 rfl clv_X10_265 (by decide) ⟨Nat.zero_le _, Nat.zero_le _⟩ (by first | assumption | rfl) (by rfl) (Nat.le_of_ble_eq_true rfl) rfl ?_
          refine sC_wouldBeDone gp hspc (by omega) (fun c137 => ?_) (fun c137 => ?_)
          · refine aw_if_eq (tgt := 146) dX10_least_140 (by decide) rfl (by omega) (fun c => absurd c (by decide)) (fun _ => ?_)
            refine aw_iload dX10_least_143 rfl rfl ?_
            refine aw_ireturn (ty := .int) dX10_least_145 rfl rfl ?_
            rw [if_pos (dd.mp c137)] at e; rw [e] at k; exact k m3 (F3.tr hF)
          · refine aw_if_eq (tgt := 146) dX10_least_140 (by decide) rfl (by omega) (fun _ => ?_) (fun c => absurd c (by decide))
            refine aw_iinc4 rfl dX10_least_146 rfl (by decide) ?_
            refine aw_goto (tgt := 49) dX10_least_149 (by decide) ?_
            rw [if_neg (fun y => c137 (dd.mpr y))] at e
            exact ih (v + 1) m3 (by omega) (F3.tr hF) e
    refine aw_aload_n dX10_least_24 rfl rfl ?_
    refine aw_getR dX10_least_25 rfl fl_X10_12 g0 (by rfl) ?_
    refine aw_getR dX10_least_28 rfl fl_X10_151 g1 (by rfl) ?_
    refine aw_iload_n dX10_least_31 rfl rfl ?_
    refine aw_aaload dX10_least_32 rfl g7 six_len (by omega) (six_getN (b := 1) (by omega)) ?_
    refine aw_astore3 rfl dX10_least_33 rfl (by decide) ?_
    refine aw_aload_n dX10_least_34 rfl rfl ?_
    refine aw_getI (kI := 2) dX10_least_35 rfl fl_X10_181 (by first | assumption | rfl) (by rfl) rfl ?_
    rw [hpl]
    refine aw_bipush dX10_least_38 rfl (by decide) ?_
    refine aw_icmp_ne (tgt := 46) dX10_least_40 (by decide) rfl (by omega) (by omega) (fun c40 => ?_) (fun c40 => ?_)
    · refine aw_iconst dX10_least_46 rfl ?_
      refine aw_istore4 rfl dX10_least_47 rfl (by decide) ?_
      exact loop c40 100 0 mem (by omega) FrI.rf rfl
    · refine aw_bipush dX10_least_43 rfl (by decide) ?_
      refine aw_ireturn (ty := .int) dX10_least_45 rfl rfl ?_
      rw [if_pos (by omega)] at k; exact k _ FrI.rf
  refine AMet.of' 2 (ls := [some (vR (0)), some (vI (p)), some (vI (c)), none, none]) (by decide) rfl (Nat.le_of_ble_eq_true rfl) ?_
  refine aw_aload_n dX10_least_0 rfl rfl ?_
  refine aw_getR dX10_least_1 rfl fl_X10_12 g0 (by rfl) ?_
  refine aw_iload_n dX10_least_4 rfl rfl ?_
  refine aw_callV [_] _ dX10_least_5 rfl clv_X10_148 (by decide) ⟨Nat.zero_le _, Nat.zero_le _⟩ g1 (by rfl) (Nat.le_of_ble_eq_true rfl) rfl ?_
  refine sC_hasSpud E1 (by rw [a2]; exact w46) hp (fun c5 => ?_) (fun c5 => ?_)
  · refine aw_if_eq (tgt := 22) dX10_least_8 (by decide) rfl (by omega) (fun c => absurd c (by decide)) (fun _ => ?_)
    refine aw_iload_n dX10_least_11 rfl rfl ?_
    refine aw_iconst dX10_least_12 rfl ?_
    refine aw_icmp_lt (tgt := 22) dX10_least_13 (by decide) rfl (by omega) (by omega) (fun c13 => ?_) (fun c13 => ?_)
    · refine aw_iconst dX10_least_22 rfl ?_
      refine aw_ireturn (ty := .int) dX10_least_23 rfl rfl ?_
      rw [a2] at c5; rw [if_neg (by omega)] at k; exact k _ FrI.rf
    · refine aw_iload_n dX10_least_16 rfl rfl ?_
      refine aw_bipush dX10_least_17 rfl (by decide) ?_
      refine aw_icmp_le (tgt := 24) dX10_least_19 (by decide) rfl (by omega) (by omega) (fun c19 => ?_) (fun c19 => ?_)
      · exact s24 (by rw [a2] at c5; omega)
      · refine aw_iconst dX10_least_22 rfl ?_
        refine aw_ireturn (ty := .int) dX10_least_23 rfl rfl ?_
        rw [a2] at c5; rw [if_neg (by omega)] at k; exact k _ FrI.rf
  · refine aw_if_eq (tgt := 22) dX10_least_8 (by decide) rfl (by omega) (fun _ => ?_) (fun c => absurd c (by decide))
    refine aw_iconst dX10_least_22 rfl ?_
    refine aw_ireturn (ty := .int) dX10_least_23 rfl rfl ?_
    rw [a2] at c5; rw [if_neg (by omega)] at k; exact k _ FrI.rf
theorem sC_sift {b : Int} (hb : 0 ≤ b ∧ b ≤ 1) (h5 : ∀ x : Int, 0 ≤ x → x < 100 → 0 ≤ mem 105 x ∧ mem 105 x ≤ 1) (h6 : ∀ x : Int, 0 ≤ x → x < 19 → 0 ≤ mem 106 x ∧ mem 106 x ≤ 1) (k : ∀ m' : Mem, FrI m' mem 105 106 → (∀ x : Int, 0 ≤ x → x < 100 → m' 105 x = if ¬ mem 105 x = 0 ∧ ¬ mem 106 (x / 10 + (if b = 0 then 0 else x % 10)) = 0 then 1 else 0) → Q none m') : AMet Γ mX1_sift [vR 104, vI b] zG mem Q := by
  have loop : ∀ (d i : Nat) (m : Mem) (x3 : Option AV), i + d = 100 → FrI m mem 105 106 → (∀ x : Int, 0 ≤ x → x < i → m 105 x = if ¬ mem 105 x = 0 ∧ ¬ mem 106 (x / 10 + (if b = 0 then 0 else x % 10)) = 0 then 1 else 0) → (∀ x : Int, (i : Int) ≤ x → x < 100 → m 105 x = mem 105 x) → AW Γ mX1_sift (zF Γ zG Q) zG 0 0 2 [some (vR 104), some (vI b), some (vI i), x3] [] m := by
    intro d
    induction d with
    | zero =>
      intro i m x3 hi hF hlo hhi
      refine aw_iload_n dX1_sift_2 rfl rfl ?_
      refine aw_aload_n dX1_sift_3 rfl rfl ?_
      refine aw_getR dX1_sift_4 rfl fl_X1_9 (by first | assumption | rfl) (by rfl) ?_
      refine aw_alenI dX1_sift_7 rfl (by first | assumption | rfl) ?_
      refine aw_icmp_ge (tgt := 64) dX1_sift_8 (by decide) rfl (by omega) (by omega) (fun c8 => ?_) (fun c8 => ?_)
      · refine aw_return dX1_sift_64 rfl ?_
        exact k m hF (fun x x0 x1 => hlo x x0 (by omega))
      · exfalso; omega
    | succ d ih =>
      intro i m x3 hi hF hlo hhi
      have m6 : m 106 = mem 106 := hF 106 (by omega)
      have mi := hhi i (by omega) (by omega)
      have ri := h5 i (by omega) (by omega)
      have nx : ∀ (v : Int) (x3 : Option AV), v = (if ¬ mem 105 i = 0 ∧ ¬ mem 106 ((i : Int) / 10 + (if b = 0 then 0 else (i : Int) % 10)) = 0 then 1 else 0) → (0 ≤ v ∧ v ≤ 1) → AW Γ mX1_sift (zF Γ zG Q) zG 0 0 57 [some (vR 104), some (vI b), some (vI i), x3] [vI v, vI i, vR 105] m := by
        intro v x3 hv rv
        refine aw_zastore dX1_sift_57 rfl g105 (by omega) (by omega) (by omega) ?_
        refine aw_iinc2 rfl dX1_sift_58 rfl (by decide) ?_
        refine aw_goto (tgt := 2) dX1_sift_61 (by decide) ?_
        refine ih (i + 1) _ _ (by omega) (hF.set (by decide)) (fun x x0 x1 => ?_) (fun x x0 x1 => ?_)
        · rw [mset_same]
          by_cases e : x = i
          · subst e
            rw [fset_same, hv]
          · rw [fset_ne e]
            exact hlo x x0 (by push_cast at x1; omega)
        · push_cast at x0
          rw [mset_same, fset_ne (by omega)]
          exact hhi x (by omega) x1
      have s28 : ∀ l : Int, l = (i : Int) / 10 + (if b = 0 then 0 else (i : Int) % 10) → (0 ≤ l ∧ l < 19) → AW Γ mX1_sift (zF Γ zG Q) zG 0 0 28 [some (vR 104), some (vI b), some (vI i), x3] [vI l] m := by
        intro l hl rl
        have rl6 := h6 l rl.1 rl.2
        refine aw_istore3 rfl dX1_sift_28 rfl (by decide) ?_
        refine aw_aload_n dX1_sift_29 rfl rfl ?_
        refine aw_getR dX1_sift_30 rfl fl_X1_9 (by first | assumption | rfl) (by rfl) ?_
        refine aw_iload_n dX1_sift_33 rfl rfl ?_
        refine aw_aload_n dX1_sift_34 rfl rfl ?_
        refine aw_getR dX1_sift_35 rfl fl_X1_9 (by first | assumption | rfl) (by rfl) ?_
        refine aw_iload_n dX1_sift_38 rfl rfl ?_
        refine aw_zaload dX1_sift_39 rfl (by first | assumption | rfl) (by decide) (by omega) ?_
        rw [mi]
        refine aw_if_eq (tgt := 56) dX1_sift_40 (by decide) rfl (by omega) (fun c40 => ?_) (fun c40 => ?_)
        · refine aw_iconst dX1_sift_56 rfl ?_
          first | exact nx 1 _ (by rw [← hl, if_pos ⟨by omega, by omega⟩]) (by omega) | exact nx 0 _ (by rw [← hl, if_neg (fun z => by have h1 := z.1; have h2 := z.2; omega)]) (by omega)
        · refine aw_aload_n dX1_sift_43 rfl rfl ?_
          refine aw_getR dX1_sift_44 rfl fl_X1_15 (by first | assumption | rfl) (by rfl) ?_
          refine aw_iload_n dX1_sift_47 rfl rfl ?_
          refine aw_zaload dX1_sift_48 rfl (by first | assumption | rfl) (by decide) (by omega) ?_
          rw [m6]
          refine aw_if_eq (tgt := 56) dX1_sift_49 (by decide) rfl (by omega) (fun c49 => ?_) (fun c49 => ?_)
          · refine aw_iconst dX1_sift_56 rfl ?_
            first | exact nx 1 _ (by rw [← hl, if_pos ⟨by omega, by omega⟩]) (by omega) | exact nx 0 _ (by rw [← hl, if_neg (fun z => by have h1 := z.1; have h2 := z.2; omega)]) (by omega)
          · refine aw_iconst dX1_sift_52 rfl ?_
            refine aw_goto (tgt := 57) dX1_sift_53 (by decide) ?_
            first | exact nx 1 _ (by rw [← hl, if_pos ⟨by omega, by omega⟩]) (by omega) | exact nx 0 _ (by rw [← hl, if_neg (fun z => by have h1 := z.1; have h2 := z.2; omega)]) (by omega)
      refine aw_iload_n dX1_sift_2 rfl rfl ?_
      refine aw_aload_n dX1_sift_3 rfl rfl ?_
      refine aw_getR dX1_sift_4 rfl fl_X1_9 (by first | assumption | rfl) (by rfl) ?_
      refine aw_alenI dX1_sift_7 rfl (by first | assumption | rfl) ?_
      refine aw_icmp_ge (tgt := 64) dX1_sift_8 (by decide) rfl (by omega) (by omega) (fun c8 => ?_) (fun c8 => ?_)
      · exfalso; omega
      · refine aw_iload_n dX1_sift_11 rfl rfl ?_
        refine aw_bipush dX1_sift_12 rfl (by decide) ?_
        refine aw_idiv dX1_sift_14 rfl (by omega) (by omega) ?_
        refine aw_iload_n dX1_sift_15 rfl rfl ?_
        refine aw_if_eq (tgt := 26) dX1_sift_16 (by decide) rfl (by omega) (fun c16 => ?_) (fun c16 => ?_)
        · refine aw_iconst dX1_sift_26 rfl ?_
          refine aw_iadd dX1_sift_27 rfl ?_
          first | exact s28 _ (by rw [if_neg (by omega)]) (by omega) | exact s28 _ (by rw [if_pos (by omega)]) (by omega)
        · refine aw_iload_n dX1_sift_19 rfl rfl ?_
          refine aw_bipush dX1_sift_20 rfl (by decide) ?_
          refine aw_irem dX1_sift_22 rfl (by omega) (by omega) ?_
          refine aw_goto (tgt := 27) dX1_sift_23 (by decide) ?_
          refine aw_iadd dX1_sift_27 rfl ?_
          first | exact s28 _ (by rw [if_neg (by omega)]) (by omega) | exact s28 _ (by rw [if_pos (by omega)]) (by omega)
  refine AMet.of' 2 (ls := [some (vR (104)), some (vI (b)), none, none]) (by decide) rfl (Nat.le_of_ble_eq_true rfl) ?_
  refine aw_iconst dX1_sift_0 rfl ?_
  refine aw_istore2 rfl dX1_sift_1 rfl (by decide) ?_
  exact loop 100 0 mem none (by omega) FrI.rf (fun x x0 x1 => by omega) (fun x _ _ => rfl)
theorem sC_sumUp (h5 : ∀ c : Nat, c < 100 → (mem 105 c = 1 ∧ soB n f ((c : Int) / 10) ((c : Int) % 10) = true) ∨ (mem 105 c = 0 ∧ ¬ soB n f ((c : Int) / 10) ((c : Int) % 10) = true)) (k : ∀ m' : Mem, FrI m' mem 104 105 → m' 104 2 = (fitAt n f 100).1 → m' 104 3 = (fitAt n f 100).2.1 → m' 104 4 = (fitAt n f 100).2.2 → Q none m') : AMet Γ mX1_sumUp [vR 104] zG mem Q := by
  have loop : ∀ (d i : Nat) (m : Mem), i + d = 100 → FrI m mem 104 105 → m 104 2 = (fitAt n f i).1 → m 104 3 = (fitAt n f i).2.1 → m 104 4 = (fitAt n f i).2.2 → AW Γ mX1_sumUp (zF Γ zG Q) zG 0 0 19 [some (vR 104), some (vI i)] [] m := by
    intro d
    induction d with
    | zero =>
      intro i m hi hF e2 e3 e4
      obtain rfl : i = 100 := by omega
      refine aw_iload_n dX1_sumUp_19 rfl rfl ?_
      refine aw_aload_n dX1_sumUp_20 rfl rfl ?_
      refine aw_getR dX1_sumUp_21 rfl fl_X1_9 (by first | assumption | rfl) (by rfl) ?_
      refine aw_alenI dX1_sumUp_24 rfl (by first | assumption | rfl) ?_
      refine aw_icmp_ge (tgt := 77) dX1_sumUp_25 (by decide) rfl (by omega) (by omega) (fun c25 => ?_) (fun c25 => ?_)
      · refine aw_return dX1_sumUp_77 rfl ?_
        exact k m hF e2 e3 e4
      · exfalso; omega
    | succ d ih =>
      intro i m hi hF e2 e3 e4
      have m5 : m 105 = mem 105 := hF 105 (by omega)
      have h5i := h5 i (by omega)
      have fr := fitAt_rng n f i
      have ihn := fun m => ih (i + 1) m (by omega)
      rw [fitAt] at ihn
      have s53 : ∀ l : Int, mem 105 i = 1 → l = (if (fitAt n f i).1 = 0 then (i : Int) else (fitAt n f i).2.1) → AW Γ mX1_sumUp (zF Γ zG Q) zG 0 0 53 [some (vR 104), some (vI i)] [vI l, vR 104] m := by
        intro l h1 hl
        have so : soB n f ((i : Int) / 10) ((i : Int) % 10) = true := by
          rcases h5i with z | z
          · exact z.2
          · omega
        rw [if_pos so] at ihn
        have f2 : (mset (mset m 104 3 l) 104 4 (i : Int)) 104 2 = (fitAt n f i).1 := by rw [mset_same, fset_ne (by decide), mset_same, fset_ne (by decide)]; exact e2
        refine aw_putI (kI := 3) dX1_sumUp_53 rfl fp_X1_77 (by first | assumption | rfl) (by rfl) rfl ?_
        refine aw_aload_n dX1_sumUp_56 rfl rfl ?_
        refine aw_iload_n dX1_sumUp_57 rfl rfl ?_
        refine aw_putI (kI := 4) dX1_sumUp_58 rfl fp_X1_80 (by first | assumption | rfl) (by rfl) rfl ?_
        refine aw_aload_n dX1_sumUp_61 rfl rfl ?_
        refine aw_dup dX1_sumUp_62 rfl rfl ?_
        refine aw_getI (kI := 2) dX1_sumUp_63 rfl fl_X1_74 (by first | assumption | rfl) (by rfl) rfl ?_
        rw [f2]
        refine aw_iconst dX1_sumUp_66 rfl ?_
        refine aw_iadd dX1_sumUp_67 rfl ?_
        refine aw_putI (kI := 2) dX1_sumUp_68 rfl fp_X1_74 (by first | assumption | rfl) (by rfl) rfl ?_
        refine aw_iinc1 rfl dX1_sumUp_71 rfl (by decide) ?_
        refine aw_goto (tgt := 19) dX1_sumUp_74 (by decide) ?_
        refine ihn _ (((hF.set (by decide)).set (by decide)).set (by decide)) ?_ ?_ ?_
        · rfl
        · rw [mset_same, fset_ne (by decide), mset_same, fset_ne (by decide), mset_same, fset_same]; exact hl
        · rfl
      refine aw_iload_n dX1_sumUp_19 rfl rfl ?_
      refine aw_aload_n dX1_sumUp_20 rfl rfl ?_
      refine aw_getR dX1_sumUp_21 rfl fl_X1_9 (by first | assumption | rfl) (by rfl) ?_
      refine aw_alenI dX1_sumUp_24 rfl (by first | assumption | rfl) ?_
      refine aw_icmp_ge (tgt := 77) dX1_sumUp_25 (by decide) rfl (by omega) (by omega) (fun c25 => ?_) (fun c25 => ?_)
      · exfalso; omega
      · refine aw_aload_n dX1_sumUp_28 rfl rfl ?_
        refine aw_getR dX1_sumUp_29 rfl fl_X1_9 (by first | assumption | rfl) (by rfl) ?_
        refine aw_iload_n dX1_sumUp_32 rfl rfl ?_
        refine aw_zaload dX1_sumUp_33 rfl (by first | assumption | rfl) (by decide) (by omega) ?_
        rw [m5]
        refine aw_if_eq (tgt := 71) dX1_sumUp_34 (by decide) rfl (by omega) (fun c34 => ?_) (fun c34 => ?_)
        · have so : ¬ soB n f ((i : Int) / 10) ((i : Int) % 10) = true := by
            rcases h5i with z | z
            · omega
            · exact z.2
          rw [if_neg so] at ihn
          refine aw_iinc1 rfl dX1_sumUp_71 rfl (by decide) ?_
          refine aw_goto (tgt := 19) dX1_sumUp_74 (by decide) ?_
          exact ihn m hF e2 e3 e4
        · refine aw_aload_n dX1_sumUp_37 rfl rfl ?_
          refine aw_aload_n dX1_sumUp_38 rfl rfl ?_
          refine aw_getI (kI := 2) dX1_sumUp_39 rfl fl_X1_74 (by first | assumption | rfl) (by rfl) rfl ?_
          rw [e2]
          refine aw_if_ne (tgt := 49) dX1_sumUp_42 (by decide) rfl (by omega) (fun c42 => ?_) (fun c42 => ?_)
          · refine aw_aload_n dX1_sumUp_49 rfl rfl ?_
            refine aw_getI (kI := 3) dX1_sumUp_50 rfl fl_X1_77 (by first | assumption | rfl) (by rfl) rfl ?_
            first | exact s53 _ (by omega) (by rw [if_pos (by omega)]) | (rw [e3]; exact s53 _ (by omega) (by rw [if_neg (by omega)]))
          · refine aw_iload_n dX1_sumUp_45 rfl rfl ?_
            refine aw_goto (tgt := 53) dX1_sumUp_46 (by decide) ?_
            first | exact s53 _ (by omega) (by rw [if_pos (by omega)]) | (rw [e3]; exact s53 _ (by omega) (by rw [if_neg (by omega)]))
  refine AMet.of' 1 (ls := [some (vR (104)), none]) (by decide) rfl (Nat.le_of_ble_eq_true rfl) ?_
  refine aw_aload_n dX1_sumUp_0 rfl rfl ?_
  refine aw_iconst dX1_sumUp_1 rfl ?_
  refine aw_putI (kI := 2) dX1_sumUp_2 rfl fp_X1_74 (by first | assumption | rfl) (by rfl) rfl ?_
  refine aw_aload_n dX1_sumUp_5 rfl rfl ?_
  refine aw_bipush dX1_sumUp_6 rfl (by decide) ?_
  refine aw_putI (kI := 3) dX1_sumUp_8 rfl fp_X1_77 (by first | assumption | rfl) (by rfl) rfl ?_
  refine aw_aload_n dX1_sumUp_11 rfl rfl ?_
  refine aw_bipush dX1_sumUp_12 rfl (by decide) ?_
  refine aw_putI (kI := 4) dX1_sumUp_14 rfl fp_X1_80 (by first | assumption | rfl) (by rfl) rfl ?_
  refine aw_iconst dX1_sumUp_17 rfl ?_
  refine aw_istore1 rfl dX1_sumUp_18 rfl (by decide) ?_
  exact loop 100 0 _ (by omega) (((FrI.rf.set (by decide)).set (by decide)).set (by decide)) rfl rfl rfl
end ZCmp16
