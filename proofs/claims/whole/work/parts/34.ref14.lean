def flipFrom (n : Int) (f : Int → Int) (p : Int) (c : Nat) : Nat → Nat → Int
  | 0, _ => -4
  | d + 1, i => if isGoodF (roundsF n (c - i) (turnF (roundsF n i f) p)) p then (i : Int) else flipFrom n f p c d (i + 1)
def flipM (n : Int) (f : Int → Int) (p c : Int) : Int := if (0 ≤ p ∧ p < f 46) ∧ (1 ≤ c ∧ c ≤ 20) then flipFrom n f p c.toNat c.toNat 0 else -1
/-- rounds of which the first has more embers, v in cell c; ROUND stays -/
def round0 (n : Int) (f : Int → Int) : Int → Int := coolF n (burnF (bakeTo (f 46).toNat f))
def roundE (n : Int) (f : Int → Int) (c v : Int) : Int → Int := coolF n (emberF c v (burnF (bakeTo (f 46).toNat f)))
def leastRow (n : Int) (f : Int → Int) (c v : Int) : Nat → Int → Int
  | 0 => f
  | 1 => roundE n f c v
  | k + 2 => round0 n (leastRow n f c v (k + 1))
def leastFrom (n : Int) (f : Int → Int) (p c : Int) (k : Nat) : Nat → Nat → Int
  | 0, _ => -4
  | d + 1, v => if isDoneF (leastRow n f c v k) p then (v : Int) else leastFrom n f p c k d (v + 1)
def leastM (n : Int) (f : Int → Int) (p k : Int) : Int := if (0 ≤ p ∧ p < f 46) ∧ (1 ≤ k ∧ k ≤ 20) then (if f (47 + 8 * p + 2) = -4 then -2 else leastFrom n f p (f (47 + 8 * p + 2) / 3) k.toNat 100 0) else -1
theorem emberF_Wf {n c v : Int} {f : Int → Int} (h : Wf n f) (hc : 0 ≤ c ∧ c < 8) (hv : 0 ≤ v) : Wf n (emberF c v f) ∧ ∀ j : Int, 24 ≤ j → emberF c v f j = f j := by
  obtain ⟨hn, hH, h24, h25, h26, hw, h46, hs, h95, h96, hf⟩ := h
  have out : ∀ j : Int, 24 ≤ j → emberF c v f j = f j := fun j hj => emberF_out (by omega)
  refine ⟨⟨hn, emberF_Ht hv hH, ?_, ?_, ?_, fun i a b => ?_, ?_, fun q a b => ?_, ?_, ?_, fun i a b => ?_⟩, out⟩
  · rw [out 24 (by omega)]; exact h24
  · rw [out 25 (by omega)]; exact h25
  · rw [out 26 (by omega)]; exact h26
  · rw [out 26 (by omega)] at b
    unfold WdW
    rw [out _ (by omega), out _ (by omega), out _ (by omega)]
    exact hw i a b
  · rw [out 46 (by omega)]; exact h46
  · rw [out 46 (by omega)] at b
    unfold SpW
    rw [out _ (by omega), out _ (by omega), out _ (by omega), out _ (by omega), out _ (by omega), out _ (by omega), out _ (by omega), out _ (by omega)]
    exact hs q a b
  · rw [out 95 (by omega)]; exact h95
  · rw [out 96 (by omega)]; exact h96
  · rw [out 96 (by omega)] at b
    unfold FeW
    rw [out _ (by omega), out _ (by omega), out _ (by omega)]
    exact hf i a b
theorem round0_Wf {n : Int} {f : Int → Int} (h : Wf n f) : Wf n (round0 n f) ∧ round0 n f 46 = f 46 := by
  have h46 := h.2.2.2.2.2.2.1
  obtain ⟨a1, a2, a3⟩ := bakeTo_Wf h (f 46).toNat (by omega)
  obtain ⟨b1, b2⟩ := burnF_Wf a1
  obtain ⟨c1, c2⟩ := coolF_Wf b1
  exact ⟨c1, by unfold round0; rw [c2 46 (by omega), b2 46 (by omega), a2]⟩
theorem roundE_Wf {n c v : Int} {f : Int → Int} (h : Wf n f) (hc : 0 ≤ c ∧ c < 8) (hv : 0 ≤ v) : Wf n (roundE n f c v) ∧ roundE n f c v 46 = f 46 := by
  have h46 := h.2.2.2.2.2.2.1
  obtain ⟨a1, a2, a3⟩ := bakeTo_Wf h (f 46).toNat (by omega)
  obtain ⟨b1, b2⟩ := burnF_Wf a1
  obtain ⟨e1, e2⟩ := emberF_Wf (c := c) (v := v) b1 hc hv
  obtain ⟨c1, c2⟩ := coolF_Wf e1
  exact ⟨c1, by unfold roundE; rw [c2 46 (by omega), e2 46 (by omega), b2 46 (by omega), a2]⟩
theorem leastRow_Wf {n c v : Int} {f : Int → Int} (h : Wf n f) (hc : 0 ≤ c ∧ c < 8) (hv : 0 ≤ v) : ∀ k : Nat, Wf n (leastRow n f c v k) ∧ leastRow n f c v k 46 = f 46
  | 0 => ⟨h, rfl⟩
  | 1 => roundE_Wf h hc hv
  | k + 2 => by
    obtain ⟨a, b⟩ := leastRow_Wf h hc hv (k + 1)
    obtain ⟨a2, b2⟩ := round0_Wf a
    exact ⟨a2, b2.trans b⟩
theorem rank2 {f : Int → Int} {p : Int} (h : isGoodF f p) : (2 : Int) = rankF f p := by unfold rankF; rw [if_pos h]
theorem rank0 {f : Int → Int} {p : Int} (h : ¬ isGoodF f p) (h2 : isBlackF f p) : (0 : Int) = rankF f p := by unfold rankF; rw [if_neg h, if_pos h2]
theorem rank1 {f : Int → Int} {p : Int} (h : ¬ isGoodF f p) (h2 : ¬ isBlackF f p) : (1 : Int) = rankF f p := by unfold rankF; rw [if_neg h, if_neg h2]
section ZRef14
variable {Γ : ZG} {mem : Mem} {Q : Option AV → Mem → Prop}
theorem sR_isBefore {n p q : Int} (hp : 0 ≤ p ∧ p < 6) (hq : 0 ≤ q ∧ q < 6) (hs : SpW n (mem 111) p) (hs2 : SpW n (mem 111) q) (k1 : beforeF (mem 111) p q → Q (some (vI 1)) mem) (k0 : ¬ beforeF (mem 111) p q → Q (some (vI 0)) mem) : AMet Γ mX11_isBefore [vR 109, vI p, vI q] zG mem Q := by
  have hsp := hs
  have hsq := hs2
  obtain ⟨s0, s1, s2, s3, s4, s5, s6, s7⟩ := hsp
  obtain ⟨t0, t1, t2, t3, t4, t5, t6, t7⟩ := hsq
  have rp : 0 ≤ rankF (mem 111) p ∧ rankF (mem 111) p ≤ 2 := by unfold rankF; ((repeat' split) <;> omega)
  have rq : 0 ≤ rankF (mem 111) q ∧ rankF (mem 111) q ≤ 2 := by unfold rankF; ((repeat' split) <;> omega)
  have seg2 : ∀ m h : Int, m = rankF (mem 111) p → h = rankF (mem 111) q → AW Γ mX11_isBefore (zF Γ zG Q) zG 0 0 53 [some (vR 109), some (vI p), some (vI q), some (vI m), some (vI h)] [] mem := by
    intro m h e1 e2
    rw [← e1] at rp
    rw [← e2] at rq
    have kk1 : ((¬ m = h ∧ h < m) ∨ (m = h ∧ m = 2 ∧ mem 111 (47 + 8 * q + 0) < mem 111 (47 + 8 * p + 0)) ∨ (m = h ∧ m = 1 ∧ mem 111 (47 + 8 * q + 3) < mem 111 (47 + 8 * p + 3))) → Q (some (vI 1)) mem := by
      intro z
      rw [e1, e2] at z
      exact k1 z
    have kk0 : ¬ ((¬ m = h ∧ h < m) ∨ (m = h ∧ m = 2 ∧ mem 111 (47 + 8 * q + 0) < mem 111 (47 + 8 * p + 0)) ∨ (m = h ∧ m = 1 ∧ mem 111 (47 + 8 * q + 3) < mem 111 (47 + 8 * p + 3))) → Q (some (vI 0)) mem := by
      intro z
      rw [e1, e2] at z
      exact k0 z
    refine aw_iload_n dX11_isBefore_53 rfl rfl ?_
    refine aw_iload dX11_isBefore_54 rfl rfl ?_
    refine aw_icmp_eq (tgt := 71) dX11_isBefore_56 (by decide) rfl (by omega) (by omega) (fun c56 => ?_) (fun c56 => ?_)
    · refine aw_iload_n dX11_isBefore_71 rfl rfl ?_
      refine aw_iconst dX11_isBefore_72 rfl ?_
      refine aw_icmp_ne (tgt := 99) dX11_isBefore_73 (by decide) rfl (by omega) (by omega) (fun c73 => ?_) (fun c73 => ?_)
      · refine aw_iload_n dX11_isBefore_99 rfl rfl ?_
        refine aw_iconst dX11_isBefore_100 rfl ?_
        refine aw_icmp_ne (tgt := 123) dX11_isBefore_101 (by decide) rfl (by omega) (by omega) (fun c101 => ?_) (fun c101 => ?_)
        · refine aw_iconst dX11_isBefore_123 rfl ?_
          refine aw_ireturn (ty := .boolean) dX11_isBefore_124 rfl (znarZ (by omega)).1 ?_
          first | exact kk1 (by omega) | exact kk0 (by omega)
        · refine aw_aload_n dX11_isBefore_104 rfl rfl ?_
          refine aw_iload_n dX11_isBefore_105 rfl rfl ?_
          refine aw_iconst dX11_isBefore_106 rfl ?_
          refine aw_callV [_, _] _ dX11_isBefore_107 rfl clv_X11_173 (by decide) ⟨Nat.zero_le _, Nat.zero_le _⟩ g109 (by rfl) (Nat.le_of_ble_eq_true rfl) rfl ?_
          refine sR_of (by omega) ?_
          refine aw_aload_n dX11_isBefore_110 rfl rfl ?_
          refine aw_iload_n dX11_isBefore_111 rfl rfl ?_
          refine aw_iconst dX11_isBefore_112 rfl ?_
          refine aw_callV [_, _] _ dX11_isBefore_113 rfl clv_X11_173 (by decide) ⟨Nat.zero_le _, Nat.zero_le _⟩ g109 (by rfl) (Nat.le_of_ble_eq_true rfl) rfl ?_
          refine sR_of (by omega) ?_
          refine aw_icmp_le (tgt := 123) dX11_isBefore_116 (by decide) rfl (by omega) (by omega) (fun c116 => ?_) (fun c116 => ?_)
          · refine aw_iconst dX11_isBefore_123 rfl ?_
            refine aw_ireturn (ty := .boolean) dX11_isBefore_124 rfl (znarZ (by omega)).1 ?_
            first | exact kk1 (by omega) | exact kk0 (by omega)
          · refine aw_iconst dX11_isBefore_119 rfl ?_
            refine aw_goto (tgt := 124) dX11_isBefore_120 (by decide) ?_
            refine aw_ireturn (ty := .boolean) dX11_isBefore_124 rfl (znarZ (by omega)).1 ?_
            first | exact kk1 (by omega) | exact kk0 (by omega)
      · refine aw_aload_n dX11_isBefore_76 rfl rfl ?_
        refine aw_iload_n dX11_isBefore_77 rfl rfl ?_
        refine aw_iconst dX11_isBefore_78 rfl ?_
        refine aw_callV [_, _] _ dX11_isBefore_79 rfl clv_X11_173 (by decide) ⟨Nat.zero_le _, Nat.zero_le _⟩ g109 (by rfl) (Nat.le_of_ble_eq_true rfl) rfl ?_
        refine sR_of (by omega) ?_
        refine aw_aload_n dX11_isBefore_82 rfl rfl ?_
        refine aw_iload_n dX11_isBefore_83 rfl rfl ?_
        refine aw_iconst dX11_isBefore_84 rfl ?_
        refine aw_callV [_, _] _ dX11_isBefore_85 rfl clv_X11_173 (by decide) ⟨Nat.zero_le _, Nat.zero_le _⟩ g109 (by rfl) (Nat.le_of_ble_eq_true rfl) rfl ?_
        refine sR_of (by omega) ?_
        refine aw_icmp_le (tgt := 95) dX11_isBefore_88 (by decide) rfl (by omega) (by omega) (fun c88 => ?_) (fun c88 => ?_)
        · refine aw_iconst dX11_isBefore_95 rfl ?_
          refine aw_goto (tgt := 124) dX11_isBefore_96 (by decide) ?_
          refine aw_ireturn (ty := .boolean) dX11_isBefore_124 rfl (znarZ (by omega)).1 ?_
          first | exact kk1 (by omega) | exact kk0 (by omega)
        · refine aw_iconst dX11_isBefore_91 rfl ?_
          refine aw_goto (tgt := 124) dX11_isBefore_92 (by decide) ?_
          refine aw_ireturn (ty := .boolean) dX11_isBefore_124 rfl (znarZ (by omega)).1 ?_
          first | exact kk1 (by omega) | exact kk0 (by omega)
    · refine aw_iload_n dX11_isBefore_59 rfl rfl ?_
      refine aw_iload dX11_isBefore_60 rfl rfl ?_
      refine aw_icmp_le (tgt := 69) dX11_isBefore_62 (by decide) rfl (by omega) (by omega) (fun c62 => ?_) (fun c62 => ?_)
      · refine aw_iconst dX11_isBefore_69 rfl ?_
        refine aw_ireturn (ty := .boolean) dX11_isBefore_70 rfl (znarZ (by omega)).1 ?_
        first | exact kk1 (by omega) | exact kk0 (by omega)
      · refine aw_iconst dX11_isBefore_65 rfl ?_
        refine aw_goto (tgt := 70) dX11_isBefore_66 (by decide) ?_
        refine aw_ireturn (ty := .boolean) dX11_isBefore_70 rfl (znarZ (by omega)).1 ?_
        first | exact kk1 (by omega) | exact kk0 (by omega)
  have seg1 : ∀ m : Int, m = rankF (mem 111) p → AW Γ mX11_isBefore (zF Γ zG Q) zG 0 0 26 [some (vR 109), some (vI p), some (vI q), some (vI m), none] [] mem := by
    intro m e1
    refine aw_aload_n dX11_isBefore_26 rfl rfl ?_
    refine aw_iload_n dX11_isBefore_27 rfl rfl ?_
    refine aw_callV [_] _ dX11_isBefore_28 rfl clv_X11_205 (by decide) ⟨Nat.zero_le _, Nat.zero_le _⟩ g109 (by rfl) (Nat.le_of_ble_eq_true rfl) rfl ?_
    refine sR_isGood (n := n) hq hs2 (fun c28 => ?_) (fun c28 => ?_)
    · refine aw_if_eq (tgt := 38) dX11_isBefore_31 (by decide) rfl (by omega) (fun c => absurd c (by decide)) (fun _ => ?_)
      refine aw_iconst dX11_isBefore_34 rfl ?_
      refine aw_goto (tgt := 51) dX11_isBefore_35 (by decide) ?_
      refine aw_istore4 rfl dX11_isBefore_51 rfl (by decide) ?_
      first | (have hz := rank2 c28; exact seg2 _ _ e1 hz) | (have hz := rank0 c28 c40; exact seg2 _ _ e1 hz) | (have hz := rank1 c28 c40; exact seg2 _ _ e1 hz)
    · refine aw_if_eq (tgt := 38) dX11_isBefore_31 (by decide) rfl (by omega) (fun _ => ?_) (fun c => absurd c (by decide))
      refine aw_aload_n dX11_isBefore_38 rfl rfl ?_
      refine aw_iload_n dX11_isBefore_39 rfl rfl ?_
      refine aw_callV [_] _ dX11_isBefore_40 rfl clv_X11_202 (by decide) ⟨Nat.zero_le _, Nat.zero_le _⟩ g109 (by rfl) (Nat.le_of_ble_eq_true rfl) rfl ?_
      refine sR_isBlack hq t4 t5 (fun c40 => ?_) (fun c40 => ?_)
      · refine aw_if_eq (tgt := 50) dX11_isBefore_43 (by decide) rfl (by omega) (fun c => absurd c (by decide)) (fun _ => ?_)
        refine aw_iconst dX11_isBefore_46 rfl ?_
        refine aw_goto (tgt := 51) dX11_isBefore_47 (by decide) ?_
        refine aw_istore4 rfl dX11_isBefore_51 rfl (by decide) ?_
        first | (have hz := rank2 c28; exact seg2 _ _ e1 hz) | (have hz := rank0 c28 c40; exact seg2 _ _ e1 hz) | (have hz := rank1 c28 c40; exact seg2 _ _ e1 hz)
      · refine aw_if_eq (tgt := 50) dX11_isBefore_43 (by decide) rfl (by omega) (fun _ => ?_) (fun c => absurd c (by decide))
        refine aw_iconst dX11_isBefore_50 rfl ?_
        refine aw_istore4 rfl dX11_isBefore_51 rfl (by decide) ?_
        first | (have hz := rank2 c28; exact seg2 _ _ e1 hz) | (have hz := rank0 c28 c40; exact seg2 _ _ e1 hz) | (have hz := rank1 c28 c40; exact seg2 _ _ e1 hz)
  refine AMet.of' 2 (ls := [some (vR (109)), some (vI (p)), some (vI (q)), none, none]) (by decide) rfl (Nat.le_of_ble_eq_true rfl) ?_
  refine aw_aload_n dX11_isBefore_0 rfl rfl ?_
  refine aw_iload_n dX11_isBefore_1 rfl rfl ?_
  refine aw_callV [_] _ dX11_isBefore_2 rfl clv_X11_205 (by decide) ⟨Nat.zero_le _, Nat.zero_le _⟩ g109 (by rfl) (Nat.le_of_ble_eq_true rfl) rfl ?_
  refine sR_isGood (n := n) hp hs (fun c2 => ?_) (fun c2 => ?_)
  · refine aw_if_eq (tgt := 12) dX11_isBefore_5 (by decide) rfl (by omega) (fun c => absurd c (by decide)) (fun _ => ?_)
    refine aw_iconst dX11_isBefore_8 rfl ?_
    refine aw_goto (tgt := 25) dX11_isBefore_9 (by decide) ?_
    refine aw_istore3 rfl dX11_isBefore_25 rfl (by decide) ?_
    first | (have hz := rank2 c2; exact seg1 _ hz) | (have hz := rank0 c2 c14; exact seg1 _ hz) | (have hz := rank1 c2 c14; exact seg1 _ hz)
  · refine aw_if_eq (tgt := 12) dX11_isBefore_5 (by decide) rfl (by omega) (fun _ => ?_) (fun c => absurd c (by decide))
    refine aw_aload_n dX11_isBefore_12 rfl rfl ?_
    refine aw_iload_n dX11_isBefore_13 rfl rfl ?_
    refine aw_callV [_] _ dX11_isBefore_14 rfl clv_X11_202 (by decide) ⟨Nat.zero_le _, Nat.zero_le _⟩ g109 (by rfl) (Nat.le_of_ble_eq_true rfl) rfl ?_
    refine sR_isBlack hp s4 s5 (fun c14 => ?_) (fun c14 => ?_)
    · refine aw_if_eq (tgt := 24) dX11_isBefore_17 (by decide) rfl (by omega) (fun c => absurd c (by decide)) (fun _ => ?_)
      refine aw_iconst dX11_isBefore_20 rfl ?_
      refine aw_goto (tgt := 25) dX11_isBefore_21 (by decide) ?_
      refine aw_istore3 rfl dX11_isBefore_25 rfl (by decide) ?_
      first | (have hz := rank2 c2; exact seg1 _ hz) | (have hz := rank0 c2 c14; exact seg1 _ hz) | (have hz := rank1 c2 c14; exact seg1 _ hz)
    · refine aw_if_eq (tgt := 24) dX11_isBefore_17 (by decide) rfl (by omega) (fun _ => ?_) (fun c => absurd c (by decide))
      refine aw_iconst dX11_isBefore_24 rfl ?_
      refine aw_istore3 rfl dX11_isBefore_25 rfl (by decide) ?_
      first | (have hz := rank2 c2; exact seg1 _ hz) | (have hz := rank0 c2 c14; exact seg1 _ hz) | (have hz := rank1 c2 c14; exact seg1 _ hz)
theorem sR_takes {n c : Int} (h : Wf n (mem 110)) (hc : -2147483648 ≤ c ∧ c ≤ 2147483647) (k : ∀ g, Q (some (vI (takesM (mem 110) c))) (mcell mem 111 g)) : AMet Γ mX11_takes [vR 109, vI c] zG mem Q := by
  have h46 := h.2.2.2.2.2.2.1
  have hs := h.2.2.2.2.2.2.2.1
  have inner : ∀ (i : Nat) (gone : Int), (∀ (x5 x6 : Option AV), zlong x5 = false → AW Γ mX11_takes (zF Γ zG Q) zG 0 0 99 [some (vR 109), some (vI c), some (vI gone), some (vI (pickTo (mem 110) gone (mem 110 46).toNat)), some (vI i), x5, x6] [] (mcell mem 111 (mem 110))) → ∀ (d p : Nat) (x6 : Option AV), p + d = (mem 110 46).toNat → AW Γ mX11_takes (zF Γ zG Q) zG 0 0 37 [some (vR 109), some (vI c), some (vI gone), some (vI (pickTo (mem 110) gone p)), some (vI i), some (vI p), x6] [] (mcell mem 111 (mem 110)) := by
    intro i gone hk d
    induction d with
    | zero =>
      intro p x6 hp
      obtain rfl : p = (mem 110 46).toNat := by omega
      refine aw_iload dX11_takes_37 rfl rfl ?_
      refine aw_aload_n dX11_takes_39 rfl rfl ?_
      refine aw_getR dX11_takes_40 rfl fl_X11_7 g109 (by rfl) ?_
      refine aw_bipush dX11_takes_43 rfl (by decide) ?_
      refine aw_iaload dX11_takes_45 rfl g110 (by decide) (by omega) ?_
      try simp only [mcell_ap, mset_ap, Nat.reduceEqDiff, reduceIte]
      refine aw_icmp_ge (tgt := 99) dX11_takes_46 (by decide) rfl (by omega) (by omega) (fun c46 => ?_) (fun c46 => ?_)
      · exact hk _ _ rfl
      · exfalso; omega
    | succ d ih =>
      intro p x6 hp
      have r := pickTo_rng (mem 110) gone p
      have ih2 := fun x6 => ih (p + 1) x6 (by omega)
      rw [pickTo] at ih2
      have yes : zand (zshr gone p) 1 = 0 ∧ (pickTo (mem 110) gone p = -4 ∨ beforeF (mem 110) p (pickTo (mem 110) gone p)) → AW Γ mX11_takes (zF Γ zG Q) zG 0 0 79 [some (vR 109), some (vI c), some (vI gone), some (vI (pickTo (mem 110) gone p)), some (vI i), some (vI p), x6] [vI 1] (mcell mem 111 (mem 110)) := by
        intro z
        rw [if_pos z] at ih2
        refine aw_istore6 rfl dX11_takes_79 rfl (by decide) ?_
        refine aw_iload dX11_takes_81 rfl rfl ?_
        refine aw_if_eq (tgt := 91) dX11_takes_83 (by decide) rfl (by omega) (fun c83 => ?_) (fun c83 => ?_)
        · exfalso; omega
        · refine aw_iload dX11_takes_86 rfl rfl ?_
          refine aw_goto (tgt := 92) dX11_takes_88 (by decide) ?_
          refine aw_istore3 rfl dX11_takes_92 rfl (by decide) ?_
          refine aw_iinc5 rfl dX11_takes_93 rfl (by decide) ?_
          refine aw_goto (tgt := 37) dX11_takes_96 (by decide) ?_
          exact ih2 _
      have no : ¬ (zand (zshr gone p) 1 = 0 ∧ (pickTo (mem 110) gone p = -4 ∨ beforeF (mem 110) p (pickTo (mem 110) gone p))) → AW Γ mX11_takes (zF Γ zG Q) zG 0 0 79 [some (vR 109), some (vI c), some (vI gone), some (vI (pickTo (mem 110) gone p)), some (vI i), some (vI p), x6] [vI 0] (mcell mem 111 (mem 110)) := by
        intro z
        rw [if_neg z] at ih2
        refine aw_istore6 rfl dX11_takes_79 rfl (by decide) ?_
        refine aw_iload dX11_takes_81 rfl rfl ?_
        refine aw_if_eq (tgt := 91) dX11_takes_83 (by decide) rfl (by omega) (fun c83 => ?_) (fun c83 => ?_)
        · refine aw_iload_n dX11_takes_91 rfl rfl ?_
          refine aw_istore3 rfl dX11_takes_92 rfl (by decide) ?_
          refine aw_iinc5 rfl dX11_takes_93 rfl (by decide) ?_
          refine aw_goto (tgt := 37) dX11_takes_96 (by decide) ?_
          exact ih2 _
        · exfalso; omega
      refine aw_iload dX11_takes_37 rfl rfl ?_
      refine aw_aload_n dX11_takes_39 rfl rfl ?_
      refine aw_getR dX11_takes_40 rfl fl_X11_7 g109 (by rfl) ?_
      refine aw_bipush dX11_takes_43 rfl (by decide) ?_
      refine aw_iaload dX11_takes_45 rfl g110 (by decide) (by omega) ?_
      try simp only [mcell_ap, mset_ap, Nat.reduceEqDiff, reduceIte]
      refine aw_icmp_ge (tgt := 99) dX11_takes_46 (by decide) rfl (by omega) (by omega) (fun c46 => ?_) (fun c46 => ?_)
      · exfalso; omega
      · refine aw_iload_n dX11_takes_49 rfl rfl ?_
        refine aw_iload dX11_takes_50 rfl rfl ?_
        refine aw_ishr dX11_takes_52 rfl ?_
        refine aw_iconst dX11_takes_53 rfl ?_
        refine aw_iand dX11_takes_54 rfl ?_
        refine aw_if_ne (tgt := 78) dX11_takes_55 (by decide) rfl (by first | omega | exact zand_rng _ _) (fun c55 => ?_) (fun c55 => ?_)
        · refine aw_iconst dX11_takes_78 rfl ?_
          first | (have hz := c68; first | (have hy := Or.inr (a := pickTo (mem 110) gone p = -4) hz; exact yes ⟨c55, hy⟩) | (have hy := fun y : zand (zshr gone p) 1 = 0 ∧ (pickTo (mem 110) gone p = -4 ∨ beforeF (mem 110) p (pickTo (mem 110) gone p)) => y.2.elim c61 hz; exact no hy)) | (have hz := c61; exact yes ⟨c55, Or.inl hz⟩) | (have hy := fun y : zand (zshr gone p) 1 = 0 ∧ (pickTo (mem 110) gone p = -4 ∨ beforeF (mem 110) p (pickTo (mem 110) gone p)) => c55 y.1; exact no hy)
        · refine aw_iload_n dX11_takes_58 rfl rfl ?_
          refine aw_bipush dX11_takes_59 rfl (by decide) ?_
          refine aw_icmp_eq (tgt := 74) dX11_takes_61 (by decide) rfl (by omega) (by omega) (fun c61 => ?_) (fun c61 => ?_)
          · refine aw_iconst dX11_takes_74 rfl ?_
            refine aw_goto (tgt := 79) dX11_takes_75 (by decide) ?_
            first | (have hz := c68; first | (have hy := Or.inr (a := pickTo (mem 110) gone p = -4) hz; exact yes ⟨c55, hy⟩) | (have hy := fun y : zand (zshr gone p) 1 = 0 ∧ (pickTo (mem 110) gone p = -4 ∨ beforeF (mem 110) p (pickTo (mem 110) gone p)) => y.2.elim c61 hz; exact no hy)) | (have hz := c61; exact yes ⟨c55, Or.inl hz⟩) | (have hy := fun y : zand (zshr gone p) 1 = 0 ∧ (pickTo (mem 110) gone p = -4 ∨ beforeF (mem 110) p (pickTo (mem 110) gone p)) => c55 y.1; exact no hy)
          · refine aw_aload_n dX11_takes_64 rfl rfl ?_
            refine aw_iload dX11_takes_65 rfl rfl ?_
            refine aw_iload_n dX11_takes_67 rfl rfl ?_
            refine aw_callV [_, _] _ dX11_takes_68 rfl clv_X11_285 (by decide) ⟨Nat.zero_le _, Nat.zero_le _⟩ g109 (by rfl) (Nat.le_of_ble_eq_true rfl) rfl ?_
            refine sR_isBefore (n := n) (by omega) (by omega) (by rw [mcell_same]; exact hs p (by omega) (by omega)) (by rw [mcell_same]; exact hs _ (by omega) (by omega)) (fun c68 => ?_) (fun c68 => ?_)
            · rw [mcell_same] at c68
              refine aw_if_eq (tgt := 78) dX11_takes_71 (by decide) rfl (by omega) (fun c => absurd c (by decide)) (fun _ => ?_)
              refine aw_iconst dX11_takes_74 rfl ?_
              refine aw_goto (tgt := 79) dX11_takes_75 (by decide) ?_
              first | (have hz := c68; first | (have hy := Or.inr (a := pickTo (mem 110) gone p = -4) hz; exact yes ⟨c55, hy⟩) | (have hy := fun y : zand (zshr gone p) 1 = 0 ∧ (pickTo (mem 110) gone p = -4 ∨ beforeF (mem 110) p (pickTo (mem 110) gone p)) => y.2.elim c61 hz; exact no hy)) | (have hz := c61; exact yes ⟨c55, Or.inl hz⟩) | (have hy := fun y : zand (zshr gone p) 1 = 0 ∧ (pickTo (mem 110) gone p = -4 ∨ beforeF (mem 110) p (pickTo (mem 110) gone p)) => c55 y.1; exact no hy)
            · rw [mcell_same] at c68
              refine aw_if_eq (tgt := 78) dX11_takes_71 (by decide) rfl (by omega) (fun _ => ?_) (fun c => absurd c (by decide))
              refine aw_iconst dX11_takes_78 rfl ?_
              first | (have hz := c68; first | (have hy := Or.inr (a := pickTo (mem 110) gone p = -4) hz; exact yes ⟨c55, hy⟩) | (have hy := fun y : zand (zshr gone p) 1 = 0 ∧ (pickTo (mem 110) gone p = -4 ∨ beforeF (mem 110) p (pickTo (mem 110) gone p)) => y.2.elim c61 hz; exact no hy)) | (have hz := c61; exact yes ⟨c55, Or.inl hz⟩) | (have hy := fun y : zand (zshr gone p) 1 = 0 ∧ (pickTo (mem 110) gone p = -4 ∨ beforeF (mem 110) p (pickTo (mem 110) gone p)) => c55 y.1; exact no hy)
  have outer : ∀ (d i : Nat) (x5 x6 : Option AV), zlong x5 = false → (i : Int) + d = min c 6 + 1 → 0 ≤ c → AW Γ mX11_takes (zF Γ zG Q) zG 0 0 18 [some (vR 109), some (vI c), some (vI (takesAt (mem 110) i).1), some (vI (takesAt (mem 110) i).2), some (vI i), x5, x6] [] (mcell mem 111 (mem 110)) := by
    intro d
    induction d with
    | zero =>
      intro i x5 x6 z5 hi h0
      refine aw_iload dX11_takes_18 rfl rfl ?_
      refine aw_iload_n dX11_takes_20 rfl rfl ?_
      refine aw_icmp_gt (tgt := 121) dX11_takes_21 (by decide) rfl (by omega) (by omega) (fun c21 => ?_) (fun c21 => ?_)
      · refine aw_iload_n dX11_takes_121 rfl rfl ?_
        refine aw_ireturn (ty := .int) dX11_takes_122 rfl rfl ?_
        exact q_eq (k _) (by unfold takesM; rw [if_neg (by omega), show (min c 6 + 1).toNat = i by omega]) rfl
      · refine aw_iload dX11_takes_24 rfl rfl ?_
        refine aw_bipush dX11_takes_26 rfl (by decide) ?_
        refine aw_icmp_gt (tgt := 121) dX11_takes_28 (by decide) rfl (by omega) (by omega) (fun c28 => ?_) (fun c28 => ?_)
        · refine aw_iload_n dX11_takes_121 rfl rfl ?_
          refine aw_ireturn (ty := .int) dX11_takes_122 rfl rfl ?_
          exact q_eq (k _) (by unfold takesM; rw [if_neg (by omega), show (min c 6 + 1).toNat = i by omega]) rfl
        · exfalso; omega
    | succ d ih =>
      intro i x5 x6 z5 hi h0
      have r := pickTo_rng (mem 110) (takesAt (mem 110) i).1 (mem 110 46).toNat
      have ih2 := fun x5 x6 z => ih (i + 1) x5 x6 z (by push_cast; omega) h0
      rw [takesAt] at ih2
      have key : ∀ (x5 x6 : Option AV), zlong x5 = false → AW Γ mX11_takes (zF Γ zG Q) zG 0 0 99 [some (vR 109), some (vI c), some (vI (takesAt (mem 110) i).1), some (vI (pickTo (mem 110) (takesAt (mem 110) i).1 (mem 110 46).toNat)), some (vI i), x5, x6] [] (mcell mem 111 (mem 110)) := by
        intro x5 x6 z5
        refine aw_iload_n dX11_takes_99 rfl rfl ?_
        refine aw_iload_n dX11_takes_100 rfl rfl ?_
        refine aw_bipush dX11_takes_101 rfl (by decide) ?_
        refine aw_icmp_ne (tgt := 110) dX11_takes_103 (by decide) rfl (by omega) (by omega) (fun c103 => ?_) (fun c103 => ?_)
        · refine aw_iconst dX11_takes_110 rfl ?_
          refine aw_iload_n dX11_takes_111 rfl rfl ?_
          refine aw_ishl dX11_takes_112 rfl ?_
          refine aw_ior dX11_takes_113 rfl ?_
          refine aw_istore2 rfl dX11_takes_114 rfl (by decide) ?_
          refine aw_iinc4 rfl dX11_takes_115 rfl (by decide) ?_
          refine aw_goto (tgt := 18) dX11_takes_118 (by decide) ?_
          first | (rw [if_pos c103] at ih2; exact ih2 _ _ z5) | (rw [if_neg c103] at ih2; exact ih2 _ _ z5)
        · refine aw_iconst dX11_takes_106 rfl ?_
          refine aw_goto (tgt := 113) dX11_takes_107 (by decide) ?_
          refine aw_ior dX11_takes_113 rfl ?_
          refine aw_istore2 rfl dX11_takes_114 rfl (by decide) ?_
          refine aw_iinc4 rfl dX11_takes_115 rfl (by decide) ?_
          refine aw_goto (tgt := 18) dX11_takes_118 (by decide) ?_
          first | (rw [if_pos c103] at ih2; exact ih2 _ _ z5) | (rw [if_neg c103] at ih2; exact ih2 _ _ z5)
      refine aw_iload dX11_takes_18 rfl rfl ?_
      refine aw_iload_n dX11_takes_20 rfl rfl ?_
      refine aw_icmp_gt (tgt := 121) dX11_takes_21 (by decide) rfl (by omega) (by omega) (fun c21 => ?_) (fun c21 => ?_)
      · exfalso; omega
      · refine aw_iload dX11_takes_24 rfl rfl ?_
        refine aw_bipush dX11_takes_26 rfl (by decide) ?_
        refine aw_icmp_gt (tgt := 121) dX11_takes_28 (by decide) rfl (by omega) (by omega) (fun c28 => ?_) (fun c28 => ?_)
        · exfalso; omega
        · refine aw_bipush dX11_takes_31 rfl (by decide) ?_
          refine aw_istore3 rfl dX11_takes_33 rfl (by decide) ?_
          refine aw_iconst dX11_takes_34 rfl ?_
          refine aw_istore5 rfl dX11_takes_35 rfl (by decide) ?_
          exact inner i _ key (mem 110 46).toNat 0 _ (by omega)
  refine AMet.of' 5 (ls := [some (vR (109)), some (vI (c)), none, none, none, none, none]) (by decide) rfl (Nat.le_of_ble_eq_true rfl) ?_
  refine aw_iload_n dX11_takes_0 rfl rfl ?_
  refine aw_if_ge (tgt := 6) dX11_takes_1 (by decide) rfl (by omega) (fun c1 => ?_) (fun c1 => ?_)
  · refine aw_aload_n dX11_takes_6 rfl rfl ?_
    refine aw_callV [] _ dX11_takes_7 rfl clv_X11_222 (by decide) ⟨Nat.zero_le _, Nat.zero_le _⟩ g109 (by rfl) (Nat.le_of_ble_eq_true rfl) rfl ?_
    refine sR_starts2 ?_
    refine aw_iconst dX11_takes_10 rfl ?_
    refine aw_istore2 rfl dX11_takes_11 rfl (by decide) ?_
    refine aw_bipush dX11_takes_12 rfl (by decide) ?_
    refine aw_istore3 rfl dX11_takes_14 rfl (by decide) ?_
    refine aw_iconst dX11_takes_15 rfl ?_
    refine aw_istore4 rfl dX11_takes_16 rfl (by decide) ?_
    exact outer (min c 6 + 1).toNat 0 none none rfl (by omega) (by omega)
  · refine aw_iconst dX11_takes_4 rfl ?_
    refine aw_ireturn (ty := .int) dX11_takes_5 rfl rfl ?_
    exact q_eq (k (mem 111)) (by unfold takesM; rw [if_pos (by omega)]) mcell_self
theorem sR_flip {n p c : Int} (h : Wf n (mem 110)) (hm : mem 109 3 = n) (hp : -2147483648 ≤ p ∧ p ≤ 2147483647) (hc : -2147483648 ≤ c ∧ c ≤ 2147483647) (k : ∀ g, Q (some (vI (flipM n (mem 110) p c))) (mcell mem 111 g)) : AMet Γ mX11_flip [vR 109, vI p, vI c] zG mem Q := by
  have h46 := h.2.2.2.2.2.2.1
  have loop : ∀ (d i : Nat) (g : Int → Int), (i : Int) + d = c → (0 ≤ p ∧ p < mem 110 46) ∧ (1 ≤ c ∧ c ≤ 20) → flipFrom n (mem 110) p c.toNat d i = flipFrom n (mem 110) p c.toNat c.toNat 0 → AW Γ mX11_flip (zF Γ zG Q) zG 0 0 24 [some (vR 109), some (vI p), some (vI c), some (vI i)] [] (mcell mem 111 g) := by
    intro d
    induction d with
    | zero =>
      intro i g hi hok e
      refine aw_iload_n dX11_flip_24 rfl rfl ?_
      refine aw_iload_n dX11_flip_25 rfl rfl ?_
      refine aw_icmp_ge (tgt := 77) dX11_flip_26 (by decide) rfl (by omega) (by omega) (fun c26 => ?_) (fun c26 => ?_)
      · refine aw_bipush dX11_flip_77 rfl (by decide) ?_
        refine aw_ireturn (ty := .int) dX11_flip_79 rfl rfl ?_
        exact q_eq (k _) (by unfold flipM; rw [if_pos hok, ← e]; rfl) rfl
      · exfalso; omega
    | succ d ih =>
      intro i g hi hok e
      obtain ⟨w1, w2, w3, w4⟩ := roundsF_Wf i _ h
      obtain ⟨t1, t2⟩ := turnF_Wf w1 (p := p) (by omega)
      obtain ⟨u1, u2, u3, u4⟩ := roundsF_Wf (c.toNat - i) _ t1
      have t46 := t2 46 (by omega)
      rw [flipFrom] at e
      refine aw_iload_n dX11_flip_24 rfl rfl ?_
      refine aw_iload_n dX11_flip_25 rfl rfl ?_
      refine aw_icmp_ge (tgt := 77) dX11_flip_26 (by decide) rfl (by omega) (by omega) (fun c26 => ?_) (fun c26 => ?_)
      · exfalso; omega
      · refine aw_aload_n dX11_flip_29 rfl rfl ?_
        refine aw_callV [] _ dX11_flip_30 rfl clv_X11_222 (by decide) ⟨Nat.zero_le _, Nat.zero_le _⟩ g109 (by rfl) (Nat.le_of_ble_eq_true rfl) rfl ?_
        refine sR_starts2 ?_
        rw [mcell_mcell, show mcell mem 111 g 110 = mem 110 from rfl]
        refine aw_aload_n dX11_flip_33 rfl rfl ?_
        refine aw_iload_n dX11_flip_34 rfl rfl ?_
        refine aw_callV [_] _ dX11_flip_35 rfl clv_X11_238 (by decide) ⟨Nat.zero_le _, Nat.zero_le _⟩ g109 (by rfl) (Nat.le_of_ble_eq_true rfl) rfl ?_
        refine sR_roundsAll (n := n) (by omega) (by rw [mcell_same]; exact h) hm ?_
        rw [mcell_same, mcell_mcell, show ((i : Int)).toNat = i by omega]
        refine aw_aload_n dX11_flip_38 rfl rfl ?_
        refine aw_iload_n dX11_flip_39 rfl rfl ?_
        refine aw_bipush dX11_flip_40 rfl (by decide) ?_
        refine aw_iconst dX11_flip_42 rfl ?_
        refine aw_aload_n dX11_flip_43 rfl rfl ?_
        refine aw_iload_n dX11_flip_44 rfl rfl ?_
        refine aw_bipush dX11_flip_45 rfl (by decide) ?_
        refine aw_callV [_, _] _ dX11_flip_47 rfl clv_X11_173 (by decide) ⟨Nat.zero_le _, Nat.zero_le _⟩ g109 (by rfl) (Nat.le_of_ble_eq_true rfl) rfl ?_
        refine sR_of (by omega) ?_
        rw [mcell_same]
        refine aw_isub dX11_flip_50 rfl ?_
        refine aw_callV [_, _, _] _ dX11_flip_51 rfl clv_X11_179 (by decide) ⟨Nat.zero_le _, Nat.zero_le _⟩ g109 (by rfl) (Nat.le_of_ble_eq_true rfl) rfl ?_
        refine sR_becomesOf (by omega) ?_
        rw [mset_mcell, show fset (roundsF n i (mem 110)) (47 + 8 * p + 6) (1 - roundsF n i (mem 110) (47 + 8 * p + 6)) = turnF (roundsF n i (mem 110)) p from rfl]
        refine aw_aload_n dX11_flip_54 rfl rfl ?_
        refine aw_iload_n dX11_flip_55 rfl rfl ?_
        refine aw_iload_n dX11_flip_56 rfl rfl ?_
        refine aw_isub dX11_flip_57 rfl ?_
        refine aw_callV [_] _ dX11_flip_58 rfl clv_X11_238 (by decide) ⟨Nat.zero_le _, Nat.zero_le _⟩ g109 (by rfl) (Nat.le_of_ble_eq_true rfl) rfl ?_
        refine sR_roundsAll (n := n) (by omega) (by rw [mcell_same]; exact t1) hm ?_
        rw [mcell_same, mcell_mcell, show (c - (i : Int)).toNat = c.toNat - i by omega]
        refine aw_aload_n dX11_flip_61 rfl rfl ?_
        refine aw_iload_n dX11_flip_62 rfl rfl ?_
        refine aw_callV [_] _ dX11_flip_63 rfl clv_X11_205 (by decide) ⟨Nat.zero_le _, Nat.zero_le _⟩ g109 (by rfl) (Nat.le_of_ble_eq_true rfl) rfl ?_
        refine sR_isGood (n := n) (by omega) (by rw [mcell_same]; exact u1.2.2.2.2.2.2.2.1 p (by omega) (by omega)) (fun c63 => ?_) (fun c63 => ?_)
        · rw [mcell_same] at c63
          refine aw_if_eq (tgt := 71) dX11_flip_66 (by decide) rfl (by omega) (fun c => absurd c (by decide)) (fun _ => ?_)
          refine aw_iload_n dX11_flip_69 rfl rfl ?_
          refine aw_ireturn (ty := .int) dX11_flip_70 rfl rfl ?_
          exact q_eq (k _) (by unfold flipM; rw [if_pos hok, ← e, if_pos c63]) rfl
        · rw [mcell_same] at c63
          refine aw_if_eq (tgt := 71) dX11_flip_66 (by decide) rfl (by omega) (fun _ => ?_) (fun c => absurd c (by decide))
          refine aw_iinc3 rfl dX11_flip_71 rfl (by decide) ?_
          refine aw_goto (tgt := 24) dX11_flip_74 (by decide) ?_
          rw [if_neg c63] at e
          exact ih (i + 1) _ (by push_cast; omega) hok e
  refine AMet.of' 1 (ls := [some (vR (109)), some (vI (p)), some (vI (c)), none]) (by decide) rfl (Nat.le_of_ble_eq_true rfl) ?_
  refine aw_aload_n dX11_flip_0 rfl rfl ?_
  refine aw_iload_n dX11_flip_1 rfl rfl ?_
  refine aw_callV [_] _ dX11_flip_2 rfl clv_X11_217 (by decide) ⟨Nat.zero_le _, Nat.zero_le _⟩ g109 (by rfl) (Nat.le_of_ble_eq_true rfl) rfl ?_
  refine sR_isSpud h46 hp (fun c2 => ?_) (fun c2 => ?_)
  · refine aw_if_eq (tgt := 20) dX11_flip_5 (by decide) rfl (by omega) (fun c => absurd c (by decide)) (fun _ => ?_)
    refine aw_iload_n dX11_flip_8 rfl rfl ?_
    refine aw_i2l dX11_flip_9 rfl (by omega) ?_
    refine aw_lconst (a := 1) dX11_flip_10 rfl (by decide) ?_
    refine aw_ldc2 (a := 20) dX11_flip_11 rfl lc_X11_250 (by decide) ?_
    refine aw_callS [_, _, _] _ dX11_flip_14 rfl cls_X11_78 (by decide) ⟨Nat.zero_le _, Nat.zero_le _⟩ (Nat.le_of_ble_eq_true rfl) rfl ?_
    refine sR_in (by omega) (by omega) (by omega) (fun c14 => ?_) (fun c14 => ?_)
    · refine aw_if_ne (tgt := 22) dX11_flip_17 (by decide) rfl (by omega) (fun _ => ?_) (fun c => absurd c (by decide))
      refine aw_iconst dX11_flip_22 rfl ?_
      refine aw_istore3 rfl dX11_flip_23 rfl (by decide) ?_
      have l0 := loop c.toNat 0 (mem 111) (by omega) (by omega) rfl
      rw [mcell_self] at l0
      exact l0
    · refine aw_if_ne (tgt := 22) dX11_flip_17 (by decide) rfl (by omega) (fun c => absurd c (by decide)) (fun _ => ?_)
      refine aw_iconst dX11_flip_20 rfl ?_
      refine aw_ireturn (ty := .int) dX11_flip_21 rfl rfl ?_
      exact q_eq (k (mem 111)) (by unfold flipM; rw [if_neg (by omega)]) mcell_self
  · refine aw_if_eq (tgt := 20) dX11_flip_5 (by decide) rfl (by omega) (fun _ => ?_) (fun c => absurd c (by decide))
    refine aw_iconst dX11_flip_20 rfl ?_
    refine aw_ireturn (ty := .int) dX11_flip_21 rfl rfl ?_
    exact q_eq (k (mem 111)) (by unfold flipM; rw [if_neg (by omega)]) mcell_self
end ZRef14
