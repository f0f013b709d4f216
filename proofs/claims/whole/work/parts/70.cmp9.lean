section
variable {Γ : ZG} {M : ZM} {F : ZF} {G : List GK} {cs ss pc q : Nat} {ls : List (Option AV)} {st : List AV} {mem : Mem}
theorem aw_wrap {a a' : Int} (h : Int32.ofInt a = Int32.ofInt a') (k : AW Γ M F G cs ss pc ls (vI a' :: st) mem) : AW Γ M F G cs ss pc ls (vI a :: st) mem := by
  intro p e s m args below meth c H locs A lsC hC hK hX hA hP hD hS hL
  have hz := k p e s m args below meth c H locs A lsC hC hK hX hA hP hD hS hL
  have he : (vI a :: st).map (cv Γ.2.2.2.1) = (vI a' :: st).map (cv Γ.2.2.2.1) := by
    simp only [List.map_cons, cv, h]
  rw [he]
  exact hz
end
theorem zi2b_id {c : Int} (h : 0 ≤ c ∧ c ≤ 127) : zi2b c = c := by
  have hz : ∀ c : Fin 128, zi2b (c.val : Int) = c.val := by decide +kernel
  have := hz ⟨c.toNat, by omega⟩
  dsimp only at this
  rwa [show ((c.toNat : Nat) : Int) = c by omega] at this
theorem ratM_scale {o u c w : Int} (hc : 0 < c) (hu : 0 < u) : ratM (c * o) (c * u) w = ratM o u w := by
  unfold ratM
  have hg : (Int.gcd (c * u) (c * o) : Int) = c * (Int.gcd u o : Int) := by
    rw [Int.gcd_mul_left]
    push_cast
    rw [show (c.natAbs : Int) = c by omega]
  rw [hg]
  split
  · rw [Int.mul_ediv_mul_of_pos _ _ hc]
  · rw [Int.mul_ediv_mul_of_pos _ _ hc]
/-! takes: every child takes another one -/
def cbt (g : Int) : Nat → Nat
  | 0 => 0
  | p + 1 => cbt g p + (if zbt g p then 1 else 0)
theorem cbt_le (g : Int) : ∀ p : Nat, cbt g p ≤ p := by
  intro p
  induction p with
  | zero => exact Nat.le_refl _
  | succ p ih => rw [cbt]; split <;> omega
theorem cbt_full {g : Int} : ∀ p : Nat, cbt g p = p → ∀ q : Nat, q < p → zbt g q = true := by
  intro p
  induction p with
  | zero => intro _ q hq; omega
  | succ p ih =>
    intro h q hq
    rw [cbt] at h
    have hl := cbt_le g p
    split at h
    · next hb =>
      by_cases e : q = p
      · subst e; exact hb
      · exact ih (by omega) q (by omega)
    · omega
theorem cbt_not {g : Int} : ∀ p : Nat, cbt g p < p → ∃ q : Nat, q < p ∧ zbt g q = false := by
  intro p
  induction p with
  | zero => intro h; omega
  | succ p ih =>
    intro h
    rw [cbt] at h
    cases hb : zbt g p with
    | false => exact ⟨p, by omega, hb⟩
    | true =>
      rw [hb, if_pos rfl] at h
      obtain ⟨q, h1, h2⟩ := ih (by omega)
      exact ⟨q, by omega, h2⟩
theorem cbt_or {g : Int} {x : Nat} (hx : x < 32) (hb : zbt g x = false) : ∀ p : Nat, p ≤ 32 → cbt (zor g (zshl 1 (x : Int))) p = cbt g p + (if x < p then 1 else 0) := by
  intro p
  induction p with
  | zero => intro _; simp [cbt]
  | succ p ih =>
    intro hp
    rw [cbt, cbt, ih (by omega), zbt_or, zbt_shl1 hx (by omega)]
    by_cases e : p = x
    · subst e
      rw [hb]
      simp
    · simp only [e, decide_false, Bool.or_false]
      by_cases l : x < p
      · have e1 : (if x < p then 1 else 0) = 1 := if_pos l
        have e2 : (if x < p + 1 then 1 else 0) = 1 := if_pos (by omega)
        rw [e1, e2]; omega
      · have e1 : (if x < p then 1 else 0) = 0 := if_neg l
        have e2 : (if x < p + 1 then 1 else 0) = 0 := if_neg (by omega)
        rw [e1, e2]; omega
theorem pick_none {f : Int → Int} {g : Int} : ∀ p : Nat, p ≤ 32 → (∀ q : Nat, q < p → zbt g q = true) → pickTo f g p = -4 := by
  intro p
  induction p with
  | zero => intro _ _; rfl
  | succ p ih =>
    intro hp h
    rw [pickTo, if_neg]
    · exact ih (by omega) (fun q hq => h q (by omega))
    · intro z
      have := z.1
      rw [zbit (by omega), h p (by omega)] at this
      exact absurd this (by decide)
theorem pick_some {f : Int → Int} {g : Int} : ∀ p : Nat, p ≤ 32 → pickTo f g p = -4 → ∀ q : Nat, q < p → zbt g q = true := by
  intro p
  induction p with
  | zero => intro _ _ q hq; omega
  | succ p ih =>
    intro hp h q hq
    rw [pickTo] at h
    split at h
    · omega
    · next hn =>
      by_cases e : q = p
      · subst e
        cases hb : zbt g q with
        | true => rfl
        | false => exact absurd ⟨by rw [zbit (by omega), hb]; rfl, Or.inl h⟩ hn
      · exact ih (by omega) h q (by omega)
theorem pick_free {f : Int → Int} {g : Int} : ∀ p : Nat, p ≤ 32 → ∀ x : Nat, pickTo f g p = x → zbt g x = false := by
  intro p
  induction p with
  | zero => intro _ x h; have : (-4 : Int) = x := h; omega
  | succ p ih =>
    intro hp x h
    rw [pickTo] at h
    split at h
    · next hy =>
      have e : p = x := by omega
      subst e
      have h1 := hy.1
      rw [zbit (by omega)] at h1
      cases hb : zbt g p with
      | false => rfl
      | true => rw [hb] at h1; exact absurd h1 (by decide)
    · exact ih (by omega) x h
/-- the first i children have taken min i N -/
theorem takes_cnt {f : Int → Int} {N : Nat} (hN : (f 46).toNat = N) (h6 : N ≤ 6) : ∀ i : Nat, cbt (takesAt f i).1 N = min i N ∧ (-2147483648 ≤ (takesAt f i).1 ∧ (takesAt f i).1 ≤ 2147483647) := by
  intro i
  induction i with
  | zero =>
    refine ⟨?_, by show (-2147483648 : Int) ≤ 0 ∧ (0 : Int) ≤ 2147483647; omega⟩
    have hz : ∀ p : Nat, cbt 0 p = 0 := by
      intro p
      induction p with
      | zero => rfl
      | succ p ih => rw [cbt, ih, zbt_0]; rfl
    show cbt 0 N = _
    rw [hz]; omega
  | succ i ih =>
    rw [takesAt]
    dsimp only
    refine ⟨?_, zor_rng _ _⟩
    rw [hN]
    by_cases hp : pickTo f (takesAt f i).1 N = -4
    · rw [if_pos hp, zor_0 ih.2, ih.1]
      have hf := pick_some N (by omega) hp
      have : cbt (takesAt f i).1 N = N := by
        rcases Nat.lt_or_ge (cbt (takesAt f i).1 N) N with hl | hl
        · obtain ⟨q, h1, h2⟩ := cbt_not N hl
          rw [hf q h1] at h2
          exact absurd h2 (by decide)
        · have := cbt_le (takesAt f i).1 N; omega
      omega
    · rw [if_neg hp]
      have hr := pickTo_rng f (takesAt f i).1 N
      obtain ⟨x, hx⟩ : ∃ x : Nat, pickTo f (takesAt f i).1 N = x := ⟨(pickTo f (takesAt f i).1 N).toNat, by omega⟩
      have hb := pick_free N (by omega) x hx
      rw [hx, cbt_or (by omega) hb N (by omega), ih.1, if_pos (by omega)]
      have hl : cbt (takesAt f i).1 N < N := by
        rcases Nat.lt_or_ge (cbt (takesAt f i).1 N) N with hl | hl
        · exact hl
        · have hle := cbt_le (takesAt f i).1 N
          have hf := cbt_full (g := (takesAt f i).1) N (by omega) x (by omega)
          rw [hb] at hf
          exact absurd hf (by decide)
      omega
theorem takes_pick {f : Int → Int} (h46 : 0 ≤ f 46 ∧ f 46 ≤ 6) (i : Nat) : pickTo f (takesAt f i).1 (f 46).toNat = -4 ↔ f 46 ≤ i := by
  have hc := (takes_cnt (f := f) rfl (by omega) i).1
  constructor
  · intro hp
    have hf := pick_some _ (by omega) hp
    rcases Nat.lt_or_ge (cbt (takesAt f i).1 (f 46).toNat) (f 46).toNat with hl | hl
    · obtain ⟨q, h1, h2⟩ := cbt_not _ hl
      rw [hf q h1] at h2
      exact absurd h2 (by decide)
    · omega
  · intro hi
    exact pick_none _ (by omega) (cbt_full _ (by omega))
section ZCmp9
variable {Γ : ZG} {mem : Mem} {Q : Option AV → Mem → Prop} {n : Int} {f : Int → Int}
theorem sC_takes {c : Int} (wf : Wf n f) (h : Ev mem 1 n f) (hc : -2147483648 ≤ c ∧ c ≤ 2147483647) (k : Q (some (vI (takesM f c))) mem) : AMet Γ mX10_takes [vR 0, vI c] zG mem Q := by
  have a2 : mem 1 2 = f 46 := h.2.1.1
  have w46 := wf.n46
  unfold takesM at k
  have loop : (0 ≤ c ∧ c < f 46) → ∀ (d i : Nat), (i : Int) + d = c + 1 → AW Γ mX10_takes (zF Γ zG Q) zG 0 0 28 [some (vR 0), some (vI c), some (vI (takesAt f i).1), some (vI (takesAt f i).2), some (vI i)] [] mem := by
    intro hcc d
    rw [if_neg (by omega), show min c 6 = c by omega] at k
    induction d with
    | zero =>
      intro i hi
      have e : (c + 1).toNat = i := by omega
      rw [e] at k
      refine aw_iload dX10_takes_28 rfl rfl ?_
      refine aw_iload_n dX10_takes_30 rfl rfl ?_
      refine aw_icmp_gt (tgt := 55) dX10_takes_31 (by decide) rfl (by omega) (by omega) (fun c31 => ?_) (fun c31 => ?_)
      · refine aw_iload_n dX10_takes_55 rfl rfl ?_
        refine aw_ireturn (ty := .int) dX10_takes_56 rfl rfl ?_
        exact k
      · exfalso; omega
    | succ d ih =>
      intro i hi
      push_cast at hi
      have tp := takes_pick (f := f) w46 i
      have hz := ih (i + 1) (by push_cast; omega)
      rw [takesAt] at hz
      dsimp only at hz
      rw [if_neg (fun z => by have := tp.mp z; omega)] at hz
      refine aw_iload dX10_takes_28 rfl rfl ?_
      refine aw_iload_n dX10_takes_30 rfl rfl ?_
      refine aw_icmp_gt (tgt := 55) dX10_takes_31 (by decide) rfl (by omega) (by omega) (fun c31 => ?_) (fun c31 => ?_)
      · exfalso; omega
      · refine aw_aload_n dX10_takes_34 rfl rfl ?_
        refine aw_getR dX10_takes_35 rfl fl_X10_12 g0 (by rfl) ?_
        refine aw_iload_n dX10_takes_38 rfl rfl ?_
        refine aw_callV [_] _ dX10_takes_39 rfl clv_X10_316 (by decide) ⟨Nat.zero_le _, Nat.zero_le _⟩ g1 (by rfl) (Nat.le_of_ble_eq_true rfl) rfl ?_
        refine sC_mostWanted E1 wf h ?_
        refine aw_istore3 rfl dX10_takes_42 rfl (by decide) ?_
        refine aw_iload_n dX10_takes_43 rfl rfl ?_
        refine aw_iconst dX10_takes_44 rfl ?_
        refine aw_iload_n dX10_takes_45 rfl rfl ?_
        refine aw_ishl dX10_takes_46 rfl ?_
        refine aw_ior dX10_takes_47 rfl ?_
        refine aw_istore2 rfl dX10_takes_48 rfl (by decide) ?_
        refine aw_iinc4 rfl dX10_takes_49 rfl (by decide) ?_
        refine aw_goto (tgt := 28) dX10_takes_52 (by decide) ?_
        exact hz
  refine AMet.of' 3 (ls := [some (vR (0)), some (vI (c)), none, none, none]) (by decide) rfl (Nat.le_of_ble_eq_true rfl) ?_
  refine aw_iload_n dX10_takes_0 rfl rfl ?_
  refine aw_if_ge (tgt := 6) dX10_takes_1 (by decide) rfl (by omega) (fun c1 => ?_) (fun c1 => ?_)
  · refine aw_iload_n dX10_takes_6 rfl rfl ?_
    refine aw_aload_n dX10_takes_7 rfl rfl ?_
    refine aw_getR dX10_takes_8 rfl fl_X10_12 g0 (by rfl) ?_
    refine aw_getI (kI := 2) dX10_takes_11 rfl fl_X10_126 g1 (by rfl) rfl ?_
    rw [a2]
    refine aw_icmp_lt (tgt := 20) dX10_takes_14 (by decide) rfl (by omega) (by omega) (fun c14 => ?_) (fun c14 => ?_)
    · refine aw_iconst dX10_takes_20 rfl ?_
      refine aw_istore2 rfl dX10_takes_21 rfl (by decide) ?_
      refine aw_bipush dX10_takes_22 rfl (by decide) ?_
      refine aw_istore3 rfl dX10_takes_24 rfl (by decide) ?_
      refine aw_iconst dX10_takes_25 rfl ?_
      refine aw_istore4 rfl dX10_takes_26 rfl (by decide) ?_
      exact loop (by omega) (c + 1).toNat 0 (by omega)
    · refine aw_bipush dX10_takes_17 rfl (by decide) ?_
      refine aw_ireturn (ty := .int) dX10_takes_19 rfl rfl ?_
      rw [if_neg (by omega)] at k
      have e : (takesAt f (min c 6 + 1).toNat).2 = -4 := by
        obtain ⟨j, hj⟩ : ∃ j : Nat, (min c 6 + 1).toNat = j + 1 := ⟨(min c 6).toNat, by omega⟩
        rw [hj, takesAt]
        exact (takes_pick (f := f) w46 j).mpr (by omega)
      rw [e] at k
      exact k
  · refine aw_iconst dX10_takes_4 rfl ?_
    refine aw_ireturn (ty := .int) dX10_takes_5 rfl rfl ?_
    rw [if_pos (by omega)] at k; exact k
theorem sC_commonDivisor {G : List GK} {a b : Int} (ha : 0 ≤ a ∧ a ≤ 1000000000) (hb : 0 ≤ b ∧ b ≤ 1000000000) (k : Q (some (vL (Int.gcd a b : Int))) mem) : AMet Γ mX10_commonDivisor [vL a, vL b] G mem Q := by
  have fin : ∀ (x i : Int) (x9 x10 : Option AV), 0 ≤ x → (Int.gcd x 0 = Int.gcd a b) → (0 ≤ i ∧ i < 1000) → AW Γ mX10_commonDivisor (zF Γ G Q) G 0 0 9 [some (vL a), none, some (vL b), none, some (vL x), none, some (vL 0), none, some (vI i), x9, x10] [] mem := by
    intro x i x9 x10 hx hg hi
    rw [Int.gcd_zero_right] at hg
    have kk : Q (some (vL x)) mem := q_eq k (by rw [← hg]; congr 2; omega) rfl
    refine aw_iload dX10_commonDivisor_9 rfl rfl ?_
    refine aw_sipush dX10_commonDivisor_11 rfl (by decide) ?_
    refine aw_icmp_ge (tgt := 45) dX10_commonDivisor_14 (by decide) rfl (by omega) (by omega) (fun c14 => ?_) (fun c14 => ?_)
    · refine aw_lload dX10_commonDivisor_45 rfl rfl ?_
      refine aw_lreturn dX10_commonDivisor_47 rfl ?_
      exact kk
    · refine aw_lload dX10_commonDivisor_17 rfl rfl ?_
      refine aw_lconst (a := 0) dX10_commonDivisor_19 rfl (by decide) ?_
      refine aw_lif_eq (tgt := 45) dX10_commonDivisor_20 dX10_commonDivisor_21 rfl (by decide) rfl (by omega) (by omega) (fun c20 => ?_) (fun c20 => ?_)
      · refine aw_lload dX10_commonDivisor_45 rfl rfl ?_
        refine aw_lreturn dX10_commonDivisor_47 rfl ?_
        exact kk
      · exfalso; exact c20 rfl
  have step : ∀ (x y i : Int) (x9 x10 : Option AV), (0 ≤ x ∧ x ≤ 1000000000) → (0 < y ∧ y ≤ 1000000000) → (0 ≤ i ∧ i < 200) → AW Γ mX10_commonDivisor (zF Γ G Q) G 0 0 9 [some (vL a), none, some (vL b), none, some (vL y), none, some (vL (x % y)), none, some (vI (i + 1)), some (vL (x % y)), none] [] mem → AW Γ mX10_commonDivisor (zF Γ G Q) G 0 0 9 [some (vL a), none, some (vL b), none, some (vL x), none, some (vL y), none, some (vI i), x9, x10] [] mem := by
    intro x y i x9 x10 hx hy hi kk
    refine aw_iload dX10_commonDivisor_9 rfl rfl ?_
    refine aw_sipush dX10_commonDivisor_11 rfl (by decide) ?_
    refine aw_icmp_ge (tgt := 45) dX10_commonDivisor_14 (by decide) rfl (by omega) (by omega) (fun c14 => ?_) (fun c14 => ?_)
    · exfalso; omega
    · refine aw_lload dX10_commonDivisor_17 rfl rfl ?_
      refine aw_lconst (a := 0) dX10_commonDivisor_19 rfl (by decide) ?_
      refine aw_lif_eq (tgt := 45) dX10_commonDivisor_20 dX10_commonDivisor_21 rfl (by decide) rfl (by omega) (by omega) (fun c20 => ?_) (fun c20 => ?_)
      · exfalso; omega
      · refine aw_lload dX10_commonDivisor_24 rfl rfl ?_
        refine aw_lload dX10_commonDivisor_26 rfl rfl ?_
        refine aw_lrem dX10_commonDivisor_28 rfl (by omega) (by omega) ?_
        refine aw_lstore9 rfl dX10_commonDivisor_29 rfl (by decide) ?_
        refine aw_lload dX10_commonDivisor_31 rfl rfl ?_
        refine aw_lstore4 rfl dX10_commonDivisor_33 rfl (by decide) ?_
        refine aw_lload dX10_commonDivisor_35 rfl rfl ?_
        refine aw_lstore6 rfl dX10_commonDivisor_37 rfl (by decide) ?_
        refine aw_iinc8 rfl dX10_commonDivisor_39 rfl (by decide) ?_
        refine aw_goto (tgt := 9) dX10_commonDivisor_42 (by decide) ?_
        exact kk
  have loop : ∀ (e : Nat) (x y i : Int) (x9 x10 : Option AV), (0 ≤ x ∧ x ≤ 1000000000) → (0 ≤ y ∧ y ≤ 1000000000) → y < 2 ^ e → (0 ≤ i ∧ i + 2 * e < 199) → Int.gcd x y = Int.gcd a b → AW Γ mX10_commonDivisor (zF Γ G Q) G 0 0 9 [some (vL a), none, some (vL b), none, some (vL x), none, some (vL y), none, some (vI i), x9, x10] [] mem := by
    intro e
    induction e with
    | zero =>
      intro x y i x9 x10 hx hy hp hi hg
      obtain rfl : y = 0 := by simp at hp; omega
      exact fin x i x9 x10 hx.1 hg (by omega)
    | succ e ih =>
      intro x y i x9 x10 hx hy hp hi hg
      push_cast at hi
      by_cases y0 : y = 0
      · subst y0
        exact fin x i x9 x10 hx.1 hg (by omega)
      · have r1 := Int.emod_nonneg x y0
        have r2 := Int.emod_lt_of_pos x (show 0 < y by omega)
        have g1 := gcd_step hx.1 (show 0 < y by omega)
        refine step x y i x9 x10 hx (by omega) (by omega) ?_
        by_cases z0 : x % y = 0
        · rw [z0] at g1 ⊢
          exact fin y (i + 1) _ _ hy.1 (by rw [g1]; exact hg) (by omega)
        · have s1 := Int.emod_nonneg y z0
          have s2 := Int.emod_lt_of_pos y (show 0 < x % y by omega)
          have g2 := gcd_step hy.1 (show 0 < x % y by omega)
          refine step y (x % y) (i + 1) _ _ hy (by omega) (by omega) ?_
          refine ih _ _ _ _ _ (by omega) (by omega) ?_ (by omega) (by rw [g2, g1]; exact hg)
          have hd := Int.mul_ediv_add_emod y (x % y)
          have hq : 1 ≤ y / (x % y) := by
            by_cases hl : y / (x % y) < 1
            · have hq0 : 0 ≤ y / (x % y) := Int.ediv_nonneg hy.1 (by omega)
              have : y / (x % y) = 0 := by omega
              rw [this] at hd
              omega
            · omega
          have hm : x % y ≤ x % y * (y / (x % y)) := by
            have := Int.mul_le_mul_of_nonneg_left hq (show 0 ≤ x % y by omega)
            rwa [Int.mul_one] at this
          have hpow : (2 : Int) ^ (e + 1) = 2 * 2 ^ e := by rw [Int.pow_succ]; omega
          omega
  refine AMet.of' 7 (ls := [some (vL (a)), none, some (vL (b)), none, none, none, none, none, none, none, none]) (by decide) rfl (Nat.le_of_ble_eq_true rfl) ?_
  refine aw_lload_n dX10_commonDivisor_0 rfl rfl ?_
  refine aw_lstore4 rfl dX10_commonDivisor_1 rfl (by decide) ?_
  refine aw_lload_n dX10_commonDivisor_3 rfl rfl ?_
  refine aw_lstore6 rfl dX10_commonDivisor_4 rfl (by decide) ?_
  refine aw_iconst dX10_commonDivisor_6 rfl ?_
  refine aw_istore8 rfl dX10_commonDivisor_7 rfl (by decide) ?_
  have p30 : (2 : Int) ^ 30 = 1073741824 := by decide
  exact loop 30 a b 0 none none ha hb (by omega) (by omega) rfl
theorem sC_fractionPart {G : List GK} {o u w : Int} (ho : 0 ≤ o ∧ o ≤ 1000000000) (hu : 0 < u ∧ u ≤ 1000000000) (hw : 0 ≤ w ∧ w ≤ 1) (k : Q (some (vL (ratM o u w))) mem) : AMet Γ mX10_fractionPart [vL o, vL u, vI w] G mem Q := by
  have hg : 0 < (Int.gcd o u : Int) ∧ (Int.gcd o u : Int) ≤ 1000000000 := by
    have h1 : 0 < Int.gcd o u := Nat.pos_of_ne_zero (fun z => by have := (Int.gcd_eq_zero_iff.mp z).2; omega)
    have h2 := Int.gcd_dvd_right (a := o) (b := u)
    have h3 := Int.le_of_dvd (by omega) h2
    omega
  have ec : Int.gcd u o = Int.gcd o u := Int.gcd_comm u o
  unfold ratM at k
  rw [ec] at k
  refine AMet.of' 2 (ls := [some (vL (o)), none, some (vL (u)), none, some (vI (w)), none, none]) (by decide) rfl (Nat.le_of_ble_eq_true rfl) ?_
  refine aw_lload_n dX10_fractionPart_0 rfl rfl ?_
  refine aw_lload_n dX10_fractionPart_1 rfl rfl ?_
  refine aw_callS [_, _] _ dX10_fractionPart_2 rfl cls_X10_363 (by decide) ⟨Nat.zero_le _, Nat.zero_le _⟩ (Nat.le_of_ble_eq_true rfl) rfl ?_
  refine sC_commonDivisor ho (by omega) ?_
  refine aw_lstore5 rfl dX10_fractionPart_5 rfl (by decide) ?_
  refine aw_lload dX10_fractionPart_7 rfl rfl ?_
  refine aw_lconst (a := 0) dX10_fractionPart_9 rfl (by decide) ?_
  refine aw_lif_ne (tgt := 18) dX10_fractionPart_10 dX10_fractionPart_11 rfl (by decide) rfl (by omega) (by omega) (fun c10 => ?_) (fun c10 => ?_)
  · refine aw_iload dX10_fractionPart_18 rfl rfl ?_
    refine aw_if_ne (tgt := 27) dX10_fractionPart_20 (by decide) rfl (by omega) (fun c20 => ?_) (fun c20 => ?_)
    · refine aw_lload_n dX10_fractionPart_27 rfl rfl ?_
      refine aw_lload dX10_fractionPart_28 rfl rfl ?_
      refine aw_ldiv dX10_fractionPart_30 rfl (by omega) (by omega) ?_
      refine aw_lreturn dX10_fractionPart_31 rfl ?_
      first | (rw [if_pos (by omega)] at k; exact k) | (rw [if_neg (by omega)] at k; exact k)
    · refine aw_lload_n dX10_fractionPart_23 rfl rfl ?_
      refine aw_goto (tgt := 28) dX10_fractionPart_24 (by decide) ?_
      refine aw_lload dX10_fractionPart_28 rfl rfl ?_
      refine aw_ldiv dX10_fractionPart_30 rfl (by omega) (by omega) ?_
      refine aw_lreturn dX10_fractionPart_31 rfl ?_
      first | (rw [if_pos (by omega)] at k; exact k) | (rw [if_neg (by omega)] at k; exact k)
  · refine aw_iload dX10_fractionPart_14 rfl rfl ?_
    refine aw_i2l dX10_fractionPart_16 rfl (by omega) ?_
    refine aw_lreturn dX10_fractionPart_17 rfl ?_
    exfalso; omega
end ZCmp9
