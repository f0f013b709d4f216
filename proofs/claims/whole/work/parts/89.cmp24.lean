/-! the component's reader: what always holds, what holds while no fault was met -/
abbrev RdN (m : Mem) : Prop := (3 ≤ m 71 0 ∧ m 71 0 ≤ 8) ∧ (0 ≤ m 71 3 ∧ m 71 3 ≤ 6) ∧ (0 ≤ m 70 2 ∧ m 70 2 ≤ 6) ∧ (∀ p : Nat, p < 6 → -4 ≤ m (80 + p) 2 ∧ m (80 + p) 2 ≤ 23) ∧ (∀ i : Int, 0 ≤ i → i < 6 → -4 ≤ m 86 i ∧ m 86 i ≤ 7) ∧ (0 ≤ m 67 5 ∧ m 67 5 ≤ 99) ∧ (0 ≤ m 67 6 ∧ m 67 6 ≤ 99) ∧ (-4 ≤ m 67 7 ∧ m 67 7 ≤ 99) ∧ (0 ≤ m 67 8 ∧ m 67 8 ≤ 1)
abbrev RdS (m : Mem) : Prop := TpC m ∧ TpN m ∧ RdN m
theorem RdN.fr {m m' : Mem} (h : RdN m) (hF : FrI m' m 68 69) : RdN m' := by
  obtain ⟨h1, h2, h3, h4, h5, h6⟩ := h
  refine ⟨?_, ?_, ?_, fun p hp => ?_, ?_, ?_⟩
  · rw [hF 71 (by omega)]; exact h1
  · rw [hF 71 (by omega)]; exact h2
  · rw [hF 70 (by omega)]; exact h3
  · rw [hF (80 + p) (by omega)]; exact h4 p hp
  · rw [hF 86 (by omega)]; exact h5
  · rw [hF 67 (by omega)]; exact h6
theorem RdN.s67 {m : Mem} {k v : Int} (h : RdN m) (hv : (k = 5 → 0 ≤ v ∧ v ≤ 99) ∧ (k = 6 → 0 ≤ v ∧ v ≤ 99) ∧ (k = 7 → -4 ≤ v ∧ v ≤ 99) ∧ (k = 8 → 0 ≤ v ∧ v ≤ 1)) : RdN (mset m 67 k v) := by
  obtain ⟨h1, h2, h3, h4, h5, h6, h7, h8, h9⟩ := h
  obtain ⟨v5, v6, v7, v8⟩ := hv
  refine ⟨?_, ?_, ?_, fun p hp => ?_, ?_, ?_, ?_, ?_, ?_⟩
  · rw [mset_ne (by decide)]; exact h1
  · rw [mset_ne (by decide)]; exact h2
  · rw [mset_ne (by decide)]; exact h3
  · rw [mset_ne (by omega)]; exact h4 p hp
  · rw [mset_ne (by decide)]; exact h5
  · rw [mset_same]; unfold fset; split
    · exact v5 (by omega)
    · exact h6
  · rw [mset_same]; unfold fset; split
    · exact v6 (by omega)
    · exact h7
  · rw [mset_same]; unfold fset; split
    · exact v7 (by omega)
    · exact h8
  · rw [mset_same]; unfold fset; split
    · exact v8 (by omega)
    · exact h9
theorem RdN.s71 {m : Mem} {k v : Int} (h : RdN m) (h0 : k = 0 → 3 ≤ v ∧ v ≤ 8) (h3 : k = 3 → 0 ≤ v ∧ v ≤ 6) : RdN (mset m 71 k v) := by
  obtain ⟨g1, g2, g3, g4, g5, g6⟩ := h
  refine ⟨?_, ?_, ?_, fun p hp => ?_, ?_, ?_⟩
  · rw [mset_same]; unfold fset; split
    · exact h0 (by omega)
    · exact g1
  · rw [mset_same]; unfold fset; split
    · exact h3 (by omega)
    · exact g2
  · rw [mset_ne (by decide)]; exact g3
  · rw [mset_ne (by omega)]; exact g4 p hp
  · rw [mset_ne (by decide)]; exact g5
  · rw [mset_ne (by decide)]; exact g6
theorem RdN.s86 {m : Mem} {k v : Int} (h : RdN m) (hv : -4 ≤ v ∧ v ≤ 7) : RdN (mset m 86 k v) := by
  obtain ⟨g1, g2, g3, g4, g5, g6⟩ := h
  refine ⟨?_, ?_, ?_, fun p hp => ?_, fun i i0 i1 => ?_, ?_⟩
  · rw [mset_ne (by decide)]; exact g1
  · rw [mset_ne (by decide)]; exact g2
  · rw [mset_ne (by decide)]; exact g3
  · rw [mset_ne (by omega)]; exact g4 p hp
  · rw [mset_same]; unfold fset; split
    · exact hv
    · exact g5 i i0 i1
  · rw [mset_ne (by decide)]; exact g6
theorem RdN.arr {m : Mem} {c : Nat} {k v : Int} (h : RdN m) (hc : 72 ≤ c ∧ c ≤ 75) : RdN (mset m c k v) := by
  obtain ⟨g1, g2, g3, g4, g5, g6⟩ := h
  refine ⟨?_, ?_, ?_, fun p hp => ?_, ?_, ?_⟩
  · rw [mset_ne (by omega)]; exact g1
  · rw [mset_ne (by omega)]; exact g2
  · rw [mset_ne (by omega)]; exact g3
  · rw [mset_ne (by omega)]; exact g4 p hp
  · rw [mset_ne (by omega)]; exact g5
  · rw [mset_ne (by omega)]; exact g6
theorem TpS.set {m : Mem} {c : Nat} {k v : Int} (h : TpC m ∧ TpN m) (h8 : c ≠ 68) (h9 : c ≠ 69) : TpC (mset m c k v) ∧ TpN (mset m c k v) := by
  have e8 : mset m c k v 68 = m 68 := mset_ne (Ne.symm h8)
  have e9 : mset m c k v 69 = m 69 := mset_ne (Ne.symm h9)
  unfold TpC TpN
  rw [e8, e9]
  exact h
/-- the draft and the reader's own numbers hold s -/
def RdF (s : PSt) (m : Mem) : Prop := (m 67 4 = s.1 7 ∧ m 67 8 = s.1 6 ∧ m 67 5 = max 0 (s.1 9) ∧ m 67 6 = max 0 (s.1 10) ∧ m 67 7 = s.1 11) ∧ FiR m 71 (s.1 5) s.2 ∧ (m 70 2 = s.2 46 ∧ m 70 3 = 0 ∧ m 70 4 = 0 ∧ m 70 5 = 0) ∧ (∀ p : Nat, (p : Int) < s.2 46 → m (80 + p) 0 = s.2 (47 + 8 * (p : Int) + 0) ∧ m (80 + p) 1 = s.2 (47 + 8 * (p : Int) + 1) ∧ m (80 + p) 2 = s.2 (47 + 8 * (p : Int) + 2) ∧ m (80 + p) 3 = 0 ∧ m (80 + p) 4 = 0 ∧ m (80 + p) 5 = 0) ∧ (∀ p : Nat, p < 6 → m 86 p = s.2 (47 + 8 * (p : Int) + 7))
theorem RdF.fr {s : PSt} {m m' : Mem} (h : RdF s m) (h46 : s.2 46 ≤ 6) (hF : FrI m' m 68 69) : RdF s m' := by
  obtain ⟨h1, h2, h3, h4, h5⟩ := h
  refine ⟨by rw [hF 67 (by omega)]; exact h1, ?_, by rw [hF 70 (by omega)]; exact h3, fun p hp => by rw [hF (80 + p) (by omega)]; exact h4 p hp, by rw [hF 86 (by omega)]; exact h5⟩
  unfold FiR
  rw [hF 71 (by omega), hF (71 + 1) (by omega), hF (71 + 2) (by omega), hF (71 + 3) (by omega), hF (71 + 4) (by omega)]
  exact h2
/-- memos told are those in the draft -/
def MI (s : PSt) : Prop := ∀ p : Nat, p < 6 → (zbt (s.1 8) p = true ↔ ¬ s.2 (47 + 8 * (p : Int) + 7) = -4)
def CmpR (r : Except Int PSt) (m : Mem) : Prop := match r with
  | .error a => TBad a m
  | .ok s => m 68 5 = 0 ∧ m 68 4 = s.p ∧ RdF s m
/-- a line's beginning -/
theorem lineA_eq {t : Int → Int} {L : Int} {s : PSt} (hx : ¬ tkX t L s.p) (hl : ¬ lineC t L s = -4) : lineA t L s = if fullC (lineC t L s) s then .error (8 * tkB t L s.p + 5) else if lineC t L s = 0 ∧ ¬ s.1 6 = 0 then .error (8 * tkB t L s.p + 4) else .ok (fset (fireG t L s).1 0 (tkE t L s.p), s.2) := by
  unfold lineA
  rw [chkP_y hx hl]
  show (((chkP k5 t L (fun s => ¬ fullC (lineC t L s) s) s).bind (chkP k4 t L (fun s => ¬ lineC t L s = 0 ∨ s.1 6 = 0))).bind (stP (fireG t L))).bind (advP t L) = _
  by_cases h5 : fullC (lineC t L s) s
  · rw [chkP_n hx (fun z => z h5), if_pos h5]
    rfl
  · rw [chkP_y hx h5, if_neg h5]
    show ((chkP k4 t L (fun s => ¬ lineC t L s = 0 ∨ s.1 6 = 0) s).bind (stP (fireG t L))).bind (advP t L) = _
    rw [chk_adv (G := fireG t L) (fun _ => rfl), if_neg hx]
    by_cases h6 : lineC t L s = 0 ∧ ¬ s.1 6 = 0
    · rw [if_pos h6, if_neg (by omega)]
    · rw [if_neg h6, if_pos (by omega)]
      rfl
theorem lineP_err {t : Int → Int} {L a : Int} {s : PSt} (h : lineA t L s = .error a) : lineP t L s = .error a := by
  unfold lineP
  rw [h]
  rfl
theorem lineP_of {t : Int → Int} {L : Int} {s : PSt} (h : lineA t L s = .ok (fset (fireG t L s).1 0 (tkE t L s.p), s.2)) : lineP t L s = (lineOfP t L (lineC t L s) (fset (fireG t L s).1 0 (tkE t L s.p), s.2)).bind (markP t L) := by
  unfold lineP
  rw [h]
  rfl
section ZCmp24
variable {Γ : ZG} {mem : Mem} {Q : Option AV → Mem → Prop}
theorem sC_bring0 {b p : Nat} {s w : Int} (hE : EvG zG b) (hb : mem b 2 = p) (hp : p < 6) (k1 : Q (some (vI 1)) (mset (mcell mem (b + 10 + p) (rawG s w (mem (b + 10 + p)))) b 2 ((p : Int) + 1))) : AMet Γ mX0_bring [vR b, vI s, vI w] zG mem Q := by
  obtain ⟨e0, eF, e6, e7, e8, e9, eS⟩ := hE
  have gp := eS p hp
  have gp0 := gp
  unfold SpG at gp0
  have s11 : AW Γ mX0_bring (zF Γ zG Q) zG 0 0 11 [some (vR b), some (vI s), some (vI w)] [] mem := by
    refine aw_aload_n dX0_bring_11 rfl rfl ?_
    refine aw_getR dX0_bring_12 rfl fl_X0_20 (by first | assumption | rfl) (by rfl) ?_
    refine aw_aload_n dX0_bring_15 rfl rfl ?_
    refine aw_getI (kI := 2) dX0_bring_16 rfl fl_X0_38 (by first | assumption | rfl) (by rfl) rfl ?_
    rw [hb]
    refine aw_aaload dX0_bring_19 rfl (by first | assumption | rfl) six_len (by omega) (six_getN (by omega)) ?_
    refine aw_iload_n dX0_bring_20 rfl rfl ?_
    refine aw_iload_n dX0_bring_21 rfl rfl ?_
    refine aw_callV [_, _] _ dX0_bring_22 rfl clv_X0_64 (by decide) ⟨Nat.zero_le _, Nat.zero_le _⟩ (by first | assumption | rfl) (by rfl) (Nat.le_of_ble_eq_true rfl) rfl ?_
    refine sC_becomeRaw gp ?_
    refine aw_aload_n dX0_bring_25 rfl rfl ?_
    refine aw_dup dX0_bring_26 rfl rfl ?_
    refine aw_getI (kI := 2) dX0_bring_27 rfl fl_X0_38 (by first | assumption | rfl) (by rfl) rfl ?_
    rw [mcell_ne (by omega), hb]
    refine aw_iconst dX0_bring_30 rfl ?_
    refine aw_iadd dX0_bring_31 rfl ?_
    refine aw_putI (kI := 2) dX0_bring_32 rfl fp_X0_38 (by first | assumption | rfl) (by rfl) rfl ?_
    refine aw_iconst dX0_bring_35 rfl ?_
    refine aw_ireturn (ty := .boolean) dX0_bring_36 rfl (znarZ (by omega)).1 ?_
    exact k1
  refine AMet.of' 0 (ls := [some (vR (b)), some (vI (s)), some (vI (w))]) (by decide) rfl (Nat.le_of_ble_eq_true rfl) ?_
  refine aw_aload_n dX0_bring_0 rfl rfl ?_
  refine aw_getI (kI := 2) dX0_bring_1 rfl fl_X0_38 (by first | assumption | rfl) (by rfl) rfl ?_
  rw [hb]
  refine aw_bipush dX0_bring_4 rfl (by decide) ?_
  refine aw_icmp_lt (tgt := 11) dX0_bring_6 (by decide) rfl (by omega) (by omega) (fun c6 => ?_) (fun c6 => ?_)
  · exact s11
  · exfalso; omega
/-- who lies in x, by the places g -/
def whoC (g : Nat → Int) (x : Int) : Nat → Nat → Int
  | 0, _ => -4
  | d + 1, p => if g p = x then (p : Int) else whoC g x d (p + 1)
theorem whoC_rng (g : Nat → Int) (x : Int) : ∀ d p : Nat, whoC g x d p = -4 ∨ ((p : Int) ≤ whoC g x d p ∧ whoC g x d p < p + d) := by
  intro d
  induction d with
  | zero => intro p; exact Or.inl rfl
  | succ d ih =>
    intro p
    rw [whoC]
    split
    · exact Or.inr ⟨Int.le_refl _, by push_cast; omega⟩
    · rcases ih (p + 1) with h | ⟨h1, h2⟩
      · exact Or.inl h
      · exact Or.inr ⟨by push_cast at h1; omega, by push_cast at h2 ⊢; omega⟩
theorem whoC_fresh {g : Nat → Int} {d : Int → Int} {x : Int} : ∀ N : Nat, (∀ p : Nat, p < N → g p = d (47 + 8 * (p : Int) + 2)) → (whoC g x N 0 = -4 ↔ ¬ freshF d x N = 0) := by
  have aux : ∀ (e p : Nat), (whoC g x e p = -4 ↔ ∀ q : Nat, p ≤ q → q < p + e → ¬ g q = x) := by
    intro e
    induction e with
    | zero => intro p; exact ⟨fun _ q h1 h2 => by omega, fun _ => rfl⟩
    | succ e ih =>
      intro p
      rw [whoC]
      by_cases h : g p = x
      · rw [if_pos h]
        constructor
        · intro z; omega
        · intro z; exact absurd h (z p (Nat.le_refl _) (by omega))
      · rw [if_neg h, ih]
        constructor
        · intro z q h1 h2
          by_cases eq : q = p
          · subst eq; exact h
          · exact z q (by omega) (by omega)
        · intro z q h1 h2
          exact z q (by omega) (by omega)
  have aux2 : ∀ N : Nat, (¬ freshF d x N = 0 ↔ ∀ q : Nat, q < N → ¬ d (47 + 8 * (q : Int) + 2) = x) := by
    intro N
    induction N with
    | zero => exact ⟨fun _ q h => by omega, fun _ => by show ¬ (1 : Int) = 0; decide⟩
    | succ N ih =>
      rw [freshF]
      constructor
      · intro z q hq
        split at z
        · next h =>
          by_cases eq : q = N
          · subst eq; exact h.2
          · exact ih.mp h.1 q (by omega)
        · exact absurd rfl z
      · intro z
        rw [if_pos ⟨ih.mpr (fun q hq => z q (by omega)), z N (by omega)⟩]
        decide
  intro N hg
  rw [aux N 0, aux2 N]
  constructor
  · intro z q hq
    have := z q (by omega) (by omega)
    rw [hg q hq] at this
    exact this
  · intro z q _ hq
    rw [hg q (by omega)]
    exact z q (by omega)
theorem sC_who0 {b N : Nat} {x : Int} (hE : EvG zG b) (hb : mem b 2 = N) (hN : N ≤ 6) (hx : -2147483648 ≤ x ∧ x ≤ 2147483647) (hr : ∀ p : Nat, p < 6 → -4 ≤ mem (b + 10 + p) 2 ∧ mem (b + 10 + p) 2 ≤ 23) (k : Q (some (vI (whoC (fun p => mem (b + 10 + p) 2) x N 0))) mem) : AMet Γ mX0_whoLiesIn [vR b, vI x] zG mem Q := by
  obtain ⟨e0, eF, e6, e7, e8, e9, eS⟩ := hE
  have loop : ∀ (d p : Nat), p + d = N → whoC (fun p => mem (b + 10 + p) 2) x N 0 = whoC (fun p => mem (b + 10 + p) 2) x d p → AW Γ mX0_whoLiesIn (zF Γ zG Q) zG 0 0 2 [some (vR b), some (vI x), some (vI p)] [] mem := by
    intro d
    induction d with
    | zero =>
      intro p hp e
      rw [e] at k
      refine aw_iload_n dX0_whoLiesIn_2 rfl rfl ?_
      refine aw_aload_n dX0_whoLiesIn_3 rfl rfl ?_
      refine aw_getI (kI := 2) dX0_whoLiesIn_4 rfl fl_X0_38 (by first | assumption | rfl) (by rfl) rfl ?_
      rw [hb]
      refine aw_icmp_ge (tgt := 31) dX0_whoLiesIn_7 (by decide) rfl (by omega) (by omega) (fun c7 => ?_) (fun c7 => ?_)
      · refine aw_bipush dX0_whoLiesIn_31 rfl (by decide) ?_
        refine aw_ireturn (ty := .int) dX0_whoLiesIn_33 rfl rfl ?_
        exact k
      · exfalso; omega
    | succ d ih =>
      intro p hp e
      have gp := eS p (by omega)
      unfold SpG at gp
      have rp := hr p (by omega)
      have es : whoC (fun p => mem (b + 10 + p) 2) x (d + 1) p = (if mem (b + 10 + p) 2 = x then (p : Int) else whoC (fun p => mem (b + 10 + p) 2) x d (p + 1)) := rfl
      rw [es] at e
      refine aw_iload_n dX0_whoLiesIn_2 rfl rfl ?_
      refine aw_aload_n dX0_whoLiesIn_3 rfl rfl ?_
      refine aw_getI (kI := 2) dX0_whoLiesIn_4 rfl fl_X0_38 (by first | assumption | rfl) (by rfl) rfl ?_
      rw [hb]
      refine aw_icmp_ge (tgt := 31) dX0_whoLiesIn_7 (by decide) rfl (by omega) (by omega) (fun c7 => ?_) (fun c7 => ?_)
      · exfalso; omega
      · refine aw_aload_n dX0_whoLiesIn_10 rfl rfl ?_
        refine aw_getR dX0_whoLiesIn_11 rfl fl_X0_20 (by first | assumption | rfl) (by rfl) ?_
        refine aw_iload_n dX0_whoLiesIn_14 rfl rfl ?_
        refine aw_aaload dX0_whoLiesIn_15 rfl (by first | assumption | rfl) six_len (by omega) (six_getN (by omega)) ?_
        refine aw_getI (kI := 2) dX0_whoLiesIn_16 rfl fl_X0_68 (by first | assumption | rfl) (by rfl) rfl ?_
        refine aw_iload_n dX0_whoLiesIn_19 rfl rfl ?_
        refine aw_icmp_ne (tgt := 25) dX0_whoLiesIn_20 (by decide) rfl (by omega) (by omega) (fun c20 => ?_) (fun c20 => ?_)
        · refine aw_iinc2 rfl dX0_whoLiesIn_25 rfl (by decide) ?_
          refine aw_goto (tgt := 2) dX0_whoLiesIn_28 (by decide) ?_
          rw [if_neg c20] at e
          exact ih (p + 1) (by omega) e
        · refine aw_iload_n dX0_whoLiesIn_23 rfl rfl ?_
          refine aw_ireturn (ty := .int) dX0_whoLiesIn_24 rfl rfl ?_
          rw [if_pos (by omega)] at e; rw [e] at k; exact k
  refine AMet.of' 1 (ls := [some (vR (b)), some (vI (x)), none]) (by decide) rfl (Nat.le_of_ble_eq_true rfl) ?_
  refine aw_iconst dX0_whoLiesIn_0 rfl ?_
  refine aw_istore2 rfl dX0_whoLiesIn_1 rfl (by decide) ?_
  exact loop N 0 (by omega) rfl
end ZCmp24
