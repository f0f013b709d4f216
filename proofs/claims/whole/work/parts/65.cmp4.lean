theorem six_len {b : Nat} : [some (b + 10), some (b + 11), some (b + 12), some (b + 13), some (b + 14), some (b + 15)].length < 2147483648 := by
  show 6 < 2147483648
  decide
theorem six_getN {b p : Nat} (h : p < 6) : [some (b + 10), some (b + 11), some (b + 12), some (b + 13), some (b + 14), some (b + 15)][((p : Nat) : Int).toNat]? = some (some (b + 10 + p)) := by
  have hz := six_get (b := b) (p := (p : Int)) (by omega)
  rw [Int.toNat_natCast] at hz ⊢
  exact hz
theorem SpR.ext {g f f' : Int → Int} {p : Int} (h : SpR g f p) (hb : 0 ≤ f (47 + 8 * p + 6) ∧ f (47 + 8 * p + 6) ≤ 1) (he : ∀ j : Int, 47 + 8 * p ≤ j → j < 47 + 8 * p + 8 → f' j = f j) : SpR g f' p := by
  unfold SpR
  rw [he (47 + 8 * p + 0) (by omega) (by omega), he (47 + 8 * p + 1) (by omega) (by omega), he (47 + 8 * p + 2) (by omega) (by omega), he (47 + 8 * p + 3) (by omega) (by omega), he (47 + 8 * p + 6) (by omega) (by omega), he (47 + 8 * p + 7) (by omega) (by omega), he (47 + 8 * p + (4 + f (47 + 8 * p + 6))) (by omega) (by omega), he (47 + 8 * p + (5 - f (47 + 8 * p + 6))) (by omega) (by omega)]
  exact h
theorem Wf.fl {n : Int} {f : Int → Int} (w : Wf n f) {p : Nat} (hp : (p : Int) < f 46) : 0 ≤ f (47 + 8 * (p : Int) + 6) ∧ f (47 + 8 * (p : Int) + 6) ≤ 1 := (w.2.2.2.2.2.2.2.1 p (by omega) hp).2.2.2.2.2.2.1
theorem Wf.sp {n : Int} {f : Int → Int} (w : Wf n f) {p : Nat} (hp : (p : Int) < f 46) : SpW n f p := w.2.2.2.2.2.2.2.1 p (by omega) hp
theorem Wf.n46 {n : Int} {f : Int → Int} (w : Wf n f) : 0 ≤ f 46 ∧ f 46 ≤ 6 := w.2.2.2.2.2.2.1
section
variable {m m' : Mem} {b : Nat} {n : Int} {f f' : Int → Int}
theorem Ev.keep (h : Ev m b n f) (w : f 46 ≤ 6) (hm : ∀ d : Nat, b ≤ d → d < b + 16 → m' d = m d) : Ev m' b n f := by
  obtain ⟨⟨h0, h1, h2, h3, hh, hw⟩, ha, hs, hf⟩ := h
  unfold Ev FiR
  rw [hm b (by omega) (by omega), hm (b + 1) (by omega) (by omega), hm (b + 1 + 1) (by omega) (by omega), hm (b + 1 + 2) (by omega) (by omega), hm (b + 1 + 3) (by omega) (by omega), hm (b + 1 + 4) (by omega) (by omega), hm (b + 7) (by omega) (by omega), hm (b + 8) (by omega) (by omega), hm (b + 9) (by omega) (by omega)]
  refine ⟨⟨h0, h1, h2, h3, hh, hw⟩, ha, fun p hp => ?_, hf⟩
  rw [hm (b + 10 + p) (by omega) (by omega)]
  exact hs p hp
/-- one potato's cell changes -/
theorem Ev.spud {g : Int → Int} (h : Ev m b n f) (w : Wf n f) {p : Nat} (hp : p < 6) (hf : ∀ j : Int, j < 47 + 8 * p ∨ 47 + 8 * p + 8 ≤ j → f' j = f j) (hg : SpR g f' p) : Ev (mcell m (b + 10 + p) g) b n f' := by
  obtain ⟨⟨h0, h1, h2, h3, hh, hw⟩, ha, hs, hfe⟩ := h
  have w26 := w.2.2.2.2.1
  have w46 := w.n46
  unfold Ev FiR
  rw [mcell_ne (d := b) (by omega), mcell_ne (d := b + 1) (by omega), mcell_ne (d := b + 1 + 1) (by omega), mcell_ne (d := b + 1 + 2) (by omega), mcell_ne (d := b + 1 + 3) (by omega), mcell_ne (d := b + 1 + 4) (by omega), mcell_ne (d := b + 7) (by omega), mcell_ne (d := b + 8) (by omega), mcell_ne (d := b + 9) (by omega)]
  have e46 : f' 46 = f 46 := hf 46 (by omega)
  refine ⟨⟨h0, by rw [hf 24 (by omega)]; exact h1, by rw [hf 25 (by omega)]; exact h2, by rw [hf 26 (by omega)]; exact h3, fun x x0 x1 => by rw [hf x (by omega)]; exact hh x x0 x1, fun i i0 i1 => ?_⟩, ?_, fun q hq => ?_, fun i i0 i1 => ?_⟩
  · rw [hf 26 (by omega)] at i1
    rw [hf _ (by omega), hf _ (by omega), hf _ (by omega)]; exact hw i i0 i1
  · rw [e46, hf 45 (by omega), hf 95 (by omega), hf 96 (by omega)]; exact ha
  · by_cases e : q = p
    · subst e
      rw [mcell_same]
      exact hg
    · rw [mcell_ne (by omega)]
      rw [e46] at hq
      exact (hs q hq).ext (w.fl hq) (fun j j0 j1 => hf j (by omega))
  · rw [hf 96 (by omega)] at i1
    rw [hf _ (by omega), hf _ (by omega), hf _ (by omega)]; exact hfe i i0 i1
/-- the fire changes -/
theorem Ev.fire (h : Ev m b n f) (w : Wf n f) (hF : FrI m' m (b + 1) (b + 6)) (hR : FiR m' (b + 1) n f') (hf : ∀ j : Int, 45 ≤ j → f' j = f j) : Ev m' b n f' := by
  obtain ⟨-, ha, hs, hfe⟩ := h
  have w46 := w.n46
  refine ⟨hR, ?_, fun q hq => ?_, fun i i0 i1 => ?_⟩
  · rw [hF b (by omega), hf 46 (by omega), hf 45 (by omega), hf 95 (by omega), hf 96 (by omega)]; exact ha
  · rw [hf 46 (by omega)] at hq
    rw [hF (b + 10 + q) (by omega)]
    exact (hs q hq).ext (w.fl hq) (fun j j0 j1 => hf j (by omega))
  · rw [hf 96 (by omega)] at i1
    rw [hF (b + 7) (by omega), hF (b + 8) (by omega), hF (b + 9) (by omega), hf _ (by omega), hf _ (by omega), hf _ (by omega)]; exact hfe i i0 i1
/-- the evening's own numbers change -/
theorem Ev.fld {g : Int → Int} (h : Ev m b n f) (w : Wf n f) (hf : ∀ j : Int, ¬ j = 45 → ¬ j = 46 → ¬ j = 95 → ¬ j = 96 → f' j = f j) (hg : g 2 = f' 46 ∧ g 3 = f' 45 ∧ g 4 = f' 95 ∧ g 5 = f' 96) (h46 : f' 46 ≤ f 46) (h96 : f' 96 ≤ f 96) : Ev (mcell m b g) b n f' := by
  obtain ⟨⟨h0, h1, h2, h3, hh, hw⟩, ha, hs, hfe⟩ := h
  have w26 := w.2.2.2.2.1
  have w46 := w.n46
  unfold Ev FiR
  rw [mcell_same, mcell_ne (d := b + 1) (by omega), mcell_ne (d := b + 1 + 1) (by omega), mcell_ne (d := b + 1 + 2) (by omega), mcell_ne (d := b + 1 + 3) (by omega), mcell_ne (d := b + 1 + 4) (by omega), mcell_ne (d := b + 7) (by omega), mcell_ne (d := b + 8) (by omega), mcell_ne (d := b + 9) (by omega)]
  refine ⟨⟨h0, by rw [hf 24 (by omega) (by omega) (by omega) (by omega)]; exact h1, by rw [hf 25 (by omega) (by omega) (by omega) (by omega)]; exact h2, by rw [hf 26 (by omega) (by omega) (by omega) (by omega)]; exact h3, fun x x0 x1 => by rw [hf x (by omega) (by omega) (by omega) (by omega)]; exact hh x x0 x1, fun i i0 i1 => ?_⟩, hg, fun q hq => ?_, fun i i0 i1 => ?_⟩
  · rw [hf 26 (by omega) (by omega) (by omega) (by omega)] at i1
    rw [hf _ (by omega) (by omega) (by omega) (by omega), hf _ (by omega) (by omega) (by omega) (by omega), hf _ (by omega) (by omega) (by omega) (by omega)]; exact hw i i0 i1
  · have hq' : (q : Int) < f 46 := by omega
    rw [mcell_ne (by omega)]
    exact (hs q hq').ext (w.fl hq') (fun j j0 j1 => hf j (by omega) (by omega) (by omega) (by omega))
  · rw [hf _ (by omega) (by omega) (by omega) (by omega), hf _ (by omega) (by omega) (by omega) (by omega), hf _ (by omega) (by omega) (by omega) (by omega)]; exact hfe i i0 (by omega)
end
abbrev knC (g : Int → Int) (w : Int) : Prop := if w = 0 then dnC g 0 else if w = 1 then blC g else if w = 2 then (dnC g 0 ∧ ¬ blC g) else g 2 = -4
abbrev knF (f : Int → Int) (p w : Int) : Prop := if w = 0 then isDoneF f p else if w = 1 then isBlackF f p else if w = 2 then isGoodF f p else f (47 + 8 * p + 2) = -4
theorem SpR.dn {g f : Int → Int} {p : Int} (h : SpR g f p) : dnC g 0 ↔ isDoneF f p := by
  have a := h.1
  have c := h.2.2.2.1
  unfold dnC isDoneF
  omega
theorem SpR.bl {n : Int} {g f : Int → Int} {p : Int} (h : SpR g f p) (w : SpW n f p) : blC g ↔ isBlackF f p := by
  unfold blC isBlackF
  rcases h.fl w with ⟨h4, h5⟩ | ⟨h4, h5⟩ <;> rw [h4, h5] <;> omega
theorem SpR.gd {n : Int} {g f : Int → Int} {p : Int} (h : SpR g f p) (w : SpW n f p) : (dnC g 0 ∧ ¬ blC g) ↔ isGoodF f p := by
  unfold isGoodF
  rw [h.dn, h.bl w]
theorem SpR.kn {n : Int} {g f : Int → Int} {p v : Int} (h : SpR g f p) (w : SpW n f p) : knC g v ↔ knF f p v := by
  unfold knC knF
  (repeat' split)
  · exact h.dn
  · exact h.bl w
  · exact h.gd w
  · rw [h.2.2.1]
def cntTo (f : Int → Int) (w : Int) : Nat → Int
  | 0 => 0
  | p + 1 => cntTo f w p + (if knF f p w then 1 else 0)
theorem cnt_good (f : Int → Int) : ∀ k : Nat, cntTo f 2 k = goodTo k f := by
  intro k
  induction k with
  | zero => rfl
  | succ k ih => rw [cntTo, goodTo, ih]; rfl
theorem cnt_black (f : Int → Int) : ∀ k : Nat, cntTo f 1 k = blackTo k f := by
  intro k
  induction k with
  | zero => rfl
  | succ k ih => rw [cntTo, blackTo, ih]; rfl
theorem cnt_done (f : Int → Int) : ∀ k : Nat, cntTo f 0 k = doneTo k f := by
  intro k
  induction k with
  | zero => rfl
  | succ k ih => rw [cntTo, doneTo, ih]; rfl
theorem cnt_out (f : Int → Int) : ∀ k : Nat, cntTo f 3 k = outTo k f := by
  intro k
  induction k with
  | zero => rfl
  | succ k ih => rw [cntTo, outTo, ih]; rfl
section ZCmp4
variable {Γ : ZG} {mem : Mem} {Q : Option AV → Mem → Prop} {b : Nat} {n : Int} {f : Int → Int}
theorem sC_hasSpud {x : Int} (hE : EvG zG b) (h : 0 ≤ mem b 2 ∧ mem b 2 ≤ 6) (hx : -2147483648 ≤ x ∧ x ≤ 2147483647) (k1 : 0 ≤ x ∧ x < mem b 2 → Q (some (vI 1)) mem) (k0 : ¬ (0 ≤ x ∧ x < mem b 2) → Q (some (vI 0)) mem) : AMet Γ mX0_hasSpud [vR b, vI x] zG mem Q := by
  obtain ⟨e0, eF, e6, e7, e8, e9, eS⟩ := hE
  refine AMet.of' 0 (ls := [some (vR (b)), some (vI (x))]) (by decide) rfl (Nat.le_of_ble_eq_true rfl) ?_
  refine aw_iload_n dX0_hasSpud_0 rfl rfl ?_
  refine aw_if_lt (tgt := 16) dX0_hasSpud_1 (by decide) rfl (by omega) (fun c1 => ?_) (fun c1 => ?_)
  · refine aw_iconst dX0_hasSpud_16 rfl ?_
    refine aw_ireturn (ty := .boolean) dX0_hasSpud_17 rfl (znarZ (by omega)).1 ?_
    first | exact k0 (by omega) | exact k1 (by omega)
  · refine aw_iload_n dX0_hasSpud_4 rfl rfl ?_
    refine aw_aload_n dX0_hasSpud_5 rfl rfl ?_
    refine aw_getI (kI := 2) dX0_hasSpud_6 rfl fl_X0_38 (by first | assumption | rfl) (by rfl) rfl ?_
    refine aw_icmp_ge (tgt := 16) dX0_hasSpud_9 (by decide) rfl (by omega) (by omega) (fun c9 => ?_) (fun c9 => ?_)
    · refine aw_iconst dX0_hasSpud_16 rfl ?_
      refine aw_ireturn (ty := .boolean) dX0_hasSpud_17 rfl (znarZ (by omega)).1 ?_
      first | exact k0 (by omega) | exact k1 (by omega)
    · refine aw_iconst dX0_hasSpud_12 rfl ?_
      refine aw_goto (tgt := 17) dX0_hasSpud_13 (by decide) ?_
      refine aw_ireturn (ty := .boolean) dX0_hasSpud_17 rfl (znarZ (by omega)).1 ?_
      first | exact k0 (by omega) | exact k1 (by omega)
theorem sC_isOfKind {c : Nat} {w : Int} (hG : SpG zG c) (hc : SpC (mem c)) (hw : 0 ≤ w ∧ w ≤ 3) (k1 : knC (mem c) w → Q (some (vI 1)) mem) (k0 : ¬ knC (mem c) w → Q (some (vI 0)) mem) : AMet Γ mX0_isOfKind [vR c, vI w] zG mem Q := by
  have hG' := hG
  unfold SpG at hG
  have r2 := hc.2.2.1
  unfold knC at k1 k0
  refine AMet.of' 0 (ls := [some (vR (c)), some (vI (w))]) (by decide) rfl (Nat.le_of_ble_eq_true rfl) ?_
  refine aw_iload_n dX0_isOfKind_0 rfl rfl ?_
  refine aw_tsw (tgt := 43) dX0_isOfKind_1 (by omega) (by decide) (by decide) (fun c1 => ?_) ?_ (by decide)
  · rw [if_neg (by omega), if_neg (by omega), if_neg (by omega)] at k1 k0
    refine aw_aload_n dX0_isOfKind_43 rfl rfl ?_
    refine aw_getI (kI := 2) dX0_isOfKind_44 rfl fl_X0_68 (by first | assumption | rfl) (by rfl) rfl ?_
    refine aw_bipush dX0_isOfKind_47 rfl (by decide) ?_
    refine aw_icmp_ne (tgt := 56) dX0_isOfKind_49 (by decide) rfl (by omega) (by omega) (fun c49 => ?_) (fun c49 => ?_)
    · refine aw_iconst dX0_isOfKind_56 rfl ?_
      refine aw_ireturn (ty := .boolean) dX0_isOfKind_57 rfl (znarZ (by omega)).1 ?_
      first | exact k0 (by omega) | exact k1 (by omega)
    · refine aw_iconst dX0_isOfKind_52 rfl ?_
      refine aw_goto (tgt := 57) dX0_isOfKind_53 (by decide) ?_
      refine aw_ireturn (ty := .boolean) dX0_isOfKind_57 rfl (znarZ (by omega)).1 ?_
      first | exact k0 (by omega) | exact k1 (by omega)
  · intro jz offz hoz hj1 tz htz hpz
    match jz, hoz with
    | 0, hoz =>
      obtain rfl : (27 : Int) = offz := Option.some.inj hoz
      obtain rfl : tz = 28 := by omega
      rw [if_pos (by omega)] at k1 k0
      refine aw_aload_n dX0_isOfKind_28 rfl rfl ?_
      refine aw_callV [] _ dX0_isOfKind_29 rfl clv_X0_95 (by decide) ⟨Nat.zero_le _, Nat.zero_le _⟩ (by first | assumption | rfl) (by rfl) (Nat.le_of_ble_eq_true rfl) rfl ?_
      refine sC_isDone hG' hc (fun c29 => ?_) (fun c29 => ?_)
      · refine aw_ireturn (ty := .boolean) dX0_isOfKind_32 rfl (znarZ (by omega)).1 ?_
        first | exact k1 c29 | exact k0 c29
      · refine aw_ireturn (ty := .boolean) dX0_isOfKind_32 rfl (znarZ (by omega)).1 ?_
        first | exact k1 c29 | exact k0 c29
    | 1, hoz =>
      obtain rfl : (32 : Int) = offz := Option.some.inj hoz
      obtain rfl : tz = 33 := by omega
      rw [if_neg (by omega), if_pos (by omega)] at k1 k0
      refine aw_aload_n dX0_isOfKind_33 rfl rfl ?_
      refine aw_callV [] _ dX0_isOfKind_34 rfl clv_X0_103 (by decide) ⟨Nat.zero_le _, Nat.zero_le _⟩ (by first | assumption | rfl) (by rfl) (Nat.le_of_ble_eq_true rfl) rfl ?_
      refine sC_isBlack hG' hc (fun c34 => ?_) (fun c34 => ?_)
      · refine aw_ireturn (ty := .boolean) dX0_isOfKind_37 rfl (znarZ (by omega)).1 ?_
        first | exact k1 c34 | exact k0 c34
      · refine aw_ireturn (ty := .boolean) dX0_isOfKind_37 rfl (znarZ (by omega)).1 ?_
        first | exact k1 c34 | exact k0 c34
    | 2, hoz =>
      obtain rfl : (37 : Int) = offz := Option.some.inj hoz
      obtain rfl : tz = 38 := by omega
      rw [if_neg (by omega), if_neg (by omega), if_pos (by omega)] at k1 k0
      refine aw_aload_n dX0_isOfKind_38 rfl rfl ?_
      refine aw_callV [] _ dX0_isOfKind_39 rfl clv_X0_106 (by decide) ⟨Nat.zero_le _, Nat.zero_le _⟩ (by first | assumption | rfl) (by rfl) (Nat.le_of_ble_eq_true rfl) rfl ?_
      refine sC_isGood hG' hc (fun c39 => ?_) (fun c39 => ?_)
      · refine aw_ireturn (ty := .boolean) dX0_isOfKind_42 rfl (znarZ (by omega)).1 ?_
        first | exact k1 c39 | exact k0 c39
      · refine aw_ireturn (ty := .boolean) dX0_isOfKind_42 rfl (znarZ (by omega)).1 ?_
        first | exact k1 c39 | exact k0 c39
    | jz + 3, hoz => exact absurd hoz (by simp)
theorem sC_tally {w : Int} (hE : EvG zG b) (hw : 0 ≤ w ∧ w ≤ 3) (wf : Wf n f) (h : Ev mem b n f) (k : Q (some (vI (cntTo f w (f 46).toNat))) mem) : AMet Γ mX0_tally [vR b, vI w] zG mem Q := by
  obtain ⟨e0, eF, e6, e7, e8, e9, eS⟩ := hE
  obtain ⟨hFi, ⟨a2, a3, a4, a5⟩, hs, hfe⟩ := h
  have w46 := wf.n46
  have loop : ∀ (d p : Nat), (p : Int) + d = f 46 → AW Γ mX0_tally (zF Γ zG Q) zG 0 0 4 [some (vR b), some (vI w), some (vI (cntTo f w p)), some (vI p)] [] mem := by
    intro d
    induction d with
    | zero =>
      intro p hp
      have e : p = (f 46).toNat := by omega
      refine aw_iload_n dX0_tally_4 rfl rfl ?_
      refine aw_aload_n dX0_tally_5 rfl rfl ?_
      refine aw_getI (kI := 2) dX0_tally_6 rfl fl_X0_38 (by first | assumption | rfl) (by rfl) rfl ?_
      rw [a2]
      refine aw_icmp_ge (tgt := 34) dX0_tally_9 (by decide) rfl (by omega) (by omega) (fun c9 => ?_) (fun c9 => ?_)
      · refine aw_iload_n dX0_tally_34 rfl rfl ?_
        refine aw_ireturn (ty := .int) dX0_tally_35 rfl rfl ?_
        rw [e]; exact k
      · exfalso; omega
    | succ d ih =>
      intro p hp
      push_cast at hp
      have gp := eS p (by omega)
      have gp0 := gp
      unfold SpG at gp0
      have hsp := hs p (by omega)
      have wsp := wf.sp (p := p) (by omega)
      have hz := ih (p + 1) (by push_cast; omega)
      rw [cntTo] at hz
      push_cast at hz
      refine aw_iload_n dX0_tally_4 rfl rfl ?_
      refine aw_aload_n dX0_tally_5 rfl rfl ?_
      refine aw_getI (kI := 2) dX0_tally_6 rfl fl_X0_38 (by first | assumption | rfl) (by rfl) rfl ?_
      rw [a2]
      refine aw_icmp_ge (tgt := 34) dX0_tally_9 (by decide) rfl (by omega) (by omega) (fun c9 => ?_) (fun c9 => ?_)
      · exfalso; omega
      · refine aw_aload_n dX0_tally_12 rfl rfl ?_
        refine aw_getR dX0_tally_13 rfl fl_X0_20 (by first | assumption | rfl) (by rfl) ?_
        refine aw_iload_n dX0_tally_16 rfl rfl ?_
        refine aw_aaload dX0_tally_17 rfl (by first | assumption | rfl) six_len (by omega) (six_getN (by omega)) ?_
        refine aw_iload_n dX0_tally_18 rfl rfl ?_
        refine aw_callS [_, _] _ dX0_tally_19 rfl cls_X0_99 (by decide) ⟨Nat.zero_le _, Nat.zero_le _⟩ (Nat.le_of_ble_eq_true rfl) rfl ?_
        refine sC_isOfKind gp (hsp.c wf.1 wsp) hw (fun c19 => ?_) (fun c19 => ?_)
        · refine aw_if_eq (tgt := 28) dX0_tally_22 (by decide) rfl (by omega) (fun c => absurd c (by decide)) (fun _ => ?_)
          refine aw_iinc2 rfl dX0_tally_25 rfl (by decide) ?_
          refine aw_iinc3 rfl dX0_tally_28 rfl (by decide) ?_
          refine aw_goto (tgt := 4) dX0_tally_31 (by decide) ?_
          first | (rw [if_pos ((hsp.kn wsp).mp c19)] at hz; exact hz) | (rw [if_neg (fun z => c19 ((hsp.kn wsp).mpr z)), Int.add_zero] at hz; exact hz)
        · refine aw_if_eq (tgt := 28) dX0_tally_22 (by decide) rfl (by omega) (fun _ => ?_) (fun c => absurd c (by decide))
          refine aw_iinc3 rfl dX0_tally_28 rfl (by decide) ?_
          refine aw_goto (tgt := 4) dX0_tally_31 (by decide) ?_
          first | (rw [if_pos ((hsp.kn wsp).mp c19)] at hz; exact hz) | (rw [if_neg (fun z => c19 ((hsp.kn wsp).mpr z)), Int.add_zero] at hz; exact hz)
  refine AMet.of' 2 (ls := [some (vR (b)), some (vI (w)), none, none]) (by decide) rfl (Nat.le_of_ble_eq_true rfl) ?_
  refine aw_iconst dX0_tally_0 rfl ?_
  refine aw_istore2 rfl dX0_tally_1 rfl (by decide) ?_
  refine aw_iconst dX0_tally_2 rfl ?_
  refine aw_istore3 rfl dX0_tally_3 rfl (by decide) ?_
  exact loop (f 46).toNat 0 (by omega)
theorem bak_row {n : Int} {g f : Int → Int} {p : Nat} (h : SpR g f p) (w : SpW n f p) (hne : ¬ f (47 + 8 * (p : Int) + 2) = -4) : SpR (bakG (f (f (47 + 8 * (p : Int) + 2))) g) (bakeF p f) p := by
  have hfl := w.2.2.2.2.2.2.1
  obtain ⟨h0, h1, h2, h3, h4, h5, h6⟩ := h
  have eb : bakeF p f = fset (fset f (47 + 8 * (p : Int) + 3) (min 99 (f (47 + 8 * (p : Int) + 3) + f (f (47 + 8 * (p : Int) + 2)) / coF (f (47 + 8 * (p : Int) + 1))))) (47 + 8 * (p : Int) + (4 + f (47 + 8 * (p : Int) + 6))) (min 99 (f (47 + 8 * (p : Int) + (4 + f (47 + 8 * (p : Int) + 6))) + f (f (47 + 8 * (p : Int) + 2)) / siF (f (47 + 8 * (p : Int) + 1)))) := by
    unfold bakeF
    rw [if_neg hne]
  have o : ∀ j : Int, ¬ j = 47 + 8 * (p : Int) + 3 → ¬ j = 47 + 8 * (p : Int) + (4 + f (47 + 8 * (p : Int) + 6)) → bakeF p f j = f j := fun j j1 j2 => by rw [eb, fset_ne j2, fset_ne j1]
  have e6 : bakeF p f (47 + 8 * (p : Int) + 6) = f (47 + 8 * (p : Int) + 6) := o _ (by omega) (by omega)
  unfold SpR bakG
  rw [e6]
  refine ⟨?_, ?_, ?_, ?_, ?_, ?_, ?_⟩
  · rw [fset_ne (by decide), fset_ne (by decide), o _ (by omega) (by omega)]; exact h0
  · rw [fset_ne (by decide), fset_ne (by decide), o _ (by omega) (by omega)]; exact h1
  · rw [fset_ne (by decide), fset_ne (by decide), o _ (by omega) (by omega)]; exact h2
  · rw [fset_ne (by decide), fset_same, eb, fset_ne (by omega), fset_same, h3, h1]
  · rw [fset_same, eb, fset_same, h4, h1]
  · rw [fset_ne (by decide), fset_ne (by decide), o _ (by omega) (by omega)]; exact h5
  · rw [fset_ne (by decide), fset_ne (by decide), o _ (by omega) (by omega)]; exact h6
theorem sC_passRound (hE : EvG zG b) (wf : Wf n f) (h : Ev mem b n f) (k : ∀ m' : Mem, FrI m' mem b (b + 16) → Ev m' b n (roundF n f) → Q none m') : AMet Γ mX0_passRound [vR b] zG mem Q := by
  obtain ⟨e0, eF, e6, e7, e8, e9, eS⟩ := hE
  have eF0 := eF.1
  have hn := wf.1
  have w46 := wf.n46
  have loop : ∀ (d p : Nat) (m : Mem), (p : Int) + d = f 46 → FrI m mem b (b + 16) → Ev m b n (bakeTo p f) → AW Γ mX0_passRound (zF Γ zG Q) zG 0 0 2 [some (vR b), some (vI p)] [] m := by
    intro d
    induction d with
    | zero =>
      intro p m hp hF hev
      have e : p = (f 46).toNat := by omega
      obtain ⟨w1, w2, w3⟩ := bakeTo_Wf wf p (by omega)
      obtain ⟨w4, w5⟩ := burnF_Wf w1
      obtain ⟨w6, w7⟩ := coolF_Wf w4
      have m2 : m b 2 = f 46 := by rw [hev.2.1.1, w2]
      refine aw_iload_n dX0_passRound_2 rfl rfl ?_
      refine aw_aload_n dX0_passRound_3 rfl rfl ?_
      refine aw_getI (kI := 2) dX0_passRound_4 rfl fl_X0_38 (by first | assumption | rfl) (by rfl) rfl ?_
      rw [m2]
      refine aw_icmp_ge (tgt := 55) dX0_passRound_7 (by decide) rfl (by omega) (by omega) (fun c7 => ?_) (fun c7 => ?_)
      · refine aw_aload_n dX0_passRound_55 rfl rfl ?_
        refine aw_getR dX0_passRound_56 rfl fl_X0_12 (by first | assumption | rfl) (by rfl) ?_
        refine aw_callV [] _ dX0_passRound_59 rfl clv_X0_79 (by decide) ⟨Nat.zero_le _, Nat.zero_le _⟩ (by first | assumption | rfl) (by rfl) (Nat.le_of_ble_eq_true rfl) rfl ?_
        refine sC_burnWood eF w1 hev.1 (fun m1 f1 r1 => ?_)
        have v1 := hev.fire w1 (f1.wd (by omega) (by omega)) r1 (fun j hj => w5 j (by omega))
        refine aw_aload_n dX0_passRound_62 rfl rfl ?_
        refine aw_getR dX0_passRound_63 rfl fl_X0_12 (by first | assumption | rfl) (by rfl) ?_
        refine aw_callV [] _ dX0_passRound_66 rfl clv_X0_82 (by decide) ⟨Nat.zero_le _, Nat.zero_le _⟩ (by first | assumption | rfl) (by rfl) (Nat.le_of_ble_eq_true rfl) rfl ?_
        refine sC_coolDown eF w4 r1 (fun m2 f2 r2 => ?_)
        have v2 := v1.fire w4 (f2.wd (by omega) (by omega)) r2 (fun j hj => w7 j (by omega))
        refine aw_aload_n dX0_passRound_69 rfl rfl ?_
        refine aw_dup dX0_passRound_70 rfl rfl ?_
        refine aw_getI (kI := 3) dX0_passRound_71 rfl fl_X0_42 (by first | assumption | rfl) (by rfl) rfl ?_
        refine aw_iconst dX0_passRound_74 rfl ?_
        refine aw_iadd dX0_passRound_75 rfl ?_
        refine aw_putI (kI := 3) dX0_passRound_76 rfl fp_X0_42 (by first | assumption | rfl) (by rfl) rfl ?_
        refine aw_return dX0_passRound_79 rfl ?_
        rw [mset_eq]
        have e45 : coolF n (burnF (bakeTo p f)) 45 = f 45 := by rw [w7 45 (by omega), w5 45 (by omega), w3 45 (by omega)]
        refine k _ ((((f2.wd (by omega) (by omega)).tr (f1.wd (by omega) (by omega))).tr hF).cell (by omega)) ?_
        have er : roundF n f = fset (coolF n (burnF (bakeTo p f))) 45 (f 45 + 1) := by unfold roundF; rw [← e]
        rw [er]
        obtain ⟨b2, b3, b4, b5⟩ := v2.2.1
        refine v2.fld w6 (fun j j1 j2 j3 j4 => fset_ne j1) ⟨?_, ?_, ?_, ?_⟩ (by rw [fset_ne (by decide)]; omega) (by rw [fset_ne (by decide)]; omega)
        · rw [fset_ne (by decide), fset_ne (by decide)]; exact b2
        · rw [fset_same, fset_same, b3, e45]
        · rw [fset_ne (by decide), fset_ne (by decide)]; exact b4
        · rw [fset_ne (by decide), fset_ne (by decide)]; exact b5
      · exfalso; omega
    | succ d ih =>
      intro p m hp hF hev
      push_cast at hp
      obtain ⟨w1, w2, w3⟩ := bakeTo_Wf wf p (by omega)
      have m2 : m b 2 = f 46 := by rw [hev.2.1.1, w2]
      have gp := eS p (by omega)
      have gp0 := gp
      unfold SpG at gp0
      have hsp := hev.2.2.1 p (by omega)
      have wsp := w1.sp (p := p) (by omega)
      have hpl := hsp.2.2.1
      have rpl := wsp.2.2.1
      have n0 : m (b + 1) 0 = n := hev.1.1
      have eb : bakeTo (p + 1) f = bakeF p (bakeTo p f) := rfl
      refine aw_iload_n dX0_passRound_2 rfl rfl ?_
      refine aw_aload_n dX0_passRound_3 rfl rfl ?_
      refine aw_getI (kI := 2) dX0_passRound_4 rfl fl_X0_38 (by first | assumption | rfl) (by rfl) rfl ?_
      rw [m2]
      refine aw_icmp_ge (tgt := 55) dX0_passRound_7 (by decide) rfl (by omega) (by omega) (fun c7 => ?_) (fun c7 => ?_)
      · exfalso; omega
      · refine aw_aload_n dX0_passRound_10 rfl rfl ?_
        refine aw_getR dX0_passRound_11 rfl fl_X0_20 (by first | assumption | rfl) (by rfl) ?_
        refine aw_iload_n dX0_passRound_14 rfl rfl ?_
        refine aw_aaload dX0_passRound_15 rfl (by first | assumption | rfl) six_len (by omega) (six_getN (by omega)) ?_
        refine aw_getI (kI := 2) dX0_passRound_16 rfl fl_X0_68 (by first | assumption | rfl) (by rfl) rfl ?_
        rw [hpl]
        refine aw_bipush dX0_passRound_19 rfl (by decide) ?_
        refine aw_icmp_eq (tgt := 49) dX0_passRound_21 (by decide) rfl (by omega) (by omega) (fun c21 => ?_) (fun c21 => ?_)
        · refine aw_iinc1 rfl dX0_passRound_49 rfl (by decide) ?_
          refine aw_goto (tgt := 2) dX0_passRound_52 (by decide) ?_
          first | (refine ih (p + 1) _ (by push_cast; omega) (hF.cell (by omega)) ?_; rw [eb]; exact hev.spud w1 (by omega) (fun j hj => bakeF_out (w1.fl (by omega)) (by omega)) (bak_row hsp wsp c21)) | (refine ih (p + 1) _ (by push_cast; omega) hF ?_; rw [eb]; unfold bakeF; rw [if_pos c21]; exact hev)
        · refine aw_aload_n dX0_passRound_24 rfl rfl ?_
          refine aw_getR dX0_passRound_25 rfl fl_X0_20 (by first | assumption | rfl) (by rfl) ?_
          refine aw_iload_n dX0_passRound_28 rfl rfl ?_
          refine aw_aaload dX0_passRound_29 rfl (by first | assumption | rfl) six_len (by omega) (six_getN (by omega)) ?_
          refine aw_aload_n dX0_passRound_30 rfl rfl ?_
          refine aw_getR dX0_passRound_31 rfl fl_X0_12 (by first | assumption | rfl) (by rfl) ?_
          refine aw_aload_n dX0_passRound_34 rfl rfl ?_
          refine aw_getR dX0_passRound_35 rfl fl_X0_20 (by first | assumption | rfl) (by rfl) ?_
          refine aw_iload_n dX0_passRound_38 rfl rfl ?_
          refine aw_aaload dX0_passRound_39 rfl (by first | assumption | rfl) six_len (by omega) (six_getN (by omega)) ?_
          refine aw_getI (kI := 2) dX0_passRound_40 rfl fl_X0_68 (by first | assumption | rfl) (by rfl) rfl ?_
          rw [hpl]
          refine aw_callV [_] _ dX0_passRound_43 rfl clv_X0_71 (by decide) ⟨Nat.zero_le _, Nat.zero_le _⟩ (by first | assumption | rfl) (by rfl) (Nat.le_of_ble_eq_true rfl) rfl ?_
          refine sC_heatAt eF (by rw [n0]; exact hn) (by omega) ?_
          have rh := w1.2.1 (bakeTo p f (47 + 8 * (p : Int) + 2)) (by omega) (by omega)
          have eh : (if 0 ≤ bakeTo p f (47 + 8 * (p : Int) + 2) ∧ bakeTo p f (47 + 8 * (p : Int) + 2) < 3 * m (b + 1) 0 then m (b + 1 + 1) (bakeTo p f (47 + 8 * (p : Int) + 2)) else 0) = bakeTo p f (bakeTo p f (47 + 8 * (p : Int) + 2)) := by
            rw [n0, if_pos (by omega)]; exact hev.1.2.2.2.2.1 _ (by omega) (by omega)
          rw [eh]
          refine aw_callV [_] _ dX0_passRound_46 rfl clv_X0_75 (by decide) ⟨Nat.zero_le _, Nat.zero_le _⟩ (by first | assumption | rfl) (by rfl) (Nat.le_of_ble_eq_true rfl) rfl ?_
          refine sC_bakeBy gp (hsp.c wf.1 wsp) rh ?_
          refine aw_iinc1 rfl dX0_passRound_49 rfl (by decide) ?_
          refine aw_goto (tgt := 2) dX0_passRound_52 (by decide) ?_
          first | (refine ih (p + 1) _ (by push_cast; omega) (hF.cell (by omega)) ?_; rw [eb]; exact hev.spud w1 (by omega) (fun j hj => bakeF_out (w1.fl (by omega)) (by omega)) (bak_row hsp wsp c21)) | (refine ih (p + 1) _ (by push_cast; omega) hF ?_; rw [eb]; unfold bakeF; rw [if_pos c21]; exact hev)
  refine AMet.of' 1 (ls := [some (vR (b)), none]) (by decide) rfl (Nat.le_of_ble_eq_true rfl) ?_
  refine aw_iconst dX0_passRound_0 rfl ?_
  refine aw_istore1 rfl dX0_passRound_1 rfl (by decide) ?_
  exact loop (f 46).toNat 0 mem (by omega) FrI.rf h
theorem sC_passRounds {c : Int} (hE : EvG zG b) (hc : 0 ≤ c ∧ c ≤ 100) (wf : Wf n f) (h : Ev mem b n f) (k : ∀ m' : Mem, FrI m' mem b (b + 16) → Ev m' b n (roundsF n c.toNat f) → Q none m') : AMet Γ mX0_passRounds [vR b, vI c] zG mem Q := by
  have hE' := hE
  obtain ⟨e0, eF, e6, e7, e8, e9, eS⟩ := hE
  have loop : ∀ (d : Nat) (i : Int) (g : Int → Int) (m : Mem), i + d = c → 0 ≤ i → Wf n g → roundsF n d g = roundsF n c.toNat f → FrI m mem b (b + 16) → Ev m b n g → AW Γ mX0_passRounds (zF Γ zG Q) zG 0 0 2 [some (vR b), some (vI c), some (vI i)] [] m := by
    intro d
    induction d with
    | zero =>
      intro i g m hi h0 hw e hF hev
      refine aw_iload_n dX0_passRounds_2 rfl rfl ?_
      refine aw_iload_n dX0_passRounds_3 rfl rfl ?_
      refine aw_icmp_ge (tgt := 17) dX0_passRounds_4 (by decide) rfl (by omega) (by omega) (fun c4 => ?_) (fun c4 => ?_)
      · refine aw_return dX0_passRounds_17 rfl ?_
        exact k m hF (by rw [← e]; exact hev)
      · exfalso; omega
    | succ d ih =>
      intro i g m hi h0 hw e hF hev
      refine aw_iload_n dX0_passRounds_2 rfl rfl ?_
      refine aw_iload_n dX0_passRounds_3 rfl rfl ?_
      refine aw_icmp_ge (tgt := 17) dX0_passRounds_4 (by decide) rfl (by omega) (by omega) (fun c4 => ?_) (fun c4 => ?_)
      · exfalso; omega
      · refine aw_aload_n dX0_passRounds_7 rfl rfl ?_
        refine aw_callV [] _ dX0_passRounds_8 rfl clv_X0_85 (by decide) ⟨Nat.zero_le _, Nat.zero_le _⟩ (by first | assumption | rfl) (by rfl) (Nat.le_of_ble_eq_true rfl) rfl ?_
        refine sC_passRound hE' hw hev (fun m1 f1 v1 => ?_)
        refine aw_iinc2 rfl dX0_passRounds_11 rfl (by decide) ?_
        refine aw_goto (tgt := 2) dX0_passRounds_14 (by decide) ?_
        exact ih (i + 1) _ m1 (by omega) (by omega) (roundF_Wf hw).1 e (f1.tr hF) v1
  refine AMet.of' 1 (ls := [some (vR (b)), some (vI (c)), none]) (by decide) rfl (Nat.le_of_ble_eq_true rfl) ?_
  refine aw_iconst dX0_passRounds_0 rfl ?_
  refine aw_istore2 rfl dX0_passRounds_1 rfl (by decide) ?_
  exact loop c.toNat 0 f mem (by omega) (by omega) wf rfl FrI.rf h
end ZCmp4
