section ZCmp6
variable {Γ : ZG} {mem : Mem} {Q : Option AV → Mem → Prop} {b : Nat} {n : Int} {f : Int → Int}
theorem sC_noteFelt {r x v : Int} (hE : EvG zG b) (wf : Wf n f) (h : Ev mem b n f) (k0 : f 96 = 6 → Q (some (vI 0)) mem) (k1 : ∀ m' : Mem, ¬ f 96 = 6 → FrI m' mem b (b + 16) → Ev m' b n (feelF f r x v) → Q (some (vI 1)) m') : AMet Γ mX0_noteFelt [vR b, vI r, vI x, vI v] zG mem Q := by
  obtain ⟨e0, eF, e6, e7, e8, e9, eS⟩ := hE
  have w96 := wf.2.2.2.2.2.2.2.2.2.1
  have w46 := wf.n46
  have w26 := wf.2.2.2.2.1
  obtain ⟨⟨h0, h1, h2, h3, hh, hw⟩, ⟨a2, a3, a4, a5⟩, hs, hfe⟩ := h
  have out : ∀ j : Int, ¬ j = 96 → j < 97 + 3 * f 96 ∨ 97 + 3 * f 96 + 2 < j → feelF f r x v j = f j := by
    intro j j1 j2
    unfold feelF
    rw [fset_ne j1, fset_ne (by omega), fset_ne (by omega), fset_ne (by omega)]
  have fin : ¬ f 96 = 6 → Q (some (vI 1)) (mset (mset (mset (mset mem (b + 7) (f 96) r) (b + 8) (f 96) x) (b + 9) (f 96) v) b 5 (f 96 + 1)) := by
    intro hne
    refine k1 _ hne ((((FrI.rf.set (by omega)).set (by omega)).set (by omega)).set (by omega)) ?_
    have hk : ∀ d : Nat, ¬ d = b → ¬ d = b + 7 → ¬ d = b + 8 → ¬ d = b + 9 → (mset (mset (mset (mset mem (b + 7) (f 96) r) (b + 8) (f 96) x) (b + 9) (f 96) v) b 5 (f 96 + 1)) d = mem d := fun d d1 d2 d3 d4 => by rw [mset_ne d1, mset_ne d4, mset_ne d3, mset_ne d2]
    have e96 : feelF f r x v 96 = f 96 + 1 := by unfold feelF; rw [fset_same]
    unfold Ev FiR
    rw [hk (b + 1) (by omega) (by omega) (by omega) (by omega), hk (b + 1 + 1) (by omega) (by omega) (by omega) (by omega), hk (b + 1 + 2) (by omega) (by omega) (by omega) (by omega), hk (b + 1 + 3) (by omega) (by omega) (by omega) (by omega), hk (b + 1 + 4) (by omega) (by omega) (by omega) (by omega)]
    rw [out 24 (by omega) (by omega), out 25 (by omega) (by omega), out 26 (by omega) (by omega), out 45 (by omega) (by omega), out 46 (by omega) (by omega), out 95 (by omega) (by omega), e96]
    refine ⟨⟨h0, h1, h2, h3, fun y y0 y1 => by rw [out y (by omega) (by omega)]; exact hh y y0 y1, fun i i0 i1 => ?_⟩, ⟨?_, ?_, ?_, ?_⟩, fun q hq => ?_, fun i i0 i1 => ?_⟩
    · rw [out _ (by omega) (by omega), out _ (by omega) (by omega), out _ (by omega) (by omega)]; exact hw i i0 i1
    · rw [mset_same, fset_ne (by decide), mset_ne (by omega), mset_ne (by omega), mset_ne (by omega)]; exact a2
    · rw [mset_same, fset_ne (by decide), mset_ne (by omega), mset_ne (by omega), mset_ne (by omega)]; exact a3
    · rw [mset_same, fset_ne (by decide), mset_ne (by omega), mset_ne (by omega), mset_ne (by omega)]; exact a4
    · rw [mset_same, fset_same]
    · rw [hk (b + 10 + q) (by omega) (by omega) (by omega) (by omega)]
      exact (hs q hq).ext (wf.fl hq) (fun j j0 j1 => out j (by omega) (by omega))
    · rw [mset_ne (d := b + 7) (by omega), mset_ne (d := b + 7) (by omega), mset_ne (d := b + 7) (by omega), mset_same, mset_ne (d := b + 8) (by omega), mset_ne (d := b + 8) (by omega), mset_same, mset_ne (d := b + 8) (by omega), mset_ne (d := b + 9) (by omega), mset_same, mset_ne (d := b + 9) (by omega), mset_ne (d := b + 9) (by omega)]
      by_cases e : i = f 96
      · rw [e, fset_same, fset_same, fset_same]
        unfold feelF
        rw [fset_ne (by omega), fset_ne (by omega), fset_ne (by omega), fset_same, fset_ne (by omega), fset_ne (by omega), fset_same, fset_ne (by omega), fset_same]
        exact ⟨rfl, rfl, rfl⟩
      · rw [fset_ne e, fset_ne e, fset_ne e, out _ (by omega) (by omega), out _ (by omega) (by omega), out _ (by omega) (by omega)]; exact hfe i i0 (by omega)
  refine AMet.of' 0 (ls := [some (vR (b)), some (vI (r)), some (vI (x)), some (vI (v))]) (by decide) rfl (Nat.le_of_ble_eq_true rfl) ?_
  refine aw_aload_n dX0_noteFelt_0 rfl rfl ?_
  refine aw_getI (kI := 5) dX0_noteFelt_1 rfl fl_X0_48 (by first | assumption | rfl) (by rfl) rfl ?_
  rw [a5]
  refine aw_bipush dX0_noteFelt_4 rfl (by decide) ?_
  refine aw_icmp_lt (tgt := 11) dX0_noteFelt_6 (by decide) rfl (by omega) (by omega) (fun c6 => ?_) (fun c6 => ?_)
  · refine aw_aload_n dX0_noteFelt_11 rfl rfl ?_
    refine aw_getR dX0_noteFelt_12 rfl fl_X0_24 (by first | assumption | rfl) (by rfl) ?_
    refine aw_aload_n dX0_noteFelt_15 rfl rfl ?_
    refine aw_getI (kI := 5) dX0_noteFelt_16 rfl fl_X0_48 (by first | assumption | rfl) (by rfl) rfl ?_
    rw [a5]
    refine aw_iload_n dX0_noteFelt_19 rfl rfl ?_
    refine aw_iastore dX0_noteFelt_20 rfl (by first | assumption | rfl) (by decide) (by omega) ?_
    refine aw_aload_n dX0_noteFelt_21 rfl rfl ?_
    refine aw_getR dX0_noteFelt_22 rfl fl_X0_28 (by first | assumption | rfl) (by rfl) ?_
    refine aw_aload_n dX0_noteFelt_25 rfl rfl ?_
    refine aw_getI (kI := 5) dX0_noteFelt_26 rfl fl_X0_48 (by first | assumption | rfl) (by rfl) rfl ?_
    rw [mset_ne (by omega), a5]
    refine aw_iload_n dX0_noteFelt_29 rfl rfl ?_
    refine aw_iastore dX0_noteFelt_30 rfl (by first | assumption | rfl) (by decide) (by omega) ?_
    refine aw_aload_n dX0_noteFelt_31 rfl rfl ?_
    refine aw_getR dX0_noteFelt_32 rfl fl_X0_31 (by first | assumption | rfl) (by rfl) ?_
    refine aw_aload_n dX0_noteFelt_35 rfl rfl ?_
    refine aw_getI (kI := 5) dX0_noteFelt_36 rfl fl_X0_48 (by first | assumption | rfl) (by rfl) rfl ?_
    rw [mset_ne (by omega), mset_ne (by omega), a5]
    refine aw_iload_n dX0_noteFelt_39 rfl rfl ?_
    refine aw_iastore dX0_noteFelt_40 rfl (by first | assumption | rfl) (by decide) (by omega) ?_
    refine aw_aload_n dX0_noteFelt_41 rfl rfl ?_
    refine aw_dup dX0_noteFelt_42 rfl rfl ?_
    refine aw_getI (kI := 5) dX0_noteFelt_43 rfl fl_X0_48 (by first | assumption | rfl) (by rfl) rfl ?_
    rw [mset_ne (by omega), mset_ne (by omega), mset_ne (by omega), a5]
    refine aw_iconst dX0_noteFelt_46 rfl ?_
    refine aw_iadd dX0_noteFelt_47 rfl ?_
    refine aw_putI (kI := 5) dX0_noteFelt_48 rfl fp_X0_48 (by first | assumption | rfl) (by rfl) rfl ?_
    refine aw_iconst dX0_noteFelt_51 rfl ?_
    refine aw_ireturn (ty := .boolean) dX0_noteFelt_52 rfl (znarZ (by omega)).1 ?_
    first | exact k0 (by omega) | exact fin (by omega)
  · refine aw_iconst dX0_noteFelt_9 rfl ?_
    refine aw_ireturn (ty := .boolean) dX0_noteFelt_10 rfl (znarZ (by omega)).1 ?_
    first | exact k0 (by omega) | exact fin (by omega)
theorem trn_row {n : Int} {g f : Int → Int} {p : Int} (h : SpR g f p) (w : SpW n f p) : SpR (trnG g) (turnF f p) p := by
  have hfl := w.2.2.2.2.2.2.1
  obtain ⟨h0, h1, h2, h3, h4, h5, h6⟩ := h
  have e6 : turnF f p (47 + 8 * p + 6) = 1 - f (47 + 8 * p + 6) := by unfold turnF; rw [fset_same]
  have o : ∀ j : Int, ¬ j = 47 + 8 * p + 6 → turnF f p j = f j := fun j hj => by unfold turnF; rw [fset_ne hj]
  unfold SpR trnG
  rw [e6]
  refine ⟨?_, ?_, ?_, ?_, ?_, ?_, ?_⟩
  · rw [fset_ne (by decide), fset_ne (by decide), o _ (by omega)]; exact h0
  · rw [fset_ne (by decide), fset_ne (by decide), o _ (by omega)]; exact h1
  · rw [fset_ne (by decide), fset_ne (by decide), o _ (by omega)]; exact h2
  · rw [fset_ne (by decide), fset_ne (by decide), o _ (by omega)]; exact h3
  · rw [fset_ne (by decide), fset_same, o _ (by omega), h5, show 5 - f (47 + 8 * p + 6) = 4 + (1 - f (47 + 8 * p + 6)) by omega]
  · rw [fset_same, o _ (by omega), h4, show 4 + f (47 + 8 * p + 6) = 5 - (1 - f (47 + 8 * p + 6)) by omega]
  · rw [fset_ne (by decide), fset_ne (by decide), o _ (by omega)]; exact h6
/-- one number of a potato's cell changes: k its place there, j in the row -/
theorem put_row {n : Int} {g f : Int → Int} {p k v : Int} (h : SpR g f p) (w : SpW n f p) (hk : k = 1 ∨ k = 2 ∨ k = 6) : SpR (fset g k v) (fset f (47 + 8 * p + (if k = 6 then 7 else k)) v) p := by
  have hfl := w.2.2.2.2.2.2.1
  obtain ⟨h0, h1, h2, h3, h4, h5, h6⟩ := h
  rcases hk with rfl | rfl | rfl
  · rw [if_neg (by decide)]
    unfold SpR
    rw [fset_ne (j := 47 + 8 * p + 6) (by omega), fset_ne (j := 47 + 8 * p + 0) (by omega), fset_same, fset_ne (j := 47 + 8 * p + 2) (by omega), fset_ne (j := 47 + 8 * p + 3) (by omega), fset_ne (j := 47 + 8 * p + 7) (by omega), fset_ne (j := 47 + 8 * p + (4 + f (47 + 8 * p + 6))) (by omega), fset_ne (j := 47 + 8 * p + (5 - f (47 + 8 * p + 6))) (by omega)]
    exact ⟨h0, fset_same.symm, h2, h3, h4, h5, h6⟩
  · rw [if_neg (by decide)]
    unfold SpR
    rw [fset_ne (j := 47 + 8 * p + 6) (by omega), fset_ne (j := 47 + 8 * p + 0) (by omega), fset_same, fset_ne (j := 47 + 8 * p + 1) (by omega), fset_ne (j := 47 + 8 * p + 3) (by omega), fset_ne (j := 47 + 8 * p + 7) (by omega), fset_ne (j := 47 + 8 * p + (4 + f (47 + 8 * p + 6))) (by omega), fset_ne (j := 47 + 8 * p + (5 - f (47 + 8 * p + 6))) (by omega)]
    exact ⟨h0, h1, fset_same.symm, h3, h4, h5, h6⟩
  · rw [if_pos rfl]
    unfold SpR
    rw [fset_ne (j := 47 + 8 * p + 6) (by omega), fset_ne (j := 47 + 8 * p + 0) (by omega), fset_same, fset_ne (j := 47 + 8 * p + 1) (by omega), fset_ne (j := 47 + 8 * p + 3) (by omega), fset_ne (j := 47 + 8 * p + 2) (by omega), fset_ne (j := 47 + 8 * p + (4 + f (47 + 8 * p + 6))) (by omega), fset_ne (j := 47 + 8 * p + (5 - f (47 + 8 * p + 6))) (by omega)]
    exact ⟨h0, h1, h2, h3, h4, h5, fset_same.symm⟩
theorem sC_meddle {p : Nat} {d : Int} (hE : EvG zG b) (hp : (p : Int) < f 46) (hd : 0 ≤ d ∧ d ≤ 2) (wf : Wf n f) (h : Ev mem b n f) (k : ∀ m' : Mem, FrI m' mem b (b + 16) → Ev m' b n (meddleF f p d) → Q none m') : AMet Γ mX0_meddle [vR b, vI p, vI d] zG mem Q := by
  have hE' := hE
  obtain ⟨e0, eF, e6, e7, e8, e9, eS⟩ := hE
  have w46 := wf.n46
  have hp6 : p < 6 := by omega
  have gp := eS p hp6
  have gp0 := gp
  unfold SpG at gp0
  have hsp := h.2.2.1 p hp
  have wsp := wf.sp hp
  have a2 := h.2.1.1
  unfold meddleF at k
  refine AMet.of' 0 (ls := [some (vR (b)), some (vI ((p : Int))), some (vI (d))]) (by decide) rfl (Nat.le_of_ble_eq_true rfl) ?_
  refine aw_aload_n dX0_meddle_0 rfl rfl ?_
  refine aw_iload_n dX0_meddle_1 rfl rfl ?_
  refine aw_callV [_] _ dX0_meddle_2 rfl clv_X0_88 (by decide) ⟨Nat.zero_le _, Nat.zero_le _⟩ (by first | assumption | rfl) (by rfl) (Nat.le_of_ble_eq_true rfl) rfl ?_
  refine sC_hasSpud hE' (by omega) (by omega) (fun c2 => ?_) (fun c2 => ?_)
  · refine aw_if_ne (tgt := 9) dX0_meddle_5 (by decide) rfl (by omega) (fun _ => ?_) (fun c => absurd c (by decide))
    refine aw_iload_n dX0_meddle_9 rfl rfl ?_
    refine aw_if_ne (tgt := 25) dX0_meddle_10 (by decide) rfl (by omega) (fun c10 => ?_) (fun c10 => ?_)
    · refine aw_iload_n dX0_meddle_25 rfl rfl ?_
      refine aw_iconst dX0_meddle_26 rfl ?_
      refine aw_icmp_ne (tgt := 53) dX0_meddle_27 (by decide) rfl (by omega) (by omega) (fun c27 => ?_) (fun c27 => ?_)
      · refine aw_return dX0_meddle_53 rfl ?_
        first | (rw [if_pos (by omega)] at k; exact k _ (FrI.rf.cell (by omega)) (h.spud wf hp6 (fun j hj => by unfold turnF; rw [fset_ne (by omega)]) (trn_row hsp wsp))) | (rw [if_neg (by omega), if_neg (by omega)] at k; exact k _ FrI.rf h) | (rw [if_neg (by omega), if_neg (fun z => c36 (hsp.dn.mpr z.2))] at k; exact k _ FrI.rf h) | (rw [if_neg (by omega), if_pos ⟨by omega, hsp.dn.mp c36⟩] at k; rw [mset_eq]; exact k _ (FrI.rf.cell (by omega)) (h.spud wf hp6 (fun j hj => by rw [fset_ne (by omega)]) (put_row (k := 2) hsp wsp (by omega))))
      · refine aw_aload_n dX0_meddle_30 rfl rfl ?_
        refine aw_getR dX0_meddle_31 rfl fl_X0_20 (by first | assumption | rfl) (by rfl) ?_
        refine aw_iload_n dX0_meddle_34 rfl rfl ?_
        refine aw_aaload dX0_meddle_35 rfl (by first | assumption | rfl) six_len (by omega) (six_getN hp6) ?_
        refine aw_callV [] _ dX0_meddle_36 rfl clv_X0_95 (by decide) ⟨Nat.zero_le _, Nat.zero_le _⟩ (by first | assumption | rfl) (by rfl) (Nat.le_of_ble_eq_true rfl) rfl ?_
        refine sC_isDone gp (hsp.c wf.1 wsp) (fun c36 => ?_) (fun c36 => ?_)
        · refine aw_if_eq (tgt := 53) dX0_meddle_39 (by decide) rfl (by omega) (fun c => absurd c (by decide)) (fun _ => ?_)
          refine aw_aload_n dX0_meddle_42 rfl rfl ?_
          refine aw_getR dX0_meddle_43 rfl fl_X0_20 (by first | assumption | rfl) (by rfl) ?_
          refine aw_iload_n dX0_meddle_46 rfl rfl ?_
          refine aw_aaload dX0_meddle_47 rfl (by first | assumption | rfl) six_len (by omega) (six_getN hp6) ?_
          refine aw_bipush dX0_meddle_48 rfl (by decide) ?_
          refine aw_putI (kI := 2) dX0_meddle_50 rfl fp_X0_68 (by first | assumption | rfl) (by rfl) rfl ?_
          refine aw_return dX0_meddle_53 rfl ?_
          first | (rw [if_pos (by omega)] at k; exact k _ (FrI.rf.cell (by omega)) (h.spud wf hp6 (fun j hj => by unfold turnF; rw [fset_ne (by omega)]) (trn_row hsp wsp))) | (rw [if_neg (by omega), if_neg (by omega)] at k; exact k _ FrI.rf h) | (rw [if_neg (by omega), if_neg (fun z => c36 (hsp.dn.mpr z.2))] at k; exact k _ FrI.rf h) | (rw [if_neg (by omega), if_pos ⟨by omega, hsp.dn.mp c36⟩] at k; rw [mset_eq]; exact k _ (FrI.rf.cell (by omega)) (h.spud wf hp6 (fun j hj => by rw [fset_ne (by omega)]) (put_row (k := 2) hsp wsp (by omega))))
        · refine aw_if_eq (tgt := 53) dX0_meddle_39 (by decide) rfl (by omega) (fun _ => ?_) (fun c => absurd c (by decide))
          refine aw_return dX0_meddle_53 rfl ?_
          first | (rw [if_pos (by omega)] at k; exact k _ (FrI.rf.cell (by omega)) (h.spud wf hp6 (fun j hj => by unfold turnF; rw [fset_ne (by omega)]) (trn_row hsp wsp))) | (rw [if_neg (by omega), if_neg (by omega)] at k; exact k _ FrI.rf h) | (rw [if_neg (by omega), if_neg (fun z => c36 (hsp.dn.mpr z.2))] at k; exact k _ FrI.rf h) | (rw [if_neg (by omega), if_pos ⟨by omega, hsp.dn.mp c36⟩] at k; rw [mset_eq]; exact k _ (FrI.rf.cell (by omega)) (h.spud wf hp6 (fun j hj => by rw [fset_ne (by omega)]) (put_row (k := 2) hsp wsp (by omega))))
    · refine aw_aload_n dX0_meddle_13 rfl rfl ?_
      refine aw_getR dX0_meddle_14 rfl fl_X0_20 (by first | assumption | rfl) (by rfl) ?_
      refine aw_iload_n dX0_meddle_17 rfl rfl ?_
      refine aw_aaload dX0_meddle_18 rfl (by first | assumption | rfl) six_len (by omega) (six_getN hp6) ?_
      refine aw_callV [] _ dX0_meddle_19 rfl clv_X0_92 (by decide) ⟨Nat.zero_le _, Nat.zero_le _⟩ (by first | assumption | rfl) (by rfl) (Nat.le_of_ble_eq_true rfl) rfl ?_
      refine sC_turnOver gp ?_
      refine aw_goto (tgt := 53) dX0_meddle_22 (by decide) ?_
      refine aw_return dX0_meddle_53 rfl ?_
      first | (rw [if_pos (by omega)] at k; exact k _ (FrI.rf.cell (by omega)) (h.spud wf hp6 (fun j hj => by unfold turnF; rw [fset_ne (by omega)]) (trn_row hsp wsp))) | (rw [if_neg (by omega), if_neg (by omega)] at k; exact k _ FrI.rf h) | (rw [if_neg (by omega), if_neg (fun z => c36 (hsp.dn.mpr z.2))] at k; exact k _ FrI.rf h) | (rw [if_neg (by omega), if_pos ⟨by omega, hsp.dn.mp c36⟩] at k; rw [mset_eq]; exact k _ (FrI.rf.cell (by omega)) (h.spud wf hp6 (fun j hj => by rw [fset_ne (by omega)]) (put_row (k := 2) hsp wsp (by omega))))
  · refine aw_if_ne (tgt := 9) dX0_meddle_5 (by decide) rfl (by omega) (fun c => absurd c (by decide)) (fun _ => ?_)
    exfalso; omega
theorem sC_mostWanted {gone : Int} (hE : EvG zG b) (wf : Wf n f) (h : Ev mem b n f) (k : Q (some (vI (pickTo f gone (f 46).toNat))) mem) : AMet Γ mX0_mostWanted [vR b, vI gone] zG mem Q := by
  obtain ⟨e0, eF, e6, e7, e8, e9, eS⟩ := hE
  have hn := wf.1
  have w46 := wf.n46
  obtain ⟨hFi, ⟨a2, a3, a4, a5⟩, hs, hfe⟩ := h
  have loop : ∀ (d p : Nat) (most : Int), (p : Int) + d = f 46 → ((pickTo f gone p = -4 ∧ most = -1) ∨ (¬ pickTo f gone p = -4 ∧ most = aplF f (pickTo f gone p))) → AW Γ mX0_mostWanted (zF Γ zG Q) zG 0 0 8 [some (vR b), some (vI gone), some (vI (pickTo f gone p)), some (vI most), some (vI p)] [] mem := by
    intro d
    induction d with
    | zero =>
      intro p most hp hm
      have e : p = (f 46).toNat := by omega
      refine aw_iload dX0_mostWanted_8 rfl rfl ?_
      refine aw_aload_n dX0_mostWanted_10 rfl rfl ?_
      refine aw_getI (kI := 2) dX0_mostWanted_11 rfl fl_X0_38 (by first | assumption | rfl) (by rfl) rfl ?_
      rw [a2]
      refine aw_icmp_ge (tgt := 60) dX0_mostWanted_14 (by decide) rfl (by omega) (by omega) (fun c14 => ?_) (fun c14 => ?_)
      · refine aw_iload_n dX0_mostWanted_60 rfl rfl ?_
        refine aw_ireturn (ty := .int) dX0_mostWanted_61 rfl rfl ?_
        rw [e]; exact k
      · exfalso; omega
    | succ d ih =>
      intro p most hp hm
      push_cast at hp
      have gp := eS p (by omega)
      have gp0 := gp
      unfold SpG at gp0
      have hsp := hs p (by omega)
      have wsp := wf.sp (p := p) (by omega)
      have ra := aplF_rng wsp
      have pr := pickTo_rng f gone p
      have zb := zbit3 (a := gone) (x := p) (by omega)
      have zr := zand_rng gone (zshl 1 (p : Int))
      have rm : -1 ≤ most ∧ most ≤ 300 := by
        rcases hm with ⟨h1, h2⟩ | ⟨h1, h2⟩
        · omega
        · have hq : 0 ≤ pickTo f gone p ∧ pickTo f gone p < f 46 := by omega
          have := aplF_rng (wf.2.2.2.2.2.2.2.1 _ hq.1 hq.2)
          omega
      have bf : (pickTo f gone p = -4 ∨ beforeF f p (pickTo f gone p)) ↔ most < aplF f p := by
        rcases hm with ⟨h1, h2⟩ | ⟨h1, h2⟩
        · constructor
          · intro _; omega
          · intro _; exact Or.inl h1
        · have hq : 0 ≤ pickTo f gone p ∧ pickTo f gone p < f 46 := by omega
          have ab := apl_before wsp (wf.2.2.2.2.2.2.2.1 _ hq.1 hq.2)
          rw [ab, h2]
          constructor
          · intro z; rcases z with z | z
            · exact absurd z h1
            · exact z
          · intro z; exact Or.inr z
      have ihn := fun (m : Int) (hm2 : _) => ih (p + 1) m (by push_cast; omega) hm2
      rw [pickTo] at ihn
      refine aw_iload dX0_mostWanted_8 rfl rfl ?_
      refine aw_aload_n dX0_mostWanted_10 rfl rfl ?_
      refine aw_getI (kI := 2) dX0_mostWanted_11 rfl fl_X0_38 (by first | assumption | rfl) (by rfl) rfl ?_
      rw [a2]
      refine aw_icmp_ge (tgt := 60) dX0_mostWanted_14 (by decide) rfl (by omega) (by omega) (fun c14 => ?_) (fun c14 => ?_)
      · exfalso; omega
      · refine aw_iload_n dX0_mostWanted_17 rfl rfl ?_
        refine aw_iconst dX0_mostWanted_18 rfl ?_
        refine aw_iload dX0_mostWanted_19 rfl rfl ?_
        refine aw_ishl dX0_mostWanted_21 rfl ?_
        refine aw_iand dX0_mostWanted_22 rfl ?_
        refine aw_if_ne (tgt := 54) dX0_mostWanted_23 (by decide) rfl (by omega) (fun c23 => ?_) (fun c23 => ?_)
        · refine aw_iinc4 rfl dX0_mostWanted_54 rfl (by decide) ?_
          refine aw_goto (tgt := 8) dX0_mostWanted_57 (by decide) ?_
          first | (rw [if_neg (fun z => c23 (zb.mpr z.1))] at ihn; exact ihn most hm) | (rw [if_neg (fun z => by have := bf.mp z.2; omega)] at ihn; exact ihn most hm) | (rw [if_pos ⟨zb.mp (by omega), bf.mpr (by omega)⟩] at ihn; exact ihn _ (Or.inr ⟨by omega, rfl⟩))
        · refine aw_aload_n dX0_mostWanted_26 rfl rfl ?_
          refine aw_getR dX0_mostWanted_27 rfl fl_X0_20 (by first | assumption | rfl) (by rfl) ?_
          refine aw_iload dX0_mostWanted_30 rfl rfl ?_
          refine aw_aaload dX0_mostWanted_32 rfl (by first | assumption | rfl) six_len (by omega) (six_getN (by omega)) ?_
          refine aw_callV [] _ dX0_mostWanted_33 rfl clv_X0_109 (by decide) ⟨Nat.zero_le _, Nat.zero_le _⟩ (by first | assumption | rfl) (by rfl) (Nat.le_of_ble_eq_true rfl) rfl ?_
          refine sC_appeal gp hn hsp wsp ?_
          refine aw_iload_n dX0_mostWanted_36 rfl rfl ?_
          refine aw_icmp_le (tgt := 54) dX0_mostWanted_37 (by decide) rfl (by omega) (by omega) (fun c37 => ?_) (fun c37 => ?_)
          · refine aw_iinc4 rfl dX0_mostWanted_54 rfl (by decide) ?_
            refine aw_goto (tgt := 8) dX0_mostWanted_57 (by decide) ?_
            first | (rw [if_neg (fun z => c23 (zb.mpr z.1))] at ihn; exact ihn most hm) | (rw [if_neg (fun z => by have := bf.mp z.2; omega)] at ihn; exact ihn most hm) | (rw [if_pos ⟨zb.mp (by omega), bf.mpr (by omega)⟩] at ihn; exact ihn _ (Or.inr ⟨by omega, rfl⟩))
          · refine aw_iload dX0_mostWanted_40 rfl rfl ?_
            refine aw_istore2 rfl dX0_mostWanted_42 rfl (by decide) ?_
            refine aw_aload_n dX0_mostWanted_43 rfl rfl ?_
            refine aw_getR dX0_mostWanted_44 rfl fl_X0_20 (by first | assumption | rfl) (by rfl) ?_
            refine aw_iload dX0_mostWanted_47 rfl rfl ?_
            refine aw_aaload dX0_mostWanted_49 rfl (by first | assumption | rfl) six_len (by omega) (six_getN (by omega)) ?_
            refine aw_callV [] _ dX0_mostWanted_50 rfl clv_X0_109 (by decide) ⟨Nat.zero_le _, Nat.zero_le _⟩ (by first | assumption | rfl) (by rfl) (Nat.le_of_ble_eq_true rfl) rfl ?_
            refine sC_appeal gp hn hsp wsp ?_
            refine aw_istore3 rfl dX0_mostWanted_53 rfl (by decide) ?_
            refine aw_iinc4 rfl dX0_mostWanted_54 rfl (by decide) ?_
            refine aw_goto (tgt := 8) dX0_mostWanted_57 (by decide) ?_
            first | (rw [if_neg (fun z => c23 (zb.mpr z.1))] at ihn; exact ihn most hm) | (rw [if_neg (fun z => by have := bf.mp z.2; omega)] at ihn; exact ihn most hm) | (rw [if_pos ⟨zb.mp (by omega), bf.mpr (by omega)⟩] at ihn; exact ihn _ (Or.inr ⟨by omega, rfl⟩))
  refine AMet.of' 3 (ls := [some (vR (b)), some (vI (gone)), none, none, none]) (by decide) rfl (Nat.le_of_ble_eq_true rfl) ?_
  refine aw_bipush dX0_mostWanted_0 rfl (by decide) ?_
  refine aw_istore2 rfl dX0_mostWanted_2 rfl (by decide) ?_
  refine aw_iconst dX0_mostWanted_3 rfl ?_
  refine aw_istore3 rfl dX0_mostWanted_4 rfl (by decide) ?_
  refine aw_iconst dX0_mostWanted_5 rfl ?_
  refine aw_istore4 rfl dX0_mostWanted_6 rfl (by decide) ?_
  exact loop (f 46).toNat 0 (-1) (by omega) (Or.inl ⟨rfl, rfl⟩)
theorem sC_tell {c : Nat} {p w : Int} (hG : SpG zG c) (hn : 3 ≤ n ∧ n ≤ 8) (hR : SpR (mem c) f p) (ws : SpW n f p) (hw : -2147483648 ≤ w ∧ w ≤ 2147483647) (k : Q (some (vI (if 0 ≤ w ∧ w ≤ 9 then tellF f p w else -1))) mem) : AMet Γ mX7_tell [vR c, vI w] zG mem Q := by
  have hG' := hG
  unfold SpG at hG
  have hc := hR.c hn ws
  obtain ⟨r0, r1, r2, r3, r4, r5, r6⟩ := id hR
  have kw : ∀ (j v : Int), w = j → (0 ≤ j ∧ j ≤ 9) → v = tellF f p j → Q (some (vI v)) mem := by
    intro j v e hj ev
    subst e
    rw [if_pos hj] at k
    rw [ev]
    exact k
  have gd := hR.gd ws
  have bl := hR.bl ws
  have dn := hR.dn
  refine AMet.of' 0 (ls := [some (vR (c)), some (vI (w))]) (by decide) rfl (Nat.le_of_ble_eq_true rfl) ?_
  refine aw_iload_n dX7_tell_0 rfl rfl ?_
  refine aw_tsw (tgt := 130) dX7_tell_1 (by omega) (by decide) (by decide) (fun c1 => ?_) ?_ (by decide)
  · refine aw_iconst dX7_tell_130 rfl ?_
    refine aw_ireturn (ty := .int) dX7_tell_131 rfl rfl ?_
    rw [if_neg (by omega)] at k; exact k
  · intro jz offz hoz hj1 tz htz hpz
    match jz, hoz with
    | 0, hoz =>
      obtain rfl : (55 : Int) = offz := Option.some.inj hoz
      obtain rfl : tz = 56 := by omega
      refine aw_aload_n dX7_tell_56 rfl rfl ?_
      refine aw_getI (kI := 0) dX7_tell_57 rfl fl_X7_9 (by first | assumption | rfl) (by rfl) rfl ?_
      refine aw_ireturn (ty := .int) dX7_tell_60 rfl rfl ?_
      exact kw 0 _ (by omega) (by omega) r0
    | 1, hoz =>
      obtain rfl : (60 : Int) = offz := Option.some.inj hoz
      obtain rfl : tz = 61 := by omega
      refine aw_aload_n dX7_tell_61 rfl rfl ?_
      refine aw_getI (kI := 1) dX7_tell_62 rfl fl_X7_15 (by first | assumption | rfl) (by rfl) rfl ?_
      refine aw_ireturn (ty := .int) dX7_tell_65 rfl rfl ?_
      exact kw 1 _ (by omega) (by omega) r1
    | 2, hoz =>
      obtain rfl : (65 : Int) = offz := Option.some.inj hoz
      obtain rfl : tz = 66 := by omega
      refine aw_aload_n dX7_tell_66 rfl rfl ?_
      refine aw_getI (kI := 2) dX7_tell_67 rfl fl_X7_18 (by first | assumption | rfl) (by rfl) rfl ?_
      refine aw_ireturn (ty := .int) dX7_tell_70 rfl rfl ?_
      exact kw 2 _ (by omega) (by omega) r2
    | 3, hoz =>
      obtain rfl : (70 : Int) = offz := Option.some.inj hoz
      obtain rfl : tz = 71 := by omega
      refine aw_aload_n dX7_tell_71 rfl rfl ?_
      refine aw_getI (kI := 3) dX7_tell_72 rfl fl_X7_21 (by first | assumption | rfl) (by rfl) rfl ?_
      refine aw_ireturn (ty := .int) dX7_tell_75 rfl rfl ?_
      exact kw 3 _ (by omega) (by omega) r3
    | 4, hoz =>
      obtain rfl : (75 : Int) = offz := Option.some.inj hoz
      obtain rfl : tz = 76 := by omega
      refine aw_aload_n dX7_tell_76 rfl rfl ?_
      refine aw_getI (kI := 4) dX7_tell_77 rfl fl_X7_24 (by first | assumption | rfl) (by rfl) rfl ?_
      refine aw_ireturn (ty := .int) dX7_tell_80 rfl rfl ?_
      exact kw 4 _ (by omega) (by omega) r4
    | 5, hoz =>
      obtain rfl : (80 : Int) = offz := Option.some.inj hoz
      obtain rfl : tz = 81 := by omega
      refine aw_aload_n dX7_tell_81 rfl rfl ?_
      refine aw_getI (kI := 5) dX7_tell_82 rfl fl_X7_27 (by first | assumption | rfl) (by rfl) rfl ?_
      refine aw_ireturn (ty := .int) dX7_tell_85 rfl rfl ?_
      exact kw 5 _ (by omega) (by omega) r5
    | 6, hoz =>
      obtain rfl : (85 : Int) = offz := Option.some.inj hoz
      obtain rfl : tz = 86 := by omega
      refine aw_aload_n dX7_tell_86 rfl rfl ?_
      refine aw_callV [] _ dX7_tell_87 rfl clv_X7_49 (by decide) ⟨Nat.zero_le _, Nat.zero_le _⟩ (by first | assumption | rfl) (by rfl) (Nat.le_of_ble_eq_true rfl) rfl ?_
      refine sC_isDone hG' hc (fun c87 => ?_) (fun c87 => ?_)
      · refine aw_if_eq (tgt := 97) dX7_tell_90 (by decide) rfl (by omega) (fun c => absurd c (by decide)) (fun _ => ?_)
        refine aw_iconst dX7_tell_93 rfl ?_
        refine aw_goto (tgt := 98) dX7_tell_94 (by decide) ?_
        refine aw_ireturn (ty := .int) dX7_tell_98 rfl rfl ?_
        first | exact kw 6 1 (by omega) (by omega) (if_pos (dn.mp c87)).symm | exact kw 6 0 (by omega) (by omega) (if_neg (fun z => c87 (dn.mpr z))).symm
      · refine aw_if_eq (tgt := 97) dX7_tell_90 (by decide) rfl (by omega) (fun _ => ?_) (fun c => absurd c (by decide))
        refine aw_iconst dX7_tell_97 rfl ?_
        refine aw_ireturn (ty := .int) dX7_tell_98 rfl rfl ?_
        first | exact kw 6 1 (by omega) (by omega) (if_pos (dn.mp c87)).symm | exact kw 6 0 (by omega) (by omega) (if_neg (fun z => c87 (dn.mpr z))).symm
    | 7, hoz =>
      obtain rfl : (98 : Int) = offz := Option.some.inj hoz
      obtain rfl : tz = 99 := by omega
      refine aw_aload_n dX7_tell_99 rfl rfl ?_
      refine aw_callV [] _ dX7_tell_100 rfl clv_X7_53 (by decide) ⟨Nat.zero_le _, Nat.zero_le _⟩ (by first | assumption | rfl) (by rfl) (Nat.le_of_ble_eq_true rfl) rfl ?_
      refine sC_isBlack hG' hc (fun c100 => ?_) (fun c100 => ?_)
      · refine aw_if_eq (tgt := 110) dX7_tell_103 (by decide) rfl (by omega) (fun c => absurd c (by decide)) (fun _ => ?_)
        refine aw_iconst dX7_tell_106 rfl ?_
        refine aw_goto (tgt := 111) dX7_tell_107 (by decide) ?_
        refine aw_ireturn (ty := .int) dX7_tell_111 rfl rfl ?_
        first | exact kw 7 1 (by omega) (by omega) (if_pos (bl.mp c100)).symm | exact kw 7 0 (by omega) (by omega) (if_neg (fun z => c100 (bl.mpr z))).symm
      · refine aw_if_eq (tgt := 110) dX7_tell_103 (by decide) rfl (by omega) (fun _ => ?_) (fun c => absurd c (by decide))
        refine aw_iconst dX7_tell_110 rfl ?_
        refine aw_ireturn (ty := .int) dX7_tell_111 rfl rfl ?_
        first | exact kw 7 1 (by omega) (by omega) (if_pos (bl.mp c100)).symm | exact kw 7 0 (by omega) (by omega) (if_neg (fun z => c100 (bl.mpr z))).symm
    | 8, hoz =>
      obtain rfl : (111 : Int) = offz := Option.some.inj hoz
      obtain rfl : tz = 112 := by omega
      refine aw_aload_n dX7_tell_112 rfl rfl ?_
      refine aw_callV [] _ dX7_tell_113 rfl clv_X7_56 (by decide) ⟨Nat.zero_le _, Nat.zero_le _⟩ (by first | assumption | rfl) (by rfl) (Nat.le_of_ble_eq_true rfl) rfl ?_
      refine sC_isGood hG' hc (fun c113 => ?_) (fun c113 => ?_)
      · refine aw_if_eq (tgt := 123) dX7_tell_116 (by decide) rfl (by omega) (fun c => absurd c (by decide)) (fun _ => ?_)
        refine aw_iconst dX7_tell_119 rfl ?_
        refine aw_goto (tgt := 124) dX7_tell_120 (by decide) ?_
        refine aw_ireturn (ty := .int) dX7_tell_124 rfl rfl ?_
        first | exact kw 8 1 (by omega) (by omega) (if_pos (gd.mp c113)).symm | exact kw 8 0 (by omega) (by omega) (if_neg (fun z => c113 (gd.mpr z))).symm
      · refine aw_if_eq (tgt := 123) dX7_tell_116 (by decide) rfl (by omega) (fun _ => ?_) (fun c => absurd c (by decide))
        refine aw_iconst dX7_tell_123 rfl ?_
        refine aw_ireturn (ty := .int) dX7_tell_124 rfl rfl ?_
        first | exact kw 8 1 (by omega) (by omega) (if_pos (gd.mp c113)).symm | exact kw 8 0 (by omega) (by omega) (if_neg (fun z => c113 (gd.mpr z))).symm
    | 9, hoz =>
      obtain rfl : (124 : Int) = offz := Option.some.inj hoz
      obtain rfl : tz = 125 := by omega
      refine aw_aload_n dX7_tell_125 rfl rfl ?_
      refine aw_getI (kI := 6) dX7_tell_126 rfl fl_X7_30 (by first | assumption | rfl) (by rfl) rfl ?_
      refine aw_ireturn (ty := .int) dX7_tell_129 rfl rfl ?_
      exact kw 9 _ (by omega) (by omega) r6
    | jz + 10, hoz => exact absurd hoz (by simp)
end ZCmp6
