def wrapC (t : Int → Int) (L : Int) (s : PSt) : Int := if tkK t L s.p = 1 then wrapN t L (tkB t L s.p) (tkE t L s.p) else -4
def ghW (t : Int → Int) (L : Int) (s : PSt) : PSt := (fset s.1 1 (wrapC t L s), s.2)
def wrapP (t : Int → Int) (L : Int) (s : PSt) : Except Int PSt := ((chkP k2 t L (fun s => ¬ wrapC t L s = -4) s).bind (stP (ghW t L))).bind (advP t L)
theorem wrapN_rng {t : Int → Int} {L b e : Int} : -4 ≤ wrapN t L b e ∧ wrapN t L b e ≤ 2 := by
  unfold wrapN
  (repeat' split) <;> omega
section ZRef28
variable {Γ : ZG} {mem mem0 : Mem} {Q : Option AV → Mem → Prop}
theorem RefR.tk {r : Except Int PSt} {m : Mem} (tp : TpOK mem0) (h : RefR mem0 r m) : TkOK m := by
  have e13 : m 109 13 = mem0 109 13 := h.1.g 13 (by omega)
  have e114 : m 114 = mem0 114 := h.1.fr 114 (by decide)
  have hp := h.1.p
  have hb := h.1.b
  have h1 := tp.1
  refine ⟨by omega, ?_, by omega, by omega⟩
  rw [e13, e114]
  exact tp.2
theorem sR_cellR (r : Except Int PSt) (tp : TpOK mem0) (hR : RefR mem0 r mem) (h9 : mem 109 18 = 0 → -4 ≤ mem 109 9 ∧ mem 109 9 ≤ 99) (k : ∀ (v : Int) (m' : Mem), RefR mem0 (r.bind (cellP (mem0 114) (mem0 109 13))) m' → (0 ≤ v ∧ v ≤ 7) → (∀ s, r.bind (cellP (mem0 114) (mem0 109 13)) = .ok s → v = s.1 1) → m' 113 = mem 113 → Q (some (vI v)) m') : AMet Γ mX11_readCell [vR 109] zG mem Q := by
  have eN : r.bind (cellP (mem0 114) (mem0 109 13)) = (r.bind (cellL (mem0 114) (mem0 109 13))).bind (advP (mem0 114) (mem0 109 13)) := by
    cases r <;> rfl
  rw [eN] at k
  refine AMet.of' 1 (ls := [some (vR (109)), none]) (by decide) rfl (Nat.le_of_ble_eq_true rfl) ?_
  refine aw_aload_n dX11_readCell_0 rfl rfl ?_
  refine aw_callV [] _ dX11_readCell_1 rfl clv_X11_134 (by decide) ⟨Nat.zero_le _, Nat.zero_le _⟩ g109 (by rfl) (Nat.le_of_ble_eq_true rfl) rfl ?_
  refine sR_lookedCellR r hR h9 (fun v m1 h1 v1 y1 d1 => ?_)
  refine aw_istore1 rfl dX11_readCell_4 rfl (by decide) ?_
  refine aw_aload_n dX11_readCell_5 rfl rfl ?_
  refine aw_callV [] _ dX11_readCell_6 rfl clv_X11_131 (by decide) ⟨Nat.zero_le _, Nat.zero_le _⟩ g109 (by rfl) (Nat.le_of_ble_eq_true rfl) rfl ?_
  refine sR_nextR _ tp h1 (fun m2 h2 d2 => ?_)
  refine aw_iload_n dX11_readCell_9 rfl rfl ?_
  refine aw_ireturn (ty := .int) dX11_readCell_10 rfl rfl ?_
  refine k v m2 h2 v1 ?_ (d2.trans d1)
  intro s hs
  obtain ⟨s1, e1, x1, q1⟩ := advP_ok hs
  rw [y1 s1 e1, q1]
  rfl
theorem sR_readWrapR (r : Except Int PSt) (tp : TpOK mem0) (hR : RefR mem0 r mem) (k : ∀ (v : Int) (m' : Mem), RefR mem0 (r.bind (wrapP (mem0 114) (mem0 109 13))) m' → (-4 ≤ v ∧ v ≤ 2) → (∀ s, r.bind (wrapP (mem0 114) (mem0 109 13)) = .ok s → v = s.1 1) → m' 113 = mem 113 → Q (some (vI v)) m') : AMet Γ mX11_readWrap [vR 109] zG mem Q := by
  have eN : r.bind (wrapP (mem0 114) (mem0 109 13)) = ((r.bind (chkP k2 (mem0 114) (mem0 109 13) (fun s => ¬ wrapC (mem0 114) (mem0 109 13) s = -4))).bind (stP (ghW (mem0 114) (mem0 109 13)))).bind (advP (mem0 114) (mem0 109 13)) := by
    cases r <;> rfl
  rw [eN] at k
  have hfl := hR.flt
  have hk := hR.1.k
  have e13 : mem 109 13 = mem0 109 13 := hR.1.g 13 (by omega)
  have e114 : mem 114 = mem0 114 := hR.1.fr 114 (by decide)
  have s24 : ∀ v : Int, (-4 ≤ v ∧ v ≤ 2) → (∀ s, r = .ok s → mem 109 18 = 0 → v = wrapC (mem0 114) (mem0 109 13) s) → AW Γ mX11_readWrap (zF Γ zG Q) zG 0 0 24 [some (vR 109), none] [vI v] mem := by
    intro v hv hw
    refine aw_istore1 rfl dX11_readWrap_24 rfl (by decide) ?_
    refine aw_aload_n dX11_readWrap_25 rfl rfl ?_
    refine aw_iload_n dX11_readWrap_26 rfl rfl ?_
    refine aw_bipush dX11_readWrap_27 rfl (by decide) ?_
    refine aw_icmp_eq (tgt := 36) dX11_readWrap_29 (by decide) rfl (by omega) (by omega) (fun c29 => ?_) (fun c29 => ?_)
    · refine aw_iconst dX11_readWrap_36 rfl ?_
      refine aw_iconst dX11_readWrap_37 rfl ?_
      refine aw_callV [_, _] _ dX11_readWrap_38 rfl clv_X11_123 (by decide) ⟨Nat.zero_le _, Nat.zero_le _⟩ g109 (by rfl) (Nat.le_of_ble_eq_true rfl) rfl ?_
      refine sR_needsR r k2 (fun s => ¬ wrapC (mem0 114) (mem0 109 13) s = -4) (by omega) (by omega) hR (fun s' e' z' => by have hz := hw s' e' z'; rw [← hz]; omega) (fun m1 e1 h1 => ?_)
      refine aw_aload_n dX11_readWrap_41 rfl rfl ?_
      refine aw_callV [] _ dX11_readWrap_42 rfl clv_X11_131 (by decide) ⟨Nat.zero_le _, Nat.zero_le _⟩ g109 (by rfl) (Nat.le_of_ble_eq_true rfl) rfl ?_
      refine sR_nextR _ tp (h1.gh (ghW (mem0 114) (mem0 109 13)) (fun _ => rfl) (fun s j hj => fset_ne (by omega)) (fun _ => rfl)) (fun m2 h2 d2 => ?_)
      refine aw_iload_n dX11_readWrap_45 rfl rfl ?_
      refine aw_ireturn (ty := .int) dX11_readWrap_46 rfl rfl ?_
      refine k v m2 h2 hv ?_ (d2.trans (by rw [e1, mcell_ne (by decide)]))
      intro s hs
      obtain ⟨s1, e1, x1, q1⟩ := advP_ok hs
      obtain ⟨s2, e2, q2⟩ := stP_ok e1
      obtain ⟨e3, x3, c3⟩ := chkP_ok e2
      have hf0 : mem 109 18 = 0 := by
        have h2 := hR.2
        rw [e3] at h2
        dsimp only at h2
        rw [if_neg x3] at h2
        exact h2.f
      rw [hw s2 e3 hf0, q1, q2]
      rfl
    · refine aw_iconst dX11_readWrap_32 rfl ?_
      refine aw_goto (tgt := 37) dX11_readWrap_33 (by decide) ?_
      refine aw_iconst dX11_readWrap_37 rfl ?_
      refine aw_callV [_, _] _ dX11_readWrap_38 rfl clv_X11_123 (by decide) ⟨Nat.zero_le _, Nat.zero_le _⟩ g109 (by rfl) (Nat.le_of_ble_eq_true rfl) rfl ?_
      refine sR_needsR r k2 (fun s => ¬ wrapC (mem0 114) (mem0 109 13) s = -4) (by omega) (by omega) hR (fun s' e' z' => by have hz := hw s' e' z'; rw [← hz]; omega) (fun m1 e1 h1 => ?_)
      refine aw_aload_n dX11_readWrap_41 rfl rfl ?_
      refine aw_callV [] _ dX11_readWrap_42 rfl clv_X11_131 (by decide) ⟨Nat.zero_le _, Nat.zero_le _⟩ g109 (by rfl) (Nat.le_of_ble_eq_true rfl) rfl ?_
      refine sR_nextR _ tp (h1.gh (ghW (mem0 114) (mem0 109 13)) (fun _ => rfl) (fun s j hj => fset_ne (by omega)) (fun _ => rfl)) (fun m2 h2 d2 => ?_)
      refine aw_iload_n dX11_readWrap_45 rfl rfl ?_
      refine aw_ireturn (ty := .int) dX11_readWrap_46 rfl rfl ?_
      refine k v m2 h2 hv ?_ (d2.trans (by rw [e1, mcell_ne (by decide)]))
      intro s hs
      obtain ⟨s1, e1, x1, q1⟩ := advP_ok hs
      obtain ⟨s2, e2, q2⟩ := stP_ok e1
      obtain ⟨e3, x3, c3⟩ := chkP_ok e2
      have hf0 : mem 109 18 = 0 := by
        have h2 := hR.2
        rw [e3] at h2
        dsimp only at h2
        rw [if_neg x3] at h2
        exact h2.f
      rw [hw s2 e3 hf0, q1, q2]
      rfl
  refine AMet.of' 1 (ls := [some (vR (109)), none]) (by decide) rfl (Nat.le_of_ble_eq_true rfl) ?_
  refine aw_aload_n dX11_readWrap_0 rfl rfl ?_
  refine aw_getI (kI := 18) dX11_readWrap_1 rfl fl_X11_85 g109 (by rfl) rfl ?_
  refine aw_if_ne (tgt := 22) dX11_readWrap_4 (by decide) rfl (by omega) (fun c4 => ?_) (fun c4 => ?_)
  · refine aw_bipush dX11_readWrap_22 rfl (by decide) ?_
    first | (have hz := c4; have hz2 := c12; refine s24 _ wrapN_rng (fun s e z => ?_); obtain ⟨s', es, ho⟩ := hR.good z; rw [e] at es; cases es; unfold wrapC; rw [if_pos (by rw [← ho.k]; exact hz2), e13, e114, ho.b, ho.e]) | (refine s24 (-4) (by omega) (fun s e z => ?_); obtain ⟨s', es, ho⟩ := hR.good z; rw [e] at es; cases es; unfold wrapC; have hk1 := ho.k; rw [if_neg (by omega)])
  · refine aw_aload_n dX11_readWrap_7 rfl rfl ?_
    refine aw_getI (kI := 16) dX11_readWrap_8 rfl fl_X11_109 g109 (by rfl) rfl ?_
    refine aw_iconst dX11_readWrap_11 rfl ?_
    refine aw_icmp_ne (tgt := 22) dX11_readWrap_12 (by decide) rfl (by omega) (by omega) (fun c12 => ?_) (fun c12 => ?_)
    · refine aw_bipush dX11_readWrap_22 rfl (by decide) ?_
      first | (have hz := c4; have hz2 := c12; refine s24 _ wrapN_rng (fun s e z => ?_); obtain ⟨s', es, ho⟩ := hR.good z; rw [e] at es; cases es; unfold wrapC; rw [if_pos (by rw [← ho.k]; exact hz2), e13, e114, ho.b, ho.e]) | (refine s24 (-4) (by omega) (fun s e z => ?_); obtain ⟨s', es, ho⟩ := hR.good z; rw [e] at es; cases es; unfold wrapC; have hk1 := ho.k; rw [if_neg (by omega)])
    · refine aw_aload_n dX11_readWrap_15 rfl rfl ?_
      refine aw_callV [] _ dX11_readWrap_16 rfl clv_X11_138 (by decide) ⟨Nat.zero_le _, Nat.zero_le _⟩ g109 (by rfl) (Nat.le_of_ble_eq_true rfl) rfl ?_
      refine sR_wrapNow (hR.tk tp) ?_
      refine aw_goto (tgt := 24) dX11_readWrap_19 (by decide) ?_
      first | (have hz := c4; have hz2 := c12; refine s24 _ wrapN_rng (fun s e z => ?_); obtain ⟨s', es, ho⟩ := hR.good z; rw [e] at es; cases es; unfold wrapC; rw [if_pos (by rw [← ho.k]; exact hz2), e13, e114, ho.b, ho.e]) | (refine s24 (-4) (by omega) (fun s e z => ?_); obtain ⟨s', es, ho⟩ := hR.good z; rw [e] at es; cases es; unfold wrapC; have hk1 := ho.k; rw [if_neg (by omega)])
end ZRef28
