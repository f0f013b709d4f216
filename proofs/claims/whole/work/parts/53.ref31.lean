def memoG (s : PSt) : PSt := (fset (fset (fset s.1 2 (s.1 1)) 8 (zor (s.1 8) (zshl 1 (s.1 1)))) 11 (if s.1 11 < s.1 1 then s.1 1 else s.1 11), s.2)
def memoA (t : Int → Int) (L : Int) (s : PSt) : Except Int PSt := (((chkP (numD t L) t L (numC t L 0 5) s).bind (stP (ghV t L))).bind (chkP k4 t L (toldC 8))).bind (stP memoG)
def memoW (s : PSt) : PSt := (s.1, fset s.2 (47 + 8 * s.1 2 + 7) (s.1 1))
def memoP (t : Int → Int) (L : Int) (s : PSt) : Except Int PSt := (((memoA t L s).bind (advP t L)).bind (cellP t L)).bind (stP memoW)
theorem cellP_ok {t : Int → Int} {L : Int} {r : Except Int PSt} {s' : PSt} (h : r.bind (cellP t L) = .ok s') : ∃ s, r = .ok s ∧ ¬ tkX t L s.p ∧ numC t L 0 7 s ∧ s' = (fset (cellG t L s).1 0 (tkE t L s.p), s.2) := by
  have eN : r.bind (cellP t L) = ((r.bind (chkP (numD t L) t L (numC t L 0 7))).bind (stP (cellG t L))).bind (advP t L) := by
    cases r <;> rfl
  rw [eN] at h
  obtain ⟨s1, e1, x1, q1⟩ := advP_ok h
  obtain ⟨s2, e2, q2⟩ := stP_ok e1
  obtain ⟨e3, x3, c3⟩ := chkP_ok e2
  subst q2
  exact ⟨s2, e3, x3, c3, q1⟩
section ZRef31
variable {Γ : ZG} {mem mem0 : Mem} {Q : Option AV → Mem → Prop}
theorem memo8 {v x : Int} {m2 : Mem} {r1 : Except Int PSt} (h2 : RefR mem0 (r1.bind (chkP k4 (mem0 114) (mem0 109 13) (toldC 8))) m2) (y1 : ∀ s, r1 = .ok s → v = s.1 1) (hx : x = if m2 109 11 < v then v else m2 109 11) : RefR mem0 ((r1.bind (chkP k4 (mem0 114) (mem0 109 13) (toldC 8))).bind (stP memoG)) (mset (mcell m2 109 (fset (m2 109) 8 (zor (m2 109 8) (zshl 1 v)))) 109 11 x) := by
  rw [mset_mcell]
  refine h2.stp memoG (fun _ => rfl) (FrX.rf.cell (by decide)) (fun j hj => ?_) (fun s hs ho => ⟨fun j h5 h11 => ?_, ?_⟩)
  · rw [mcell_same, fset_ne (by omega), fset_ne (by omega)]
  · obtain ⟨e2, x2, c2⟩ := chkP_ok hs
    rw [mcell_same]
    unfold memoG
    dsimp only
    by_cases h : j = 11
    · subst h
      rw [fset_same, fset_same, hx, ho.g 11 h5 h11, y1 s e2]
    · rw [fset_ne h, fset_ne h]
      by_cases h8 : j = 8
      · subst h8
        rw [fset_same, fset_same, ho.g 8 h5 h11, y1 s e2]
      · rw [fset_ne h8, fset_ne h8, fset_ne (by omega)]
        exact ho.g j h5 h11
  · rw [mcell_ne (by decide)]
    exact ho.d
theorem sR_readMemoR (r : Except Int PSt) (tp : TpOK mem0) (hR : RefR mem0 r mem) (hw : ∀ s, r = .ok s → (-4 ≤ s.1 9 ∧ s.1 9 ≤ 99) ∧ (-4 ≤ s.1 11 ∧ s.1 11 ≤ 99)) (k : ∀ m' : Mem, RefR mem0 (r.bind (memoP (mem0 114) (mem0 109 13))) m' → Q none m') : AMet Γ mX11_readMemo [vR 109] zG mem Q := by
  have eN : r.bind (memoP (mem0 114) (mem0 109 13)) = (((r.bind (memoA (mem0 114) (mem0 109 13))).bind (advP (mem0 114) (mem0 109 13))).bind (cellP (mem0 114) (mem0 109 13))).bind (stP memoW) := by
    cases r <;> rfl
  have eA : r.bind (memoA (mem0 114) (mem0 109 13)) = (((r.bind (chkP (numD (mem0 114) (mem0 109 13)) (mem0 114) (mem0 109 13) (numC (mem0 114) (mem0 109 13) 0 5))).bind (stP (ghV (mem0 114) (mem0 109 13)))).bind (chkP k4 (mem0 114) (mem0 109 13) (toldC 8))).bind (stP memoG) := by
    cases r <;> rfl
  rw [eN] at k
  have inv : ∀ s, r.bind (memoA (mem0 114) (mem0 109 13)) = .ok s → ∃ s0, r = .ok s0 ∧ s.1 2 = tkV (mem0 114) (mem0 109 13) s0.p ∧ s.1 9 = s0.1 9 ∧ ¬ tkX (mem0 114) (mem0 109 13) s0.p ∧ numC (mem0 114) (mem0 109 13) 0 5 s0 := by
    intro s e
    rw [eA] at e
    obtain ⟨s1, e1, q1⟩ := stP_ok e
    obtain ⟨e2, x2, c2⟩ := chkP_ok e1
    obtain ⟨s3, e3, q3⟩ := stP_ok e2
    obtain ⟨e4, x4, c4⟩ := chkP_ok e3
    refine ⟨s3, e4, ?_, ?_, x4, c4⟩
    · rw [q1, q3]; rfl
    · rw [q1, q3]; rfl
  have s67 : ∀ (v : Int) (m3 : Mem), (0 ≤ v ∧ v ≤ 5) → RefR mem0 (r.bind (memoA (mem0 114) (mem0 109 13))) m3 → (∀ s, r.bind (memoA (mem0 114) (mem0 109 13)) = .ok s → v = s.1 2) → AW Γ mX11_readMemo (zF Γ zG Q) zG 0 0 67 [some (vR 109), some (vI v), none] [] m3 := by
    intro v m3 hv h3 hs
    refine aw_aload_n dX11_readMemo_67 rfl rfl ?_
    refine aw_callV [] _ dX11_readMemo_68 rfl clv_X11_131 (by decide) ⟨Nat.zero_le _, Nat.zero_le _⟩ g109 (by rfl) (Nat.le_of_ble_eq_true rfl) rfl ?_
    refine sR_nextR _ tp h3 (fun m4 h4 d4 => ?_)
    have h9 : m4 109 18 = 0 → -4 ≤ m4 109 9 ∧ m4 109 9 ≤ 99 := by
      intro z
      obtain ⟨s4, e4, o4⟩ := h4.good z
      obtain ⟨s1, e1, x1, q1⟩ := advP_ok e4
      obtain ⟨s0, e0, -, e9, -, -⟩ := inv s1 e1
      rw [o4.g 9 (by omega) (by omega), q1]
      show -4 ≤ s1.1 9 ∧ s1.1 9 ≤ 99
      rw [e9]
      exact (hw s0 e0).1
    refine aw_aload_n dX11_readMemo_71 rfl rfl ?_
    refine aw_callV [] _ dX11_readMemo_72 rfl clv_X11_144 (by decide) ⟨Nat.zero_le _, Nat.zero_le _⟩ g109 (by rfl) (Nat.le_of_ble_eq_true rfl) rfl ?_
    refine sR_cellR _ tp h4 h9 (fun v5 m5 h5 r5 y5 d5 => ?_)
    refine aw_istore2 rfl dX11_readMemo_75 rfl (by decide) ?_
    refine aw_aload_n dX11_readMemo_76 rfl rfl ?_
    refine aw_getR dX11_readMemo_77 rfl fl_X11_20 g109 (by rfl) ?_
    refine aw_bipush dX11_readMemo_80 rfl (by decide) ?_
    refine aw_bipush dX11_readMemo_82 rfl (by decide) ?_
    refine aw_iload_n dX11_readMemo_84 rfl rfl ?_
    refine aw_imul dX11_readMemo_85 rfl ?_
    refine aw_iadd dX11_readMemo_86 rfl ?_
    refine aw_bipush dX11_readMemo_87 rfl (by decide) ?_
    refine aw_iadd dX11_readMemo_89 rfl ?_
    refine aw_iload_n dX11_readMemo_90 rfl rfl ?_
    refine aw_iastore dX11_readMemo_91 rfl g113 (by decide) (by omega) ?_
    refine aw_return dX11_readMemo_92 rfl ?_
    refine k _ (h5.put memoW (fun _ => rfl) (fun s hs5 ho => ?_))
    obtain ⟨s4, e4, x4, c4, q4⟩ := cellP_ok hs5
    obtain ⟨s1, e1, x1, q1⟩ := advP_ok e4
    have hv2 : s.1 2 = v := by
      rw [q4, q1, hs s1 e1]
      rfl
    unfold memoW
    dsimp only
    rw [hv2, y5 s hs5]
  refine AMet.of' 2 (ls := [some (vR (109)), none, none]) (by decide) rfl (Nat.le_of_ble_eq_true rfl) ?_
  refine aw_aload_n dX11_readMemo_0 rfl rfl ?_
  refine aw_iconst dX11_readMemo_1 rfl ?_
  refine aw_iconst dX11_readMemo_2 rfl ?_
  refine aw_callV [_, _] _ dX11_readMemo_3 rfl clv_X11_127 (by decide) ⟨Nat.zero_le _, Nat.zero_le _⟩ g109 (by rfl) (Nat.le_of_ble_eq_true rfl) rfl ?_
  refine sR_lookedR r (by omega) hR (fun v m1 h1 z1 y1 d1 => ?_)
  refine aw_istore1 rfl dX11_readMemo_6 rfl (by decide) ?_
  have f1 := h1.flt
  have v5 : 0 ≤ v ∧ v ≤ 5 := by
    by_cases hf : m1 109 18 = 0
    · have := z1 hf; omega
    · have := y1 hf; omega
  have hs2 : ∀ s, r.bind (memoA (mem0 114) (mem0 109 13)) = .ok s → v = s.1 2 := by
    intro s e
    obtain ⟨s0, e0, e2, e9, x0, c0⟩ := inv s e
    rw [e2]
    exact looked_v h1 z1 s0 e0 x0 c0
  have hg := h1.gh (ghV (mem0 114) (mem0 109 13)) (fun _ => rfl) (fun s j hj => fset_ne (by omega)) (fun _ => rfl)
  have hv1 : ∀ s, (r.bind (chkP (numD (mem0 114) (mem0 109 13)) (mem0 114) (mem0 109 13) (numC (mem0 114) (mem0 109 13) 0 5))).bind (stP (ghV (mem0 114) (mem0 109 13))) = .ok s → v = s.1 1 := by
    intro s e
    obtain ⟨s3, e3, q3⟩ := stP_ok e
    obtain ⟨e4, x4, c4⟩ := chkP_ok e3
    rw [looked_v h1 z1 s3 e4 x4 c4, q3]
    rfl
  refine aw_aload_n dX11_readMemo_7 rfl rfl ?_
  refine aw_getI (kI := 18) dX11_readMemo_8 rfl fl_X11_85 g109 (by rfl) rfl ?_
  refine aw_if_ne (tgt := 67) dX11_readMemo_11 (by decide) rfl (by omega) (fun c11 => ?_) (fun c11 => ?_)
  · first | (have hz := h1.badf c11 (f := fun s => ((stP (ghV (mem0 114) (mem0 109 13)) s).bind (chkP k4 (mem0 114) (mem0 109 13) (toldC 8))).bind (stP memoG)) (fun s hx => by show ((chkP k4 (mem0 114) (mem0 109 13) (toldC 8) (ghV (mem0 114) (mem0 109 13) s)).bind (stP memoG)) = _; rw [chkP_x _ (show tkX (mem0 114) (mem0 109 13) (PSt.p (ghV (mem0 114) (mem0 109 13) s)) from hx)]; rfl); refine s67 v _ v5 (by rw [eA, ebind, ebind]; exact hz) hs2) | (refine s67 v _ v5 (by rw [eA]; exact memo8 h2 hv1 (by first | (rw [r2, if_pos (by omega)]) | (rw [r2, if_neg (by omega), mcell_same, fset_ne (by decide), r2]))) hs2)
  · have r11 : -4 ≤ m1 109 11 ∧ m1 109 11 ≤ 99 := by
      obtain ⟨s1, e1, o1⟩ := h1.good c11
      rw [o1.g 11 (by omega) (by omega)]
      exact (hw s1 (chkP_ok e1).1).2
    refine aw_aload_n dX11_readMemo_14 rfl rfl ?_
    refine aw_aload_n dX11_readMemo_15 rfl rfl ?_
    refine aw_getI (kI := 8) dX11_readMemo_16 rfl fl_X11_61 g109 (by rfl) rfl ?_
    refine aw_iload_n dX11_readMemo_19 rfl rfl ?_
    refine aw_ishr dX11_readMemo_20 rfl ?_
    refine aw_iconst dX11_readMemo_21 rfl ?_
    refine aw_iand dX11_readMemo_22 rfl ?_
    have zb := zb01 (a := m1 109 8) (v := v) (by omega)
    refine aw_if_ne (tgt := 30) dX11_readMemo_23 (by decide) rfl (by omega) (fun c23 => ?_) (fun c23 => ?_)
    · refine aw_iconst dX11_readMemo_30 rfl ?_
      refine aw_iconst dX11_readMemo_31 rfl ?_
      refine aw_callV [_, _] _ dX11_readMemo_32 rfl clv_X11_123 (by decide) ⟨Nat.zero_le _, Nat.zero_le _⟩ g109 (by rfl) (Nat.le_of_ble_eq_true rfl) rfl ?_
      refine sR_needsR _ k4 (toldC 8) (by omega) (by omega) hg (fun s' e' z' => by obtain ⟨s, es, ho⟩ := hg.good z'; rw [e'] at es; cases es; unfold toldC; rw [← ho.g 8 (by omega) (by omega), ← hv1 s' e']; omega) (fun m2 e2 h2 => ?_)
      have r2 : m2 109 11 = m1 109 11 := by rw [e2, mcell_same]; unfold needC; split <;> rfl
      refine aw_aload_n dX11_readMemo_35 rfl rfl ?_
      refine aw_dup dX11_readMemo_36 rfl rfl ?_
      refine aw_getI (kI := 8) dX11_readMemo_37 rfl fl_X11_61 g109 (by rfl) rfl ?_
      refine aw_iconst dX11_readMemo_40 rfl ?_
      refine aw_iload_n dX11_readMemo_41 rfl rfl ?_
      refine aw_ishl dX11_readMemo_42 rfl ?_
      refine aw_ior dX11_readMemo_43 rfl ?_
      refine aw_putI (kI := 8) dX11_readMemo_44 rfl fp_X11_61 g109 (by rfl) rfl ?_
      refine aw_aload_n dX11_readMemo_47 rfl rfl ?_
      refine aw_iload_n dX11_readMemo_48 rfl rfl ?_
      refine aw_aload_n dX11_readMemo_49 rfl rfl ?_
      refine aw_getI (kI := 11) dX11_readMemo_50 rfl fl_X11_70 g109 (by rfl) rfl ?_
      rw [mset_eq, mcell_same, fset_ne (by decide), r2]
      refine aw_icmp_le (tgt := 60) dX11_readMemo_53 (by decide) rfl (by omega) (by omega) (fun c53 => ?_) (fun c53 => ?_)
      · refine aw_aload_n dX11_readMemo_60 rfl rfl ?_
        refine aw_getI (kI := 11) dX11_readMemo_61 rfl fl_X11_70 g109 (by rfl) rfl ?_
        try rw [mset_eq, mcell_same, fset_ne (by decide), r2]
        refine aw_putI (kI := 11) dX11_readMemo_64 rfl fp_X11_70 g109 (by rfl) rfl ?_
        first | (have hz := h1.badf c11 (f := fun s => ((stP (ghV (mem0 114) (mem0 109 13)) s).bind (chkP k4 (mem0 114) (mem0 109 13) (toldC 8))).bind (stP memoG)) (fun s hx => by show ((chkP k4 (mem0 114) (mem0 109 13) (toldC 8) (ghV (mem0 114) (mem0 109 13) s)).bind (stP memoG)) = _; rw [chkP_x _ (show tkX (mem0 114) (mem0 109 13) (PSt.p (ghV (mem0 114) (mem0 109 13) s)) from hx)]; rfl); refine s67 v _ v5 (by rw [eA, ebind, ebind]; exact hz) hs2) | (refine s67 v _ v5 (by rw [eA]; exact memo8 h2 hv1 (by first | (rw [r2, if_pos (by omega)]) | (rw [r2, if_neg (by omega), mcell_same, fset_ne (by decide), r2]))) hs2)
      · refine aw_iload_n dX11_readMemo_56 rfl rfl ?_
        refine aw_goto (tgt := 64) dX11_readMemo_57 (by decide) ?_
        try rw [mset_eq, mcell_same, fset_ne (by decide), r2]
        refine aw_putI (kI := 11) dX11_readMemo_64 rfl fp_X11_70 g109 (by rfl) rfl ?_
        first | (have hz := h1.badf c11 (f := fun s => ((stP (ghV (mem0 114) (mem0 109 13)) s).bind (chkP k4 (mem0 114) (mem0 109 13) (toldC 8))).bind (stP memoG)) (fun s hx => by show ((chkP k4 (mem0 114) (mem0 109 13) (toldC 8) (ghV (mem0 114) (mem0 109 13) s)).bind (stP memoG)) = _; rw [chkP_x _ (show tkX (mem0 114) (mem0 109 13) (PSt.p (ghV (mem0 114) (mem0 109 13) s)) from hx)]; rfl); refine s67 v _ v5 (by rw [eA, ebind, ebind]; exact hz) hs2) | (refine s67 v _ v5 (by rw [eA]; exact memo8 h2 hv1 (by first | (rw [r2, if_pos (by omega)]) | (rw [r2, if_neg (by omega), mcell_same, fset_ne (by decide), r2]))) hs2)
    · refine aw_iconst dX11_readMemo_26 rfl ?_
      refine aw_goto (tgt := 31) dX11_readMemo_27 (by decide) ?_
      refine aw_iconst dX11_readMemo_31 rfl ?_
      refine aw_callV [_, _] _ dX11_readMemo_32 rfl clv_X11_123 (by decide) ⟨Nat.zero_le _, Nat.zero_le _⟩ g109 (by rfl) (Nat.le_of_ble_eq_true rfl) rfl ?_
      refine sR_needsR _ k4 (toldC 8) (by omega) (by omega) hg (fun s' e' z' => by obtain ⟨s, es, ho⟩ := hg.good z'; rw [e'] at es; cases es; unfold toldC; rw [← ho.g 8 (by omega) (by omega), ← hv1 s' e']; omega) (fun m2 e2 h2 => ?_)
      have r2 : m2 109 11 = m1 109 11 := by rw [e2, mcell_same]; unfold needC; split <;> rfl
      refine aw_aload_n dX11_readMemo_35 rfl rfl ?_
      refine aw_dup dX11_readMemo_36 rfl rfl ?_
      refine aw_getI (kI := 8) dX11_readMemo_37 rfl fl_X11_61 g109 (by rfl) rfl ?_
      refine aw_iconst dX11_readMemo_40 rfl ?_
      refine aw_iload_n dX11_readMemo_41 rfl rfl ?_
      refine aw_ishl dX11_readMemo_42 rfl ?_
      refine aw_ior dX11_readMemo_43 rfl ?_
      refine aw_putI (kI := 8) dX11_readMemo_44 rfl fp_X11_61 g109 (by rfl) rfl ?_
      refine aw_aload_n dX11_readMemo_47 rfl rfl ?_
      refine aw_iload_n dX11_readMemo_48 rfl rfl ?_
      refine aw_aload_n dX11_readMemo_49 rfl rfl ?_
      refine aw_getI (kI := 11) dX11_readMemo_50 rfl fl_X11_70 g109 (by rfl) rfl ?_
      rw [mset_eq, mcell_same, fset_ne (by decide), r2]
      refine aw_icmp_le (tgt := 60) dX11_readMemo_53 (by decide) rfl (by omega) (by omega) (fun c53 => ?_) (fun c53 => ?_)
      · refine aw_aload_n dX11_readMemo_60 rfl rfl ?_
        refine aw_getI (kI := 11) dX11_readMemo_61 rfl fl_X11_70 g109 (by rfl) rfl ?_
        try rw [mset_eq, mcell_same, fset_ne (by decide), r2]
        refine aw_putI (kI := 11) dX11_readMemo_64 rfl fp_X11_70 g109 (by rfl) rfl ?_
        first | (have hz := h1.badf c11 (f := fun s => ((stP (ghV (mem0 114) (mem0 109 13)) s).bind (chkP k4 (mem0 114) (mem0 109 13) (toldC 8))).bind (stP memoG)) (fun s hx => by show ((chkP k4 (mem0 114) (mem0 109 13) (toldC 8) (ghV (mem0 114) (mem0 109 13) s)).bind (stP memoG)) = _; rw [chkP_x _ (show tkX (mem0 114) (mem0 109 13) (PSt.p (ghV (mem0 114) (mem0 109 13) s)) from hx)]; rfl); refine s67 v _ v5 (by rw [eA, ebind, ebind]; exact hz) hs2) | (refine s67 v _ v5 (by rw [eA]; exact memo8 h2 hv1 (by first | (rw [r2, if_pos (by omega)]) | (rw [r2, if_neg (by omega), mcell_same, fset_ne (by decide), r2]))) hs2)
      · refine aw_iload_n dX11_readMemo_56 rfl rfl ?_
        refine aw_goto (tgt := 64) dX11_readMemo_57 (by decide) ?_
        try rw [mset_eq, mcell_same, fset_ne (by decide), r2]
        refine aw_putI (kI := 11) dX11_readMemo_64 rfl fp_X11_70 g109 (by rfl) rfl ?_
        first | (have hz := h1.badf c11 (f := fun s => ((stP (ghV (mem0 114) (mem0 109 13)) s).bind (chkP k4 (mem0 114) (mem0 109 13) (toldC 8))).bind (stP memoG)) (fun s hx => by show ((chkP k4 (mem0 114) (mem0 109 13) (toldC 8) (ghV (mem0 114) (mem0 109 13) s)).bind (stP memoG)) = _; rw [chkP_x _ (show tkX (mem0 114) (mem0 109 13) (PSt.p (ghV (mem0 114) (mem0 109 13) s)) from hx)]; rfl); refine s67 v _ v5 (by rw [eA, ebind, ebind]; exact hz) hs2) | (refine s67 v _ v5 (by rw [eA]; exact memo8 h2 hv1 (by first | (rw [r2, if_pos (by omega)]) | (rw [r2, if_neg (by omega), mcell_same, fset_ne (by decide), r2]))) hs2)
end ZRef31
