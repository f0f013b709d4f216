def lineC (t : Int → Int) (L : Int) (s : PSt) : Int := if tkK t L s.p = 1 then lineN t L (tkB t L s.p) (tkE t L s.p) else -4
abbrev fullC (l : Int) (s : PSt) : Prop := (l = 2 ∧ s.2 26 = 6) ∨ ((l = 3 ∨ l = 4) ∧ s.2 46 = 6)
/-- slot 3 holds the line's kind -/
def fireG (t : Int → Int) (L : Int) (s : PSt) : PSt := (fset (fset s.1 3 (lineC t L s)) 6 (if ¬ s.1 6 = 0 ∨ lineC t L s = 0 then 1 else 0), s.2)
def lineA (t : Int → Int) (L : Int) (s : PSt) : Except Int PSt := ((((chkP k2 t L (fun s => ¬ lineC t L s = -4) s).bind (chkP k5 t L (fun s => ¬ fullC (lineC t L s) s))).bind (chkP k4 t L (fun s => ¬ lineC t L s = 0 ∨ s.1 6 = 0))).bind (stP (fireG t L))).bind (advP t L)
def lineP (t : Int → Int) (L : Int) (s : PSt) : Except Int PSt := ((lineA t L s).bind (fun s => lineOfP t L (s.1 3) s)).bind (fun s => (chkP k2 t L (fun s => tkK t L s.p = 3) s).bind (advP t L))
theorem lineN_rng {t : Int → Int} {L b e : Int} : -4 ≤ lineN t L b e ∧ lineN t L b e ≤ 5 ∧ (lineN t L b e = -4 ∨ 0 ≤ lineN t L b e) := by
  unfold lineN
  (repeat' split) <;> omega
theorem lineC_rng {t : Int → Int} {L : Int} {s : PSt} : -4 ≤ lineC t L s ∧ lineC t L s ≤ 5 ∧ (lineC t L s = -4 ∨ 0 ≤ lineC t L s) := by
  unfold lineC
  split
  · exact lineN_rng
  · omega
/-- what a reading state keeps -/
abbrev PWf (s : PSt) : Prop := (s.1 6 = 0 ∨ s.1 6 = 1) ∧ (-4 ≤ s.1 9 ∧ s.1 9 ≤ 99) ∧ (-4 ≤ s.1 10 ∧ s.1 10 ≤ 99) ∧ (-4 ≤ s.1 11 ∧ s.1 11 ≤ 99) ∧ (0 ≤ s.2 26 ∧ s.2 26 ≤ 6) ∧ (0 ≤ s.2 46 ∧ s.2 46 ≤ 6) ∧ (∀ j : Int, 0 ≤ j → j < 115 → -100 ≤ s.2 j ∧ s.2 j ≤ 100)
theorem lineA_ok {t : Int → Int} {L : Int} {s s1 : PSt} (h : lineA t L s = .ok s1) : s1 = (fset (fireG t L s).1 0 (tkE t L s.p), s.2) ∧ ¬ lineC t L s = -4 ∧ ¬ fullC (lineC t L s) s := by
  have h' : (((((Except.ok s : Except Int PSt).bind (chkP k2 t L (fun s => ¬ lineC t L s = -4))).bind (chkP k5 t L (fun s => ¬ fullC (lineC t L s) s))).bind (chkP k4 t L (fun s => ¬ lineC t L s = 0 ∨ s.1 6 = 0))).bind (stP (fireG t L))).bind (advP t L) = .ok s1 := h
  obtain ⟨s2, e2, x2, q2⟩ := advP_ok h'
  obtain ⟨s3, e3, q3⟩ := stP_ok e2
  obtain ⟨e4, x4, c4⟩ := chkP_ok e3
  obtain ⟨e5, x5, c5⟩ := chkP_ok e4
  obtain ⟨e6, x6, c6⟩ := chkP_ok e5
  cases e6
  subst q3
  exact ⟨q2, c6, c5⟩
theorem numP_x {t : Int → Int} {L lo hi : Int} (s : PSt) (h : tkX t L s.p) : numP t L lo hi s = .error (erX t L s.p) := by
  unfold numP
  rw [chkP_x s h]
  rfl
theorem cellL_x {t : Int → Int} {L : Int} (s : PSt) (h : tkX t L s.p) : cellL t L s = .error (erX t L s.p) := by
  unfold cellL
  rw [chkP_x s h]
  rfl
theorem lineOfP_x {t : Int → Int} {L l : Int} (s : PSt) (h : tkX t L s.p) : lineOfP t L l s = .error (erX t L s.p) := by
  unfold lineOfP
  split
  · unfold fireP; rw [numP_x s h]; rfl
  · split
    · unfold heatP heatA; rw [cellL_x s h]; rfl
    · split
      · unfold woodP cellP; rw [cellL_x s h]; rfl
      · split
        · unfold memoP memoA; rw [chkP_x s h]; rfl
        · unfold spudP spudA
          rw [numP_x s h]
          split <;> rfl
section ZRef34
variable {Γ : ZG} {mem mem0 : Mem} {Q : Option AV → Mem → Prop}
theorem sR_readLineR (s : PSt) (tp : TpOK mem0) (hR : RefR mem0 (.ok s) mem) (hf : mem 109 18 = 0) (wf : PWf s) (k : ∀ m' : Mem, RefR mem0 (lineP (mem0 114) (mem0 109 13) s) m' → Q none m') : AMet Γ mX11_readLine [vR 109] zG mem Q := by
  -- behind the line's name
  have s146 : ∀ (m : Mem) (x2 : Option AV), m 109 18 = 0 → RefR mem0 (lineA (mem0 114) (mem0 109 13) s) m → AW Γ mX11_readLine (zF Γ zG Q) zG 0 0 146 [some (vR 109), some (vI (lineC (mem0 114) (mem0 109 13) s)), x2] [] m := by
    intro m x2 hz h
    obtain ⟨s1, e1, o1⟩ := h.good hz
    obtain ⟨q1, n1, n2⟩ := lineA_ok e1
    have lr := lineC_rng (t := mem0 114) (L := mem0 109 13) (s := s)
    have e3 : s1.1 3 = lineC (mem0 114) (mem0 109 13) s := by rw [q1]; rfl
    have e9 : s1.1 9 = s.1 9 := by rw [q1]; rfl
    have e10 : s1.1 10 = s.1 10 := by rw [q1]; rfl
    have e11 : s1.1 11 = s.1 11 := by rw [q1]; rfl
    have ed : s1.2 = s.2 := by rw [q1]
    have md : m 113 = s.2 := by rw [o1.d, ed]
    have hw : ∀ s', lineA (mem0 114) (mem0 109 13) s = .ok s' → (-4 ≤ s'.1 9 ∧ s'.1 9 ≤ 99) ∧ (-4 ≤ s'.1 10 ∧ s'.1 10 ≤ 99) ∧ (-4 ≤ s'.1 11 ∧ s'.1 11 ≤ 99) := by
      intro s' e'
      rw [e1] at e'
      cases e'
      rw [e9, e10, e11]
      exact ⟨wf.2.1, wf.2.2.1, wf.2.2.2.1⟩
    have eP : lineP (mem0 114) (mem0 109 13) s = (((lineA (mem0 114) (mem0 109 13) s).bind (lineOfP (mem0 114) (mem0 109 13) (lineC (mem0 114) (mem0 109 13) s))).bind (chkP k2 (mem0 114) (mem0 109 13) (fun s => tkK (mem0 114) (mem0 109 13) s.p = 3))).bind (advP (mem0 114) (mem0 109 13)) := by
      unfold lineP
      rw [ebind, e1]
      show ((lineOfP (mem0 114) (mem0 109 13) (s1.1 3) s1).bind _) = _
      rw [e3]
      exact ebind.symm
    rw [eP] at k
    have s176 : ∀ (m2 : Mem), RefR mem0 (((lineA (mem0 114) (mem0 109 13) s).bind (lineOfP (mem0 114) (mem0 109 13) (lineC (mem0 114) (mem0 109 13) s))).bind (chkP k2 (mem0 114) (mem0 109 13) (fun s => tkK (mem0 114) (mem0 109 13) s.p = 3))) m2 → AW Γ mX11_readLine (zF Γ zG Q) zG 0 0 176 [some (vR 109), some (vI (lineC (mem0 114) (mem0 109 13) s)), x2] [] m2 := by
      intro m2 h2
      refine aw_aload_n dX11_readLine_176 rfl rfl ?_
      refine aw_callV [] _ dX11_readLine_177 rfl clv_X11_131 (by decide) ⟨Nat.zero_le _, Nat.zero_le _⟩ g109 (by rfl) (Nat.le_of_ble_eq_true rfl) rfl ?_
      refine sR_nextR _ tp h2 (fun m3 h3 d3 => ?_)
      refine aw_return dX11_readLine_180 rfl ?_
      exact k m3 h3
    refine aw_aload_n dX11_readLine_146 rfl rfl ?_
    refine aw_iload_n dX11_readLine_147 rfl rfl ?_
    refine aw_callV [_] _ dX11_readLine_148 rfl clv_X11_166 (by decide) ⟨Nat.zero_le _, Nat.zero_le _⟩ g109 (by rfl) (Nat.le_of_ble_eq_true rfl) rfl ?_
    refine sR_readLineOfR (by omega) _ tp h (fun _ => by rw [o1.g 9 (by omega) (by omega), e9]; exact wf.2.1) hw (fun e => by rw [md]; have := wf.2.2.2.2.1; omega) (fun e => by rw [md]; have := wf.2.2.2.2.2.1; omega) (by rw [md]; exact wf.2.2.2.2.2.2) (fun m1 h1 => ?_)
    have f1 := h1.flt
    have k1 := h1.1.k
    refine aw_aload_n dX11_readLine_151 rfl rfl ?_
    refine aw_getI (kI := 18) dX11_readLine_152 rfl fl_X11_85 g109 (by rfl) rfl ?_
    refine aw_if_ne (tgt := 176) dX11_readLine_155 (by decide) rfl (by omega) (fun c155 => ?_) (fun c155 => ?_)
    · first | exact s176 _ h2 | exact s176 _ (h1.badf c155 (fun s hx => chkP_x s hx))
    · refine aw_aload_n dX11_readLine_158 rfl rfl ?_
      refine aw_aload_n dX11_readLine_159 rfl rfl ?_
      refine aw_getI (kI := 16) dX11_readLine_160 rfl fl_X11_109 g109 (by rfl) rfl ?_
      refine aw_iconst dX11_readLine_163 rfl ?_
      refine aw_icmp_ne (tgt := 171) dX11_readLine_164 (by decide) rfl (by omega) (by omega) (fun c164 => ?_) (fun c164 => ?_)
      · refine aw_iconst dX11_readLine_171 rfl ?_
        refine aw_iconst dX11_readLine_172 rfl ?_
        refine aw_callV [_, _] _ dX11_readLine_173 rfl clv_X11_123 (by decide) ⟨Nat.zero_le _, Nat.zero_le _⟩ g109 (by rfl) (Nat.le_of_ble_eq_true rfl) rfl ?_
        refine sR_needsR _ k2 (fun s => tkK (mem0 114) (mem0 109 13) s.p = 3) (by omega) (by omega) h1 (fun s' e' z' => by obtain ⟨s2, es, ho⟩ := h1.good z'; rw [e'] at es; cases es; have := ho.k; omega) (fun m2 e2 h2 => ?_)
        first | exact s176 _ h2 | exact s176 _ (h1.badf c155 (fun s hx => chkP_x s hx))
      · refine aw_iconst dX11_readLine_167 rfl ?_
        refine aw_goto (tgt := 172) dX11_readLine_168 (by decide) ?_
        refine aw_iconst dX11_readLine_172 rfl ?_
        refine aw_callV [_, _] _ dX11_readLine_173 rfl clv_X11_123 (by decide) ⟨Nat.zero_le _, Nat.zero_le _⟩ g109 (by rfl) (Nat.le_of_ble_eq_true rfl) rfl ?_
        refine sR_needsR _ k2 (fun s => tkK (mem0 114) (mem0 109 13) s.p = 3) (by omega) (by omega) h1 (fun s' e' z' => by obtain ⟨s2, es, ho⟩ := h1.good z'; rw [e'] at es; cases es; have := ho.k; omega) (fun m2 e2 h2 => ?_)
        first | exact s176 _ h2 | exact s176 _ (h1.badf c155 (fun s hx => chkP_x s hx))
  have s114 : ∀ (m3 : Mem) (x2 : Option AV), RefR mem0 (((chkP k2 (mem0 114) (mem0 109 13) (fun s => ¬ lineC (mem0 114) (mem0 109 13) s = -4) s).bind (chkP k5 (mem0 114) (mem0 109 13) (fun s => ¬ fullC (lineC (mem0 114) (mem0 109 13) s) s))).bind (chkP k4 (mem0 114) (mem0 109 13) (fun s => ¬ lineC (mem0 114) (mem0 109 13) s = 0 ∨ s.1 6 = 0))) m3 → m3 109 6 = s.1 6 → AW Γ mX11_readLine (zF Γ zG Q) zG 0 0 114 [some (vR 109), some (vI (lineC (mem0 114) (mem0 109 13) s)), x2] [] m3 := by
    intro m3 x2 h3 e6
    have lr := lineC_rng (t := mem0 114) (L := mem0 109 13) (s := s)
    have w6 := wf.1
    have fire8 : ∀ b : Int, b = (if ¬ s.1 6 = 0 ∨ lineC (mem0 114) (mem0 109 13) s = 0 then 1 else 0) → RefR mem0 ((((chkP k2 (mem0 114) (mem0 109 13) (fun s => ¬ lineC (mem0 114) (mem0 109 13) s = -4) s).bind (chkP k5 (mem0 114) (mem0 109 13) (fun s => ¬ fullC (lineC (mem0 114) (mem0 109 13) s) s))).bind (chkP k4 (mem0 114) (mem0 109 13) (fun s => ¬ lineC (mem0 114) (mem0 109 13) s = 0 ∨ s.1 6 = 0))).bind (stP (fireG (mem0 114) (mem0 109 13)))) (mset m3 109 6 b) := by
      intro b hb
      refine h3.stp (fireG (mem0 114) (mem0 109 13)) (fun _ => rfl) (FrX.rf.set (by decide)) (fun j hj => ?_) (fun s' hs ho => ⟨fun j h5 h11 => ?_, ?_⟩)
      · rw [mset_eq, mcell_same, fset_ne (by omega)]
      · obtain ⟨a1, -, -⟩ := chkP_ok hs
        obtain ⟨a2, -, -⟩ := chkP_ok a1
        have a3 : (Except.ok s : Except Int PSt).bind (chkP k2 (mem0 114) (mem0 109 13) (fun s => ¬ lineC (mem0 114) (mem0 109 13) s = -4)) = .ok s' := a2
        obtain ⟨a4, -, -⟩ := chkP_ok a3
        cases a4
        rw [mset_eq, mcell_same]
        unfold fireG
        dsimp only
        by_cases h : j = 6
        · subst h
          rw [fset_same, fset_same, hb]
        · rw [fset_ne h, fset_ne h, fset_ne (by omega)]
          exact ho.g j h5 h11
      · rw [mset_eq, mcell_ne (by decide)]
        exact ho.d
    have s134 : ∀ (m4 : Mem), RefR mem0 ((((chkP k2 (mem0 114) (mem0 109 13) (fun s => ¬ lineC (mem0 114) (mem0 109 13) s = -4) s).bind (chkP k5 (mem0 114) (mem0 109 13) (fun s => ¬ fullC (lineC (mem0 114) (mem0 109 13) s) s))).bind (chkP k4 (mem0 114) (mem0 109 13) (fun s => ¬ lineC (mem0 114) (mem0 109 13) s = 0 ∨ s.1 6 = 0))).bind (stP (fireG (mem0 114) (mem0 109 13)))) m4 → AW Γ mX11_readLine (zF Γ zG Q) zG 0 0 134 [some (vR 109), some (vI (lineC (mem0 114) (mem0 109 13) s)), x2] [] m4 := by
      intro m4 h4
      refine aw_aload_n dX11_readLine_134 rfl rfl ?_
      refine aw_callV [] _ dX11_readLine_135 rfl clv_X11_131 (by decide) ⟨Nat.zero_le _, Nat.zero_le _⟩ g109 (by rfl) (Nat.le_of_ble_eq_true rfl) rfl ?_
      refine sR_nextR _ tp h4 (fun m5 h5 d5 => ?_)
      have f5 := h5.flt
      refine aw_aload_n dX11_readLine_138 rfl rfl ?_
      refine aw_getI (kI := 18) dX11_readLine_139 rfl fl_X11_85 g109 (by rfl) rfl ?_
      refine aw_if_le (tgt := 146) dX11_readLine_142 (by decide) rfl (by omega) (fun c142 => ?_) (fun c142 => ?_)
      · exact s146 m5 _ (by omega) h5
      · refine aw_return dX11_readLine_145 rfl ?_
        refine k m5 ?_
        have hz := h5.badf (by omega) (f := fun s => (lineOfP (mem0 114) (mem0 109 13) (s.1 3) s).bind (fun s => (chkP k2 (mem0 114) (mem0 109 13) (fun s => tkK (mem0 114) (mem0 109 13) s.p = 3) s).bind (advP (mem0 114) (mem0 109 13)))) (fun s hx => by rw [lineOfP_x s hx]; rfl)
        unfold lineP
        rw [ebind]
        exact hz
    refine aw_aload_n dX11_readLine_114 rfl rfl ?_
    refine aw_aload_n dX11_readLine_115 rfl rfl ?_
    refine aw_getI (kI := 6) dX11_readLine_116 rfl fl_X11_54 g109 (by rfl) rfl ?_
    refine aw_if_ne (tgt := 126) dX11_readLine_119 (by decide) rfl (by omega) (fun c119 => ?_) (fun c119 => ?_)
    · refine aw_iconst dX11_readLine_126 rfl ?_
      refine aw_goto (tgt := 131) dX11_readLine_127 (by decide) ?_
      refine aw_putZ (kI := 6) dX11_readLine_131 rfl fp_X11_54 (by omega) g109 (by rfl) rfl ?_
      exact s134 _ (fire8 _ (by first | rw [if_pos (by omega)] | rw [if_neg (by omega)]))
    · refine aw_iload_n dX11_readLine_122 rfl rfl ?_
      refine aw_if_ne (tgt := 130) dX11_readLine_123 (by decide) rfl (by omega) (fun c123 => ?_) (fun c123 => ?_)
      · refine aw_iconst dX11_readLine_130 rfl ?_
        refine aw_putZ (kI := 6) dX11_readLine_131 rfl fp_X11_54 (by omega) g109 (by rfl) rfl ?_
        exact s134 _ (fire8 _ (by first | rw [if_pos (by omega)] | rw [if_neg (by omega)]))
      · refine aw_iconst dX11_readLine_126 rfl ?_
        refine aw_goto (tgt := 131) dX11_readLine_127 (by decide) ?_
        refine aw_putZ (kI := 6) dX11_readLine_131 rfl fp_X11_54 (by omega) g109 (by rfl) rfl ?_
        exact s134 _ (fire8 _ (by first | rw [if_pos (by omega)] | rw [if_neg (by omega)]))
  have ho := hR.ok (by have h2 := hR.2; dsimp only at h2; intro hx; rw [if_pos hx] at h2; have := h2.f; omega)
  have lr := lineC_rng (t := mem0 114) (L := mem0 109 13) (s := s)
  have w6 := wf.1
  have m6 : mem 109 6 = s.1 6 := ho.g 6 (by omega) (by omega)
  have nd6 : ∀ (a : Prop) [Decidable a] (c : Int) (g : Int → Int), needC a c g 6 = g 6 := by
    intro a _ c g
    unfold needC
    split <;> rfl
  have s62 : ∀ f : Int, ((f = 1 ∧ fullC (lineC (mem0 114) (mem0 109 13) s) s) ∨ (f = 0 ∧ ¬ fullC (lineC (mem0 114) (mem0 109 13) s) s)) → AW Γ mX11_readLine (zF Γ zG Q) zG 0 0 62 [some (vR 109), some (vI (lineC (mem0 114) (mem0 109 13) s)), none] [vI f] mem := by
    intro f hfu
    refine aw_istore2 rfl dX11_readLine_62 rfl (by decide) ?_
    refine aw_aload_n dX11_readLine_63 rfl rfl ?_
    refine aw_iload_n dX11_readLine_64 rfl rfl ?_
    refine aw_bipush dX11_readLine_65 rfl (by decide) ?_
    refine aw_icmp_eq (tgt := 74) dX11_readLine_67 (by decide) rfl (by omega) (by omega) (fun c67 => ?_) (fun c67 => ?_)
    · refine aw_iconst dX11_readLine_74 rfl ?_
      refine aw_iconst dX11_readLine_75 rfl ?_
      refine aw_callV [_, _] _ dX11_readLine_76 rfl clv_X11_123 (by decide) ⟨Nat.zero_le _, Nat.zero_le _⟩ g109 (by rfl) (Nat.le_of_ble_eq_true rfl) rfl ?_
      refine sR_needsR (.ok s) k2 (fun s => ¬ lineC (mem0 114) (mem0 109 13) s = -4) (by omega) (by omega) hR (fun s' e' _ => by cases e'; omega) (fun m1 e1 h1 => ?_)
      refine aw_aload_n dX11_readLine_79 rfl rfl ?_
      refine aw_iload_n dX11_readLine_80 rfl rfl ?_
      refine aw_if_ne (tgt := 88) dX11_readLine_81 (by decide) rfl (by omega) (fun c81 => ?_) (fun c81 => ?_)
      · refine aw_iconst dX11_readLine_88 rfl ?_
        refine aw_iconst dX11_readLine_89 rfl ?_
        refine aw_callV [_, _] _ dX11_readLine_90 rfl clv_X11_123 (by decide) ⟨Nat.zero_le _, Nat.zero_le _⟩ g109 (by rfl) (Nat.le_of_ble_eq_true rfl) rfl ?_
        refine sR_needsR _ k5 (fun s => ¬ fullC (lineC (mem0 114) (mem0 109 13) s) s) (by omega) (by omega) h1 (fun s' e' _ => by have e2 := (chkP_ok e').1; cases e2; omega) (fun m2 e2 h2 => ?_)
        have g2 : m2 109 6 = s.1 6 := by rw [e2, mcell_same, nd6, e1, mcell_same, nd6, m6]
        refine aw_aload_n dX11_readLine_93 rfl rfl ?_
        refine aw_iload_n dX11_readLine_94 rfl rfl ?_
        refine aw_if_ne (tgt := 105) dX11_readLine_95 (by decide) rfl (by omega) (fun c95 => ?_) (fun c95 => ?_)
        · refine aw_iconst dX11_readLine_105 rfl ?_
          refine aw_goto (tgt := 110) dX11_readLine_106 (by decide) ?_
          refine aw_iconst dX11_readLine_110 rfl ?_
          refine aw_callV [_, _] _ dX11_readLine_111 rfl clv_X11_123 (by decide) ⟨Nat.zero_le _, Nat.zero_le _⟩ g109 (by rfl) (Nat.le_of_ble_eq_true rfl) rfl ?_
          refine sR_needsR _ k4 (fun s => ¬ lineC (mem0 114) (mem0 109 13) s = 0 ∨ s.1 6 = 0) (by omega) (by omega) h2 (fun s' e' _ => by have e3 := (chkP_ok (chkP_ok e').1).1; cases e3; omega) (fun m3 e3 h3 => ?_)
          exact s114 m3 _ h3 (by rw [e3, mcell_same, nd6, g2])
        · refine aw_aload_n dX11_readLine_98 rfl rfl ?_
          refine aw_getI (kI := 6) dX11_readLine_99 rfl fl_X11_54 g109 (by rfl) rfl ?_
          refine aw_if_ne (tgt := 109) dX11_readLine_102 (by decide) rfl (by omega) (fun c102 => ?_) (fun c102 => ?_)
          · refine aw_iconst dX11_readLine_109 rfl ?_
            refine aw_iconst dX11_readLine_110 rfl ?_
            refine aw_callV [_, _] _ dX11_readLine_111 rfl clv_X11_123 (by decide) ⟨Nat.zero_le _, Nat.zero_le _⟩ g109 (by rfl) (Nat.le_of_ble_eq_true rfl) rfl ?_
            refine sR_needsR _ k4 (fun s => ¬ lineC (mem0 114) (mem0 109 13) s = 0 ∨ s.1 6 = 0) (by omega) (by omega) h2 (fun s' e' _ => by have e3 := (chkP_ok (chkP_ok e').1).1; cases e3; omega) (fun m3 e3 h3 => ?_)
            exact s114 m3 _ h3 (by rw [e3, mcell_same, nd6, g2])
          · refine aw_iconst dX11_readLine_105 rfl ?_
            refine aw_goto (tgt := 110) dX11_readLine_106 (by decide) ?_
            refine aw_iconst dX11_readLine_110 rfl ?_
            refine aw_callV [_, _] _ dX11_readLine_111 rfl clv_X11_123 (by decide) ⟨Nat.zero_le _, Nat.zero_le _⟩ g109 (by rfl) (Nat.le_of_ble_eq_true rfl) rfl ?_
            refine sR_needsR _ k4 (fun s => ¬ lineC (mem0 114) (mem0 109 13) s = 0 ∨ s.1 6 = 0) (by omega) (by omega) h2 (fun s' e' _ => by have e3 := (chkP_ok (chkP_ok e').1).1; cases e3; omega) (fun m3 e3 h3 => ?_)
            exact s114 m3 _ h3 (by rw [e3, mcell_same, nd6, g2])
      · refine aw_iconst dX11_readLine_84 rfl ?_
        refine aw_goto (tgt := 89) dX11_readLine_85 (by decide) ?_
        refine aw_iconst dX11_readLine_89 rfl ?_
        refine aw_callV [_, _] _ dX11_readLine_90 rfl clv_X11_123 (by decide) ⟨Nat.zero_le _, Nat.zero_le _⟩ g109 (by rfl) (Nat.le_of_ble_eq_true rfl) rfl ?_
        refine sR_needsR _ k5 (fun s => ¬ fullC (lineC (mem0 114) (mem0 109 13) s) s) (by omega) (by omega) h1 (fun s' e' _ => by have e2 := (chkP_ok e').1; cases e2; omega) (fun m2 e2 h2 => ?_)
        have g2 : m2 109 6 = s.1 6 := by rw [e2, mcell_same, nd6, e1, mcell_same, nd6, m6]
        refine aw_aload_n dX11_readLine_93 rfl rfl ?_
        refine aw_iload_n dX11_readLine_94 rfl rfl ?_
        refine aw_if_ne (tgt := 105) dX11_readLine_95 (by decide) rfl (by omega) (fun c95 => ?_) (fun c95 => ?_)
        · refine aw_iconst dX11_readLine_105 rfl ?_
          refine aw_goto (tgt := 110) dX11_readLine_106 (by decide) ?_
          refine aw_iconst dX11_readLine_110 rfl ?_
          refine aw_callV [_, _] _ dX11_readLine_111 rfl clv_X11_123 (by decide) ⟨Nat.zero_le _, Nat.zero_le _⟩ g109 (by rfl) (Nat.le_of_ble_eq_true rfl) rfl ?_
          refine sR_needsR _ k4 (fun s => ¬ lineC (mem0 114) (mem0 109 13) s = 0 ∨ s.1 6 = 0) (by omega) (by omega) h2 (fun s' e' _ => by have e3 := (chkP_ok (chkP_ok e').1).1; cases e3; omega) (fun m3 e3 h3 => ?_)
          exact s114 m3 _ h3 (by rw [e3, mcell_same, nd6, g2])
        · refine aw_aload_n dX11_readLine_98 rfl rfl ?_
          refine aw_getI (kI := 6) dX11_readLine_99 rfl fl_X11_54 g109 (by rfl) rfl ?_
          refine aw_if_ne (tgt := 109) dX11_readLine_102 (by decide) rfl (by omega) (fun c102 => ?_) (fun c102 => ?_)
          · refine aw_iconst dX11_readLine_109 rfl ?_
            refine aw_iconst dX11_readLine_110 rfl ?_
            refine aw_callV [_, _] _ dX11_readLine_111 rfl clv_X11_123 (by decide) ⟨Nat.zero_le _, Nat.zero_le _⟩ g109 (by rfl) (Nat.le_of_ble_eq_true rfl) rfl ?_
            refine sR_needsR _ k4 (fun s => ¬ lineC (mem0 114) (mem0 109 13) s = 0 ∨ s.1 6 = 0) (by omega) (by omega) h2 (fun s' e' _ => by have e3 := (chkP_ok (chkP_ok e').1).1; cases e3; omega) (fun m3 e3 h3 => ?_)
            exact s114 m3 _ h3 (by rw [e3, mcell_same, nd6, g2])
          · refine aw_iconst dX11_readLine_105 rfl ?_
            refine aw_goto (tgt := 110) dX11_readLine_106 (by decide) ?_
            refine aw_iconst dX11_readLine_110 rfl ?_
            refine aw_callV [_, _] _ dX11_readLine_111 rfl clv_X11_123 (by decide) ⟨Nat.zero_le _, Nat.zero_le _⟩ g109 (by rfl) (Nat.le_of_ble_eq_true rfl) rfl ?_
            refine sR_needsR _ k4 (fun s => ¬ lineC (mem0 114) (mem0 109 13) s = 0 ∨ s.1 6 = 0) (by omega) (by omega) h2 (fun s' e' _ => by have e3 := (chkP_ok (chkP_ok e').1).1; cases e3; omega) (fun m3 e3 h3 => ?_)
            exact s114 m3 _ h3 (by rw [e3, mcell_same, nd6, g2])
    · refine aw_iconst dX11_readLine_70 rfl ?_
      refine aw_goto (tgt := 75) dX11_readLine_71 (by decide) ?_
      refine aw_iconst dX11_readLine_75 rfl ?_
      refine aw_callV [_, _] _ dX11_readLine_76 rfl clv_X11_123 (by decide) ⟨Nat.zero_le _, Nat.zero_le _⟩ g109 (by rfl) (Nat.le_of_ble_eq_true rfl) rfl ?_
      refine sR_needsR (.ok s) k2 (fun s => ¬ lineC (mem0 114) (mem0 109 13) s = -4) (by omega) (by omega) hR (fun s' e' _ => by cases e'; omega) (fun m1 e1 h1 => ?_)
      refine aw_aload_n dX11_readLine_79 rfl rfl ?_
      refine aw_iload_n dX11_readLine_80 rfl rfl ?_
      refine aw_if_ne (tgt := 88) dX11_readLine_81 (by decide) rfl (by omega) (fun c81 => ?_) (fun c81 => ?_)
      · refine aw_iconst dX11_readLine_88 rfl ?_
        refine aw_iconst dX11_readLine_89 rfl ?_
        refine aw_callV [_, _] _ dX11_readLine_90 rfl clv_X11_123 (by decide) ⟨Nat.zero_le _, Nat.zero_le _⟩ g109 (by rfl) (Nat.le_of_ble_eq_true rfl) rfl ?_
        refine sR_needsR _ k5 (fun s => ¬ fullC (lineC (mem0 114) (mem0 109 13) s) s) (by omega) (by omega) h1 (fun s' e' _ => by have e2 := (chkP_ok e').1; cases e2; omega) (fun m2 e2 h2 => ?_)
        have g2 : m2 109 6 = s.1 6 := by rw [e2, mcell_same, nd6, e1, mcell_same, nd6, m6]
        refine aw_aload_n dX11_readLine_93 rfl rfl ?_
        refine aw_iload_n dX11_readLine_94 rfl rfl ?_
        refine aw_if_ne (tgt := 105) dX11_readLine_95 (by decide) rfl (by omega) (fun c95 => ?_) (fun c95 => ?_)
        · refine aw_iconst dX11_readLine_105 rfl ?_
          refine aw_goto (tgt := 110) dX11_readLine_106 (by decide) ?_
          refine aw_iconst dX11_readLine_110 rfl ?_
          refine aw_callV [_, _] _ dX11_readLine_111 rfl clv_X11_123 (by decide) ⟨Nat.zero_le _, Nat.zero_le _⟩ g109 (by rfl) (Nat.le_of_ble_eq_true rfl) rfl ?_
          refine sR_needsR _ k4 (fun s => ¬ lineC (mem0 114) (mem0 109 13) s = 0 ∨ s.1 6 = 0) (by omega) (by omega) h2 (fun s' e' _ => by have e3 := (chkP_ok (chkP_ok e').1).1; cases e3; omega) (fun m3 e3 h3 => ?_)
          exact s114 m3 _ h3 (by rw [e3, mcell_same, nd6, g2])
        · refine aw_aload_n dX11_readLine_98 rfl rfl ?_
          refine aw_getI (kI := 6) dX11_readLine_99 rfl fl_X11_54 g109 (by rfl) rfl ?_
          refine aw_if_ne (tgt := 109) dX11_readLine_102 (by decide) rfl (by omega) (fun c102 => ?_) (fun c102 => ?_)
          · refine aw_iconst dX11_readLine_109 rfl ?_
            refine aw_iconst dX11_readLine_110 rfl ?_
            refine aw_callV [_, _] _ dX11_readLine_111 rfl clv_X11_123 (by decide) ⟨Nat.zero_le _, Nat.zero_le _⟩ g109 (by rfl) (Nat.le_of_ble_eq_true rfl) rfl ?_
            refine sR_needsR _ k4 (fun s => ¬ lineC (mem0 114) (mem0 109 13) s = 0 ∨ s.1 6 = 0) (by omega) (by omega) h2 (fun s' e' _ => by have e3 := (chkP_ok (chkP_ok e').1).1; cases e3; omega) (fun m3 e3 h3 => ?_)
            exact s114 m3 _ h3 (by rw [e3, mcell_same, nd6, g2])
          · refine aw_iconst dX11_readLine_105 rfl ?_
            refine aw_goto (tgt := 110) dX11_readLine_106 (by decide) ?_
            refine aw_iconst dX11_readLine_110 rfl ?_
            refine aw_callV [_, _] _ dX11_readLine_111 rfl clv_X11_123 (by decide) ⟨Nat.zero_le _, Nat.zero_le _⟩ g109 (by rfl) (Nat.le_of_ble_eq_true rfl) rfl ?_
            refine sR_needsR _ k4 (fun s => ¬ lineC (mem0 114) (mem0 109 13) s = 0 ∨ s.1 6 = 0) (by omega) (by omega) h2 (fun s' e' _ => by have e3 := (chkP_ok (chkP_ok e').1).1; cases e3; omega) (fun m3 e3 h3 => ?_)
            exact s114 m3 _ h3 (by rw [e3, mcell_same, nd6, g2])
      · refine aw_iconst dX11_readLine_84 rfl ?_
        refine aw_goto (tgt := 89) dX11_readLine_85 (by decide) ?_
        refine aw_iconst dX11_readLine_89 rfl ?_
        refine aw_callV [_, _] _ dX11_readLine_90 rfl clv_X11_123 (by decide) ⟨Nat.zero_le _, Nat.zero_le _⟩ g109 (by rfl) (Nat.le_of_ble_eq_true rfl) rfl ?_
        refine sR_needsR _ k5 (fun s => ¬ fullC (lineC (mem0 114) (mem0 109 13) s) s) (by omega) (by omega) h1 (fun s' e' _ => by have e2 := (chkP_ok e').1; cases e2; omega) (fun m2 e2 h2 => ?_)
        have g2 : m2 109 6 = s.1 6 := by rw [e2, mcell_same, nd6, e1, mcell_same, nd6, m6]
        refine aw_aload_n dX11_readLine_93 rfl rfl ?_
        refine aw_iload_n dX11_readLine_94 rfl rfl ?_
        refine aw_if_ne (tgt := 105) dX11_readLine_95 (by decide) rfl (by omega) (fun c95 => ?_) (fun c95 => ?_)
        · refine aw_iconst dX11_readLine_105 rfl ?_
          refine aw_goto (tgt := 110) dX11_readLine_106 (by decide) ?_
          refine aw_iconst dX11_readLine_110 rfl ?_
          refine aw_callV [_, _] _ dX11_readLine_111 rfl clv_X11_123 (by decide) ⟨Nat.zero_le _, Nat.zero_le _⟩ g109 (by rfl) (Nat.le_of_ble_eq_true rfl) rfl ?_
          refine sR_needsR _ k4 (fun s => ¬ lineC (mem0 114) (mem0 109 13) s = 0 ∨ s.1 6 = 0) (by omega) (by omega) h2 (fun s' e' _ => by have e3 := (chkP_ok (chkP_ok e').1).1; cases e3; omega) (fun m3 e3 h3 => ?_)
          exact s114 m3 _ h3 (by rw [e3, mcell_same, nd6, g2])
        · refine aw_aload_n dX11_readLine_98 rfl rfl ?_
          refine aw_getI (kI := 6) dX11_readLine_99 rfl fl_X11_54 g109 (by rfl) rfl ?_
          refine aw_if_ne (tgt := 109) dX11_readLine_102 (by decide) rfl (by omega) (fun c102 => ?_) (fun c102 => ?_)
          · refine aw_iconst dX11_readLine_109 rfl ?_
            refine aw_iconst dX11_readLine_110 rfl ?_
            refine aw_callV [_, _] _ dX11_readLine_111 rfl clv_X11_123 (by decide) ⟨Nat.zero_le _, Nat.zero_le _⟩ g109 (by rfl) (Nat.le_of_ble_eq_true rfl) rfl ?_
            refine sR_needsR _ k4 (fun s => ¬ lineC (mem0 114) (mem0 109 13) s = 0 ∨ s.1 6 = 0) (by omega) (by omega) h2 (fun s' e' _ => by have e3 := (chkP_ok (chkP_ok e').1).1; cases e3; omega) (fun m3 e3 h3 => ?_)
            exact s114 m3 _ h3 (by rw [e3, mcell_same, nd6, g2])
          · refine aw_iconst dX11_readLine_105 rfl ?_
            refine aw_goto (tgt := 110) dX11_readLine_106 (by decide) ?_
            refine aw_iconst dX11_readLine_110 rfl ?_
            refine aw_callV [_, _] _ dX11_readLine_111 rfl clv_X11_123 (by decide) ⟨Nat.zero_le _, Nat.zero_le _⟩ g109 (by rfl) (Nat.le_of_ble_eq_true rfl) rfl ?_
            refine sR_needsR _ k4 (fun s => ¬ lineC (mem0 114) (mem0 109 13) s = 0 ∨ s.1 6 = 0) (by omega) (by omega) h2 (fun s' e' _ => by have e3 := (chkP_ok (chkP_ok e').1).1; cases e3; omega) (fun m3 e3 h3 => ?_)
            exact s114 m3 _ h3 (by rw [e3, mcell_same, nd6, g2])
  have e13 : mem 109 13 = mem0 109 13 := hR.1.g 13 (by omega)
  have e114 : mem 114 = mem0 114 := hR.1.fr 114 (by decide)
  have hk := hR.1.k
  have ek := ho.k
  have w26 := wf.2.2.2.2.1
  have w46 := wf.2.2.2.2.2.1
  have d26 : mem 113 26 = s.2 26 := by rw [ho.d]
  have d46 : mem 113 46 = s.2 46 := by rw [ho.d]
  have s17 : AW Γ mX11_readLine (zF Γ zG Q) zG 0 0 17 [some (vR 109), none, none] [vI (lineC (mem0 114) (mem0 109 13) s)] mem := by
    refine aw_istore1 rfl dX11_readLine_17 rfl (by decide) ?_
    refine aw_iload_n dX11_readLine_18 rfl rfl ?_
    refine aw_iconst dX11_readLine_19 rfl ?_
    refine aw_icmp_ne (tgt := 35) dX11_readLine_20 (by decide) rfl (by omega) (by omega) (fun c20 => ?_) (fun c20 => ?_)
    · refine aw_iload_n dX11_readLine_35 rfl rfl ?_
      refine aw_iconst dX11_readLine_36 rfl ?_
      refine aw_icmp_eq (tgt := 45) dX11_readLine_37 (by decide) rfl (by omega) (by omega) (fun c37 => ?_) (fun c37 => ?_)
      · refine aw_aload_n dX11_readLine_45 rfl rfl ?_
        refine aw_getR dX11_readLine_46 rfl fl_X11_20 g109 (by rfl) ?_
        refine aw_bipush dX11_readLine_49 rfl (by decide) ?_
        refine aw_iaload dX11_readLine_51 rfl g113 (by decide) (by omega) ?_
        refine aw_bipush dX11_readLine_52 rfl (by decide) ?_
        refine aw_icmp_ne (tgt := 61) dX11_readLine_54 (by decide) rfl (by omega) (by omega) (fun c54 => ?_) (fun c54 => ?_)
        · refine aw_iconst dX11_readLine_61 rfl ?_
          exact s62 _ (by omega)
        · refine aw_iconst dX11_readLine_57 rfl ?_
          refine aw_goto (tgt := 62) dX11_readLine_58 (by decide) ?_
          exact s62 _ (by omega)
      · refine aw_iload_n dX11_readLine_40 rfl rfl ?_
        refine aw_iconst dX11_readLine_41 rfl ?_
        refine aw_icmp_ne (tgt := 61) dX11_readLine_42 (by decide) rfl (by omega) (by omega) (fun c42 => ?_) (fun c42 => ?_)
        · refine aw_iconst dX11_readLine_61 rfl ?_
          exact s62 _ (by omega)
        · refine aw_aload_n dX11_readLine_45 rfl rfl ?_
          refine aw_getR dX11_readLine_46 rfl fl_X11_20 g109 (by rfl) ?_
          refine aw_bipush dX11_readLine_49 rfl (by decide) ?_
          refine aw_iaload dX11_readLine_51 rfl g113 (by decide) (by omega) ?_
          refine aw_bipush dX11_readLine_52 rfl (by decide) ?_
          refine aw_icmp_ne (tgt := 61) dX11_readLine_54 (by decide) rfl (by omega) (by omega) (fun c54 => ?_) (fun c54 => ?_)
          · refine aw_iconst dX11_readLine_61 rfl ?_
            exact s62 _ (by omega)
          · refine aw_iconst dX11_readLine_57 rfl ?_
            refine aw_goto (tgt := 62) dX11_readLine_58 (by decide) ?_
            exact s62 _ (by omega)
    · refine aw_aload_n dX11_readLine_23 rfl rfl ?_
      refine aw_getR dX11_readLine_24 rfl fl_X11_20 g109 (by rfl) ?_
      refine aw_bipush dX11_readLine_27 rfl (by decide) ?_
      refine aw_iaload dX11_readLine_29 rfl g113 (by decide) (by omega) ?_
      refine aw_bipush dX11_readLine_30 rfl (by decide) ?_
      refine aw_icmp_eq (tgt := 57) dX11_readLine_32 (by decide) rfl (by omega) (by omega) (fun c32 => ?_) (fun c32 => ?_)
      · refine aw_iconst dX11_readLine_57 rfl ?_
        refine aw_goto (tgt := 62) dX11_readLine_58 (by decide) ?_
        exact s62 _ (by omega)
      · refine aw_iload_n dX11_readLine_35 rfl rfl ?_
        refine aw_iconst dX11_readLine_36 rfl ?_
        refine aw_icmp_eq (tgt := 45) dX11_readLine_37 (by decide) rfl (by omega) (by omega) (fun c37 => ?_) (fun c37 => ?_)
        · refine aw_aload_n dX11_readLine_45 rfl rfl ?_
          refine aw_getR dX11_readLine_46 rfl fl_X11_20 g109 (by rfl) ?_
          refine aw_bipush dX11_readLine_49 rfl (by decide) ?_
          refine aw_iaload dX11_readLine_51 rfl g113 (by decide) (by omega) ?_
          refine aw_bipush dX11_readLine_52 rfl (by decide) ?_
          refine aw_icmp_ne (tgt := 61) dX11_readLine_54 (by decide) rfl (by omega) (by omega) (fun c54 => ?_) (fun c54 => ?_)
          · refine aw_iconst dX11_readLine_61 rfl ?_
            exact s62 _ (by omega)
          · refine aw_iconst dX11_readLine_57 rfl ?_
            refine aw_goto (tgt := 62) dX11_readLine_58 (by decide) ?_
            exact s62 _ (by omega)
        · refine aw_iload_n dX11_readLine_40 rfl rfl ?_
          refine aw_iconst dX11_readLine_41 rfl ?_
          refine aw_icmp_ne (tgt := 61) dX11_readLine_42 (by decide) rfl (by omega) (by omega) (fun c42 => ?_) (fun c42 => ?_)
          · refine aw_iconst dX11_readLine_61 rfl ?_
            exact s62 _ (by omega)
          · refine aw_aload_n dX11_readLine_45 rfl rfl ?_
            refine aw_getR dX11_readLine_46 rfl fl_X11_20 g109 (by rfl) ?_
            refine aw_bipush dX11_readLine_49 rfl (by decide) ?_
            refine aw_iaload dX11_readLine_51 rfl g113 (by decide) (by omega) ?_
            refine aw_bipush dX11_readLine_52 rfl (by decide) ?_
            refine aw_icmp_ne (tgt := 61) dX11_readLine_54 (by decide) rfl (by omega) (by omega) (fun c54 => ?_) (fun c54 => ?_)
            · refine aw_iconst dX11_readLine_61 rfl ?_
              exact s62 _ (by omega)
            · refine aw_iconst dX11_readLine_57 rfl ?_
              refine aw_goto (tgt := 62) dX11_readLine_58 (by decide) ?_
              exact s62 _ (by omega)
  have l1 : tkK (mem0 114) (mem0 109 13) s.p = 1 → lineN (mem 114) (mem 109 13) (mem 109 15) (mem 109 14) = lineC (mem0 114) (mem0 109 13) s := by
    intro z
    unfold lineC
    rw [if_pos z, e13, e114, ho.b, ho.e]
  have l2 : ¬ tkK (mem0 114) (mem0 109 13) s.p = 1 → (-4 : Int) = lineC (mem0 114) (mem0 109 13) s := by
    intro z
    unfold lineC
    rw [if_neg z]
  refine AMet.of' 2 (ls := [some (vR (109)), none, none]) (by decide) rfl (Nat.le_of_ble_eq_true rfl) ?_
  refine aw_aload_n dX11_readLine_0 rfl rfl ?_
  refine aw_getI (kI := 16) dX11_readLine_1 rfl fl_X11_109 g109 (by rfl) rfl ?_
  refine aw_iconst dX11_readLine_4 rfl ?_
  refine aw_icmp_ne (tgt := 15) dX11_readLine_5 (by decide) rfl (by omega) (by omega) (fun c5 => ?_) (fun c5 => ?_)
  · refine aw_bipush dX11_readLine_15 rfl (by decide) ?_
    first | (have hz := l1 (by omega); rw [hz]; exact s17) | (have hz := l2 (by omega); rw [hz]; exact s17)
  · refine aw_aload_n dX11_readLine_8 rfl rfl ?_
    refine aw_callV [] _ dX11_readLine_9 rfl clv_X11_163 (by decide) ⟨Nat.zero_le _, Nat.zero_le _⟩ g109 (by rfl) (Nat.le_of_ble_eq_true rfl) rfl ?_
    refine sR_lineNow (hR.tk tp) ?_
    refine aw_goto (tgt := 17) dX11_readLine_12 (by decide) ?_
    first | (have hz := l1 (by omega); rw [hz]; exact s17) | (have hz := l2 (by omega); rw [hz]; exact s17)
end ZRef34
