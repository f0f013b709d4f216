def freshF (d : Int → Int) (x : Int) : Nat → Int
  | 0 => 1
  | n + 1 => if ¬ freshF d x n = 0 ∧ ¬ d (47 + 8 * (n : Int) + 2) = x then 1 else 0
theorem freshF_01 {d : Int → Int} {x : Int} : ∀ n : Nat, freshF d x n = 0 ∨ freshF d x n = 1
  | 0 => Or.inr rfl
  | n + 1 => by
    rw [freshF]
    split
    · exact Or.inr rfl
    · exact Or.inl rfl
abbrev freshC (s : PSt) : Prop := ¬ freshF s.2 (s.1 1) (s.2 46).toNat = 0
def spudG (z : Int) (s : PSt) : PSt := (s.1, fset s.2 (47 + 8 * s.2 46 + z) (s.1 1))
def placeG (s : PSt) : PSt := (fset s.1 10 (if s.1 10 < s.1 1 then s.1 1 else s.1 10), fset s.2 (47 + 8 * s.2 46 + 2) (s.1 1))
def placeA (t : Int → Int) (L : Int) (s : PSt) : Except Int PSt := (((chkP (numD t L) t L (numC t L 0 23) s).bind (stP (ghV t L))).bind (chkP k4 t L freshC)).bind (stP placeG)
def spudA (t : Int → Int) (L : Int) (s : PSt) : Except Int PSt := (((numP t L 1 9 s).bind (stP (spudG 0))).bind (wrapP t L)).bind (stP (spudG 1))
def spudP (t : Int → Int) (L out : Int) (s : PSt) : Except Int PSt := if out = 0 then (((spudA t L s).bind (placeA t L)).bind (advP t L)).bind (stP (incG 46)) else (spudA t L s).bind (stP (incG 46))
theorem wrapP_ok {t : Int → Int} {L : Int} {r : Except Int PSt} {s' : PSt} (h : r.bind (wrapP t L) = .ok s') : ∃ s, r = .ok s ∧ s' = (fset (fset s.1 1 (wrapC t L s)) 0 (tkE t L s.p), s.2) := by
  have eN : r.bind (wrapP t L) = ((r.bind (chkP k2 t L (fun s => ¬ wrapC t L s = -4))).bind (stP (ghW t L))).bind (advP t L) := by
    cases r <;> rfl
  rw [eN] at h
  obtain ⟨s1, e1, x1, q1⟩ := advP_ok h
  obtain ⟨s2, e2, q2⟩ := stP_ok e1
  obtain ⟨e3, x3, c3⟩ := chkP_ok e2
  subst q2
  exact ⟨s2, e3, q1⟩
section ZRef32
variable {Γ : ZG} {mem mem0 : Mem} {Q : Option AV → Mem → Prop}
theorem place8 {v x c i : Int} {m2 : Mem} {r1 : Except Int PSt} (h2 : RefR mem0 (r1.bind (chkP k4 (mem0 114) (mem0 109 13) freshC)) m2) (y1 : ∀ s, r1 = .ok s → v = s.1 1) (hc : m2 113 46 = c) (hi : i = 47 + 8 * c + 2) (hx : x = if m2 109 10 < v then v else m2 109 10) : RefR mem0 ((r1.bind (chkP k4 (mem0 114) (mem0 109 13) freshC)).bind (stP placeG)) (mset (mset m2 109 10 x) 113 i v) := by
  rw [mset_eq (c := 113), mset_eq (c := 109)]
  refine h2.stp placeG (fun _ => rfl) ((FrX.rf.cell (by decide)).cell (by decide)) (fun j hj => ?_) (fun s hs ho => ⟨fun j h5 h11 => ?_, ?_⟩)
  · rw [mcell_ne (by decide), mcell_same, fset_ne (by omega)]
  · obtain ⟨e2, x2, c2⟩ := chkP_ok hs
    rw [mcell_ne (by decide), mcell_same]
    unfold placeG
    dsimp only
    by_cases h : j = 10
    · subst h
      rw [fset_same, fset_same, hx, ho.g 10 h5 h11, y1 s e2]
    · rw [fset_ne h, fset_ne h]
      exact ho.g j h5 h11
  · obtain ⟨e2, x2, c2⟩ := chkP_ok hs
    rw [mcell_same, mcell_ne (by decide)]
    unfold placeG
    dsimp only
    rw [← y1 s e2, ← ho.d, hc, hi]
theorem sR_readSpudR {out : Int} (ho : out = 0 ∨ out = 1) (r : Except Int PSt) (tp : TpOK mem0) (hR : RefR mem0 r mem) (hw : ∀ s, r = .ok s → -4 ≤ s.1 10 ∧ s.1 10 ≤ 99) (h46 : 0 ≤ mem 113 46 ∧ mem 113 46 ≤ 5) (hd : ∀ j : Int, 0 ≤ j → j < 115 → -100 ≤ mem 113 j ∧ mem 113 j ≤ 100) (k : ∀ m' : Mem, RefR mem0 (r.bind (spudP (mem0 114) (mem0 109 13) out)) m' → Q none m') : AMet Γ mX11_readSpud [vR 109, vI out] zG mem Q := by
  have eA : r.bind (spudA (mem0 114) (mem0 109 13)) = (((r.bind (numP (mem0 114) (mem0 109 13) 1 9)).bind (stP (spudG 0))).bind (wrapP (mem0 114) (mem0 109 13))).bind (stP (spudG 1)) := by
    cases r <;> rfl
  have pz : ∀ (z v : Int) (m : Mem) (rz : Except Int PSt) (i : Int), RefR mem0 rz m → (∀ s, rz = .ok s → v = s.1 1) → m 113 46 = mem 113 46 → i = 47 + 8 * mem 113 46 + z → RefR mem0 (rz.bind (stP (spudG z))) (mset m 113 i v) := by
    intro z v m rz i h hv h6 hi
    refine h.put (spudG z) (fun _ => rfl) (fun s hs ho => ?_)
    unfold spudG
    dsimp only
    rw [← hv s hs, ← ho.d, h6, hi]
  -- the end
  have s155 : ∀ (m : Mem) (rz : Except Int PSt) (x3 x4 x5 : Option AV), RefR mem0 rz m → (rz.bind (stP (incG 46)) = r.bind (spudP (mem0 114) (mem0 109 13) out)) → AW Γ mX11_readSpud (zF Γ zG Q) zG 0 0 155 [some (vR 109), some (vI out), some (vI (47 + 8 * mem 113 46)), x3, x4, x5] [] m := by
    intro m rz x3 x4 x5 h e
    refine aw_aload_n dX11_readSpud_155 rfl rfl ?_
    refine aw_getR dX11_readSpud_156 rfl fl_X11_20 g109 (by rfl) ?_
    refine aw_bipush dX11_readSpud_159 rfl (by decide) ?_
    refine aw_dup2 dX11_readSpud_161 rfl rfl rfl ?_
    refine aw_iaload dX11_readSpud_162 rfl g113 (by decide) (by omega) ?_
    refine aw_iconst dX11_readSpud_163 rfl ?_
    refine aw_iadd dX11_readSpud_164 rfl ?_
    refine aw_iastore dX11_readSpud_165 rfl g113 (by decide) (by omega) ?_
    refine aw_return dX11_readSpud_166 rfl ?_
    refine k _ ?_
    rw [← e]
    refine h.put (incG 46) (fun _ => rfl) (fun s hs ho => ?_)
    unfold incG
    dsimp only
    rw [ho.d]
  -- a spud that lies in the fire
  have s45 : out = 0 → ∀ m : Mem, RefR mem0 (r.bind (spudA (mem0 114) (mem0 109 13))) m → m 113 46 = mem 113 46 → (∀ j : Int, 0 ≤ j → j < 115 → -100 ≤ m 113 j ∧ m 113 j ≤ 100) → AW Γ mX11_readSpud (zF Γ zG Q) zG 0 0 45 [some (vR 109), some (vI out), some (vI (47 + 8 * mem 113 46)), none, none, none] [] m := by
    intro h0 m h h6 hdm
    have eP : (r.bind (spudA (mem0 114) (mem0 109 13))).bind (placeA (mem0 114) (mem0 109 13)) = ((((r.bind (spudA (mem0 114) (mem0 109 13))).bind (chkP (numD (mem0 114) (mem0 109 13)) (mem0 114) (mem0 109 13) (numC (mem0 114) (mem0 109 13) 0 23))).bind (stP (ghV (mem0 114) (mem0 109 13)))).bind (chkP k4 (mem0 114) (mem0 109 13) freshC)).bind (stP placeG) := by
      cases r.bind (spudA (mem0 114) (mem0 109 13)) <;> rfl
    have i10 : ∀ s, r.bind (spudA (mem0 114) (mem0 109 13)) = .ok s → -4 ≤ s.1 10 ∧ s.1 10 ≤ 99 := by
      intro s e
      rw [eA] at e
      obtain ⟨s1, e1, q1⟩ := stP_ok e
      obtain ⟨s2, e2, q2⟩ := wrapP_ok e1
      obtain ⟨s3, e3, q3⟩ := stP_ok e2
      obtain ⟨s4, e4, x4, c4, q4⟩ := numP_ok e3
      rw [q1, q2, q3, q4]
      exact hw s4 e4
    have s151 : ∀ (m3 : Mem) (x3 x4 x5 : Option AV), RefR mem0 ((r.bind (spudA (mem0 114) (mem0 109 13))).bind (placeA (mem0 114) (mem0 109 13))) m3 → AW Γ mX11_readSpud (zF Γ zG Q) zG 0 0 151 [some (vR 109), some (vI out), some (vI (47 + 8 * mem 113 46)), x3, x4, x5] [] m3 := by
      intro m3 x3 x4 x5 h3
      refine aw_aload_n dX11_readSpud_151 rfl rfl ?_
      refine aw_callV [] _ dX11_readSpud_152 rfl clv_X11_131 (by decide) ⟨Nat.zero_le _, Nat.zero_le _⟩ g109 (by rfl) (Nat.le_of_ble_eq_true rfl) rfl ?_
      refine sR_nextR _ tp h3 (fun m4 h4 d4 => ?_)
      refine s155 _ _ _ _ _ h4 ?_
      cases r with
      | error a => rfl
      | ok s =>
        show _ = (if out = 0 then _ else _)
        rw [if_pos h0]
        rfl
    have s115 : ∀ (v : Int) (m1 : Mem) (x5 : Option AV), (0 ≤ v ∧ v ≤ 23) → RefR mem0 (((r.bind (spudA (mem0 114) (mem0 109 13))).bind (chkP (numD (mem0 114) (mem0 109 13)) (mem0 114) (mem0 109 13) (numC (mem0 114) (mem0 109 13) 0 23))).bind (stP (ghV (mem0 114) (mem0 109 13)))) m1 → (∀ s, ((r.bind (spudA (mem0 114) (mem0 109 13))).bind (chkP (numD (mem0 114) (mem0 109 13)) (mem0 114) (mem0 109 13) (numC (mem0 114) (mem0 109 13) 0 23))).bind (stP (ghV (mem0 114) (mem0 109 13))) = .ok s → v = s.1 1) → m1 113 46 = mem 113 46 → (-4 ≤ m1 109 10 ∧ m1 109 10 ≤ 99) → AW Γ mX11_readSpud (zF Γ zG Q) zG 0 0 115 [some (vR 109), some (vI out), some (vI (47 + 8 * mem 113 46)), some (vI v), some (vI (freshF (m1 113) v (mem 113 46).toNat)), x5] [] m1 := by
      intro v m1 x5 hv hg hv1 h61 r10
      have f01 := freshF_01 (d := m1 113) (x := v) (mem 113 46).toNat
      refine aw_aload_n dX11_readSpud_115 rfl rfl ?_
      refine aw_iload dX11_readSpud_116 rfl rfl ?_
      refine aw_iconst dX11_readSpud_118 rfl ?_
      refine aw_callV [_, _] _ dX11_readSpud_119 rfl clv_X11_123 (by decide) ⟨Nat.zero_le _, Nat.zero_le _⟩ g109 (by rfl) (Nat.le_of_ble_eq_true rfl) rfl ?_
      refine sR_needsR _ k4 freshC (by omega) (by omega) hg (fun s' e' z' => by obtain ⟨s, es, ho⟩ := hg.good z'; rw [e'] at es; cases es; unfold freshC; rw [← ho.d, ← hv1 s' e', h61]; omega) (fun m2 e2 h2 => ?_)
      have r2 : m2 109 10 = m1 109 10 := by rw [e2, mcell_same]; unfold needC; split <;> rfl
      have d2 : m2 113 = m1 113 := by rw [e2, mcell_ne (by decide)]
      refine aw_aload_n dX11_readSpud_122 rfl rfl ?_
      refine aw_iload_n dX11_readSpud_123 rfl rfl ?_
      refine aw_aload_n dX11_readSpud_124 rfl rfl ?_
      refine aw_getI (kI := 10) dX11_readSpud_125 rfl fl_X11_67 g109 (by rfl) rfl ?_
      refine aw_icmp_le (tgt := 135) dX11_readSpud_128 (by decide) rfl (by omega) (by omega) (fun c128 => ?_) (fun c128 => ?_)
      · refine aw_aload_n dX11_readSpud_135 rfl rfl ?_
        refine aw_getI (kI := 10) dX11_readSpud_136 rfl fl_X11_67 g109 (by rfl) rfl ?_
        refine aw_putI (kI := 10) dX11_readSpud_139 rfl fp_X11_67 g109 (by rfl) rfl ?_
        refine aw_aload_n dX11_readSpud_142 rfl rfl ?_
        refine aw_getR dX11_readSpud_143 rfl fl_X11_20 g109 (by rfl) ?_
        refine aw_iload_n dX11_readSpud_146 rfl rfl ?_
        refine aw_iconst dX11_readSpud_147 rfl ?_
        refine aw_iadd dX11_readSpud_148 rfl ?_
        refine aw_iload_n dX11_readSpud_149 rfl rfl ?_
        refine aw_iastore dX11_readSpud_150 rfl g113 (by decide) (by omega) ?_
        refine s151 _ _ _ _ (by rw [eP]; exact place8 h2 hv1 (by rw [d2, h61]) (by omega) (by first | (rw [if_pos (by omega)]) | (rw [if_neg (by omega)])))
      · refine aw_iload_n dX11_readSpud_131 rfl rfl ?_
        refine aw_goto (tgt := 139) dX11_readSpud_132 (by decide) ?_
        refine aw_putI (kI := 10) dX11_readSpud_139 rfl fp_X11_67 g109 (by rfl) rfl ?_
        refine aw_aload_n dX11_readSpud_142 rfl rfl ?_
        refine aw_getR dX11_readSpud_143 rfl fl_X11_20 g109 (by rfl) ?_
        refine aw_iload_n dX11_readSpud_146 rfl rfl ?_
        refine aw_iconst dX11_readSpud_147 rfl ?_
        refine aw_iadd dX11_readSpud_148 rfl ?_
        refine aw_iload_n dX11_readSpud_149 rfl rfl ?_
        refine aw_iastore dX11_readSpud_150 rfl g113 (by decide) (by omega) ?_
        refine s151 _ _ _ _ (by rw [eP]; exact place8 h2 hv1 (by rw [d2, h61]) (by omega) (by first | (rw [if_pos (by omega)]) | (rw [if_neg (by omega)])))
    have s66 : ∀ (v : Int) (m1 : Mem), (0 ≤ v ∧ v ≤ 23) → m1 113 46 = mem 113 46 → (∀ j : Int, 0 ≤ j → j < 115 → -100 ≤ m1 113 j ∧ m1 113 j ≤ 100) → (∀ x5 : Option AV, AW Γ mX11_readSpud (zF Γ zG Q) zG 0 0 115 [some (vR 109), some (vI out), some (vI (47 + 8 * mem 113 46)), some (vI v), some (vI (freshF (m1 113) v (mem 113 46).toNat)), x5] [] m1) → ∀ (d i : Nat), (i : Int) + d = mem 113 46 → AW Γ mX11_readSpud (zF Γ zG Q) zG 0 0 66 [some (vR 109), some (vI out), some (vI (47 + 8 * mem 113 46)), some (vI v), some (vI (freshF (m1 113) v i)), some (vI i)] [] m1 := by
      intro v m1 hv h61 hd1 kx d
      induction d with
      | zero =>
        intro i hi
        have e : i = (mem 113 46).toNat := by omega
        refine aw_iload dX11_readSpud_66 rfl rfl ?_
        refine aw_aload_n dX11_readSpud_68 rfl rfl ?_
        refine aw_getR dX11_readSpud_69 rfl fl_X11_20 g109 (by rfl) ?_
        refine aw_bipush dX11_readSpud_72 rfl (by decide) ?_
        refine aw_iaload dX11_readSpud_74 rfl g113 (by decide) (by omega) ?_
        refine aw_icmp_ge (tgt := 115) dX11_readSpud_75 (by decide) rfl (by omega) (by omega) (fun c75 => ?_) (fun c75 => ?_)
        · rw [e]
          exact kx _
        · exfalso; omega
      | succ d ih =>
        intro i hi
        have f01 := freshF_01 (d := m1 113) (x := v) i
        have rd := hd1 (47 + 8 * (i : Int) + 2) (by omega) (by push_cast at hi; omega)
        have nx : ∀ b : Int, b = freshF (m1 113) v (i + 1) → AW Γ mX11_readSpud (zF Γ zG Q) zG 0 0 107 [some (vR 109), some (vI out), some (vI (47 + 8 * mem 113 46)), some (vI v), some (vI (freshF (m1 113) v i)), some (vI i)] [vI b] m1 := by
          intro b hb
          subst hb
          have hz := ih (i + 1) (by push_cast at hi ⊢; omega)
          push_cast at hz
          refine aw_istore4 rfl dX11_readSpud_107 rfl (by decide) ?_
          refine aw_iinc5 rfl dX11_readSpud_109 rfl (by decide) ?_
          refine aw_goto (tgt := 66) dX11_readSpud_112 (by decide) ?_
          exact hz
        refine aw_iload dX11_readSpud_66 rfl rfl ?_
        refine aw_aload_n dX11_readSpud_68 rfl rfl ?_
        refine aw_getR dX11_readSpud_69 rfl fl_X11_20 g109 (by rfl) ?_
        refine aw_bipush dX11_readSpud_72 rfl (by decide) ?_
        refine aw_iaload dX11_readSpud_74 rfl g113 (by decide) (by omega) ?_
        refine aw_icmp_ge (tgt := 115) dX11_readSpud_75 (by decide) rfl (by omega) (by omega) (fun c75 => ?_) (fun c75 => ?_)
        · exfalso; push_cast at hi; omega
        · refine aw_iload dX11_readSpud_78 rfl rfl ?_
          refine aw_if_eq (tgt := 106) dX11_readSpud_80 (by decide) rfl (by omega) (fun c80 => ?_) (fun c80 => ?_)
          · refine aw_iconst dX11_readSpud_106 rfl ?_
            first | (have hz : freshF (m1 113) v (i + 1) = 1 := (by rw [freshF, if_pos ⟨c80, c99⟩]); exact nx 1 hz.symm) | (have hz : freshF (m1 113) v (i + 1) = 0 := (by rw [freshF]; exact if_neg (fun z => by first | exact z.1 c80 | exact z.2 c99)); exact nx 0 hz.symm)
          · refine aw_aload_n dX11_readSpud_83 rfl rfl ?_
            refine aw_getR dX11_readSpud_84 rfl fl_X11_20 g109 (by rfl) ?_
            refine aw_bipush dX11_readSpud_87 rfl (by decide) ?_
            refine aw_bipush dX11_readSpud_89 rfl (by decide) ?_
            refine aw_iload dX11_readSpud_91 rfl rfl ?_
            refine aw_imul dX11_readSpud_93 rfl ?_
            refine aw_iadd dX11_readSpud_94 rfl ?_
            refine aw_iconst dX11_readSpud_95 rfl ?_
            refine aw_iadd dX11_readSpud_96 rfl ?_
            refine aw_iaload dX11_readSpud_97 rfl g113 (by decide) (by omega) ?_
            refine aw_iload_n dX11_readSpud_98 rfl rfl ?_
            refine aw_icmp_eq (tgt := 106) dX11_readSpud_99 (by decide) rfl (by omega) (by omega) (fun c99 => ?_) (fun c99 => ?_)
            · refine aw_iconst dX11_readSpud_106 rfl ?_
              first | (have hz : freshF (m1 113) v (i + 1) = 1 := (by rw [freshF, if_pos ⟨c80, c99⟩]); exact nx 1 hz.symm) | (have hz : freshF (m1 113) v (i + 1) = 0 := (by rw [freshF]; exact if_neg (fun z => by first | exact z.1 c80 | exact z.2 c99)); exact nx 0 hz.symm)
            · refine aw_iconst dX11_readSpud_102 rfl ?_
              refine aw_goto (tgt := 107) dX11_readSpud_103 (by decide) ?_
              first | (have hz : freshF (m1 113) v (i + 1) = 1 := (by rw [freshF, if_pos ⟨c80, c99⟩]); exact nx 1 hz.symm) | (have hz : freshF (m1 113) v (i + 1) = 0 := (by rw [freshF]; exact if_neg (fun z => by first | exact z.1 c80 | exact z.2 c99)); exact nx 0 hz.symm)
    refine aw_aload_n dX11_readSpud_45 rfl rfl ?_
    refine aw_iconst dX11_readSpud_46 rfl ?_
    refine aw_bipush dX11_readSpud_47 rfl (by decide) ?_
    refine aw_callV [_, _] _ dX11_readSpud_49 rfl clv_X11_127 (by decide) ⟨Nat.zero_le _, Nat.zero_le _⟩ g109 (by rfl) (Nat.le_of_ble_eq_true rfl) rfl ?_
    refine sR_lookedR _ (by omega) h (fun v m1 h1 z1 y1 d1 => ?_)
    refine aw_istore3 rfl dX11_readSpud_52 rfl (by decide) ?_
    have f1 := h1.flt
    have v23 : 0 ≤ v ∧ v ≤ 23 := by
      by_cases hf : m1 109 18 = 0
      · have := z1 hf; omega
      · have := y1 hf; omega
    have hg := h1.gh (ghV (mem0 114) (mem0 109 13)) (fun _ => rfl) (fun s j hj => fset_ne (by omega)) (fun _ => rfl)
    have hv1 : ∀ s, ((r.bind (spudA (mem0 114) (mem0 109 13))).bind (chkP (numD (mem0 114) (mem0 109 13)) (mem0 114) (mem0 109 13) (numC (mem0 114) (mem0 109 13) 0 23))).bind (stP (ghV (mem0 114) (mem0 109 13))) = .ok s → v = s.1 1 := by
      intro s e
      obtain ⟨s3, e3, q3⟩ := stP_ok e
      obtain ⟨e4, x4, c4⟩ := chkP_ok e3
      rw [looked_v h1 z1 s3 e4 x4 c4, q3]
      rfl
    refine aw_aload_n dX11_readSpud_53 rfl rfl ?_
    refine aw_getI (kI := 18) dX11_readSpud_54 rfl fl_X11_85 g109 (by rfl) rfl ?_
    refine aw_if_ne (tgt := 151) dX11_readSpud_57 (by decide) rfl (by omega) (fun c57 => ?_) (fun c57 => ?_)
    · refine s151 _ _ _ _ ?_
      have hz := h1.badf c57 (f := fun s => ((stP (ghV (mem0 114) (mem0 109 13)) s).bind (chkP k4 (mem0 114) (mem0 109 13) freshC)).bind (stP placeG)) (fun s hx => by show ((chkP k4 (mem0 114) (mem0 109 13) freshC (ghV (mem0 114) (mem0 109 13) s)).bind (stP placeG)) = _; rw [chkP_x _ (show tkX (mem0 114) (mem0 109 13) (PSt.p (ghV (mem0 114) (mem0 109 13) s)) from hx)]; rfl)
      rw [eP, ebind, ebind]
      exact hz
    · have r10 : -4 ≤ m1 109 10 ∧ m1 109 10 ≤ 99 := by
        obtain ⟨s1, e1, o1⟩ := h1.good c57
        rw [o1.g 10 (by omega) (by omega)]
        exact i10 s1 (chkP_ok e1).1
      have hz := s66 v m1 v23 (by rw [d1]; exact h6) (by rw [d1]; exact hdm) (fun x5 => s115 v m1 x5 v23 hg hv1 (by rw [d1]; exact h6) r10) (mem 113 46).toNat 0 (by omega)
      refine aw_iconst dX11_readSpud_60 rfl ?_
      refine aw_istore4 rfl dX11_readSpud_61 rfl (by decide) ?_
      refine aw_iconst dX11_readSpud_63 rfl ?_
      refine aw_istore5 rfl dX11_readSpud_64 rfl (by decide) ?_
      exact hz
  refine AMet.of' 4 (ls := [some (vR (109)), some (vI (out)), none, none, none, none]) (by decide) rfl (Nat.le_of_ble_eq_true rfl) ?_
  refine aw_bipush dX11_readSpud_0 rfl (by decide) ?_
  refine aw_bipush dX11_readSpud_2 rfl (by decide) ?_
  refine aw_aload_n dX11_readSpud_4 rfl rfl ?_
  refine aw_getR dX11_readSpud_5 rfl fl_X11_20 g109 (by rfl) ?_
  refine aw_bipush dX11_readSpud_8 rfl (by decide) ?_
  refine aw_iaload dX11_readSpud_10 rfl g113 (by decide) (by omega) ?_
  refine aw_imul dX11_readSpud_11 rfl ?_
  refine aw_iadd dX11_readSpud_12 rfl ?_
  refine aw_istore2 rfl dX11_readSpud_13 rfl (by decide) ?_
  refine aw_aload_n dX11_readSpud_14 rfl rfl ?_
  refine aw_getR dX11_readSpud_15 rfl fl_X11_20 g109 (by rfl) ?_
  refine aw_iload_n dX11_readSpud_18 rfl rfl ?_
  refine aw_iconst dX11_readSpud_19 rfl ?_
  refine aw_iadd dX11_readSpud_20 rfl ?_
  refine aw_aload_n dX11_readSpud_21 rfl rfl ?_
  refine aw_iconst dX11_readSpud_22 rfl ?_
  refine aw_bipush dX11_readSpud_23 rfl (by decide) ?_
  refine aw_callV [_, _] _ dX11_readSpud_25 rfl clv_X11_141 (by decide) ⟨Nat.zero_le _, Nat.zero_le _⟩ g109 (by rfl) (Nat.le_of_ble_eq_true rfl) rfl ?_
  refine sR_numR r (by omega) tp hR (fun v1 m1 h1 r1 y1 d1 => ?_)
  refine aw_iastore dX11_readSpud_28 rfl g113 (by decide) (by omega) ?_
  have h2 := pz 0 v1 m1 _ (47 + 8 * mem 113 46 + 0) h1 y1 (by rw [d1]) (by omega)
  have d2 : (mset m1 113 (47 + 8 * mem 113 46 + 0) v1) 113 46 = mem 113 46 := by rw [mset_eq, mcell_same, fset_ne (by omega), d1]
  refine aw_aload_n dX11_readSpud_29 rfl rfl ?_
  refine aw_getR dX11_readSpud_30 rfl fl_X11_20 g109 (by rfl) ?_
  refine aw_iload_n dX11_readSpud_33 rfl rfl ?_
  refine aw_iconst dX11_readSpud_34 rfl ?_
  refine aw_iadd dX11_readSpud_35 rfl ?_
  refine aw_aload_n dX11_readSpud_36 rfl rfl ?_
  refine aw_callV [] _ dX11_readSpud_37 rfl clv_X11_147 (by decide) ⟨Nat.zero_le _, Nat.zero_le _⟩ g109 (by rfl) (Nat.le_of_ble_eq_true rfl) rfl ?_
  refine sR_readWrapR _ tp h2 (fun v3 m3 h3 r3 y3 d3 => ?_)
  refine aw_iastore dX11_readSpud_40 rfl g113 (by decide) (by omega) ?_
  have h4 := pz 1 v3 m3 _ (47 + 8 * mem 113 46 + 1) h3 y3 (by rw [d3]; exact d2) (by omega)
  have d4 : (mset m3 113 (47 + 8 * mem 113 46 + 1) v3) 113 46 = mem 113 46 := by rw [mset_eq, mcell_same, fset_ne (by omega), d3]; exact d2
  rw [← eA] at h4
  have d5 : ∀ j : Int, 0 ≤ j → j < 115 → -100 ≤ (mset m3 113 (47 + 8 * mem 113 46 + 1) v3) 113 j ∧ (mset m3 113 (47 + 8 * mem 113 46 + 1) v3) 113 j ≤ 100 := by
    intro j h0 h1
    rw [mset_eq, mcell_same, d3, mset_eq, mcell_same, d1]
    have := hd j h0 h1
    unfold fset
    (repeat' split) <;> omega
  refine aw_iload_n dX11_readSpud_41 rfl rfl ?_
  refine aw_if_ne (tgt := 155) dX11_readSpud_42 (by decide) rfl (by omega) (fun c42 => ?_) (fun c42 => ?_)
  · refine s155 _ _ _ _ _ h4 ?_
    unfold spudP
    cases r with
    | error a => rfl
    | ok s =>
      show _ = (if out = 0 then _ else _)
      rw [if_neg (by omega)]
      rfl
  · exact s45 (by omega) _ h4 d4 d5
end ZRef32
