theorem numP_ok {t : Int → Int} {L lo hi : Int} {r : Except Int PSt} {s' : PSt} (h : r.bind (numP t L lo hi) = .ok s') : ∃ s, r = .ok s ∧ ¬ tkX t L s.p ∧ numC t L lo hi s ∧ s' = (fset (fset s.1 1 (tkV t L s.p)) 0 (tkE t L s.p), s.2) := by
  have eN : r.bind (numP t L lo hi) = ((r.bind (chkP (numD t L) t L (numC t L lo hi))).bind (stP (ghV t L))).bind (advP t L) := by
    cases r <;> rfl
  rw [eN] at h
  obtain ⟨s1, e1, x1, q1⟩ := advP_ok h
  obtain ⟨s2, e2, q2⟩ := stP_ok e1
  obtain ⟨e3, x3, c3⟩ := chkP_ok e2
  subst q2
  exact ⟨s2, e3, x3, c3, q1⟩
theorem zb01 {a v : Int} (h : 0 ≤ v ∧ v < 32) : zand (zshr a v) 1 = 0 ∨ zand (zshr a v) 1 = 1 := by
  obtain ⟨n, rfl⟩ : ∃ n : Nat, v = n := ⟨v.toNat, by omega⟩
  rw [zbit (by omega)]
  split
  · exact Or.inr rfl
  · exact Or.inl rfl
abbrev toldC (i : Int) (s : PSt) : Prop := zand (zshr (s.1 i) (s.1 1)) 1 = 0
/-- a row is told: slot 2 holds its number -/
def toldG (i : Int) (s : PSt) : PSt := (fset (fset s.1 2 (s.1 1)) i (zor (s.1 i) (zshl 1 (s.1 1))), s.2)
def heatA (t : Int → Int) (L : Int) (s : PSt) : Except Int PSt := ((cellL t L s).bind (chkP k4 t L (toldC 7))).bind (stP (toldG 7))
def heatG (z : Int) (s : PSt) : PSt := (s.1, fset s.2 (3 * s.1 2 + z) (s.1 1))
def heatS (t : Int → Int) (L z : Int) (s : PSt) : Except Int PSt := (numP t L 0 99 s).bind (stP (heatG z))
def heatP (t : Int → Int) (L : Int) (s : PSt) : Except Int PSt := ((((heatA t L s).bind (advP t L)).bind (heatS t L 0)).bind (heatS t L 1)).bind (heatS t L 2)
section ZRef29
variable {Γ : ZG} {mem mem0 : Mem} {Q : Option AV → Mem → Prop}
theorem RefR.badf {r : Except Int PSt} {m : Mem} (h : RefR mem0 r m) (hf : ¬ m 109 18 = 0) {f : PSt → Except Int PSt} (hx : ∀ s, tkX (mem0 114) (mem0 109 13) s.p → f s = .error (erX (mem0 114) (mem0 109 13) s.p)) : RefR mem0 (r.bind f) m := by
  obtain ⟨a, hB, ha⟩ := h.bad hf
  rw [bind_bad ha hx]
  exact RefR.mkBad h.1 hB
theorem told9 (v : Int) (r1 : Except Int PSt) {i : Int} {s : PSt} (e : (r1.bind (chkP k4 (mem0 114) (mem0 109 13) (toldC i))).bind (stP (toldG i)) = .ok s) (y1 : ∀ s, r1 = .ok s → v = s.1 1) (hi : i ≠ 2 := by decide) : v = s.1 2 := by
  obtain ⟨s1, e1, q1⟩ := stP_ok e
  obtain ⟨e2, x2, c2⟩ := chkP_ok e1
  rw [q1, y1 s1 e2]
  unfold toldG
  dsimp only
  rw [fset_ne (Ne.symm hi), fset_same]
theorem told7 (v : Int) (m1 : Mem) (r1 : Except Int PSt) (h1 : RefR mem0 r1 m1) {s' : PSt} {b : Int} (hv : v = s'.1 1) (e' : r1 = .ok s') (z' : m1 109 18 = 0) (hb : (b = 1 ∧ zand (zshr (m1 109 7) v) 1 = 0) ∨ (b = 0 ∧ ¬ zand (zshr (m1 109 7) v) 1 = 0)) : (b = 1 ∧ toldC 7 s') ∨ (b = 0 ∧ ¬ toldC 7 s') := by
  obtain ⟨s, es, ho⟩ := h1.good z'
  rw [e'] at es
  cases es
  unfold toldC
  rw [← ho.g 7 (by omega) (by omega), ← hv]
  exact hb
theorem told8 (v : Int) (m1 m2 : Mem) (r1 : Except Int PSt) (h2 : RefR mem0 (r1.bind (chkP k4 (mem0 114) (mem0 109 13) (toldC 7))) m2) (y1 : ∀ s, r1 = .ok s → v = s.1 1) : RefR mem0 ((r1.bind (chkP k4 (mem0 114) (mem0 109 13) (toldC 7))).bind (stP (toldG 7))) (mset m2 109 7 (zor (m2 109 7) (zshl 1 v))) := by
  refine h2.stp (toldG 7) (fun _ => rfl) (FrX.rf.set (by decide)) (fun j hj => ?_) (fun s hs ho => ⟨fun j h5 h11 => ?_, ?_⟩)
  · rw [mset_eq, mcell_same, fset_ne (by omega)]
  · obtain ⟨e2, x2, c2⟩ := chkP_ok hs
    rw [mset_eq, mcell_same]
    unfold toldG
    dsimp only
    by_cases h : j = 7
    · subst h
      rw [fset_same, fset_same, ho.g 7 h5 h11, y1 s e2]
    · rw [fset_ne h, fset_ne h, fset_ne (by omega)]
      exact ho.g j h5 h11
  · rw [mset_eq, mcell_ne (by decide)]
    exact ho.d
theorem sR_readHeatR (r : Except Int PSt) (tp : TpOK mem0) (hR : RefR mem0 r mem) (h9 : mem 109 18 = 0 → -4 ≤ mem 109 9 ∧ mem 109 9 ≤ 99) (k : ∀ m' : Mem, RefR mem0 (r.bind (heatP (mem0 114) (mem0 109 13))) m' → Q none m') : AMet Γ mX11_readHeat [vR 109] zG mem Q := by
  have eN : r.bind (heatP (mem0 114) (mem0 109 13)) = (((((r.bind (heatA (mem0 114) (mem0 109 13))).bind (advP (mem0 114) (mem0 109 13))).bind (heatS (mem0 114) (mem0 109 13) 0)).bind (heatS (mem0 114) (mem0 109 13) 1)).bind (heatS (mem0 114) (mem0 109 13) 2)) := by
    cases r <;> rfl
  have eA : r.bind (heatA (mem0 114) (mem0 109 13)) = ((r.bind (cellL (mem0 114) (mem0 109 13))).bind (chkP k4 (mem0 114) (mem0 109 13) (toldC 7))).bind (stP (toldG 7)) := by
    cases r <;> rfl
  rw [eN] at k
  have step : ∀ (v z : Int), (0 ≤ v ∧ v ≤ 7) → (0 ≤ z ∧ z < 3) → ∀ (rz : Except Int PSt) (m : Mem), RefR mem0 rz m → (∀ s, rz = .ok s → v = s.1 2) → (∀ m', RefR mem0 (rz.bind (heatS (mem0 114) (mem0 109 13) z)) m' → AW Γ mX11_readHeat (zF Γ zG Q) zG 0 0 51 [some (vR 109), some (vI v), some (vI (z + 1))] [] m') → AW Γ mX11_readHeat (zF Γ zG Q) zG 0 0 51 [some (vR 109), some (vI v), some (vI z)] [] m := by
    intro v z hv hz rz m hm hs kk
    have eS : rz.bind (heatS (mem0 114) (mem0 109 13) z) = (rz.bind (numP (mem0 114) (mem0 109 13) 0 99)).bind (stP (heatG z)) := by
      cases rz <;> rfl
    rw [eS] at kk
    refine aw_iload_n dX11_readHeat_51 rfl rfl ?_
    refine aw_iconst dX11_readHeat_52 rfl ?_
    refine aw_icmp_ge (tgt := 81) dX11_readHeat_53 (by decide) rfl (by omega) (by omega) (fun c53 => ?_) (fun c53 => ?_)
    · exfalso; omega
    · refine aw_aload_n dX11_readHeat_56 rfl rfl ?_
      refine aw_getR dX11_readHeat_57 rfl fl_X11_20 g109 (by rfl) ?_
      refine aw_iconst dX11_readHeat_60 rfl ?_
      refine aw_iconst dX11_readHeat_61 rfl ?_
      refine aw_iload_n dX11_readHeat_62 rfl rfl ?_
      refine aw_imul dX11_readHeat_63 rfl ?_
      refine aw_iadd dX11_readHeat_64 rfl ?_
      refine aw_iload_n dX11_readHeat_65 rfl rfl ?_
      refine aw_iadd dX11_readHeat_66 rfl ?_
      refine aw_aload_n dX11_readHeat_67 rfl rfl ?_
      refine aw_iconst dX11_readHeat_68 rfl ?_
      refine aw_bipush dX11_readHeat_69 rfl (by decide) ?_
      refine aw_callV [_, _] _ dX11_readHeat_71 rfl clv_X11_141 (by decide) ⟨Nat.zero_le _, Nat.zero_le _⟩ g109 (by rfl) (Nat.le_of_ble_eq_true rfl) rfl ?_
      refine sR_numR rz (by omega) tp hm (fun v2 m2 h2 r2 y2 d2 => ?_)
      refine aw_iastore dX11_readHeat_74 rfl g113 (by decide) (by omega) ?_
      refine aw_iinc2 rfl dX11_readHeat_75 rfl (by decide) ?_
      refine aw_goto (tgt := 51) dX11_readHeat_78 (by decide) ?_
      refine kk _ (h2.stp (heatG z) (fun _ => rfl) (FrX.rf.set (by decide)) (fun j hj => ?_) (fun s hs2 ho => ⟨fun j h5 h11 => ?_, ?_⟩))
      · rw [mset_eq, mcell_ne (by decide)]
      · rw [mset_eq, mcell_ne (by decide)]
        exact ho.g j h5 h11
      · obtain ⟨s1, e1, x1, c1, q1⟩ := numP_ok hs2
        have hv2 := y2 s hs2
        have hv1 := hs s1 e1
        have hv3 : s.1 2 = v := by rw [q1, hv1]; rfl
        rw [mset_eq, mcell_same, ho.d]
        unfold heatG
        dsimp only
        rw [hv3, hv2, show (0 : Int) + 3 * v + z = 3 * v + z by omega]
  have done : ∀ (v : Int) (m : Mem), Q none m → AW Γ mX11_readHeat (zF Γ zG Q) zG 0 0 51 [some (vR 109), some (vI v), some (vI 3)] [] m := by
    intro v m kz
    refine aw_iload_n dX11_readHeat_51 rfl rfl ?_
    refine aw_iconst dX11_readHeat_52 rfl ?_
    refine aw_icmp_ge (tgt := 81) dX11_readHeat_53 (by decide) rfl (by omega) (by omega) (fun c53 => ?_) (fun c53 => ?_)
    · refine aw_return dX11_readHeat_81 rfl ?_
      exact kz
    · exfalso; omega
  have s45 : ∀ (v : Int) (m3 : Mem), (0 ≤ v ∧ v ≤ 7) → RefR mem0 (r.bind (heatA (mem0 114) (mem0 109 13))) m3 → (∀ s, r.bind (heatA (mem0 114) (mem0 109 13)) = .ok s → v = s.1 2) → AW Γ mX11_readHeat (zF Γ zG Q) zG 0 0 45 [some (vR 109), some (vI v), none] [] m3 := by
    intro v m3 hv h3 hs
    have sl : ∀ (z : Int) (rz : Except Int PSt), (∀ s, rz = .ok s → v = s.1 2) → ∀ s, rz.bind (heatS (mem0 114) (mem0 109 13) z) = .ok s → v = s.1 2 := by
      intro z rz hz s e
      have eS : rz.bind (heatS (mem0 114) (mem0 109 13) z) = (rz.bind (numP (mem0 114) (mem0 109 13) 0 99)).bind (stP (heatG z)) := by
        cases rz <;> rfl
      rw [eS] at e
      obtain ⟨s1, e1, q1⟩ := stP_ok e
      obtain ⟨s2, e2, x2, c2, q2⟩ := numP_ok e1
      rw [hz s2 e2, q1, q2]
      rfl
    have sa : ∀ s, (r.bind (heatA (mem0 114) (mem0 109 13))).bind (advP (mem0 114) (mem0 109 13)) = .ok s → v = s.1 2 := by
      intro s e
      obtain ⟨s1, e1, x1, q1⟩ := advP_ok e
      rw [hs s1 e1, q1]
      rfl
    refine aw_aload_n dX11_readHeat_45 rfl rfl ?_
    refine aw_callV [] _ dX11_readHeat_46 rfl clv_X11_131 (by decide) ⟨Nat.zero_le _, Nat.zero_le _⟩ g109 (by rfl) (Nat.le_of_ble_eq_true rfl) rfl ?_
    refine sR_nextR _ tp h3 (fun m4 h4 d4 => ?_)
    refine aw_iconst dX11_readHeat_49 rfl ?_
    refine aw_istore2 rfl dX11_readHeat_50 rfl (by decide) ?_
    refine step v 0 hv (by omega) _ m4 h4 sa (fun m5 h5 => ?_)
    refine step v 1 hv (by omega) _ m5 h5 (sl 0 _ sa) (fun m6 h6 => ?_)
    refine step v 2 hv (by omega) _ m6 h6 (sl 1 _ (sl 0 _ sa)) (fun m7 h7 => ?_)
    exact done v m7 (k m7 h7)
  refine AMet.of' 2 (ls := [some (vR (109)), none, none]) (by decide) rfl (Nat.le_of_ble_eq_true rfl) ?_
  refine aw_aload_n dX11_readHeat_0 rfl rfl ?_
  refine aw_callV [] _ dX11_readHeat_1 rfl clv_X11_134 (by decide) ⟨Nat.zero_le _, Nat.zero_le _⟩ g109 (by rfl) (Nat.le_of_ble_eq_true rfl) rfl ?_
  refine sR_lookedCellR r hR h9 (fun v m1 h1 v1 y1 d1 => ?_)
  refine aw_istore1 rfl dX11_readHeat_4 rfl (by decide) ?_
  have f1 := h1.flt
  refine aw_aload_n dX11_readHeat_5 rfl rfl ?_
  refine aw_getI (kI := 18) dX11_readHeat_6 rfl fl_X11_85 g109 (by rfl) rfl ?_
  refine aw_if_ne (tgt := 45) dX11_readHeat_9 (by decide) rfl (by omega) (fun c9 => ?_) (fun c9 => ?_)
  · first | (have hz := h2; refine s45 v _ v1 (by rw [eA]; exact told8 v m1 m2 _ h2 (fun s e => y1 s e)) (fun s e => ?_); rw [eA] at e; exact told9 v _ e y1) | (refine s45 v _ v1 (by rw [eA, ebind]; exact h1.badf c9 (fun s hx => by rw [chkP_x s hx]; rfl)) (fun s e => ?_); rw [eA] at e; exact told9 v _ e y1)
  · refine aw_aload_n dX11_readHeat_12 rfl rfl ?_
    refine aw_aload_n dX11_readHeat_13 rfl rfl ?_
    refine aw_getI (kI := 7) dX11_readHeat_14 rfl fl_X11_58 g109 (by rfl) rfl ?_
    refine aw_iload_n dX11_readHeat_17 rfl rfl ?_
    refine aw_ishr dX11_readHeat_18 rfl ?_
    refine aw_iconst dX11_readHeat_19 rfl ?_
    refine aw_iand dX11_readHeat_20 rfl ?_
    have zb := zb01 (a := m1 109 7) (v := v) (by omega)
    refine aw_if_ne (tgt := 28) dX11_readHeat_21 (by decide) rfl (by omega) (fun c21 => ?_) (fun c21 => ?_)
    · refine aw_iconst dX11_readHeat_28 rfl ?_
      refine aw_iconst dX11_readHeat_29 rfl ?_
      refine aw_callV [_, _] _ dX11_readHeat_30 rfl clv_X11_123 (by decide) ⟨Nat.zero_le _, Nat.zero_le _⟩ g109 (by rfl) (Nat.le_of_ble_eq_true rfl) rfl ?_
      refine sR_needsR _ k4 (toldC 7) (by omega) (by omega) h1 (fun s' e' z' => told7 v m1 _ h1 (y1 s' e') e' z' (by omega)) (fun m2 e2 h2 => ?_)
      refine aw_aload_n dX11_readHeat_33 rfl rfl ?_
      refine aw_dup dX11_readHeat_34 rfl rfl ?_
      refine aw_getI (kI := 7) dX11_readHeat_35 rfl fl_X11_58 g109 (by rfl) rfl ?_
      refine aw_iconst dX11_readHeat_38 rfl ?_
      refine aw_iload_n dX11_readHeat_39 rfl rfl ?_
      refine aw_ishl dX11_readHeat_40 rfl ?_
      refine aw_ior dX11_readHeat_41 rfl ?_
      refine aw_putI (kI := 7) dX11_readHeat_42 rfl fp_X11_58 g109 (by rfl) rfl ?_
      first | (have hz := h2; refine s45 v _ v1 (by rw [eA]; exact told8 v m1 m2 _ h2 (fun s e => y1 s e)) (fun s e => ?_); rw [eA] at e; exact told9 v _ e y1) | (refine s45 v _ v1 (by rw [eA, ebind]; exact h1.badf c9 (fun s hx => by rw [chkP_x s hx]; rfl)) (fun s e => ?_); rw [eA] at e; exact told9 v _ e y1)
    · refine aw_iconst dX11_readHeat_24 rfl ?_
      refine aw_goto (tgt := 29) dX11_readHeat_25 (by decide) ?_
      refine aw_iconst dX11_readHeat_29 rfl ?_
      refine aw_callV [_, _] _ dX11_readHeat_30 rfl clv_X11_123 (by decide) ⟨Nat.zero_le _, Nat.zero_le _⟩ g109 (by rfl) (Nat.le_of_ble_eq_true rfl) rfl ?_
      refine sR_needsR _ k4 (toldC 7) (by omega) (by omega) h1 (fun s' e' z' => told7 v m1 _ h1 (y1 s' e') e' z' (by omega)) (fun m2 e2 h2 => ?_)
      refine aw_aload_n dX11_readHeat_33 rfl rfl ?_
      refine aw_dup dX11_readHeat_34 rfl rfl ?_
      refine aw_getI (kI := 7) dX11_readHeat_35 rfl fl_X11_58 g109 (by rfl) rfl ?_
      refine aw_iconst dX11_readHeat_38 rfl ?_
      refine aw_iload_n dX11_readHeat_39 rfl rfl ?_
      refine aw_ishl dX11_readHeat_40 rfl ?_
      refine aw_ior dX11_readHeat_41 rfl ?_
      refine aw_putI (kI := 7) dX11_readHeat_42 rfl fp_X11_58 g109 (by rfl) rfl ?_
      first | (have hz := h2; refine s45 v _ v1 (by rw [eA]; exact told8 v m1 m2 _ h2 (fun s e => y1 s e)) (fun s e => ?_); rw [eA] at e; exact told9 v _ e y1) | (refine s45 v _ v1 (by rw [eA, ebind]; exact h1.badf c9 (fun s hx => by rw [chkP_x s hx]; rfl)) (fun s e => ?_); rw [eA] at e; exact told9 v _ e y1)
end ZRef29
