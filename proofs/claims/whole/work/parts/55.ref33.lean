def manyG (s : PSt) : PSt := (fset s.1 5 (s.1 1), s.2)
def putG (i : Int) (s : PSt) : PSt := (s.1, fset s.2 i (s.1 1))
def fireP (t : Int → Int) (L : Int) (s : PSt) : Except Int PSt := (((((numP t L 3 8 s).bind (stP manyG)).bind (numP t L 0 9)).bind (stP (putG 24))).bind (numP t L 0 9)).bind (stP (putG 25))
def lineOfP (t : Int → Int) (L l : Int) (s : PSt) : Except Int PSt := if l = 0 then fireP t L s else if l = 1 then heatP t L s else if l = 2 then woodP t L s else if l = 5 then memoP t L s else spudP t L (if l = 4 then 1 else 0) s
section ZRef33
variable {Γ : ZG} {mem mem0 : Mem} {Q : Option AV → Mem → Prop}
theorem sR_readLineOfR {l : Int} (hl : 0 ≤ l ∧ l ≤ 5) (r : Except Int PSt) (tp : TpOK mem0) (hR : RefR mem0 r mem) (h9 : mem 109 18 = 0 → -4 ≤ mem 109 9 ∧ mem 109 9 ≤ 99) (hw : ∀ s, r = .ok s → (-4 ≤ s.1 9 ∧ s.1 9 ≤ 99) ∧ (-4 ≤ s.1 10 ∧ s.1 10 ≤ 99) ∧ (-4 ≤ s.1 11 ∧ s.1 11 ≤ 99)) (h26 : l = 2 → 0 ≤ mem 113 26 ∧ mem 113 26 ≤ 5) (h46 : l = 3 ∨ l = 4 → 0 ≤ mem 113 46 ∧ mem 113 46 ≤ 5) (hd : ∀ j : Int, 0 ≤ j → j < 115 → -100 ≤ mem 113 j ∧ mem 113 j ≤ 100) (k : ∀ m' : Mem, RefR mem0 (r.bind (lineOfP (mem0 114) (mem0 109 13) l)) m' → Q none m') : AMet Γ mX11_readLineOf [vR 109, vI l] zG mem Q := by
  have s40 : l = 0 → AW Γ mX11_readLineOf (zF Γ zG Q) zG 0 0 40 [some (vR 109), some (vI l)] [] mem := by
    intro e
    subst e
    have eN : r.bind (lineOfP (mem0 114) (mem0 109 13) 0) = (((((r.bind (numP (mem0 114) (mem0 109 13) 3 8)).bind (stP manyG)).bind (numP (mem0 114) (mem0 109 13) 0 9)).bind (stP (putG 24))).bind (numP (mem0 114) (mem0 109 13) 0 9)).bind (stP (putG 25)) := by
      cases r <;> rfl
    rw [eN] at k
    refine aw_aload_n dX11_readLineOf_40 rfl rfl ?_
    refine aw_aload_n dX11_readLineOf_41 rfl rfl ?_
    refine aw_iconst dX11_readLineOf_42 rfl ?_
    refine aw_bipush dX11_readLineOf_43 rfl (by decide) ?_
    refine aw_callV [_, _] _ dX11_readLineOf_45 rfl clv_X11_141 (by decide) ⟨Nat.zero_le _, Nat.zero_le _⟩ g109 (by rfl) (Nat.le_of_ble_eq_true rfl) rfl ?_
    refine sR_numR _ (by omega) tp hR (fun v1 m1 h1 r1 y1 d1 => ?_)
    refine aw_putI (kI := 5) dX11_readLineOf_48 rfl fp_X11_50 g109 (by rfl) rfl ?_
    have h2 : RefR mem0 ((r.bind (numP (mem0 114) (mem0 109 13) 3 8)).bind (stP manyG)) (mset m1 109 5 v1) := by
      refine h1.stp manyG (fun _ => rfl) (FrX.rf.set (by decide)) (fun j hj => ?_) (fun s hs ho => ⟨fun j h5 h11 => ?_, ?_⟩)
      · rw [mset_eq, mcell_same, fset_ne (by omega)]
      · rw [mset_eq, mcell_same]
        unfold manyG
        dsimp only
        by_cases h : j = 5
        · subst h
          rw [fset_same, fset_same, y1 s hs]
        · rw [fset_ne h, fset_ne h]
          exact ho.g j h5 h11
      · rw [mset_eq, mcell_ne (by decide)]
        exact ho.d
    refine aw_aload_n dX11_readLineOf_51 rfl rfl ?_
    refine aw_getR dX11_readLineOf_52 rfl fl_X11_20 g109 (by rfl) ?_
    refine aw_bipush dX11_readLineOf_55 rfl (by decide) ?_
    refine aw_aload_n dX11_readLineOf_57 rfl rfl ?_
    refine aw_iconst dX11_readLineOf_58 rfl ?_
    refine aw_bipush dX11_readLineOf_59 rfl (by decide) ?_
    refine aw_callV [_, _] _ dX11_readLineOf_61 rfl clv_X11_141 (by decide) ⟨Nat.zero_le _, Nat.zero_le _⟩ g109 (by rfl) (Nat.le_of_ble_eq_true rfl) rfl ?_
    refine sR_numR _ (by omega) tp h2 (fun v3 m3 h3 r3 y3 d3 => ?_)
    refine aw_iastore dX11_readLineOf_64 rfl g113 (by decide) (by omega) ?_
    have h4 := h3.put (i := 24) (v := v3) (putG 24) (fun _ => rfl) (fun s hs ho => by unfold putG; dsimp only; rw [y3 s hs])
    refine aw_aload_n dX11_readLineOf_65 rfl rfl ?_
    refine aw_getR dX11_readLineOf_66 rfl fl_X11_20 g109 (by rfl) ?_
    refine aw_bipush dX11_readLineOf_69 rfl (by decide) ?_
    refine aw_aload_n dX11_readLineOf_71 rfl rfl ?_
    refine aw_iconst dX11_readLineOf_72 rfl ?_
    refine aw_bipush dX11_readLineOf_73 rfl (by decide) ?_
    refine aw_callV [_, _] _ dX11_readLineOf_75 rfl clv_X11_141 (by decide) ⟨Nat.zero_le _, Nat.zero_le _⟩ g109 (by rfl) (Nat.le_of_ble_eq_true rfl) rfl ?_
    refine sR_numR _ (by omega) tp h4 (fun v5 m5 h5 r5 y5 d5 => ?_)
    refine aw_iastore dX11_readLineOf_78 rfl g113 (by decide) (by omega) ?_
    refine aw_goto (tgt := 117) dX11_readLineOf_79 (by decide) ?_
    refine aw_return dX11_readLineOf_117 rfl ?_
    exact k _ (h5.put (putG 25) (fun _ => rfl) (fun s hs ho => by unfold putG; dsimp only; rw [y5 s hs]))
  have s82 : l = 1 → AW Γ mX11_readLineOf (zF Γ zG Q) zG 0 0 82 [some (vR 109), some (vI l)] [] mem := by
    intro e
    subst e
    refine aw_aload_n dX11_readLineOf_82 rfl rfl ?_
    refine aw_callV [] _ dX11_readLineOf_83 rfl clv_X11_150 (by decide) ⟨Nat.zero_le _, Nat.zero_le _⟩ g109 (by rfl) (Nat.le_of_ble_eq_true rfl) rfl ?_
    refine sR_readHeatR r tp hR h9 (fun m1 h1 => ?_)
    refine aw_goto (tgt := 117) dX11_readLineOf_86 (by decide) ?_
    refine aw_return dX11_readLineOf_117 rfl ?_
    exact k _ h1
  have s89 : l = 2 → AW Γ mX11_readLineOf (zF Γ zG Q) zG 0 0 89 [some (vR 109), some (vI l)] [] mem := by
    intro e
    subst e
    refine aw_aload_n dX11_readLineOf_89 rfl rfl ?_
    refine aw_callV [] _ dX11_readLineOf_90 rfl clv_X11_153 (by decide) ⟨Nat.zero_le _, Nat.zero_le _⟩ g109 (by rfl) (Nat.le_of_ble_eq_true rfl) rfl ?_
    refine sR_readWoodR r tp hR h9 (h26 rfl) (fun m1 h1 => ?_)
    refine aw_goto (tgt := 117) dX11_readLineOf_93 (by decide) ?_
    refine aw_return dX11_readLineOf_117 rfl ?_
    exact k _ h1
  have s96 : l = 5 → AW Γ mX11_readLineOf (zF Γ zG Q) zG 0 0 96 [some (vR 109), some (vI l)] [] mem := by
    intro e
    subst e
    refine aw_aload_n dX11_readLineOf_96 rfl rfl ?_
    refine aw_callV [] _ dX11_readLineOf_97 rfl clv_X11_156 (by decide) ⟨Nat.zero_le _, Nat.zero_le _⟩ g109 (by rfl) (Nat.le_of_ble_eq_true rfl) rfl ?_
    refine sR_readMemoR r tp hR (fun s hs => ⟨(hw s hs).1, (hw s hs).2.2⟩) (fun m1 h1 => ?_)
    refine aw_goto (tgt := 117) dX11_readLineOf_100 (by decide) ?_
    refine aw_return dX11_readLineOf_117 rfl ?_
    exact k _ h1
  have s103 : l = 3 ∨ l = 4 → AW Γ mX11_readLineOf (zF Γ zG Q) zG 0 0 103 [some (vR 109), some (vI l)] [] mem := by
    intro e
    have hq : ∀ (o : Int), o = (if l = 4 then 1 else 0) → ∀ m1, RefR mem0 (r.bind (spudP (mem0 114) (mem0 109 13) o)) m1 → Q none m1 := by
      intro o ho m1 h1
      refine k m1 ?_
      subst ho
      have ef : lineOfP (mem0 114) (mem0 109 13) l = spudP (mem0 114) (mem0 109 13) (if l = 4 then 1 else 0) := by
        funext s
        unfold lineOfP
        rw [if_neg (by omega), if_neg (by omega), if_neg (by omega), if_neg (by omega)]
      rw [ef]
      exact h1
    refine aw_aload_n dX11_readLineOf_103 rfl rfl ?_
    refine aw_iload_n dX11_readLineOf_104 rfl rfl ?_
    refine aw_iconst dX11_readLineOf_105 rfl ?_
    refine aw_icmp_ne (tgt := 113) dX11_readLineOf_106 (by decide) rfl (by omega) (by omega) (fun c106 => ?_) (fun c106 => ?_)
    · refine aw_iconst dX11_readLineOf_113 rfl ?_
      refine aw_callV [_] _ dX11_readLineOf_114 rfl clv_X11_159 (by decide) ⟨Nat.zero_le _, Nat.zero_le _⟩ g109 (by rfl) (Nat.le_of_ble_eq_true rfl) rfl ?_
      refine sR_readSpudR (by omega) r tp hR (fun s hs => (hw s hs).2.1) (h46 e) hd (fun m1 h1 => ?_)
      refine aw_return dX11_readLineOf_117 rfl ?_
      first | (have hz : (1 : Int) = (if l = 4 then 1 else 0) := (if_pos (by omega)).symm; exact hq 1 hz m1 h1) | (have hz : (0 : Int) = (if l = 4 then 1 else 0) := (if_neg (by omega)).symm; exact hq 0 hz m1 h1)
    · refine aw_iconst dX11_readLineOf_109 rfl ?_
      refine aw_goto (tgt := 114) dX11_readLineOf_110 (by decide) ?_
      refine aw_callV [_] _ dX11_readLineOf_114 rfl clv_X11_159 (by decide) ⟨Nat.zero_le _, Nat.zero_le _⟩ g109 (by rfl) (Nat.le_of_ble_eq_true rfl) rfl ?_
      refine sR_readSpudR (by omega) r tp hR (fun s hs => (hw s hs).2.1) (h46 e) hd (fun m1 h1 => ?_)
      refine aw_return dX11_readLineOf_117 rfl ?_
      first | (have hz : (1 : Int) = (if l = 4 then 1 else 0) := (if_pos (by omega)).symm; exact hq 1 hz m1 h1) | (have hz : (0 : Int) = (if l = 4 then 1 else 0) := (if_neg (by omega)).symm; exact hq 0 hz m1 h1)
  refine AMet.of' 0 (ls := [some (vR (109)), some (vI (l))]) (by decide) rfl (Nat.le_of_ble_eq_true rfl) ?_
  refine aw_iload_n dX11_readLineOf_0 rfl rfl ?_
  refine aw_tsw (tgt := 103) dX11_readLineOf_1 (by omega) (by decide) (by decide) (fun c1 => ?_) ?_ (by decide)
  · first | exact s103 (by omega) | (exfalso; omega)
  · intro jz offz hoz hj1 tz htz hpz
    match jz, hoz with
    | 0, hoz =>
      obtain rfl : (39 : Int) = offz := Option.some.inj hoz
      obtain rfl : tz = 40 := by omega
      exact s40 (by omega)
    | 1, hoz =>
      obtain rfl : (81 : Int) = offz := Option.some.inj hoz
      obtain rfl : tz = 82 := by omega
      exact s82 (by omega)
    | 2, hoz =>
      obtain rfl : (88 : Int) = offz := Option.some.inj hoz
      obtain rfl : tz = 89 := by omega
      exact s89 (by omega)
    | 3, hoz =>
      obtain rfl : (102 : Int) = offz := Option.some.inj hoz
      obtain rfl : tz = 103 := by omega
      first | exact s103 (by omega) | (exfalso; omega)
    | 4, hoz =>
      obtain rfl : (102 : Int) = offz := Option.some.inj hoz
      obtain rfl : tz = 103 := by omega
      first | exact s103 (by omega) | (exfalso; omega)
    | 5, hoz =>
      obtain rfl : (95 : Int) = offz := Option.some.inj hoz
      obtain rfl : tz = 96 := by omega
      exact s96 (by omega)
    | jz + 6, hoz => exact absurd hoz (by simp)
end ZRef33
