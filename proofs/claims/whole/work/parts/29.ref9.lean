theorem Wf_24 {n v : Int} {f : Int → Int} (h : Wf n f) (hv : 0 ≤ v ∧ v ≤ 9) : Wf n (fset f 24 v) := by
  obtain ⟨hn, hH, h24, h25, h26, hw, h46, hs, h95, h96, hf⟩ := h
  have out : ∀ j : Int, j ≠ 24 → fset f 24 v j = f j := fun j hj => fset_ne hj
  refine ⟨hn, fun x a b => ?_, ?_, ?_, ?_, fun i a b => ?_, ?_, fun q a b => ?_, ?_, ?_, fun i a b => ?_⟩
  · rw [out x (by omega)]; exact hH x a b
  · rw [fset_same]; exact hv
  · rw [out 25 (by omega)]; exact h25
  · rw [out 26 (by omega)]; exact h26
  · rw [out 26 (by omega)] at b
    unfold WdW
    rw [out _ (by omega), out _ (by omega), out _ (by omega)]
    exact hw i a b
  · rw [out 46 (by omega)]; exact h46
  · rw [out 46 (by omega)] at b
    unfold SpW
    rw [out _ (by omega), out _ (by omega), out _ (by omega), out _ (by omega), out _ (by omega), out _ (by omega), out _ (by omega), out _ (by omega)]
    exact hs q a b
  · rw [out 95 (by omega)]; exact h95
  · rw [out 96 (by omega)]; exact h96
  · rw [out 96 (by omega)] at b
    unfold FeW
    rw [out _ (by omega), out _ (by omega), out _ (by omega)]
    exact hf i a b
theorem Wf_25 {n v : Int} {f : Int → Int} (h : Wf n f) (hv : 0 ≤ v ∧ v ≤ 9) : Wf n (fset f 25 v) := by
  obtain ⟨hn, hH, h24, h25, h26, hw, h46, hs, h95, h96, hf⟩ := h
  have out : ∀ j : Int, j ≠ 25 → fset f 25 v j = f j := fun j hj => fset_ne hj
  refine ⟨hn, fun x a b => ?_, ?_, ?_, ?_, fun i a b => ?_, ?_, fun q a b => ?_, ?_, ?_, fun i a b => ?_⟩
  · rw [out x (by omega)]; exact hH x a b
  · rw [out 24 (by omega)]; exact h24
  · rw [fset_same]; exact hv
  · rw [out 26 (by omega)]; exact h26
  · rw [out 26 (by omega)] at b
    unfold WdW
    rw [out _ (by omega), out _ (by omega), out _ (by omega)]
    exact hw i a b
  · rw [out 46 (by omega)]; exact h46
  · rw [out 46 (by omega)] at b
    unfold SpW
    rw [out _ (by omega), out _ (by omega), out _ (by omega), out _ (by omega), out _ (by omega), out _ (by omega), out _ (by omega), out _ (by omega)]
    exact hs q a b
  · rw [out 95 (by omega)]; exact h95
  · rw [out 96 (by omega)]; exact h96
  · rw [out 96 (by omega)] at b
    unfold FeW
    rw [out _ (by omega), out _ (by omega), out _ (by omega)]
    exact hf i a b
/-- what was felt (number k) is so with another fall and rim -/
abbrev soC (n : Int) (f : Int → Int) (fall rim : Int) (k : Int) : Prop := roundsF n (f (97 + 3 * k)).toNat (fset (fset f 24 fall) 25 rim) (f (97 + 3 * k + 1)) = f (97 + 3 * k + 2)
def soP (n : Int) (f : Int → Int) (fall rim : Int) : Prop := ∀ k : Int, 0 ≤ k → k < f 96 → soC n f fall rim k
section ZRef9
variable {Γ : ZG} {mem : Mem} {Q : Option AV → Mem → Prop}
theorem sR_isSo {n fall rim : Int} (h : Wf n (mem 110)) (hm : mem 109 3 = n) (h1 : 0 ≤ fall ∧ fall ≤ 9) (h2 : 0 ≤ rim ∧ rim ≤ 9) (k1 : soP n (mem 110) fall rim → ∀ g, Q (some (vI 1)) (mcell mem 111 g)) (k0 : ¬ soP n (mem 110) fall rim → ∀ g, Q (some (vI 0)) (mcell mem 111 g)) : AMet Γ mX11_isSo [vR 109, vI fall, vI rim] zG mem Q := by
  have h96 := h.2.2.2.2.2.2.2.2.2.1
  have hf := h.2.2.2.2.2.2.2.2.2.2
  have hn := h.1
  have hW : Wf n (fset (fset (mem 110) 24 fall) 25 rim) := Wf_25 (Wf_24 h h1) h2
  have inner : ∀ (i : Nat), i < 21 → (∀ is : Int, (is = 1 ∧ (∀ k : Int, 0 ≤ k → k < mem 110 96 → mem 110 (97 + 3 * k) < (i : Int) + 1 → soC n (mem 110) fall rim k)) ∨ (is = 0 ∧ ¬ (∀ k : Int, 0 ≤ k → k < mem 110 96 → mem 110 (97 + 3 * k) < (i : Int) + 1 → soC n (mem 110) fall rim k)) → ∀ x5 x6 : Option AV, zlong x5 = false → AW Γ mX11_isSo (zF Γ zG Q) zG 0 0 112 [some (vR 109), some (vI fall), some (vI rim), some (vI is), some (vI i), x5, x6] [] (mcell mem 111 (roundsF n i (fset (fset (mem 110) 24 fall) 25 rim)))) → ∀ (d : Nat) (j : Int) (is : Int) (x6 : Option AV), j + d = mem 110 96 → 0 ≤ j → (is = 1 ∧ (∀ k : Int, 0 ≤ k → k < mem 110 96 → mem 110 (97 + 3 * k) < i → soC n (mem 110) fall rim k) ∧ (∀ k : Int, 0 ≤ k → k < j → mem 110 (97 + 3 * k) = i → soC n (mem 110) fall rim k)) ∨ (is = 0 ∧ ¬ ((∀ k : Int, 0 ≤ k → k < mem 110 96 → mem 110 (97 + 3 * k) < i → soC n (mem 110) fall rim k) ∧ (∀ k : Int, 0 ≤ k → k < j → mem 110 (97 + 3 * k) = i → soC n (mem 110) fall rim k))) → AW Γ mX11_isSo (zF Γ zG Q) zG 0 0 35 [some (vR 109), some (vI fall), some (vI rim), some (vI is), some (vI i), some (vI j), x6] [] (mcell mem 111 (roundsF n i (fset (fset (mem 110) 24 fall) 25 rim))) := by
    intro i hi hk d
    induction d with
    | zero =>
      intro j is x6 hj h0 his
      refine aw_iload dX11_isSo_35 rfl rfl ?_
      refine aw_aload_n dX11_isSo_37 rfl rfl ?_
      refine aw_getR dX11_isSo_38 rfl fl_X11_7 g109 (by rfl) ?_
      refine aw_bipush dX11_isSo_41 rfl (by decide) ?_
      refine aw_iaload dX11_isSo_43 rfl g110 (by decide) (by omega) ?_
      try simp only [mcell_ap, mset_ap, Nat.reduceEqDiff, reduceIte]
      refine aw_icmp_ge (tgt := 112) dX11_isSo_44 (by decide) rfl (by omega) (by omega) (fun c44 => ?_) (fun c44 => ?_)
      · refine hk is ?_ _ _ rfl
        rcases his with ⟨e, a, b⟩ | ⟨e, a⟩
        · refine Or.inl ⟨e, fun k p1 p2 p3 => ?_⟩
          by_cases c : mem 110 (97 + 3 * k) < i
          · exact a k p1 p2 c
          · exact b k p1 (by omega) (by omega)
        · exact Or.inr ⟨e, fun z => a ⟨fun k p1 p2 p3 => z k p1 p2 (by omega), fun k p1 p2 p3 => z k p1 (by omega) (by omega)⟩⟩
      · exfalso; omega
    | succ d ih =>
      intro j is x6 hj h0 his
      obtain ⟨f1, f2, f3⟩ := hf j h0 (by omega)
      obtain ⟨w1, w2, w3, w4⟩ := roundsF_Wf i _ hW
      have hht := w1.2.1 (mem 110 (97 + 3 * j + 1)) (by omega) (by omega)
      have ex : (0 : Int) + mem 110 (97 + 3 * j + 1) = mem 110 (97 + 3 * j + 1) := by omega
      have his2 : is = 0 ∨ is = 1 := by rcases his with ⟨e, -⟩ | ⟨e, -⟩ <;> omega
      have eqv : mem 110 (97 + 3 * j) = i → (soC n (mem 110) fall rim j ↔ roundsF n i (fset (fset (mem 110) 24 fall) 25 rim) (mem 110 (97 + 3 * j + 1)) = mem 110 (97 + 3 * j + 2)) := by
        intro e
        unfold soC
        rw [show (mem 110 (97 + 3 * j)).toNat = i by omega]
      have good : (¬ is = 0 → (mem 110 (97 + 3 * j) = i → soC n (mem 110) fall rim j) → AW Γ mX11_isSo (zF Γ zG Q) zG 0 0 35 [some (vR 109), some (vI fall), some (vI rim), some (vI 1), some (vI i), some (vI (j + 1)), some (vI (97 + 3 * j))] [] (mcell mem 111 (roundsF n i (fset (fset (mem 110) 24 fall) 25 rim)))) := by
        intro hne hs
        refine ih (j + 1) 1 _ (by omega) (by omega) (Or.inl ⟨rfl, ?_⟩)
        rcases his with ⟨e, a, b⟩ | ⟨e, a⟩
        · refine ⟨a, fun k p1 p2 p3 => ?_⟩
          by_cases c : k = j
          · subst c; exact hs p3
          · exact b k p1 (by omega) p3
        · omega
      have bad : (is = 0 ∨ (mem 110 (97 + 3 * j) = i ∧ ¬ soC n (mem 110) fall rim j)) → AW Γ mX11_isSo (zF Γ zG Q) zG 0 0 35 [some (vR 109), some (vI fall), some (vI rim), some (vI 0), some (vI i), some (vI (j + 1)), some (vI (97 + 3 * j))] [] (mcell mem 111 (roundsF n i (fset (fset (mem 110) 24 fall) 25 rim))) := by
        intro hs
        refine ih (j + 1) 0 _ (by omega) (by omega) (Or.inr ⟨rfl, fun z => ?_⟩)
        rcases hs with e | ⟨e, hs⟩
        · rcases his with ⟨e2, -⟩ | ⟨e2, a⟩
          · omega
          · exact a ⟨z.1, fun k p1 p2 p3 => z.2 k p1 (by omega) p3⟩
        · exact hs (z.2 j h0 (by omega) e)
      refine aw_iload dX11_isSo_35 rfl rfl ?_
      refine aw_aload_n dX11_isSo_37 rfl rfl ?_
      refine aw_getR dX11_isSo_38 rfl fl_X11_7 g109 (by rfl) ?_
      refine aw_bipush dX11_isSo_41 rfl (by decide) ?_
      refine aw_iaload dX11_isSo_43 rfl g110 (by decide) (by omega) ?_
      try simp only [mcell_ap, mset_ap, Nat.reduceEqDiff, reduceIte]
      refine aw_icmp_ge (tgt := 112) dX11_isSo_44 (by decide) rfl (by omega) (by omega) (fun c44 => ?_) (fun c44 => ?_)
      · exfalso; omega
      · refine aw_bipush dX11_isSo_47 rfl (by decide) ?_
        refine aw_iconst dX11_isSo_49 rfl ?_
        refine aw_iload dX11_isSo_50 rfl rfl ?_
        refine aw_imul dX11_isSo_52 rfl ?_
        refine aw_iadd dX11_isSo_53 rfl ?_
        refine aw_istore6 rfl dX11_isSo_54 rfl (by decide) ?_
        refine aw_iload_n dX11_isSo_56 rfl rfl ?_
        refine aw_if_eq (tgt := 104) dX11_isSo_57 (by decide) rfl (by omega) (fun c57 => ?_) (fun c57 => ?_)
        · refine aw_iconst dX11_isSo_104 rfl ?_
          refine aw_istore3 rfl dX11_isSo_105 rfl (by decide) ?_
          refine aw_iinc5 rfl dX11_isSo_106 rfl (by decide) ?_
          refine aw_goto (tgt := 35) dX11_isSo_109 (by decide) ?_
          first | (have hz := c97; first | (have hq := (eqv c69).mpr hz; exact good c57 (fun _ => hq)) | (have hq := fun y => hz ((eqv c69).mp y); exact bad (Or.inr ⟨c69, hq⟩))) | (have hz : ¬ mem 110 (97 + 3 * j) = i := c69; exact good c57 (fun y => absurd y hz)) | exact bad (Or.inl c57)
        · refine aw_aload_n dX11_isSo_60 rfl rfl ?_
          refine aw_getR dX11_isSo_61 rfl fl_X11_7 g109 (by rfl) ?_
          refine aw_iload dX11_isSo_64 rfl rfl ?_
          refine aw_iaload dX11_isSo_66 rfl g110 (by decide) (by omega) ?_
          try simp only [mcell_ap, mset_ap, Nat.reduceEqDiff, reduceIte]
          refine aw_iload dX11_isSo_67 rfl rfl ?_
          refine aw_icmp_ne (tgt := 100) dX11_isSo_69 (by decide) rfl (by omega) (by omega) (fun c69 => ?_) (fun c69 => ?_)
          · refine aw_iconst dX11_isSo_100 rfl ?_
            refine aw_goto (tgt := 105) dX11_isSo_101 (by decide) ?_
            refine aw_istore3 rfl dX11_isSo_105 rfl (by decide) ?_
            refine aw_iinc5 rfl dX11_isSo_106 rfl (by decide) ?_
            refine aw_goto (tgt := 35) dX11_isSo_109 (by decide) ?_
            first | (have hz := c97; first | (have hq := (eqv c69).mpr hz; exact good c57 (fun _ => hq)) | (have hq := fun y => hz ((eqv c69).mp y); exact bad (Or.inr ⟨c69, hq⟩))) | (have hz : ¬ mem 110 (97 + 3 * j) = i := c69; exact good c57 (fun y => absurd y hz)) | exact bad (Or.inl c57)
          · refine aw_aload_n dX11_isSo_72 rfl rfl ?_
            refine aw_getR dX11_isSo_73 rfl fl_X11_13 g109 (by rfl) ?_
            refine aw_iconst dX11_isSo_76 rfl ?_
            refine aw_aload_n dX11_isSo_77 rfl rfl ?_
            refine aw_getR dX11_isSo_78 rfl fl_X11_7 g109 (by rfl) ?_
            refine aw_iload dX11_isSo_81 rfl rfl ?_
            refine aw_iconst dX11_isSo_83 rfl ?_
            refine aw_iadd dX11_isSo_84 rfl ?_
            refine aw_iaload dX11_isSo_85 rfl g110 (by decide) (by omega) ?_
            try simp only [mcell_ap, mset_ap, Nat.reduceEqDiff, reduceIte]
            refine aw_iadd dX11_isSo_86 rfl ?_
            refine aw_iaload dX11_isSo_87 rfl g111 (by decide) (by omega) ?_
            try simp only [mcell_ap, mset_ap, Nat.reduceEqDiff, reduceIte]
            rw [ex]
            refine aw_aload_n dX11_isSo_88 rfl rfl ?_
            refine aw_getR dX11_isSo_89 rfl fl_X11_7 g109 (by rfl) ?_
            refine aw_iload dX11_isSo_92 rfl rfl ?_
            refine aw_iconst dX11_isSo_94 rfl ?_
            refine aw_iadd dX11_isSo_95 rfl ?_
            refine aw_iaload dX11_isSo_96 rfl g110 (by decide) (by omega) ?_
            try simp only [mcell_ap, mset_ap, Nat.reduceEqDiff, reduceIte]
            refine aw_icmp_ne (tgt := 104) dX11_isSo_97 (by decide) rfl (by omega) (by omega) (fun c97 => ?_) (fun c97 => ?_)
            · refine aw_iconst dX11_isSo_104 rfl ?_
              refine aw_istore3 rfl dX11_isSo_105 rfl (by decide) ?_
              refine aw_iinc5 rfl dX11_isSo_106 rfl (by decide) ?_
              refine aw_goto (tgt := 35) dX11_isSo_109 (by decide) ?_
              first | (have hz := c97; first | (have hq := (eqv c69).mpr hz; exact good c57 (fun _ => hq)) | (have hq := fun y => hz ((eqv c69).mp y); exact bad (Or.inr ⟨c69, hq⟩))) | (have hz : ¬ mem 110 (97 + 3 * j) = i := c69; exact good c57 (fun y => absurd y hz)) | exact bad (Or.inl c57)
            · refine aw_iconst dX11_isSo_100 rfl ?_
              refine aw_goto (tgt := 105) dX11_isSo_101 (by decide) ?_
              refine aw_istore3 rfl dX11_isSo_105 rfl (by decide) ?_
              refine aw_iinc5 rfl dX11_isSo_106 rfl (by decide) ?_
              refine aw_goto (tgt := 35) dX11_isSo_109 (by decide) ?_
              first | (have hz := c97; first | (have hq := (eqv c69).mpr hz; exact good c57 (fun _ => hq)) | (have hq := fun y => hz ((eqv c69).mp y); exact bad (Or.inr ⟨c69, hq⟩))) | (have hz : ¬ mem 110 (97 + 3 * j) = i := c69; exact good c57 (fun y => absurd y hz)) | exact bad (Or.inl c57)
  have outer : ∀ (d i : Nat) (is : Int) (x5 x6 : Option AV), zlong x5 = false → i + d = 21 → (is = 1 ∧ (∀ k : Int, 0 ≤ k → k < mem 110 96 → mem 110 (97 + 3 * k) < i → soC n (mem 110) fall rim k)) ∨ (is = 0 ∧ ¬ (∀ k : Int, 0 ≤ k → k < mem 110 96 → mem 110 (97 + 3 * k) < i → soC n (mem 110) fall rim k)) → AW Γ mX11_isSo (zF Γ zG Q) zG 0 0 25 [some (vR 109), some (vI fall), some (vI rim), some (vI is), some (vI i), x5, x6] [] (mcell mem 111 (roundsF n i (fset (fset (mem 110) 24 fall) 25 rim))) := by
    intro d
    induction d with
    | zero =>
      intro i is x5 x6 z5 hi his
      have his2 : is = 0 ∨ is = 1 := by rcases his with ⟨e, -⟩ | ⟨e, -⟩ <;> omega
      refine aw_iload dX11_isSo_25 rfl rfl ?_
      refine aw_bipush dX11_isSo_27 rfl (by decide) ?_
      refine aw_icmp_gt (tgt := 122) dX11_isSo_29 (by decide) rfl (by omega) (by omega) (fun c29 => ?_) (fun c29 => ?_)
      · refine aw_iload_n dX11_isSo_122 rfl rfl ?_
        refine aw_ireturn (ty := .boolean) dX11_isSo_123 rfl (znarZ (by omega)).1 ?_
        rcases his with ⟨rfl, a⟩ | ⟨rfl, a⟩
        · exact k1 (fun k p1 p2 => a k p1 p2 (by have := hf k p1 p2; unfold FeW at this; omega)) _
        · exact k0 (fun z => a (fun k p1 p2 _ => z k p1 p2)) _
      · exfalso; omega
    | succ d ih =>
      intro i is x5 x6 z5 hi his
      obtain ⟨w1, w2, w3, w4⟩ := roundsF_Wf i _ hW
      have key : ∀ is : Int, (is = 1 ∧ (∀ k : Int, 0 ≤ k → k < mem 110 96 → mem 110 (97 + 3 * k) < (i : Int) + 1 → soC n (mem 110) fall rim k)) ∨ (is = 0 ∧ ¬ (∀ k : Int, 0 ≤ k → k < mem 110 96 → mem 110 (97 + 3 * k) < (i : Int) + 1 → soC n (mem 110) fall rim k)) → ∀ x5 x6 : Option AV, zlong x5 = false → AW Γ mX11_isSo (zF Γ zG Q) zG 0 0 112 [some (vR 109), some (vI fall), some (vI rim), some (vI is), some (vI i), x5, x6] [] (mcell mem 111 (roundsF n i (fset (fset (mem 110) 24 fall) 25 rim))) := by
        intro is2 his2 y5 y6 zy
        have ih2 := ih (i + 1) is2 y5 y6 zy (by omega) his2
        rw [roundsF_s] at ih2
        refine aw_aload_n dX11_isSo_112 rfl rfl ?_
        refine aw_callV [] _ dX11_isSo_113 rfl clv_X11_196 (by decide) ⟨Nat.zero_le _, Nat.zero_le _⟩ g109 (by rfl) (Nat.le_of_ble_eq_true rfl) rfl ?_
        refine sR_rounds (n := n) (by rw [mcell_same]; exact w1) hm ?_
        rw [mcell_same, mcell_mcell]
        refine aw_iinc4 rfl dX11_isSo_116 rfl (by decide) ?_
        refine aw_goto (tgt := 25) dX11_isSo_119 (by decide) ?_
        exact ih2
      refine aw_iload dX11_isSo_25 rfl rfl ?_
      refine aw_bipush dX11_isSo_27 rfl (by decide) ?_
      refine aw_icmp_gt (tgt := 122) dX11_isSo_29 (by decide) rfl (by omega) (by omega) (fun c29 => ?_) (fun c29 => ?_)
      · exfalso; omega
      · refine aw_iconst dX11_isSo_32 rfl ?_
        refine aw_istore5 rfl dX11_isSo_33 rfl (by decide) ?_
        refine inner i (by omega) key (mem 110 96).toNat 0 is x6 (by omega) (by omega) ?_
        rcases his with ⟨e, a⟩ | ⟨e, a⟩
        · exact Or.inl ⟨e, a, fun k p1 p2 => by omega⟩
        · exact Or.inr ⟨e, fun z => a z.1⟩
  refine AMet.of' 4 (ls := [some (vR (109)), some (vI (fall)), some (vI (rim)), none, none, none, none]) (by decide) rfl (Nat.le_of_ble_eq_true rfl) ?_
  refine aw_iconst dX11_isSo_0 rfl ?_
  refine aw_istore3 rfl dX11_isSo_1 rfl (by decide) ?_
  refine aw_aload_n dX11_isSo_2 rfl rfl ?_
  refine aw_callV [] _ dX11_isSo_3 rfl clv_X11_222 (by decide) ⟨Nat.zero_le _, Nat.zero_le _⟩ g109 (by rfl) (Nat.le_of_ble_eq_true rfl) rfl ?_
  refine sR_starts2 ?_
  refine aw_aload_n dX11_isSo_6 rfl rfl ?_
  refine aw_getR dX11_isSo_7 rfl fl_X11_13 g109 (by rfl) ?_
  refine aw_bipush dX11_isSo_10 rfl (by decide) ?_
  refine aw_iload_n dX11_isSo_12 rfl rfl ?_
  refine aw_iastore dX11_isSo_13 rfl g111 (by decide) (by omega) ?_
  rw [mset_mcell]
  refine aw_aload_n dX11_isSo_14 rfl rfl ?_
  refine aw_getR dX11_isSo_15 rfl fl_X11_13 g109 (by rfl) ?_
  refine aw_bipush dX11_isSo_18 rfl (by decide) ?_
  refine aw_iload_n dX11_isSo_20 rfl rfl ?_
  refine aw_iastore dX11_isSo_21 rfl g111 (by decide) (by omega) ?_
  rw [mset_mcell]
  refine aw_iconst dX11_isSo_22 rfl ?_
  refine aw_istore4 rfl dX11_isSo_23 rfl (by decide) ?_
  exact outer 21 0 1 none none rfl (by omega) (Or.inl ⟨rfl, fun k p1 p2 p3 => by have := hf k p1 p2; unfold FeW at this; omega⟩)
end ZRef9
