theorem cli_L_9 : CLI RL 9 mX10_init := ⟨Or.inl (zin 71 (by decide +kernel) rfl), (zin 49 (by decide +kernel) rfl), (zin 73 (by decide +kernel) rfl), rfl, by decide +kernel, rfl, (zin 72 (by decide +kernel) rfl)⟩
theorem cli_L_12 : CLI RL 12 mX11_init := ⟨Or.inl (zin 1101 (by decide +kernel) rfl), (zin 61 (by decide +kernel) rfl), (zin 1103 (by decide +kernel) rfl), rfl, by decide +kernel, rfl, (zin 1102 (by decide +kernel) rfl)⟩
theorem zEx.len {n : Nat} {Γ Γ' : ZG} (h : zEx n Γ Γ') : Γ'.2.2.2.2.1 = Γ.2.2.2.2.1 := by
  obtain ⟨kA, ad, rfl, -⟩ := h
  rfl
theorem D0_Rok : Rok 3 D0 := by
  have hw : Wf (P0.1 5) P0.2 := P0_DW.wf ⟨by decide, by decide, by decide⟩
  have h46 : D0 46 = 0 := rfl
  have h45 : D0 45 = 0 := rfl
  exact ⟨hw, fun p q _ hq => absurd hq (by rw [h46]; omega), by rw [h45]; omega⟩
/-- the two objects just made agree -/
theorem Inv0 {m0 m1 m2 m3 m4 m5 mA n1 n2 : Mem} (hz : ∀ c : Nat, m0 c = fun _ => 0) (f1 : FrI m1 m0 2 7) (f2 : FrI m2 m1 18 23) (f3 : FrI m3 m2 35 40) (f4 : FrI m4 m3 51 56) (f5 : FrI m5 m4 71 76)
    (hf : ∀ f : Int → Int, f 24 = 1 → f 25 = 1 → f 26 = 0 → (∀ x : Int, 0 ≤ x → x < 24 → f x = 0) → FiR m1 2 3 f ∧ FiR m2 18 3 f ∧ FiR m3 35 3 f ∧ FiR m4 51 3 f ∧ FiR m5 71 3 f)
    (hA : mA = mset (mset (mset (mset m5 96 2 (-4)) 98 2 (-4)) 100 2 (-4)) 102 2 (-4))
    (g1 : FrX n1 (mset (mset (mset (mset mA 118 0 (-4)) 118 (0 + 1) (-4)) 118 (0 + 1 + 1) (-4)) 118 (0 + 1 + 1 + 1) (-4)) [109, 113]) (g2 : n1 113 = D0) (g3 : n1 109 5 = 3 ∧ n1 109 6 = 0 ∧ n1 109 7 = 0 ∧ n1 109 8 = 0 ∧ n1 109 9 = -4 ∧ n1 109 10 = -4 ∧ n1 109 11 = -4) (g4 : ∀ j : Int, j < 5 ∨ 11 < j → n1 109 j = mA 109 j) (g5 : KeepO n1 n2) : Inv n2 := by
  obtain ⟨k1, k2, k3, k4, k5⟩ := g5
  have a5 : ∀ c : Nat, ¬ (2 ≤ c ∧ c < 7) → ¬ (18 ≤ c ∧ c < 23) → ¬ (35 ≤ c ∧ c < 40) → ¬ (51 ≤ c ∧ c < 56) → ¬ (71 ≤ c ∧ c < 76) → m5 c = fun _ => 0 := fun c h1 h2 h3 h4 h5 => by
    rw [f5 c (by omega), f4 c (by omega), f3 c (by omega), f2 c (by omega), f1 c (by omega), hz c]
  have aA : ∀ c : Nat, c ≠ 96 → c ≠ 98 → c ≠ 100 → c ≠ 102 → mA c = m5 c := fun c h1 h2 h3 h4 => by
    rw [hA]; exact (mc_ne h4).trans ((mc_ne h3).trans ((mc_ne h2).trans (mc_ne h1)))
  have aX : ∀ x : Nat, x < 4 → mA (96 + 2 * x) = fset (fun _ => 0) 2 (-4) := fun x hx => by
    have e96 := a5 96 (by omega) (by omega) (by omega) (by omega) (by omega)
    have e98 := a5 98 (by omega) (by omega) (by omega) (by omega) (by omega)
    have e100 := a5 100 (by omega) (by omega) (by omega) (by omega) (by omega)
    have e102 := a5 102 (by omega) (by omega) (by omega) (by omega) (by omega)
    rw [hA]
    obtain rfl | rfl | rfl | rfl : x = 0 ∨ x = 1 ∨ x = 2 ∨ x = 3 := by omega
    · rw [← e96]; simp [mset, mcell]
    · rw [← e98]; simp [mset, mcell]
    · rw [← e100]; simp [mset, mcell]
    · rw [← e102]; simp [mset, mcell]
  have b1 : ∀ c : Nat, c ≠ 109 → c ≠ 113 → c ≠ 118 → n1 c = mA c := fun c h1 h2 h3 => by
    rw [g1 c (by simp only [List.mem_cons, List.not_mem_nil, or_false]; omega)]
    exact (mc_ne h3).trans ((mc_ne h3).trans ((mc_ne h3).trans (mc_ne h3)))
  have b118 : ∀ x : Nat, x < 4 → n1 118 x = -4 := fun x hx => by
    rw [g1 118 (by simp only [List.mem_cons, List.not_mem_nil, or_false]; omega)]
    obtain rfl | rfl | rfl | rfl : x = 0 ∨ x = 1 ∨ x = 2 ∨ x = 3 := by omega
    · simp [mset, mcell, fset]
    · simp [mset, mcell, fset]
    · simp [mset, mcell, fset]
    · simp [mset, mcell, fset]
  have c1 : ∀ c : Nat, c ≠ 109 → c ≠ 110 → c ≠ 112 → n2 c = n1 c := fun c h1 h2 h3 => k1 c (by simp only [List.mem_cons, List.not_mem_nil, or_false]; omega)
  have d : ∀ c : Nat, c < 103 ∨ 111 = c ∨ 114 ≤ c → c ≠ 118 → c ≠ 96 → c ≠ 98 → c ≠ 100 → c ≠ 102 → n2 c = m5 c := fun c h0 h1 h2 h3 h4 h5 => by
    rw [c1 c (by omega) (by omega) (by omega), b1 c (by omega) (by omega) (by omega), aA c h2 h3 h4 h5]
  have z : ∀ c : Nat, c < 103 ∨ 111 = c ∨ 114 ≤ c → c ≠ 118 → c ≠ 96 → c ≠ 98 → c ≠ 100 → c ≠ 102 → ¬ (2 ≤ c ∧ c < 7) → ¬ (18 ≤ c ∧ c < 23) → ¬ (35 ≤ c ∧ c < 40) → ¬ (51 ≤ c ∧ c < 56) → ¬ (71 ≤ c ∧ c < 76) → n2 c = fun _ => 0 := fun c h0 h1 h2 h3 h4 h5 h6 h7 h8 h9 h10 => by
    rw [d c h0 h1 h2 h3 h4 h5]; exact a5 c h6 h7 h8 h9 h10
  have e3 : n2 109 3 = 3 := by rw [k3, g3.1]
  have e109 : ∀ j : Int, 11 < j → n2 109 j = 0 := fun j hj => by
    rw [k4 j (by omega), g4 j (by omega), aA 109 (by omega) (by omega) (by omega) (by omega), a5 109 (by omega) (by omega) (by omega) (by omega) (by omega)]
  have ec : ∀ j : Int, 0 ≤ j → j < 115 → n2 110 j = D0 j := fun j p q => by
    rw [k2, g2]
    unfold fcopy
    rw [if_pos (by omega)]
    congr 1
    omega
  have z0 := z 0 (by omega) (by omega) (by omega) (by omega) (by omega) (by omega) (by omega) (by omega) (by omega) (by omega) (by omega)
  have z1 := z 1 (by omega) (by omega) (by omega) (by omega) (by omega) (by omega) (by omega) (by omega) (by omega) (by omega) (by omega)
  have z66 := z 66 (by omega) (by omega) (by omega) (by omega) (by omega) (by omega) (by omega) (by omega) (by omega) (by omega) (by omega)
  have z68 := z 68 (by omega) (by omega) (by omega) (by omega) (by omega) (by omega) (by omega) (by omega) (by omega) (by omega) (by omega)
  have z69 := z 69 (by omega) (by omega) (by omega) (by omega) (by omega) (by omega) (by omega) (by omega) (by omega) (by omega) (by omega)
  have z94 := z 94 (by omega) (by omega) (by omega) (by omega) (by omega) (by omega) (by omega) (by omega) (by omega) (by omega) (by omega)
  have z114 := z 114 (by omega) (by omega) (by omega) (by omega) (by omega) (by omega) (by omega) (by omega) (by omega) (by omega) (by omega)
  have z120 := z 120 (by omega) (by omega) (by omega) (by omega) (by omega) (by omega) (by omega) (by omega) (by omega) (by omega) (by omega)
  have ev : Ev n2 1 3 D0 := by
    have q := (hf D0 rfl rfl rfl (fun x p q => by unfold D0; rw [if_neg (by omega), if_neg (by omega)])).1
    have fr : ∀ c : Nat, 2 ≤ c → c < 7 → n2 c = m1 c := fun c p q => by
      rw [d c (by omega) (by omega) (by omega) (by omega) (by omega) (by omega), f5 c (by omega), f4 c (by omega), f3 c (by omega), f2 c (by omega)]
    refine ⟨?_, ?_, fun p hp => ?_, fun i p q => ?_⟩
    · unfold FiR at q ⊢
      rw [fr (1 + 1) (by omega) (by omega), fr (1 + 1 + 1) (by omega) (by omega), fr (1 + 1 + 2) (by omega) (by omega), fr (1 + 1 + 3) (by omega) (by omega), fr (1 + 1 + 4) (by omega) (by omega)]
      exact q
    · rw [z1]
      exact ⟨rfl, rfl, rfl, rfl⟩
    · have : D0 46 = 0 := rfl
      omega
    · have : D0 96 = 0 := rfl
      omega
  refine ⟨⟨by rw [e3]; exact D0_Rok.congr ec, by rw [e3]; exact ev.row D0_Rok.1 ec⟩, ⟨?_, ?_, ?_⟩, ⟨?_, ?_, ?_, ?_⟩, fun i hi => ?_, fun x hx => ?_, fun y _ _ => ?_, fun p hp => ?_⟩
  · rw [z68, e109 13 (by omega)]
  · rw [z69, z114]
  · unfold TpOK
    rw [e109 13 (by omega)]
    exact ⟨by omega, fun i a b => by omega⟩
  · rw [z0, e109 18 (by omega)]
  · rw [z0, e109 26 (by omega)]
  · rw [e109 17 (by omega)]; omega
  · rw [z94]
  · rw [z66]
    obtain rfl | rfl : i = 0 ∨ i = 1 := by omega
    · have y2 : n2 112 ((0 : Nat) : Int) = 0 := k5.1
      exact ⟨y2.symm, Or.inl y2⟩
    · have y2 : n2 112 ((1 : Nat) : Int) = 0 := k5.2
      exact ⟨y2.symm, Or.inl y2⟩
  · have e1 : n2 (96 + 2 * x) = fset (fun _ => 0) 2 (-4) := by
      rw [c1 _ (by omega) (by omega) (by omega), b1 _ (by omega) (by omega) (by omega)]
      exact aX x hx
    have e2 : n2 118 x = -4 := by rw [c1 118 (by omega) (by omega) (by omega)]; exact b118 x hx
    refine Or.inl ⟨e2, ?_, ?_⟩
    · rw [e1, fset_same]
    · rw [e1, fset_ne (by omega)]; omega
  · rw [z120]; dsimp only; omega
  · rw [z (80 + p) (by omega) (by omega) (by omega) (by omega) (by omega) (by omega) (by omega) (by omega) (by omega) (by omega) (by omega)]; dsimp only; omega
section ZGo
variable {Γ : ZG}
theorem lw_go (hn : Γ.2.2.2.2.1 ≤ 320) : AW Γ mL_law lF [] 0 0 0 [some (vR 9999), none, none, none] [] (fun _ _ => 0) := by
  have hW0 : zWf 0 [] := ⟨rfl, by omega, fun g hg => by cases hg⟩
  refine aw_new (n := 0) (G' := [.inr (.inr (10, [some none, some none, some none, some none, some none, some none, some none, some none, some none, some none, none, none]))]) dL_law_0 rfl fr_X10 (zin 69 (by decide +kernel) rfl) (zin 70 (by decide +kernel) rfl) (zin 49 (by decide +kernel) rfl) hW0 (by omega) (zlv.mk (And.intro (Or.inr (by omega)) trivial) trivial) rfl (Nat.le_of_ble_eq_true rfl) (Nat.le_of_ble_eq_true rfl) rfl (fun Γ1 e1 hW1 => ?_)
  refine aw_dup dL_law_3 rfl rfl ?_
  refine aw_callN (n := 1) (mc := 108) (ms := 1240) (G' := zG.take 109) [vR 0] dL_law_4 rfl cli_L_9 rfl rfl (by decide) ⟨Nat.le_of_ble_eq_true rfl, Nat.le_of_ble_eq_true rfl⟩ (Nat.le_of_ble_eq_true rfl) (zlv.mk (And.intro (Or.inr (by omega)) trivial) (And.intro (Or.inl (by omega)) trivial)) ?_
  refine sN_X10 (fun _ _ => rfl) hW1 (fun Γ2 m1 m2 m3 m4 m5 e2 hW2 f1 f2 f3 f4 f5 hf => ?_)
  generalize hA : mset (mset (mset (mset m5 96 2 (-4)) 98 2 (-4)) 100 2 (-4)) 102 2 (-4) = mA
  have hz : ∀ c : Nat, 103 ≤ c → mA c = fun _ => 0 := fun c hc => by
    rw [← hA]
    refine ((mc_ne (by omega)).trans ((mc_ne (by omega)).trans ((mc_ne (by omega)).trans (mc_ne (by omega))))).trans ?_
    rw [f5 c (by omega), f4 c (by omega), f3 c (by omega), f2 c (by omega), f1 c (by omega)]
  refine aw_astore1 rfl dL_law_7 rfl (by decide) ?_
  refine aw_new (n := 109) (G' := zG.take 109 ++ [.inr (.inr (11, [some none, some none, some none, none, some none, none, none, none, none, none, none, none, some none, none, none, none, none, none, none, none, some none, some none, some none, some none, some none, some none, none]))]) dL_law_8 rfl fr_X11 (zin 1099 (by decide +kernel) rfl) (zin 1100 (by decide +kernel) rfl) (zin 61 (by decide +kernel) rfl) hW2 (by omega) (zlv.mk (And.intro (Or.inr (by omega)) (And.intro (Or.inl (by omega)) trivial)) trivial) (hz 109 (by omega)) (Nat.le_of_ble_eq_true rfl) (Nat.le_of_ble_eq_true rfl) rfl (fun Γ3 e3 hW3 => ?_)
  refine aw_dup dL_law_11 rfl rfl ?_
  refine aw_callN (n := 110) (mc := 11) (ms := 981) (G' := zG) [vR 109] dL_law_12 rfl cli_L_12 rfl rfl (by decide) ⟨Nat.le_of_ble_eq_true rfl, Nat.le_of_ble_eq_true rfl⟩ (Nat.le_of_ble_eq_true rfl) (zlv.mk (And.intro (Or.inr (by omega)) (And.intro (Or.inl (by omega)) trivial)) (And.intro (Or.inl (by omega)) trivial)) ?_
  refine sN_X11 (fun c hc => hz c (by omega)) hW3 (fun Γ4 n1 n2 e4 hW4 g1 g2 g3 g4 g5 => ?_)
  have hI : Inv n2 := Inv0 (fun _ => rfl) f1 f2 f3 f4 f5 hf hA.symm g1 g2 g3 g4 g5
  refine aw_astore2 rfl dL_law_15 rfl (by decide) ?_
  refine aw_iconst dL_law_16 rfl ?_
  refine aw_istore3 rfl dL_law_17 rfl (by decide) ?_
  have hl : Γ4.2.2.2.2.1 ≤ 320 := by rw [e4.len, e3.len, e2.len, e1.len]; exact hn
  exact lw_loop hl 321 0 n2 hI (by omega) (by omega) (by omega)
end ZGo
