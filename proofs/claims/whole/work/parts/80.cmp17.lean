theorem FrI.x {m' m : Mem} {lo hi : Nat} {L : List Nat} (h : FrI m' m lo hi) (hL : ∀ c : Nat, lo ≤ c → c < hi → c ∈ L) : FrX m' m L := fun c hc => h c (by
  by_cases h1 : lo ≤ c
  · by_cases h2 : c < hi
    · exact absurd (hL c h1 h2) hc
    · omega
  · omega)
section ZCmp17
variable {Γ : ZG} {mem : Mem} {Q : Option AV → Mem → Prop} {n : Int} {f : Int → Int}
theorem sC_search (wf : Wf n f) (h : Ev mem 1 n f) (k : ∀ m' : Mem, FrX m' mem [88, 89, 104, 105, 106] → m' 104 2 = (fitAt n f 100).1 → m' 104 3 = (fitAt n f 100).2.1 → m' 104 4 = (fitAt n f 100).2.2 → Q none m') : AMet Γ mX1_search [vR 104, vR 1, vR 87] zG mem Q := by
  have hn := wf.1
  have w46 := wf.n46
  have w96 := wf.2.2.2.2.2.2.2.2.2.1
  have wfe := wf.2.2.2.2.2.2.2.2.2.2
  have a5 : mem 1 5 = f 96 := h.2.1.2.2.2
  have evk : ∀ m : Mem, FrX m mem [88, 89, 104, 105, 106] → Ev m 1 n f := fun m hF => h.keep w46.2 (fun d d0 d1 => hF d (by simp; omega))
  have x88 : ∀ c : Nat, 88 ≤ c → c < 89 → c ∈ [88, 89, 104, 105, 106] := fun c a b => by obtain rfl : c = 88 := by omega
                                                                                         decide
  have x89 : ∀ c : Nat, 89 ≤ c → c < 90 → c ∈ [88, 89, 104, 105, 106] := fun c a b => by obtain rfl : c = 89 := by omega
                                                                                         decide
  have x105 : ∀ c : Nat, 105 ≤ c → c < 106 → c ∈ [88, 89, 104, 105, 106] := fun c a b => by obtain rfl : c = 105 := by omega
                                                                                            decide
  have x104 : ∀ c : Nat, 104 ≤ c → c < 105 → c ∈ [88, 89, 104, 105, 106] := fun c a b => by obtain rfl : c = 104 := by omega
                                                                                            decide
  have loop2 : ∀ (d i : Nat) (m : Mem) (x4 x5 x6 : Option AV), (i : Int) + d = f 96 → FrX m mem [88, 89, 104, 105, 106] → (∀ c : Nat, c < 100 → (m 105 c = 1 ∧ ∀ j : Int, 0 ≤ j → j < i → soC n f ((c : Int) / 10) ((c : Int) % 10) j) ∨ (m 105 c = 0 ∧ ¬ ∀ j : Int, 0 ≤ j → j < i → soC n f ((c : Int) / 10) ((c : Int) % 10) j)) → AW Γ mX1_search (zF Γ zG Q) zG 0 0 26 [some (vR 104), some (vR 1), some (vR 87), some (vI i), x4, x5, x6] [] m := by
    intro d
    induction d with
    | zero =>
      intro i m x4 x5 x6 hi hF h5
      have m5 : m 1 5 = f 96 := by rw [hF 1 (by decide)]; exact a5
      have h5' : ∀ c : Nat, c < 100 → (m 105 c = 1 ∧ soB n f ((c : Int) / 10) ((c : Int) % 10) = true) ∨ (m 105 c = 0 ∧ ¬ soB n f ((c : Int) / 10) ((c : Int) % 10) = true) := by
        intro c hc
        rcases h5 c hc with ⟨z1, z2⟩ | ⟨z1, z2⟩
        · exact Or.inl ⟨z1, soB_iff.mpr (fun j j0 j1 => z2 j j0 (by omega))⟩
        · exact Or.inr ⟨z1, fun y => z2 (fun j j0 j1 => soB_iff.mp y j j0 (by omega))⟩
      refine aw_iload_n dX1_search_26 rfl rfl ?_
      refine aw_aload_n dX1_search_27 rfl rfl ?_
      refine aw_getI (kI := 5) dX1_search_28 rfl fl_X1_18 g1 (by rfl) rfl ?_
      rw [m5]
      refine aw_icmp_ge (tgt := 153) dX1_search_31 (by decide) rfl (by omega) (by omega) (fun c31 => ?_) (fun c31 => ?_)
      · refine aw_aload_n dX1_search_153 rfl rfl ?_
        refine aw_callV [] _ dX1_search_154 rfl clv_X1_71 (by decide) ⟨Nat.zero_le _, Nat.zero_le _⟩ g104 (by rfl) (Nat.le_of_ble_eq_true rfl) rfl ?_
        refine sC_sumUp (n := n) (f := f) h5' (fun m1 f1 e2 e3 e4 => ?_)
        refine aw_return dX1_search_157 rfl ?_
        exact k m1 ((f1.x x104).tr hF) e2 e3 e4
      · exfalso; omega
    | succ d ih =>
      intro i m x4 x5 x6 hi hF h5
      push_cast at hi
      have m5 : m 1 5 = f 96 := by rw [hF 1 (by decide)]; exact a5
      have hev := evk m hF
      obtain ⟨f1, f2, f3⟩ := wfe i (by omega) (by omega)
      obtain ⟨v1, v2, v3⟩ := hev.2.2.2 i (by omega) (by omega)
      have m8 : m 8 i = f (97 + 3 * (i : Int)) := v1
      have m9 : m 9 i = f (97 + 3 * (i : Int) + 1) := v2
      have m10 : m 10 i = f (97 + 3 * (i : Int) + 2) := v3
      have rh := wf.2.1 (f (97 + 3 * (i : Int) + 1)) (by omega) (by omega)
      have s134 : ∀ (m' : Mem) (x6 : Option AV), FrX m' m [88, 89, 106] → (∀ l : Nat, l < 19 → (m' 106 l = 1 ∧ trk (embS f (f (97 + 3 * (i : Int) + 1))) (f (f (97 + 3 * (i : Int) + 1))) l (f (97 + 3 * (i : Int))).toNat = f (97 + 3 * (i : Int) + 2)) ∨ (m' 106 l = 0 ∧ ¬ trk (embS f (f (97 + 3 * (i : Int) + 1))) (f (f (97 + 3 * (i : Int) + 1))) l (f (97 + 3 * (i : Int))).toNat = f (97 + 3 * (i : Int) + 2))) → AW Γ mX1_search (zF Γ zG Q) zG 0 0 134 [some (vR 104), some (vR 1), some (vR 87), some (vI i), some (vI (f (97 + 3 * (i : Int) + 1))), some (vI (f (97 + 3 * (i : Int)))), x6] [] m' := by
        intro m' x6 hF' h6
        have hFm : FrX m' mem [88, 89, 104, 105, 106] := fun c hc => by rw [hF' c (by simp at hc ⊢; omega)]; exact hF c hc
        have hev' := evk m' hFm
        have n0 : m' 2 0 = n := hev'.1.1
        have m105 : m' 105 = m 105 := hF' 105 (by decide)
        have r5 : ∀ x : Int, 0 ≤ x → x < 100 → 0 ≤ m' 105 x ∧ m' 105 x ≤ 1 := by
          intro x x0 x1
          obtain ⟨c, rfl⟩ : ∃ c : Nat, x = c := ⟨x.toNat, by omega⟩
          rw [m105]
          rcases h5 c (by omega) with z | z <;> omega
        have r6 : ∀ x : Int, 0 ≤ x → x < 19 → 0 ≤ m' 106 x ∧ m' 106 x ≤ 1 := by
          intro x x0 x1
          obtain ⟨c, rfl⟩ : ∃ c : Nat, x = c := ⟨x.toNat, by omega⟩
          rcases h6 c (by omega) with z | z <;> omega
        have nx : ∀ (b : Int) (m2 : Mem), (b = 1 ∧ (f (97 + 3 * (i : Int) + 1) / 3 = 0 ∨ f (97 + 3 * (i : Int) + 1) / 3 = n - 1)) ∨ (b = 0 ∧ ¬ (f (97 + 3 * (i : Int) + 1) / 3 = 0 ∨ f (97 + 3 * (i : Int) + 1) / 3 = n - 1)) → FrI m2 m' 105 106 → (∀ x : Int, 0 ≤ x → x < 100 → m2 105 x = if ¬ m' 105 x = 0 ∧ ¬ m' 106 (x / 10 + (if b = 0 then 0 else x % 10)) = 0 then 1 else 0) → ∀ c : Nat, c < 100 → (m2 105 c = 1 ∧ ∀ j : Int, 0 ≤ j → j < ((i + 1 : Nat) : Int) → soC n f ((c : Int) / 10) ((c : Int) % 10) j) ∨ (m2 105 c = 0 ∧ ¬ ∀ j : Int, 0 ≤ j → j < ((i + 1 : Nat) : Int) → soC n f ((c : Int) / 10) ((c : Int) % 10) j) := by
          intro b m2 hb f2' e2 c hc
          rw [e2 c (by omega) (by omega), m105]
          have st := so_trk wf (fall := (c : Int) / 10) (rim := (c : Int) % 10) (k := (i : Int)) (by omega) (by omega) (by omega)
          obtain ⟨l, hl⟩ : ∃ l : Nat, (c : Int) / 10 + (if b = 0 then 0 else (c : Int) % 10) = l := ⟨((c : Int) / 10 + (if b = 0 then 0 else (c : Int) % 10)).toNat, by split <;> omega⟩
          have el : (c : Int) / 10 + (if f (97 + 3 * (i : Int) + 1) / 3 = 0 ∨ f (97 + 3 * (i : Int) + 1) / 3 = n - 1 then (c : Int) % 10 else 0) = l := by
            rw [← hl]
            rcases hb with ⟨b1, b2⟩ | ⟨b1, b2⟩
            · rw [if_pos b2, if_neg (by omega)]
            · rw [if_neg b2, if_pos b1]
          rw [el] at st
          rw [hl]
          have h6l := h6 l (by rcases hb with ⟨b1, b2⟩ | ⟨b1, b2⟩ <;> (subst b1; simp at hl; omega))
          have h5c := h5 c hc
          have sp : (∀ j : Int, 0 ≤ j → j < ((i + 1 : Nat) : Int) → soC n f ((c : Int) / 10) ((c : Int) % 10) j) ↔ ((∀ j : Int, 0 ≤ j → j < i → soC n f ((c : Int) / 10) ((c : Int) % 10) j) ∧ soC n f ((c : Int) / 10) ((c : Int) % 10) i) := by
            constructor
            · intro y
              exact ⟨fun j j0 j1 => y j j0 (by push_cast; omega), y i (by omega) (by push_cast; omega)⟩
            · intro ⟨y1, y2⟩ j j0 j1
              push_cast at j1
              by_cases e : j = i
              · subst e; exact y2
              · exact y1 j j0 (by omega)
          rw [sp, st]
          rcases h5c with ⟨z1, z2⟩ | ⟨z1, z2⟩
          · rcases h6l with ⟨y1, y2⟩ | ⟨y1, y2⟩
            · left
              exact ⟨by rw [if_pos ⟨by omega, by omega⟩], z2, y2⟩
            · right
              exact ⟨by rw [if_neg (fun q => q.2 y1)], fun q => y2 q.2⟩
          · right
            exact ⟨by rw [if_neg (fun q => q.1 z1)], fun q => z2 q.1⟩
        refine aw_aload_n dX1_search_134 rfl rfl ?_
        refine aw_aload_n dX1_search_135 rfl rfl ?_
        refine aw_getR dX1_search_136 rfl fl_X1_37 g1 (by rfl) ?_
        refine aw_iload dX1_search_139 rfl rfl ?_
        refine aw_callV [_] _ dX1_search_141 rfl clv_X1_63 (by decide) ⟨Nat.zero_le _, Nat.zero_le _⟩ g2 (by rfl) (Nat.le_of_ble_eq_true rfl) rfl ?_
        refine sC_isRimPlace E1.2.1 (by show 3 ≤ m' 2 0 ∧ m' 2 0 ≤ 8; rw [n0]; exact hn) (by omega) (fun c141 => ?_) (fun c141 => ?_)
        · refine aw_callV [_] _ dX1_search_144 rfl clv_X1_67 (by decide) ⟨Nat.zero_le _, Nat.zero_le _⟩ g104 (by rfl) (Nat.le_of_ble_eq_true rfl) rfl ?_
          refine sC_sift (by omega) r5 r6 (fun m2 f2' e2 => ?_)
          refine aw_iinc3 rfl dX1_search_147 rfl (by decide) ?_
          refine aw_goto (tgt := 26) dX1_search_150 (by decide) ?_
          exact ih (i + 1) m2 _ _ _ (by push_cast; omega) ((f2'.x x105).tr hFm) (nx _ m2 (by rw [n0] at c141; omega) f2' e2)
        · refine aw_callV [_] _ dX1_search_144 rfl clv_X1_67 (by decide) ⟨Nat.zero_le _, Nat.zero_le _⟩ g104 (by rfl) (Nat.le_of_ble_eq_true rfl) rfl ?_
          refine sC_sift (by omega) r5 r6 (fun m2 f2' e2 => ?_)
          refine aw_iinc3 rfl dX1_search_147 rfl (by decide) ?_
          refine aw_goto (tgt := 26) dX1_search_150 (by decide) ?_
          exact ih (i + 1) m2 _ _ _ (by push_cast; omega) ((f2'.x x105).tr hFm) (nx _ m2 (by rw [n0] at c141; omega) f2' e2)
      have s68 : ∀ (e l : Nat) (m' : Mem), l + e = 19 → FrX m' m [88, 89, 106] → (∀ r : Int, 0 ≤ r → r < 10 → m' 89 r = embS f (f (97 + 3 * (i : Int) + 1)) r) → (∀ j : Nat, j < l → (m' 106 j = 1 ∧ trk (embS f (f (97 + 3 * (i : Int) + 1))) (f (f (97 + 3 * (i : Int) + 1))) j (f (97 + 3 * (i : Int))).toNat = f (97 + 3 * (i : Int) + 2)) ∨ (m' 106 j = 0 ∧ ¬ trk (embS f (f (97 + 3 * (i : Int) + 1))) (f (f (97 + 3 * (i : Int) + 1))) j (f (97 + 3 * (i : Int))).toNat = f (97 + 3 * (i : Int) + 2))) → AW Γ mX1_search (zF Γ zG Q) zG 0 0 68 [some (vR 104), some (vR 1), some (vR 87), some (vI i), some (vI (f (97 + 3 * (i : Int) + 1))), some (vI (f (97 + 3 * (i : Int)))), some (vI l)] [] m' := by
        intro e
        induction e with
        | zero =>
          intro l m' hl hF' he h6
          obtain rfl : l = 19 := by omega
          refine aw_iload dX1_search_68 rfl rfl ?_
          refine aw_aload_n dX1_search_70 rfl rfl ?_
          refine aw_getR dX1_search_71 rfl fl_X1_15 g104 (by rfl) ?_
          refine aw_alenI dX1_search_74 rfl (by first | assumption | rfl) ?_
          refine aw_icmp_ge (tgt := 134) dX1_search_75 (by decide) rfl (by omega) (by omega) (fun c75 => ?_) (fun c75 => ?_)
          · exact s134 m' _ hF' h6
          · exfalso; omega
        | succ e ihe =>
          intro l m' hl hF' he h6
          have hFm : FrX m' mem [88, 89, 104, 105, 106] := fun c hc => by rw [hF' c (by simp at hc ⊢; omega)]; exact hF c hc
          have hev' := evk m' hFm
          have n0 : m' 2 0 = n := hev'.1.1
          have q3 : m' 3 (f (97 + 3 * (i : Int) + 1)) = f (f (97 + 3 * (i : Int) + 1)) := hev'.1.2.2.2.2.1 _ (by omega) (by omega)
          have nx : ∀ (v : Int) (m2 : Mem), FrI m2 m' 88 89 → (v = 1 ∧ trk (embS f (f (97 + 3 * (i : Int) + 1))) (f (f (97 + 3 * (i : Int) + 1))) l (f (97 + 3 * (i : Int))).toNat = f (97 + 3 * (i : Int) + 2)) ∨ (v = 0 ∧ ¬ trk (embS f (f (97 + 3 * (i : Int) + 1))) (f (f (97 + 3 * (i : Int) + 1))) l (f (97 + 3 * (i : Int))).toNat = f (97 + 3 * (i : Int) + 2)) → AW Γ mX1_search (zF Γ zG Q) zG 0 0 127 [some (vR 104), some (vR 1), some (vR 87), some (vI i), some (vI (f (97 + 3 * (i : Int) + 1))), some (vI (f (97 + 3 * (i : Int)))), some (vI l)] [vI v, vI l, vR 106] m2 := by
            intro v m2 f2' hv
            refine aw_zastore dX1_search_127 rfl g106 (by omega) (by omega) (by omega) ?_
            refine aw_iinc6 rfl dX1_search_128 rfl (by decide) ?_
            refine aw_goto (tgt := 68) dX1_search_131 (by decide) ?_
            refine ihe (l + 1) _ (by omega) ?_ (fun r r0 r1 => ?_) (fun j hj => ?_)
            · intro c hc
              rw [mset_ne (by rintro rfl; exact hc (by decide)), f2' c (by simp at hc; omega)]
              exact hF' c hc
            · rw [mset_ne (by decide), f2' 89 (by omega)]
              exact he r r0 r1
            · rw [mset_same]
              by_cases ej : j = l
              · subst ej
                rw [fset_same]
                exact hv
              · rw [fset_ne (by omega), f2' 106 (by omega)]
                exact h6 j (by omega)
          refine aw_iload dX1_search_68 rfl rfl ?_
          refine aw_aload_n dX1_search_70 rfl rfl ?_
          refine aw_getR dX1_search_71 rfl fl_X1_15 g104 (by rfl) ?_
          refine aw_alenI dX1_search_74 rfl (by first | assumption | rfl) ?_
          refine aw_icmp_ge (tgt := 134) dX1_search_75 (by decide) rfl (by omega) (by omega) (fun c75 => ?_) (fun c75 => ?_)
          · exfalso; omega
          · refine aw_aload_n dX1_search_78 rfl rfl ?_
            refine aw_aload_n dX1_search_79 rfl rfl ?_
            refine aw_getR dX1_search_80 rfl fl_X1_37 g1 (by rfl) ?_
            refine aw_iload dX1_search_83 rfl rfl ?_
            refine aw_callV [_] _ dX1_search_85 rfl clv_X1_47 (by decide) ⟨Nat.zero_le _, Nat.zero_le _⟩ g2 (by rfl) (Nat.le_of_ble_eq_true rfl) rfl ?_
            refine sC_heatAt E1.2.1 (by show 3 ≤ m' 2 0 ∧ m' 2 0 ≤ 8; rw [n0]; exact hn) (by omega) ?_
            have eh : (if 0 ≤ f (97 + 3 * (i : Int) + 1) ∧ f (97 + 3 * (i : Int) + 1) < 3 * m' (1 + 1) 0 then m' (1 + 1 + 1) (f (97 + 3 * (i : Int) + 1)) else 0) = f (f (97 + 3 * (i : Int) + 1)) := by
              show (if 0 ≤ f (97 + 3 * (i : Int) + 1) ∧ f (97 + 3 * (i : Int) + 1) < 3 * m' 2 0 then m' 3 (f (97 + 3 * (i : Int) + 1)) else 0) = _
              rw [n0, if_pos f2, q3]
            rw [eh]
            refine aw_iload dX1_search_88 rfl rfl ?_
            refine aw_iload dX1_search_90 rfl rfl ?_
            refine aw_callV [_, _, _] _ dX1_search_92 rfl clv_X1_53 (by decide) ⟨Nat.zero_le _, Nat.zero_le _⟩ g87 (by rfl) (Nat.le_of_ble_eq_true rfl) rfl ?_
            refine sC_follow rh (by omega) f1 (fun r r0 r1 => by rw [he r r0 r1]; have := embS_rng wf (f (97 + 3 * (i : Int) + 1)) r; omega) (fun m2 f2' e2 => ?_)
            have et : m2 88 (f (97 + 3 * (i : Int))) = trk (embS f (f (97 + 3 * (i : Int) + 1))) (f (f (97 + 3 * (i : Int) + 1))) l (f (97 + 3 * (i : Int))).toNat := by
              have hz := e2 (f (97 + 3 * (i : Int))).toNat (by omega)
              rw [show (((f (97 + 3 * (i : Int))).toNat : Nat) : Int) = f (97 + 3 * (i : Int)) by omega] at hz
              rw [hz]
              exact trk_emb wf (fun r r0 r1 => he r r0 r1) _
            have tr := trk_rng (E := embS f (f (97 + 3 * (i : Int) + 1))) (l := (l : Int)) rh (by omega) (f (97 + 3 * (i : Int))).toNat
            have m10' : m2 10 i = f (97 + 3 * (i : Int) + 2) := by rw [f2' 10 (by omega)]; exact (hev'.2.2.2 i (by omega) (by omega)).2.2
            refine aw_aload_n dX1_search_95 rfl rfl ?_
            refine aw_getR dX1_search_96 rfl fl_X1_15 g104 (by rfl) ?_
            refine aw_iload dX1_search_99 rfl rfl ?_
            refine aw_iload dX1_search_101 rfl rfl ?_
            refine aw_if_lt (tgt := 126) dX1_search_103 (by decide) rfl (by omega) (fun c103 => ?_) (fun c103 => ?_)
            · refine aw_iconst dX1_search_126 rfl ?_
              first | (exfalso; omega) | exact nx 1 m2 f2' (Or.inl ⟨rfl, by omega⟩) | exact nx 0 m2 f2' (Or.inr ⟨rfl, by omega⟩)
            · refine aw_aload_n dX1_search_106 rfl rfl ?_
              refine aw_getR dX1_search_107 rfl fl_X1_57 g87 (by rfl) ?_
              refine aw_iload dX1_search_110 rfl rfl ?_
              refine aw_iaload dX1_search_112 rfl g88 (by decide) (by omega) ?_
              rw [et]
              refine aw_aload_n dX1_search_113 rfl rfl ?_
              refine aw_getR dX1_search_114 rfl fl_X1_60 g1 (by rfl) ?_
              refine aw_iload_n dX1_search_117 rfl rfl ?_
              refine aw_iaload dX1_search_118 rfl g10 (by decide) (by omega) ?_
              rw [m10']
              refine aw_icmp_ne (tgt := 126) dX1_search_119 (by decide) rfl (by omega) (by omega) (fun c119 => ?_) (fun c119 => ?_)
              · refine aw_iconst dX1_search_126 rfl ?_
                first | (exfalso; omega) | exact nx 1 m2 f2' (Or.inl ⟨rfl, by omega⟩) | exact nx 0 m2 f2' (Or.inr ⟨rfl, by omega⟩)
              · refine aw_iconst dX1_search_122 rfl ?_
                refine aw_goto (tgt := 127) dX1_search_123 (by decide) ?_
                first | (exfalso; omega) | exact nx 1 m2 f2' (Or.inl ⟨rfl, by omega⟩) | exact nx 0 m2 f2' (Or.inr ⟨rfl, by omega⟩)
      have mn : min 20 (f (97 + 3 * (i : Int))) = f (97 + 3 * (i : Int)) := by omega
      refine aw_iload_n dX1_search_26 rfl rfl ?_
      refine aw_aload_n dX1_search_27 rfl rfl ?_
      refine aw_getI (kI := 5) dX1_search_28 rfl fl_X1_18 g1 (by rfl) rfl ?_
      rw [m5]
      refine aw_icmp_ge (tgt := 153) dX1_search_31 (by decide) rfl (by omega) (by omega) (fun c31 => ?_) (fun c31 => ?_)
      · exfalso; omega
      · refine aw_aload_n dX1_search_34 rfl rfl ?_
        refine aw_getR dX1_search_35 rfl fl_X1_24 g1 (by rfl) ?_
        refine aw_iload_n dX1_search_38 rfl rfl ?_
        refine aw_iaload dX1_search_39 rfl g9 (by decide) (by omega) ?_
        rw [m9]
        refine aw_istore4 rfl dX1_search_40 rfl (by decide) ?_
        refine aw_bipush dX1_search_42 rfl (by decide) ?_
        refine aw_aload_n dX1_search_44 rfl rfl ?_
        refine aw_getR dX1_search_45 rfl fl_X1_28 g1 (by rfl) ?_
        refine aw_iload_n dX1_search_48 rfl rfl ?_
        refine aw_iaload dX1_search_49 rfl g8 (by decide) (by omega) ?_
        rw [m8]
        refine aw_min dX1_search_50 rfl clm_X1_31 (by decide) (Nat.le_of_ble_eq_true rfl) ⟨Nat.zero_le _, Nat.zero_le _⟩ (by omega) (by omega) ?_
        rw [mn]
        refine aw_istore5 rfl dX1_search_53 rfl (by decide) ?_
        refine aw_aload_n dX1_search_55 rfl rfl ?_
        refine aw_aload_n dX1_search_56 rfl rfl ?_
        refine aw_getR dX1_search_57 rfl fl_X1_37 g1 (by rfl) ?_
        refine aw_iload dX1_search_60 rfl rfl ?_
        refine aw_callV [_, _] _ dX1_search_62 rfl clv_X1_41 (by decide) ⟨Nat.zero_le _, Nat.zero_le _⟩ g87 (by rfl) (Nat.le_of_ble_eq_true rfl) rfl ?_
        refine sC_gatherEmbers wf hev.1 (by omega) (fun m1 f1' e1 => ?_)
        refine aw_iconst dX1_search_65 rfl ?_
        refine aw_istore6 rfl dX1_search_66 rfl (by decide) ?_
        exact s68 19 0 m1 (by omega) (fun c hc => f1' c (by simp at hc; omega)) e1 (fun j hj => by omega)
  have loop1 : ∀ (d i : Nat) (m : Mem), i + d = 100 → FrX m mem [88, 89, 104, 105, 106] → (∀ c : Nat, c < i → m 105 c = 1) → AW Γ mX1_search (zF Γ zG Q) zG 0 0 2 [some (vR 104), some (vR 1), some (vR 87), some (vI i), none, none, none] [] m := by
    intro d
    induction d with
    | zero =>
      intro i m hi hF h1
      obtain rfl : i = 100 := by omega
      refine aw_iload_n dX1_search_2 rfl rfl ?_
      refine aw_aload_n dX1_search_3 rfl rfl ?_
      refine aw_getR dX1_search_4 rfl fl_X1_9 g104 (by rfl) ?_
      refine aw_alenI dX1_search_7 rfl (by first | assumption | rfl) ?_
      refine aw_icmp_ge (tgt := 24) dX1_search_8 (by decide) rfl (by omega) (by omega) (fun c8 => ?_) (fun c8 => ?_)
      · refine aw_iconst dX1_search_24 rfl ?_
        refine aw_istore3 rfl dX1_search_25 rfl (by decide) ?_
        exact loop2 (f 96).toNat 0 m none none none (by omega) hF (fun c hc => Or.inl ⟨h1 c hc, fun j j0 j1 => by omega⟩)
      · exfalso; omega
    | succ d ih =>
      intro i m hi hF h1
      refine aw_iload_n dX1_search_2 rfl rfl ?_
      refine aw_aload_n dX1_search_3 rfl rfl ?_
      refine aw_getR dX1_search_4 rfl fl_X1_9 g104 (by rfl) ?_
      refine aw_alenI dX1_search_7 rfl (by first | assumption | rfl) ?_
      refine aw_icmp_ge (tgt := 24) dX1_search_8 (by decide) rfl (by omega) (by omega) (fun c8 => ?_) (fun c8 => ?_)
      · exfalso; omega
      · refine aw_aload_n dX1_search_11 rfl rfl ?_
        refine aw_getR dX1_search_12 rfl fl_X1_9 g104 (by rfl) ?_
        refine aw_iload_n dX1_search_15 rfl rfl ?_
        refine aw_iconst dX1_search_16 rfl ?_
        refine aw_zastore dX1_search_17 rfl g105 (by omega) (by omega) (by omega) ?_
        refine aw_iinc3 rfl dX1_search_18 rfl (by decide) ?_
        refine aw_goto (tgt := 2) dX1_search_21 (by decide) ?_
        refine ih (i + 1) _ (by omega) (hF.set (by decide)) (fun c hc => ?_)
        rw [mset_same]
        by_cases e : c = i
        · subst e
          rw [fset_same]
        · rw [fset_ne (by omega)]
          exact h1 c (by omega)
  refine AMet.of' 4 (ls := [some (vR (104)), some (vR (1)), some (vR (87)), none, none, none, none]) (by decide) rfl (Nat.le_of_ble_eq_true rfl) ?_
  refine aw_iconst dX1_search_0 rfl ?_
  refine aw_istore3 rfl dX1_search_1 rfl (by decide) ?_
  exact loop1 100 0 mem (by omega) FrX.rf (fun c hc => by omega)
theorem sC_fits {w : Int} (wf : Wf n f) (h : Ev mem 1 n f) (hw : -2147483648 ≤ w ∧ w ≤ 2147483647) (k : ∀ m' : Mem, FrX m' mem [88, 89, 104, 105, 106] → Q (some (vI (fitsM n f w))) m') : AMet Γ mX10_fits [vR 0, vI w] zG mem Q := by
  unfold fitsM at k
  refine AMet.of' 0 (ls := [some (vR (0)), some (vI (w))]) (by decide) rfl (Nat.le_of_ble_eq_true rfl) ?_
  refine aw_iload_n dX10_fits_0 rfl rfl ?_
  refine aw_if_lt (tgt := 9) dX10_fits_1 (by decide) rfl (by omega) (fun c1 => ?_) (fun c1 => ?_)
  · refine aw_iconst dX10_fits_9 rfl ?_
    refine aw_ireturn (ty := .int) dX10_fits_10 rfl rfl ?_
    rw [if_neg (by omega)] at k; exact k _ FrX.rf
  · refine aw_iload_n dX10_fits_4 rfl rfl ?_
    refine aw_iconst dX10_fits_5 rfl ?_
    refine aw_icmp_le (tgt := 11) dX10_fits_6 (by decide) rfl (by omega) (by omega) (fun c6 => ?_) (fun c6 => ?_)
    · refine aw_aload_n dX10_fits_11 rfl rfl ?_
      refine aw_getR dX10_fits_12 rfl fl_X10_58 g0 (by rfl) ?_
      refine aw_aload_n dX10_fits_15 rfl rfl ?_
      refine aw_getR dX10_fits_16 rfl fl_X10_12 g0 (by rfl) ?_
      refine aw_aload_n dX10_fits_19 rfl rfl ?_
      refine aw_getR dX10_fits_20 rfl fl_X10_37 g0 (by rfl) ?_
      refine aw_callV [_, _] _ dX10_fits_23 rfl clv_X10_274 (by decide) ⟨Nat.zero_le _, Nat.zero_le _⟩ g104 (by rfl) (Nat.le_of_ble_eq_true rfl) rfl ?_
      refine sC_search wf h (fun m1 f1 e1 e2 e3 => ?_)
      refine aw_iload_n dX10_fits_26 rfl rfl ?_
      refine aw_look2 (t1 := 52) (t2 := 60) (t3 := 68) dX10_fits_27 (by omega) (by decide) (by decide) (by decide) (by decide) (fun c27 => ?_) (fun c27 => ?_) (fun c27 c27b => ?_)
      · refine aw_aload_n dX10_fits_52 rfl rfl ?_
        refine aw_getR dX10_fits_53 rfl fl_X10_58 g0 (by rfl) ?_
        refine aw_getI (kI := 2) dX10_fits_56 rfl fl_X10_278 g104 (by rfl) rfl ?_
        refine aw_ireturn (ty := .int) dX10_fits_59 rfl rfl ?_
        rw [if_pos (by omega), if_pos (by omega)] at k; rw [e1]; exact k m1 f1
      · refine aw_aload_n dX10_fits_60 rfl rfl ?_
        refine aw_getR dX10_fits_61 rfl fl_X10_58 g0 (by rfl) ?_
        refine aw_getI (kI := 3) dX10_fits_64 rfl fl_X10_281 g104 (by rfl) rfl ?_
        refine aw_ireturn (ty := .int) dX10_fits_67 rfl rfl ?_
        rw [if_pos (by omega), if_neg (by omega), if_pos (by omega)] at k; rw [e2]; exact k m1 f1
      · refine aw_aload_n dX10_fits_68 rfl rfl ?_
        refine aw_getR dX10_fits_69 rfl fl_X10_58 g0 (by rfl) ?_
        refine aw_getI (kI := 4) dX10_fits_72 rfl fl_X10_284 g104 (by rfl) rfl ?_
        refine aw_ireturn (ty := .int) dX10_fits_75 rfl rfl ?_
        rw [if_pos (by omega), if_neg (by omega), if_neg (by omega)] at k; rw [e3]; exact k m1 f1
    · refine aw_iconst dX10_fits_9 rfl ?_
      refine aw_ireturn (ty := .int) dX10_fits_10 rfl rfl ?_
      rw [if_neg (by omega)] at k; exact k _ FrX.rf
end ZCmp17
