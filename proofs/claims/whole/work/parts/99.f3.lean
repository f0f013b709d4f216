theorem zi2b_rng (a : Int) : i32 (zi2b a) := by
  unfold zi2b
  have h1 := Int32.le_toInt (Int32.ofInt a).toInt8.toInt32
  have h2 := Int32.toInt_lt (Int32.ofInt a).toInt8.toInt32
  constructor <;> omega
theorem zi2s_rng (a : Int) : i32 (zi2s a) := by
  unfold zi2s
  have h1 := Int32.le_toInt (Int32.ofInt a).toInt16.toInt32
  have h2 := Int32.toInt_lt (Int32.ofInt a).toInt16.toInt32
  constructor <;> omega
theorem Inv.alt {m m' : Mem} (h : Inv m) (e : ∀ d : Nat, (1 ≤ d ∧ d < 17) ∨ (34 ≤ d ∧ d < 67) ∨ d = 94 ∨ (96 ≤ d ∧ d < 104) ∨ d = 110 ∨ d = 112 ∨ (118 ≤ d ∧ d < 121) → m' d = m d) (e3 : m' 109 3 = m 109 3)
    (t : m' 68 1 = m' 109 13 ∧ m' 69 = m' 114 ∧ TpOK m') (u : m' 0 10 = m' 109 18 ∧ m' 0 11 = m' 109 26 ∧ (0 ≤ m' 109 17 ∧ m' 109 17 ≤ 99)) (pp : ∀ p : Nat, p < 6 → -4 ≤ m' (80 + p) 2 ∧ m' (80 + p) 2 ≤ 23) : Inv m' := by
  obtain ⟨⟨r, v⟩, -, ⟨b1, b2, b3, b4⟩, c, d, f, -⟩ := h
  have e110 := e 110 (by omega)
  have e112 := e 112 (by omega)
  have e118 := e 118 (by omega)
  have e119 := e 119 (by omega)
  have e120 := e 120 (by omega)
  have e66 := e 66 (by omega)
  have e94 := e 94 (by omega)
  have h46 := r.1.2.2.2.2.2.2.1
  refine ⟨?_, t, ⟨u.1, u.2.1, u.2.2, by rw [e94]; exact b4⟩, fun i hi => ?_, fun x hx => ?_, by rw [e120]; exact f, pp⟩
  · rw [e3, e110]
    exact ⟨r, v.keep (by omega) (fun d _ _ => e d (by omega))⟩
  · unfold img
    rw [e3, e110, e66, e112]
    obtain ⟨c1, c2⟩ := c i hi
    refine ⟨c1, c2.imp (fun z => z) (fun z => ⟨z.1, z.2.1, z.2.2.keep ?_ (fun d _ _ => e d (by omega))⟩)⟩
    have := z.2.1.1.2.2.2.2.2.2.1
    omega
  · rw [e118, e119, e120]
    exact (d x hx).fr (e _ (by omega)) (e _ (by omega))
section ZStep3
variable {Γ : ZG} {mem : Mem}
theorem st_feed {c : Int} (h : Inv mem) (hc : i32 c) : Step Γ mX10_feed mX11_feed [vI c] mem vI := fun Q k => by
  have e13 := h.2.1.1
  have tp := h.2.1.2.2
  refine sC_feed (by rw [e13]; exact tp.1) hc (fun hb => ?_) (fun hb hf => ?_) (fun hb hf => ?_)
  · exact k _ _ (fun Q' k' => sR_feed tp.1 hc (fun _ => k' _ h) (fun z _ => absurd z hb) (fun z _ => absurd z hb))
  · exact k _ _ (fun Q' k' => sR_feed tp.1 hc (fun z => absurd hb z) (fun _ _ => k' _ h) (fun _ z => absurd (e13 ▸ hf) z))
  · rw [e13] at hf ⊢
    refine k _ _ (fun Q' k' => ?_)
    generalize hm1 : mset (mset mem 69 (mem 109 13) c) 68 1 (mem 109 13 + 1) = m1
    have fr : ∀ d : Nat, d ≠ 68 → d ≠ 69 → m1 d = mem d := fun d a b => by rw [← hm1]; exact (mc_ne a).trans (mc_ne b)
    have e109 := fr 109 (by omega) (by omega)
    have e114 := fr 114 (by omega) (by omega)
    have g68 : m1 68 1 = mem 109 13 + 1 := by rw [← hm1]; simp [mset, mcell, fset]
    have g69 : m1 69 = fset (mem 69) (mem 109 13) c := by rw [← hm1]; simp [mset, mcell]
    refine sR_feed (by rw [e109]; exact tp.1) hc (fun z => absurd hb z) (fun _ z => absurd (by rw [e109] at z; exact z) hf) (fun _ _ => ?_)
    rw [e109]
    refine k' _ ?_
    generalize hm2 : mset (mset m1 114 (mem 109 13) c) 109 13 (mem 109 13 + 1) = m2
    have fr2 : ∀ d : Nat, d ≠ 114 → d ≠ 109 → m2 d = m1 d := fun d a b => by rw [← hm2]; exact (mc_ne b).trans (mc_ne a)
    have q109 : m2 109 = fset (mem 109) 13 (mem 109 13 + 1) := by rw [← hm2, ← e109]; simp [mset, mcell]
    have q114 : m2 114 = fset (mem 114) (mem 109 13) c := by rw [← hm2, ← e114]; simp [mset, mcell]
    refine h.alt (fun d hd => (fr2 d (by omega) (by omega)).trans (fr d (by omega) (by omega))) (by rw [q109, fset_ne (by omega)]) ⟨?_, ?_, ?_⟩ ⟨?_, ?_, ?_⟩ (fun p hp => ?_)
    · rw [fr2 68 (by omega) (by omega), g68, q109, fset_same]
    · rw [fr2 69 (by omega) (by omega), g69, q114, h.2.1.2.1]
    · unfold TpOK
      rw [q109, q114, fset_same]
      refine ⟨by have := tp.1; omega, fun i a b => ?_⟩
      by_cases e : i = mem 109 13
      · rw [e, fset_same]; exact hb
      · rw [fset_ne e]; exact tp.2 i a (by omega)
    · rw [fr2 0 (by omega) (by omega), fr 0 (by omega) (by omega), q109, fset_ne (by omega)]; exact h.2.2.1.1
    · rw [fr2 0 (by omega) (by omega), fr 0 (by omega) (by omega), q109, fset_ne (by omega)]; exact h.2.2.1.2.1
    · rw [q109, fset_ne (by omega)]; exact h.2.2.1.2.2.1
    · rw [fr2 _ (by omega) (by omega), fr _ (by omega) (by omega)]; exact h.2.2.2.2.2.2 p hp
theorem st_end {c : Int} (h : Inv mem) (hc : i32 c) : Step Γ mX10_end mX11_end [vI c] mem vI := fun Q k => by
  have e13 := h.2.1.1
  have tp := h.2.1.2.2
  refine sC_end (by rw [e13]; exact tp.1) hc (fun hb => ?_) (fun hb => ?_)
  · rw [e13] at hb
    exact k _ _ (fun Q' k' => sR_end tp.1 hc (fun _ => k' _ h) (fun z => absurd z hb))
  · rw [e13] at hb ⊢
    refine k _ _ (fun Q' k' => ?_)
    generalize hm1 : mset mem 68 1 c = m1
    have fr : ∀ d : Nat, d ≠ 68 → m1 d = mem d := fun d a => by rw [← hm1]; exact mc_ne a
    have e109 := fr 109 (by omega)
    have e114 := fr 114 (by omega)
    have g68 : m1 68 1 = c := by rw [← hm1]; simp [mset, mcell, fset]
    refine sR_end (by rw [e109]; exact tp.1) hc (fun z => absurd hb (by rw [e109] at z; exact z)) (fun _ => ?_)
    rw [e109]
    refine k' _ ?_
    generalize hm2 : mset m1 109 13 c = m2
    have fr2 : ∀ d : Nat, d ≠ 109 → m2 d = m1 d := fun d a => by rw [← hm2]; exact mc_ne a
    have q109 : m2 109 = fset (mem 109) 13 c := by rw [← hm2, ← e109]; simp [mset, mcell]
    refine h.alt (fun d hd => (fr2 d (by omega)).trans (fr d (by omega))) (by rw [q109, fset_ne (by omega)]) ⟨?_, ?_, ?_⟩ ⟨?_, ?_, ?_⟩ (fun p hp => ?_)
    · rw [fr2 68 (by omega), g68, q109, fset_same]
    · rw [fr2 69 (by omega), fr 69 (by omega), fr2 114 (by omega), e114]; exact h.2.1.2.1
    · unfold TpOK
      rw [q109, fset_same, fr2 114 (by omega), e114]
      refine ⟨by have := tp.1; omega, fun i a b => tp.2 i a (by omega)⟩
    · rw [fr2 0 (by omega), fr 0 (by omega), q109, fset_ne (by omega)]; exact h.2.2.1.1
    · rw [fr2 0 (by omega), fr 0 (by omega), q109, fset_ne (by omega)]; exact h.2.2.1.2.1
    · rw [q109, fset_ne (by omega)]; exact h.2.2.1.2.2.1
    · rw [fr2 _ (by omega), fr _ (by omega)]; exact h.2.2.2.2.2.2 p hp
theorem st_text (h : Inv mem) : Step Γ mX10_text mX11_text [] mem vI := fun Q k => by
  refine sC_text h.tpc h.2.2.2.2.2.2 (fun m1 tc => ?_)
  refine k _ _ (fun Q' k' => ?_)
  have tp := h.2.1.2.2
  have e109 := tc.1 109 (by omega)
  have e114 := tc.1 114 (by omega)
  refine sR_text (by unfold TpOK; rw [e109, e114]; exact tp) (by rw [e109]; exact h.2.2.1.2.2.1) (fun m2 to => ?_)
  rw [e114, e109, ← h.2.1.2.1, ← h.2.1.1] at to ⊢
  refine k' _ ?_
  obtain ⟨c1, c2, c3, c4, c5, c6⟩ := tc
  obtain ⟨o1, o2, o3, o4⟩ := to
  cases hr : textP (mem 69) (mem 68 1) with
  | error a =>
    rw [hr] at c6 o4
    obtain ⟨c7, c8, c9⟩ := c6
    obtain ⟨o5, o6, o7⟩ := o4
    have fr2 : ∀ d : Nat, d ≠ 109 → d ≠ 113 → m2 d = m1 d := fun d a b => o5 d (by simp only [List.mem_cons, List.not_mem_nil, or_false]; omega)
    refine h.alt (fun d hd => (fr2 d (by omega) (by omega)).trans ?_) (by rw [o7, e109]) ⟨?_, ?_, ?_⟩ ⟨?_, ?_, o1⟩ (fun p hp => ?_)
    · by_cases q1 : d < 17
      · exact c8 d (by omega) q1
      · by_cases q2 : d = 66
        · rw [q2]; exact c9
        · exact c1 d (by omega)
    · rw [fr2 68 (by omega) (by omega), c2, o2]
    · rw [fr2 69 (by omega) (by omega), c3, fr2 114 (by omega) (by omega), e114]; exact h.2.1.2.1
    · unfold TpOK
      rw [o2]
      exact ⟨by omega, fun i a b => by omega⟩
    · rw [fr2 0 (by omega) (by omega), c7, o6]
    · rw [fr2 0 (by omega) (by omega), c5 11 (by omega), o3 26 (by omega), e109]; exact h.2.2.1.2.1
    · rw [fr2 _ (by omega) (by omega)]; exact c4 p hp
  | ok q =>
    rw [hr] at c6 o4
    obtain ⟨c7, c8, c9, c10⟩ := c6
    obtain ⟨o5, o6, o7, o8, o9⟩ := o4
    have fr2 : ∀ d : Nat, d < 109 ∨ d = 111 ∨ 113 < d → m2 d = m1 d := fun d a => o5 d (by simp only [List.mem_cons, List.not_mem_nil, or_false]; omega)
    obtain ⟨w1, w2⟩ := textP_wf (n := q.1) (s := q.2) hr
    have w45 : q.2.2 45 = 0 := w2.2.2.2.2.2.2.2.2.1
    have rk : Rok (q.2.1 5) q.2.2 := ⟨w1, c9, by omega⟩
    have ec : ∀ j : Int, 0 ≤ j → j < 115 → m2 110 j = q.2.2 j := fun j a b => by
      rw [o6]
      unfold fcopy
      rw [if_pos (by omega), show (0 : Int) + (j - 0) = j by omega]
    have h46 := w1.2.2.2.2.2.2.1
    refine ⟨⟨by rw [o7]; exact rk.congr ec, by rw [o7]; exact (c8.keep (by omega) (fun d _ _ => fr2 d (by omega))).row w1 ec⟩, ⟨?_, ?_, ?_⟩, ⟨?_, ?_, o1, ?_⟩, fun i hi => ?_, fun x hx => ?_, ?_, fun p hp => ?_⟩
    · rw [fr2 68 (by omega), c2, o2]
    · rw [fr2 69 (by omega), c3, fr2 114 (by omega), e114]; exact h.2.1.2.1
    · unfold TpOK
      rw [o2]
      exact ⟨by omega, fun i a b => by omega⟩
    · rw [fr2 0 (by omega), c7, o8]
    · rw [fr2 0 (by omega), c5 11 (by omega), o3 26 (by omega), e109]; exact h.2.2.1.2.1
    · rw [fr2 94 (by omega), c1 94 (by omega)]; exact h.2.2.1.2.2.2
    · obtain rfl | rfl : i = 0 ∨ i = 1 := by omega
      · have y1 : m2 66 ((0 : Nat) : Int) = 0 := by rw [fr2 66 (by omega)]; exact c10.1
        have y2 : m2 112 ((0 : Nat) : Int) = 0 := o9.1
        exact ⟨y1.trans y2.symm, Or.inl y2⟩
      · have y1 : m2 66 ((1 : Nat) : Int) = 0 := by rw [fr2 66 (by omega)]; exact c10.2
        have y2 : m2 112 ((1 : Nat) : Int) = 0 := o9.2
        exact ⟨y1.trans y2.symm, Or.inl y2⟩
    · rw [fr2 118 (by omega), fr2 119 (by omega), fr2 120 (by omega), c1 118 (by omega), c1 119 (by omega), c1 120 (by omega)]
      exact (h.2.2.2.2.1 x hx).fr ((fr2 _ (by omega)).trans (c1 _ (by omega))) ((fr2 _ (by omega)).trans (c1 _ (by omega)))
    · rw [fr2 120 (by omega), c1 120 (by omega)]
      exact h.2.2.2.2.2.1
    · rw [fr2 _ (by omega)]; exact c4 p hp
theorem st_keep {j : Int} (h : Inv mem) (hj : i32 j) : Step Γ mX10_keep mX11_keep [vI j] mem vI := fun Q k => by
  refine sC_keep h.wf h.ev h.k66r hj (fun hb => ?_) (fun i m0 e hi f0 ev => ?_)
  · exact k _ _ (fun Q' k' => sR_keep h.k112 hj (fun _ => k' _ h) (fun z => absurd z hb))
  · subst e
    refine k _ _ (fun Q' k' => ?_)
    generalize hm1 : mset m0 66 (i : Int) 1 = m1
    have fr : ∀ d : Nat, d < 34 + 16 * i ∨ 50 + 16 * i ≤ d → d ≠ 66 → m1 d = mem d := fun d a b => by rw [← hm1]; exact (mc_ne b).trans (f0 d a)
    have e109 := fr 109 (by omega) (by omega)
    have e110 := fr 110 (by omega) (by omega)
    have e112 := fr 112 (by omega) (by omega)
    have g66 : m1 66 = fset (mem 66) i 1 := by rw [← hm1, ← f0 66 (by omega)]; simp [mset, mcell]
    have ev1 : Ev m1 (34 + 16 * i) (mem 109 3) (mem 110) := by
      have h46 := h.wf.2.2.2.2.2.2.1
      rw [← hm1]
      exact ev.keep (by omega) (fun d a b => mc_ne (by omega))
    refine sR_keep (by rw [e112]; exact h.k112) hj (fun z => absurd ⟨by omega, by omega⟩ z) (fun _ => ?_)
    rw [e112, ← h.k66 i (by omega) (by omega), e110]
    refine k' _ ?_
    generalize hf2 : fcopy (mem 110) (mem 110) 0 (115 * ((i : Int) + 1)) 115 = f2
    generalize hm2 : mcell (mset m1 112 (i : Int) 1) 110 f2 = m2
    have fr2 : ∀ d : Nat, d ≠ 110 → d ≠ 112 → m2 d = m1 d := fun d a b => by rw [← hm2]; exact (mc_ne a).trans (mc_ne b)
    have q110 : m2 110 = f2 := by rw [← hm2]; exact mc_at
    have q112 : m2 112 = fset (mem 112) i 1 := by rw [← hm2, ← e112]; simp [mset, mcell]
    have c1 : ∀ x : Int, x < 115 → f2 x = mem 110 x := fun x hx => by
      rw [← hf2]; unfold fcopy; rw [if_neg (by omega)]
    have c2 : ∀ x : Int, 0 ≤ x → x < 115 → f2 (115 * ((i : Int) + 1) + x) = mem 110 x := fun x h0 hx => by
      rw [← hf2]; unfold fcopy; rw [if_pos (by omega)]; congr 1; omega
    have c3 : ∀ (y : Nat) (x : Int), y ≠ i → 0 ≤ x → x < 115 → f2 (115 * ((y : Int) + 1) + x) = mem 110 (115 * ((y : Int) + 1) + x) := fun y x hy h0 hx => by
      rw [← hf2]; unfold fcopy; rw [if_neg (by omega)]
    have q109 : m2 109 = mem 109 := (fr2 109 (by omega) (by omega)).trans e109
    have h46 := h.wf.2.2.2.2.2.2.1
    have frr : ∀ d : Nat, d < 34 + 16 * i ∨ 50 + 16 * i ≤ d → d ≠ 66 → d ≠ 110 → d ≠ 112 → m2 d = mem d := fun d a b c e => (fr2 d c e).trans (fr d a b)
    refine ⟨⟨by rw [q109, q110]; exact h.1.1.congr (fun x _ b => c1 x b), by rw [q109, q110]; exact (h.ev.keep (by omega) (fun d _ _ => frr d (by omega) (by omega) (by omega) (by omega))).row h.wf (fun x _ b => c1 x b)⟩, ?_, ?_, fun y hy => ?_, fun x hx => ?_, ?_, fun p hp => ?_⟩
    · unfold TpOK
      rw [frr 68 (by omega) (by omega) (by omega) (by omega), frr 69 (by omega) (by omega) (by omega) (by omega), frr 114 (by omega) (by omega) (by omega) (by omega), q109]
      exact h.2.1
    · rw [frr 0 (by omega) (by omega) (by omega) (by omega), frr 94 (by omega) (by omega) (by omega) (by omega), q109]
      exact h.2.2.1
    · unfold img
      rw [q109, q110, q112, fr2 66 (by omega) (by omega), g66]
      by_cases e : y = i
      · subst e
        rw [fset_same, fset_same]
        exact ⟨rfl, Or.inr ⟨rfl, h.1.1.congr (fun x a b => c2 x a b), (ev1.keep (by omega) (fun d _ _ => fr2 d (by omega) (by omega))).row h.wf (fun x a b => c2 x a b)⟩⟩
      · rw [fset_ne (by omega), fset_ne (by omega)]
        obtain ⟨z1, z2⟩ := h.2.2.2.1 y hy
        refine ⟨z1, z2.imp (fun z => z) (fun z => ⟨z.1, z.2.1.congr (fun x a b => c3 y x e a b), ?_⟩)⟩
        have h6 := z.2.1.1.2.2.2.2.2.2.1
        exact (z.2.2.keep (by omega) (fun d _ _ => frr d (by omega) (by omega) (by omega) (by omega))).row z.2.1.1 (fun x a b => c3 y x e a b)
    · rw [frr 118 (by omega) (by omega) (by omega) (by omega), frr 119 (by omega) (by omega) (by omega) (by omega), frr 120 (by omega) (by omega) (by omega) (by omega)]
      exact (h.2.2.2.2.1 x hx).fr (frr _ (by omega) (by omega) (by omega) (by omega)) (frr _ (by omega) (by omega) (by omega) (by omega))
    · rw [frr 120 (by omega) (by omega) (by omega) (by omega)]
      exact h.2.2.2.2.2.1
    · rw [frr _ (by omega) (by omega) (by omega) (by omega)]
      exact h.2.2.2.2.2.2 p hp
theorem st_back {j : Int} (h : Inv mem) (hj : i32 j) : Step Γ mX10_back mX11_back [vI j] mem vI := fun Q k => by
  have hg : ∀ i : Nat, i < 2 → ¬ mem 66 i = 0 → Rok (mem 109 3) (img mem i) ∧ Ev mem (34 + 16 * i) (mem 109 3) (img mem i) := fun i hi hz => by
    obtain ⟨z1, z2⟩ := h.2.2.2.1 i hi
    rw [z1] at hz
    exact (z2.resolve_left hz).2
  refine sC_back (n := mem 109 3) (n0 := 0) (g := fun i x => mem 110 (115 * (i + 1) + x)) (fun i hi hz => ⟨(hg i hi hz).1.1, (hg i hi hz).2⟩) h.k66r hj (fun hb => ?_) (fun hb hz => ?_) (fun m1 hb hz fr ev => ?_)
  · exact k _ _ (fun Q' k' => sR_back h.k112 hj (fun _ => k' _ h) (fun z _ => absurd z hb) (fun z _ => absurd z hb))
  · rw [h.k66 j hb.1 hb.2] at hz
    exact k _ _ (fun Q' k' => sR_back h.k112 hj (fun z => absurd hb z) (fun _ _ => k' _ h) (fun _ z => absurd hz z))
  · refine k _ _ (fun Q' k' => ?_)
    have e110 := fr 110 (by omega)
    have e112 := fr 112 (by omega)
    have hr := (hg j.toNat (by omega) (by rw [Int.toNat_of_nonneg hb.1]; exact hz)).1
    unfold img at hr
    rw [Int.toNat_of_nonneg hb.1] at hr
    rw [h.k66 j hb.1 hb.2] at hz
    refine sR_back (by rw [e112]; exact h.k112) hj (fun z => absurd hb z) (fun _ z => absurd (by rw [e112] at z; exact z) hz) (fun _ _ => ?_)
    rw [e110]
    have ec : ∀ x : Int, 0 ≤ x → x < 115 → fcopy (mem 110) (mem 110) (115 * (j + 1)) 0 115 x = mem 110 (115 * (j + 1) + x) := fun x a b => by
      unfold fcopy
      rw [if_pos (by omega)]
      congr 1
      omega
    exact k' _ (h.upd fr (ev.row hr.1 ec) ⟨hr.congr ec, fun x hx => by unfold fcopy; rw [if_neg (by omega)]⟩)
theorem st_sheet {j l z : Int} (h : Inv mem) (hj : i32 j) (hl : i32 l) (hz : i32 z) : Step Γ mX10_sheet mX11_sheet [vI j, vI l, vI z] mem vI := fun Q k => by
  refine sC_sheet hj hl hz (fun hb => ?_) (fun hb hs => ?_) (fun i e hi h1 h2 => ?_)
  · exact k _ _ (fun Q' k' => sR_sheet hj hl hz (fun _ => k' _ h) (fun a b => absurd hb (by omega)) (fun a b => absurd hb (by omega)))
  · exact k _ _ (fun Q' k' => sR_sheet hj hl hz (fun a => absurd a (by omega)) (fun _ _ => k' _ h) (fun a b => absurd hs (by omega)))
  · subst e
    refine k _ _ (fun Q' k' => ?_)
    generalize hm1 : mcell (mset (mset mem (96 + 2 * i) 1 l) (96 + 2 * i) 2 z) (96 + 2 * i + 1) (fun y => if 0 ≤ y ∧ y < 40 then 0 else mem (96 + 2 * i + 1) y) = m1
    have fr : ∀ d : Nat, d ≠ 96 + 2 * i → d ≠ 96 + 2 * i + 1 → m1 d = mem d := fun d a b => by rw [← hm1]; exact (mc_ne b).trans ((mc_ne a).trans (mc_ne a))
    have g1 : m1 (96 + 2 * i) = fset (fset (mem (96 + 2 * i)) 1 l) 2 z := by
      rw [← hm1, mc_ne (by omega)]
      simp [mset, mcell]
    have g2 : ∀ y : Int, 0 ≤ y → y < 40 → m1 (96 + 2 * i + 1) y = 0 := fun y a b => by
      rw [← hm1, mc_at, if_pos ⟨a, b⟩]
    have e118 := fr 118 (by omega) (by omega)
    have e119 := fr 119 (by omega) (by omega)
    have e120 := fr 120 (by omega) (by omega)
    refine sR_sheet hj hl hz (fun a => absurd a (by omega)) (fun _ b => absurd b (by omega)) (fun _ _ => ?_)
    refine k' _ ?_
    generalize hm2 : mcell (mset (mset m1 118 (i : Int) l) 119 (i : Int) z) 120 (fun y => if 40 * (i : Int) ≤ y ∧ y < 40 * (i : Int) + 40 then 0 else m1 120 y) = m2
    have fr2 : ∀ d : Nat, d < 118 ∨ 120 < d → m2 d = m1 d := fun d a => by rw [← hm2]; exact (mc_ne (by omega)).trans ((mc_ne (by omega)).trans (mc_ne (by omega)))
    have q118 : m2 118 = fset (mem 118) i l := by rw [← hm2, ← e118]; simp [mset, mcell]
    have q119 : m2 119 = fset (mem 119) i z := by rw [← hm2, ← e119]; simp [mset, mcell]
    have q120 : ∀ y : Int, m2 120 y = if 40 * (i : Int) ≤ y ∧ y < 40 * (i : Int) + 40 then 0 else mem 120 y := fun y => by rw [← hm2, mc_at, e120]
    have frr : ∀ d : Nat, d < 118 ∨ 120 < d → d ≠ 96 + 2 * i → d ≠ 96 + 2 * i + 1 → m2 d = mem d := fun d a b c => (fr2 d a).trans (fr d b c)
    have h46 := h.wf.2.2.2.2.2.2.1
    have q109 := frr 109 (by omega) (by omega) (by omega)
    have q110 := frr 110 (by omega) (by omega) (by omega)
    refine ⟨⟨by rw [q109, q110]; exact h.1.1, by rw [q109, q110]; exact h.ev.keep (by omega) (fun d _ _ => frr d (by omega) (by omega) (by omega))⟩, ?_, ?_, fun y hy => ?_, fun x hx => ?_, fun y y0 y1 => ?_, fun p hp => ?_⟩
    · unfold TpOK
      rw [frr 68 (by omega) (by omega) (by omega), frr 69 (by omega) (by omega) (by omega), frr 114 (by omega) (by omega) (by omega), q109]
      exact h.2.1
    · rw [frr 0 (by omega) (by omega) (by omega), frr 94 (by omega) (by omega) (by omega), q109]
      exact h.2.2.1
    · unfold img
      rw [q109, q110, frr 66 (by omega) (by omega) (by omega), frr 112 (by omega) (by omega) (by omega)]
      obtain ⟨z1, z2⟩ := h.2.2.2.1 y hy
      refine ⟨z1, z2.imp (fun z => z) (fun z => ⟨z.1, z.2.1, ?_⟩)⟩
      have h6 := z.2.1.1.2.2.2.2.2.2.1
      exact z.2.2.keep (by omega) (fun d _ _ => frr d (by omega) (by omega) (by omega))
    · rw [q118, q119]
      by_cases e : x = i
      · subst e
        rw [fset_same, fset_same]
        refine Or.inr ⟨h1, ?_, ?_, h2, fun y y0 y1 => ?_⟩
        · rw [fr2 _ (by omega), g1, fset_ne (by omega), fset_same]
        · rw [fr2 _ (by omega), g1, fset_same]
        · dsimp only
          rw [fr2 _ (by omega), g2 y y0 y1, q120, if_pos (by omega)]
      · rw [fset_ne (by omega), fset_ne (by omega)]
        have hs := (h.2.2.2.2.1 x hx).fr (m' := m2) (frr _ (by omega) (by omega) (by omega)) (frr _ (by omega) (by omega) (by omega))
        unfold Sh at hs ⊢
        refine hs.imp (fun a => a) (fun a => ⟨a.1, a.2.1, a.2.2.1, a.2.2.2.1, fun y y0 y1 => ?_⟩)
        dsimp only
        rw [q120, if_neg (by omega)]
        exact a.2.2.2.2 y y0 y1
    · rw [q120]
      split
      · omega
      · exact h.2.2.2.2.2.1 y y0 y1
    · rw [frr _ (by omega) (by omega) (by omega)]
      exact h.2.2.2.2.2.2 p hp
theorem st_lay {j i v : Int} (h : Inv mem) (hj : i32 j) (hi : i32 i) (hv : i32 v) : Step Γ mX10_lay mX11_lay [vI j, vI i, vI v] mem vI := fun Q k => by
  refine sC_lay (lk := fun x => mem 118 x) (sz := fun x => mem 119 x) (cl := fun x y => mem 120 (40 * x + y)) h.2.2.2.2.1 hj hi (fun hb => ?_) (fun hb h1 => ?_) (fun hb h1 h2 => ?_) (fun x e hx h1 h2 => ?_)
  · exact k _ _ (fun Q' k' => sR_lay h.sh hj hi (fun _ => k' _ h) (fun a _ => absurd a hb) (fun a _ _ => absurd a hb) (fun a _ _ => absurd a hb))
  · exact k _ _ (fun Q' k' => sR_lay h.sh hj hi (fun a => absurd hb a) (fun _ _ => k' _ h) (fun _ a _ => absurd h1 a) (fun _ a _ => absurd h1 a))
  · exact k _ _ (fun Q' k' => sR_lay h.sh hj hi (fun a => absurd hb a) (fun _ a => absurd a h1) (fun _ _ _ => k' _ h) (fun _ _ a => absurd a h2))
  · subst e
    refine k _ _ (fun Q' k' => ?_)
    (try dsimp only at h1); (try dsimp only at h2); (try dsimp only)
    generalize hw : (if mem 118 (x : Int) = 0 then zi2b v else if mem 118 (x : Int) = 1 then zi2s v else v) = w
    have wr : i32 w := by
      rw [← hw]
      split
      · exact zi2b_rng _
      · split
        · exact zi2s_rng _
        · exact hv
    have s1 := (h.sh x (by omega) (by omega)).2 h1
    generalize hm1 : mset mem (96 + 2 * x + 1) i w = m1
    have fr : ∀ d : Nat, d ≠ 96 + 2 * x + 1 → m1 d = mem d := fun d a => by rw [← hm1]; exact mc_ne a
    have g1 : m1 (96 + 2 * x + 1) = fset (mem (96 + 2 * x + 1)) i w := by rw [← hm1]; simp [mset, mcell]
    have e118 := fr 118 (by omega)
    have e119 := fr 119 (by omega)
    have e120 := fr 120 (by omega)
    refine sR_lay (by rw [e118, e119]; exact h.sh) hj hi (fun a => absurd ⟨by omega, by omega⟩ a) (fun _ a => absurd (by rw [e118] at a; exact a) h1) (fun _ _ a => absurd h2 (by rw [e119] at a; exact a)) (fun _ _ _ => ?_)
    rw [e118, hw]
    refine k' _ ?_
    generalize hm2 : mset m1 120 (40 * (x : Int) + i) w = m2
    have fr2 : ∀ d : Nat, d ≠ 120 → m2 d = m1 d := fun d a => by rw [← hm2]; exact mc_ne a
    have q120 : m2 120 = fset (mem 120) (40 * (x : Int) + i) w := by rw [← hm2, ← e120]; simp [mset, mcell]
    have frr : ∀ d : Nat, d ≠ 120 → d ≠ 96 + 2 * x + 1 → m2 d = mem d := fun d a b => (fr2 d a).trans (fr d b)
    have h46 := h.wf.2.2.2.2.2.2.1
    have q109 := frr 109 (by omega) (by omega)
    have q110 := frr 110 (by omega) (by omega)
    refine ⟨⟨by rw [q109, q110]; exact h.1.1, by rw [q109, q110]; exact h.ev.keep (by omega) (fun d _ _ => frr d (by omega) (by omega))⟩, ?_, ?_, fun y hy => ?_, fun y hy => ?_, fun y y0 y1 => ?_, fun p hp => ?_⟩
    · unfold TpOK
      rw [frr 68 (by omega) (by omega), frr 69 (by omega) (by omega), frr 114 (by omega) (by omega), q109]
      exact h.2.1
    · rw [frr 0 (by omega) (by omega), frr 94 (by omega) (by omega), q109]
      exact h.2.2.1
    · unfold img
      rw [q109, q110, frr 66 (by omega) (by omega), frr 112 (by omega) (by omega)]
      obtain ⟨z1, z2⟩ := h.2.2.2.1 y hy
      refine ⟨z1, z2.imp (fun z => z) (fun z => ⟨z.1, z.2.1, ?_⟩)⟩
      have h6 := z.2.1.1.2.2.2.2.2.2.1
      exact z.2.2.keep (by omega) (fun d _ _ => frr d (by omega) (by omega))
    · rw [frr 118 (by omega) (by omega), frr 119 (by omega) (by omega)]
      have hs := h.2.2.2.2.1 y hy
      by_cases e : y = x
      · subst e
        unfold Sh at hs ⊢
        rw [frr (96 + 2 * y) (by omega) (by omega)]
        refine hs.imp (fun a => a) (fun a => ⟨a.1, a.2.1, a.2.2.1, a.2.2.2.1, fun u u0 u1 => ?_⟩)
        dsimp only
        rw [fr2 _ (by omega), g1, q120]
        by_cases eu : u = i
        · rw [eu, fset_same, fset_same]
        · rw [fset_ne eu, fset_ne (by omega)]
          exact a.2.2.2.2 u u0 u1
      · have hs := hs.fr (m' := m2) (frr _ (by omega) (by omega)) (frr _ (by omega) (by omega))
        unfold Sh at hs ⊢
        refine hs.imp (fun a => a) (fun a => ⟨a.1, a.2.1, a.2.2.1, a.2.2.2.1, fun u u0 u1 => ?_⟩)
        dsimp only
        rw [q120, fset_ne (by omega)]
        exact a.2.2.2.2 u u0 u1
    · rw [q120]
      by_cases eu : y = 40 * (x : Int) + i
      · rw [eu, fset_same]; exact wr
      · rw [fset_ne eu]; exact h.2.2.2.2.2.1 y y0 y1
    · rw [frr _ (by omega) (by omega)]
      exact h.2.2.2.2.2.2 p hp
theorem st_read {j l f0 z : Int} (h : Inv mem) (hj : i32 j) (hl : i32 l) (hf : i32 f0) (hz : i32 z) : Step Γ mX10_read mX11_read [vI j, vI l, vI f0, vI z] mem vI := fun Q k => by
  have w46 := h.wf.2.2.2.2.2.2.1
  refine sC_read (lk := fun x => mem 118 x) (sz := fun x => mem 119 x) (cl := fun x y => mem 120 (40 * x + y)) h.wf h.ev h.2.2.2.2.1 (fun x hx i a b => h.2.2.2.2.2.1 _ (by omega) (by omega)) (fun x hx hn => (h.sh x (by omega) (by omega)).2 hn) hj hl hf hz (fun hb => ?_) (fun hb r t g hg m1 fr ev => ?_)
  · exact k _ _ (fun Q' k' => sR_read w46 h.sh h.2.2.2.2.2.1 hj hl hf hz (fun _ => k' _ h) (fun a => absurd a hb))
  · have rin : Rin (mem 109 3) (mem 110) g := by
      have := readGo_R (lane := l) (lk := mem 118 j) (sz := mem 119 j) (f0 := f0) (cl := fun y => mem 120 (40 * j + y)) h.1.1 z.toNat 0 (mem 110) (Rin.rfl h.1.1) (Int.le_refl _) (fun _ _ => rfl)
      rw [hg] at this
      exact this
    have up := h.upd fr ev rin
    cases t with
    | none =>
      refine k _ _ (fun Q' k' => ?_)
      dsimp only
      have e110 := fr 110 (by omega)
      have e118 := fr 118 (by omega)
      have e119 := fr 119 (by omega)
      have e120 := fr 120 (by omega)
      refine sR_read (by rw [e110]; exact w46) (by rw [e118, e119]; exact h.sh) (by rw [e120]; exact h.2.2.2.2.2.1) hj hl hf hz (fun a => absurd hb a) (fun _ r' t' g' hg' => ?_)
      rw [e110, e118, e119, e120] at hg'
      have := hg.symm.trans hg'
      cases this
      exact k' _ up
    | some v =>
      refine k _ _ (fun Q' k' => ?_)
      dsimp only
      generalize hm1 : mset m1 0 11 v = m3
      have fr3 : ∀ d : Nat, d ≠ 0 → m3 d = m1 d := fun d a => by rw [← hm1]; exact mc_ne a
      have e0 : m3 0 = fset (mem 0) 11 v := by rw [← hm1, ← fr 0 (by omega)]; simp [mset, mcell]
      have e110 := (fr3 110 (by omega)).trans (fr 110 (by omega))
      have e118 := (fr3 118 (by omega)).trans (fr 118 (by omega))
      have e119 := (fr3 119 (by omega)).trans (fr 119 (by omega))
      have e120 := (fr3 120 (by omega)).trans (fr 120 (by omega))
      have e109 := (fr3 109 (by omega)).trans (fr 109 (by omega))
      refine sR_read (by rw [e110]; exact w46) (by rw [e118, e119]; exact h.sh) (by rw [e120]; exact h.2.2.2.2.2.1) hj hl hf hz (fun a => absurd hb a) (fun _ r' t' g' hg' => ?_)
      rw [e110, e118, e119, e120] at hg'
      have := hg.symm.trans hg'
      cases this
      refine k' _ ?_
      dsimp only
      generalize hm2 : mset (mcell m3 110 g) 109 26 v = m2
      have fr2 : ∀ d : Nat, d ≠ 109 → m2 d = mcell m3 110 g d := fun d a => by rw [← hm2]; exact mc_ne a
      have q109 : m2 109 = fset (mem 109) 26 v := by rw [← hm2, ← e109]; simp [mset, mcell]
      have q : ∀ d : Nat, d ≠ 109 → d ≠ 0 → m2 d = mcell m1 110 g d := fun d a b => by
        rw [fr2 d a]
        by_cases e : d = 110
        · rw [e, mc_at, mc_at]
        · rw [mc_ne e, mc_ne e, fr3 d b]
      have q0 : m2 0 = fset (mem 0) 11 v := by rw [fr2 0 (by omega), mc_ne (by omega), e0]
      have p109 : mcell m1 110 g 109 = mem 109 := (mc_ne (by omega)).trans (fr 109 (by omega))
      refine up.alt (fun d hd => q d (by omega) (by omega)) (by rw [q109, p109, fset_ne (by omega)]) ⟨?_, ?_, ?_⟩ ⟨?_, ?_, ?_⟩ (fun p hp => ?_)
      · rw [q 68 (by omega) (by omega), q109, fset_ne (by omega), ← p109]; exact up.2.1.1
      · rw [q 69 (by omega) (by omega), q 114 (by omega) (by omega)]; exact up.2.1.2.1
      · unfold TpOK
        rw [q109, fset_ne (by omega), q 114 (by omega) (by omega), ← p109]; exact up.2.1.2.2
      · rw [q0, q109, fset_ne (by omega), fset_ne (by omega)]; exact h.2.2.1.1
      · rw [q0, q109, fset_same, fset_same]
      · rw [q109, fset_ne (by omega)]; exact h.2.2.1.2.2.1
      · rw [q _ (by omega) (by omega)]; exact up.2.2.2.2.2.2 p hp
end ZStep3
