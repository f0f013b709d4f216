/-! THE INVARIANT between the component's cells (0 on) and the reference's (109 on) -/
abbrev img (mem : Mem) (i : Nat) : Int → Int := fun j => mem 110 (115 * ((i : Int) + 1) + j)
def Inv (mem : Mem) : Prop :=
  (Rok (mem 109 3) (mem 110) ∧ Ev mem 1 (mem 109 3) (mem 110)) ∧
  (mem 68 1 = mem 109 13 ∧ mem 69 = mem 114 ∧ TpOK mem) ∧
  (mem 0 10 = mem 109 18 ∧ mem 0 11 = mem 109 26 ∧ (0 ≤ mem 109 17 ∧ mem 109 17 ≤ 99) ∧ mem 94 0 = 0) ∧
  (∀ i : Nat, i < 2 → mem 66 i = mem 112 i ∧ (mem 112 i = 0 ∨ (mem 112 i = 1 ∧ Rok (mem 109 3) (img mem i) ∧ Ev mem (34 + 16 * i) (mem 109 3) (img mem i)))) ∧
  (∀ x : Nat, x < 4 → Sh mem (96 + 2 * x) (mem 118 x) (mem 119 x) (fun y => mem 120 (40 * x + y))) ∧
  (∀ y : Int, 0 ≤ y → y < 160 → -2147483648 ≤ mem 120 y ∧ mem 120 y ≤ 2147483647) ∧
  (∀ p : Nat, p < 6 → -4 ≤ mem (80 + p) 2 ∧ mem (80 + p) 2 ≤ 23)
section ZInv
variable {m m' m1 : Mem}
theorem Inv.tr (h : Inv m) (e : ∀ d : Nat, d < 17 ∨ (34 ≤ d ∧ d < 67) ∨ (68 ≤ d ∧ d < 70) ∨ (80 ≤ d ∧ d < 86) ∨ (96 ≤ d ∧ d < 104) ∨ d = 109 ∨ d = 110 ∨ d = 112 ∨ d = 114 ∨ (118 ≤ d ∧ d < 121) → m' d = m d) (e94 : m' 94 0 = 0) : Inv m' := by
  obtain ⟨⟨r, v⟩, ⟨a1, a2, a3⟩, ⟨b1, b2, b3, b4⟩, c, d, f, g⟩ := h
  have e109 := e 109 (by omega)
  have e110 := e 110 (by omega)
  have e112 := e 112 (by omega)
  have e114 := e 114 (by omega)
  have e118 := e 118 (by omega)
  have e119 := e 119 (by omega)
  have e120 := e 120 (by omega)
  have e68 := e 68 (by omega)
  have e69 := e 69 (by omega)
  have e66 := e 66 (by omega)
  have e0 := e 0 (by omega)
  have h46 := r.1.2.2.2.2.2.2.1
  unfold Inv TpOK img
  rw [e109, e110, e112, e114, e118, e119, e120, e68, e69, e66, e0]
  refine ⟨⟨r, v.keep (by omega) (fun d _ _ => e d (by omega))⟩, ⟨a1, a2, a3⟩, ⟨b1, b2, b3, e94⟩, fun i hi => ?_, fun x hx => (d x hx).fr (e _ (by omega)) (e _ (by omega)), f, fun p hp => ?_⟩
  · obtain ⟨c1, c2⟩ := c i hi
    refine ⟨c1, c2.imp (fun z => z) (fun z => ⟨z.1, z.2.1, z.2.2.keep ?_ (fun d _ _ => e d (by omega))⟩)⟩
    have := z.2.1.1.2.2.2.2.2.2.1
    omega
  · rw [e (80 + p) (by omega)]
    exact g p hp
theorem mc_ne {m : Mem} {c d : Nat} {f : Int → Int} (h : d ≠ c) : mcell m c f d = m d := if_neg h
theorem mc_at {m : Mem} {c : Nat} {f : Int → Int} : mcell m c f c = f := if_pos rfl
/-- the row changes on both sides -/
theorem Inv.upd {g : Int → Int} (h : Inv m) (fr : FrI m1 m 1 17) (ev : Ev m1 1 (m 109 3) g) (r : Rin (m 109 3) (m 110) g) : Inv (mcell m1 110 g) := by
  obtain ⟨⟨-, -⟩, ⟨a1, a2, a3⟩, ⟨b1, b2, b3, b4⟩, c, d, f, gg⟩ := h
  have e : ∀ d : Nat, (d < 1 ∨ 17 ≤ d) → d ≠ 110 → mcell m1 110 g d = m d := fun d h1 h2 => (mc_ne h2).trans (fr d h1)
  have e109 := e 109 (by omega) (by omega)
  have e110 : mcell m1 110 g 110 = g := mc_at
  have e112 := e 112 (by omega) (by omega)
  have e114 := e 114 (by omega) (by omega)
  have e118 := e 118 (by omega) (by omega)
  have e119 := e 119 (by omega) (by omega)
  have e120 := e 120 (by omega) (by omega)
  have e68 := e 68 (by omega) (by omega)
  have e69 := e 69 (by omega) (by omega)
  have e66 := e 66 (by omega) (by omega)
  have e94 := e 94 (by omega) (by omega)
  have e0 := e 0 (by omega) (by omega)
  have h46 := r.1.1.2.2.2.2.2.2.1
  unfold Inv TpOK img
  rw [e109, e110, e112, e114, e118, e119, e120, e68, e69, e66, e0, e94]
  refine ⟨⟨r.1, ev.keep (by omega) (fun d _ _ => mc_ne (by omega))⟩, ⟨a1, a2, a3⟩, ⟨b1, b2, b3, b4⟩, fun i hi => ?_, fun x hx => (d x hx).fr (e _ (by omega) (by omega)) (e _ (by omega) (by omega)), f, fun p hp => ?_⟩
  · obtain ⟨c1, c2⟩ := c i hi
    refine ⟨c1, c2.imp (fun z => z) (fun z => ⟨z.1, z.2.1.congr (fun j _ _ => r.2 _ (by omega)), ?_⟩)⟩
    have h6 := z.2.1.1.2.2.2.2.2.2.1
    exact (z.2.2.keep (by omega) (fun d _ _ => e d (by omega) (by omega))).row z.2.1.1 (fun j _ _ => r.2 _ (by omega))
  · rw [e (80 + p) (by omega) (by omega)]
    exact gg p hp
theorem Inv.c111 {g : Int → Int} (h : Inv m) : Inv (mcell m 111 g) := h.tr (fun d hd => mc_ne (by omega)) ((congrFun (mc_ne (by omega)) 0).trans h.2.2.1.2.2.2)
theorem Inv.wf (h : Inv m) : Wf (m 109 3) (m 110) := h.1.1.1
theorem Inv.ds (h : Inv m) : Dis (m 110) := h.1.1.2.1
theorem Inv.h45 (h : Inv m) : 0 ≤ m 110 45 ∧ m 110 45 ≤ 999 := h.1.1.2.2
theorem Inv.ev (h : Inv m) : Ev m 1 (m 109 3) (m 110) := h.1.2
theorem Inv.k112 (h : Inv m) : ∀ i : Int, 0 ≤ i → i ≤ 1 → 0 ≤ m 112 i ∧ m 112 i ≤ 1 := by
  intro i h0 h1
  have := h.2.2.2.1 i.toNat (by omega)
  rw [Int.toNat_of_nonneg h0] at this
  omega
theorem Inv.k66 (h : Inv m) : ∀ i : Int, 0 ≤ i → i ≤ 1 → m 66 i = m 112 i := by
  intro i h0 h1
  have := (h.2.2.2.1 i.toNat (by omega)).1
  rwa [Int.toNat_of_nonneg h0] at this
theorem Inv.k66r (h : Inv m) : ∀ i : Int, 0 ≤ i → i ≤ 1 → 0 ≤ m 66 i ∧ m 66 i ≤ 1 := fun i h0 h1 => by rw [h.k66 i h0 h1]; exact h.k112 i h0 h1
theorem Inv.sh (h : Inv m) : ∀ x : Int, 0 ≤ x → x ≤ 3 → (-4 ≤ m 118 x ∧ m 118 x ≤ 2) ∧ (¬ m 118 x = -4 → 0 ≤ m 119 x ∧ m 119 x ≤ 40) := by
  intro x h0 h1
  have := h.2.2.2.2.1 x.toNat (by omega)
  unfold Sh at this
  rw [Int.toNat_of_nonneg h0] at this
  omega
theorem Inv.tpc (h : Inv m) : TpC m := by
  obtain ⟨-, ⟨a1, a2, a3⟩, -⟩ := h
  unfold TpC
  rw [a1, a2]
  exact a3
end ZInv
/-- a call of the component, then the same of the reference: equal answers, and the invariant again -/
def Step (Γ : ZG) (M10 M11 : ZM) (as : List AV) (mem : Mem) (v : Int → AV) : Prop := ∀ Q : Option AV → Mem → Prop, (∀ (a : Int) (m1 : Mem), (∀ Q' : Option AV → Mem → Prop, (∀ m2 : Mem, Inv m2 → Q' (some (v a)) m2) → AMet Γ M11 (vR 109 :: as) zG m1 Q') → Q (some (v a)) m1) → AMet Γ M10 (vR 0 :: as) zG mem Q
abbrev i32 (a : Int) : Prop := -2147483648 ≤ a ∧ a ≤ 2147483647
section ZStep
variable {Γ : ZG} {mem : Mem}
theorem st_rule {w : Int} (h : Inv mem) (hw : i32 w) : Step Γ mX10_rule mX11_rule [vI w] mem vI := fun Q k => sC_rule h.ev hw (k _ _ (fun Q' k' => sR_rule hw (k' _ h)))
theorem st_heat {x : Int} (h : Inv mem) (hx : i32 x) : Step Γ mX10_heat mX11_heat [vI x] mem vI := fun Q k => sC_heat h.wf h.ev hx (k _ _ (fun Q' k' => sR_heat h.wf.1 hx (k' _ h)))
theorem st_wood {i : Int} {w : Int} (h : Inv mem) (hi : i32 i) (hw : i32 w) : Step Γ mX10_wood mX11_wood [vI i, vI w] mem vI := fun Q k => sC_wood h.wf h.ev hi hw (k _ _ (fun Q' k' => sR_wood h.wf.2.2.2.2.1 hi hw (k' _ h)))
theorem st_spud {p : Int} {w : Int} (h : Inv mem) (hp : i32 p) (hw : i32 w) : Step Γ mX10_spud mX11_spud [vI p, vI w] mem vI := fun Q k => sC_spud h.wf h.ev hp hw (k _ _ (fun Q' k' => sR_spud h.wf hp hw (fun g => k' _ h.c111)))
theorem st_takes {c : Int} (h : Inv mem) (hc : i32 c) : Step Γ mX10_takes mX11_takes [vI c] mem vI := fun Q k => sC_takes h.wf h.ev hc (k _ _ (fun Q' k' => sR_takes h.wf hc (fun g => k' _ h.c111)))
theorem st_lies {p : Int} {x : Int} {w : Int} (h : Inv mem) (hp : i32 p) (hx : i32 x) (hw : i32 w) : Step Γ mX10_lies mX11_lies [vI p, vI x, vI w] mem vL := fun Q k => sC_lies h.wf h.ev hp hx hw (k _ _ (fun Q' k' => sR_lies h.wf rfl hp hx hw (k' _ h)))
theorem st_morning {w : Int} (h : Inv mem) (hw : i32 w) : Step Γ mX10_morning mX11_morning [vI w] mem vL := fun Q k => sC_morning h.wf h.ev hw (k _ _ (fun Q' k' => sR_morning h.wf hw (k' _ h)))
theorem st_fault (h : Inv mem) : Step Γ mX10_fault mX11_fault [] mem vI := fun Q k => sC_fault (by rw [h.2.2.1.1]; exact k _ _ (fun Q' k' => sR_fault (k' _ h)))
theorem st_torn (h : Inv mem) : Step Γ mX10_torn mX11_torn [] mem vI := fun Q k => sC_torn (by rw [h.2.2.1.2.1]; exact k _ _ (fun Q' k' => sR_torn (k' _ h)))
theorem st_count {w : Int} (h : Inv mem) (hw : i32 w) : Step Γ mX10_count mX11_count [vI w] mem vI := fun Q k => sC_count (l0 := mem 118 0) (s0 := mem 119 0) (cl := fun y => mem 120 (40 * ((0 : Nat) : Int) + y)) h.wf h.ev h.k66r (h.2.2.2.2.1 0 (by omega)) hw (by
  rw [h.k66 0 (by omega) (by omega), h.k66 1 (by omega) (by omega), h.2.1.1]
  exact k _ _ (fun Q' k' => sR_count h.wf rfl h.k112 (h.sh 0 (by omega) (by omega)).1 hw (fun g => k' _ h.c111)))
theorem st_ahead {p : Int} {c : Int} {w : Int} (h : Inv mem) (hp : i32 p) (hc : i32 c) (hw : i32 w) : Step Γ mX10_ahead mX11_ahead [vI p, vI c, vI w] mem vI := fun Q k => sC_ahead h.wf h.ev hp hc hw (fun m1 fr => by
  have h1 : Inv m1 := h.tr (fun d hd => fr d (by omega)) ((congrFun (fr 94 (by omega)) 0).trans h.2.2.1.2.2.2)
  have e109 := fr 109 (by omega)
  have e110 := fr 110 (by omega)
  exact k _ _ (fun Q' k' => sR_ahead h1.wf rfl hp hc hw (fun g => by rw [e109, e110]; exact k' _ h1.c111)))
theorem st_later {x : Int} {c : Int} (h : Inv mem) (hx : i32 x) (hc : i32 c) : Step Γ mX10_later mX11_later [vI x, vI c] mem vI := fun Q k => sC_later h.wf h.ev hx hc (fun m1 fr => by
  have h1 : Inv m1 := h.tr (fun d hd => fr d (by omega)) ((congrFun (fr 94 (by omega)) 0).trans h.2.2.1.2.2.2)
  have e109 := fr 109 (by omega)
  have e110 := fr 110 (by omega)
  exact k _ _ (fun Q' k' => sR_later h1.wf rfl hx hc (fun g => by rw [e109, e110]; exact k' _ h1.c111)))
theorem st_when {p : Int} {w : Int} (h : Inv mem) (hp : i32 p) (hw : i32 w) : Step Γ mX10_when mX11_when [vI p, vI w] mem vI := fun Q k => sC_when h.wf h.ev hp hw (fun m1 fr => by
  have h1 : Inv m1 := h.tr (fun d hd => fr d (by omega)) ((congrFun (fr 94 (by omega)) 0).trans h.2.2.1.2.2.2)
  have e109 := fr 109 (by omega)
  have e110 := fr 110 (by omega)
  exact k _ _ (fun Q' k' => sR_when h1.wf rfl hp hw (fun g => by rw [e109, e110]; exact k' _ h1.c111)))
theorem st_best {w : Int} (h : Inv mem) (hw : i32 w) : Step Γ mX10_best mX11_best [vI w] mem vI := fun Q k => sC_best h.wf h.ev hw (fun m1 fr => by
  have h1 : Inv m1 := h.tr (fun d hd => fr d (by omega)) ((congrFun (fr 94 (by omega)) 0).trans h.2.2.1.2.2.2)
  have e109 := fr 109 (by omega)
  have e110 := fr 110 (by omega)
  exact k _ _ (fun Q' k' => sR_best h1.wf rfl hw (fun g => by rw [e109, e110]; exact k' _ h1.c111)))
theorem st_flip {p : Int} {c : Int} (h : Inv mem) (hp : i32 p) (hc : i32 c) : Step Γ mX10_flip mX11_flip [vI p, vI c] mem vI := fun Q k => sC_flip h.wf h.ev hp hc (fun m1 fr => by
  have h1 : Inv m1 := h.tr (fun d hd => fr d (by omega)) ((congrFun (fr 94 (by omega)) 0).trans h.2.2.1.2.2.2)
  have e109 := fr 109 (by omega)
  have e110 := fr 110 (by omega)
  exact k _ _ (fun Q' k' => sR_flip h1.wf rfl hp hc (fun g => by rw [e109, e110]; exact k' _ h1.c111)))
theorem st_least {p : Int} {c : Int} (h : Inv mem) (hp : i32 p) (hc : i32 c) : Step Γ mX10_least mX11_least [vI p, vI c] mem vI := fun Q k => sC_least h.wf h.ev hp hc (fun m1 fr => by
  have h1 : Inv m1 := h.tr (fun d hd => fr d (by omega)) ((congrFun (fr 94 (by omega)) 0).trans h.2.2.1.2.2.2)
  have e109 := fr 109 (by omega)
  have e110 := fr 110 (by omega)
  exact k _ _ (fun Q' k' => sR_least h1.wf rfl hp hc (fun g => by rw [e109, e110]; exact k' _ h1.c111)))
theorem st_next {w : Int} (h : Inv mem) (hw : i32 w) : Step Γ mX10_next mX11_next_ [vI w] mem vL := fun Q k => sC_next h.wf h.ev hw (fun m1 fr => by
  have h1 : Inv m1 := h.tr (fun d hd => fr d (by omega)) ((congrFun (fr 94 (by omega)) 0).trans h.2.2.1.2.2.2)
  have e109 := fr 109 (by omega)
  have e110 := fr 110 (by omega)
  exact k _ _ (fun Q' k' => sR_next h1.wf rfl hw (by rw [e109, e110]; exact k' _ h1)))
theorem st_drift {s c w : Int} (h : Inv mem) (hc : i32 c) (hw : i32 w) : Step Γ mX10_drift mX11_drift [vI s, vI c, vI w] mem vI := fun Q k => sC_drift h.wf h.ev hc hw (fun m1 fr => by
  have h1 : Inv m1 := h.tr (fun d hd => fr d (by omega)) ((congrFun (fr 94 (by omega)) 0).trans h.2.2.1.2.2.2)
  have e109 := fr 109 (by omega)
  have e110 := fr 110 (by omega)
  exact k _ _ (fun Q' k' => sR_drift h1.wf rfl hc hw (fun g => by rw [e109, e110]; exact k' _ h1.c111)))
theorem st_fits {w : Int} (h : Inv mem) (hw : i32 w) : Step Γ mX10_fits mX11_fits [vI w] mem vI := fun Q k => sC_fits h.wf h.ev hw (fun m1 fr => by
  have fr2 : ∀ d : Nat, d < 88 ∨ (90 ≤ d ∧ d < 104) ∨ 107 ≤ d → m1 d = mem d := fun d hd => fr d (by simp only [List.mem_cons, List.not_mem_nil, or_false]; omega)
  have h1 : Inv m1 := h.tr (fun d hd => fr2 d (by omega)) ((congrFun (fr2 94 (by omega)) 0).trans h.2.2.1.2.2.2)
  have e109 := fr2 109 (by omega)
  have e110 := fr2 110 (by omega)
  exact k _ _ (fun Q' k' => sR_fits h1.wf rfl hw (fun g => by rw [e109, e110]; exact k' _ h1.c111)))
theorem st_places {c : Int} {w : Int} (h : Inv mem) (hc : i32 c) (hw : i32 w) : Step Γ mX10_places mX11_places [vI c, vI w] mem vI := fun Q k => sC_places h.wf h.ev h.2.2.1.2.2.2 hc hw (fun m1 fr e94 => by
  have h1 : Inv m1 := h.tr (fun d hd => fr d (by omega)) e94
  have e109 := fr 109 (by omega)
  have e110 := fr 110 (by omega)
  exact k _ _ (fun Q' k' => sR_places h1.wf rfl hc hw (fun m2 fr2 => by
    have fr3 : ∀ d : Nat, d < 111 ∨ (111 < d ∧ d < 115) ∨ 118 ≤ d → m2 d = m1 d := fun d hd => fr2 d (by simp only [List.mem_cons, List.not_mem_nil, or_false]; omega)
    rw [e109, e110]
    exact k' _ (h1.tr (fun d hd => fr3 d (by omega)) ((congrFun (fr3 94 (by omega)) 0).trans e94)))))
theorem st_fan {x : Int} {v : Int} (h : Inv mem) (hx : i32 x) (hv : i32 v) : Step Γ mX10_fan mX11_fan [vI x, vI v] mem vI := fun Q k => sC_fan h.wf h.ev hx hv (fun m1 fr ev => by
  have e109 := fr 109 (by omega)
  have e110 := fr 110 (by omega)
  exact k _ _ (fun Q' k' => sR_fan (by rw [e109]; exact h.wf.1) hx hv (by rw [e109, e110]; exact k' _ (h.upd fr ev (fanM_R h.1.1)))))
theorem st_ash {x : Int} {v : Int} (h : Inv mem) (hx : i32 x) (hv : i32 v) : Step Γ mX10_ash mX11_ash [vI x, vI v] mem vI := fun Q k => sC_ash h.wf h.ev hx hv (fun m1 fr ev => by
  have e109 := fr 109 (by omega)
  have e110 := fr 110 (by omega)
  exact k _ _ (fun Q' k' => sR_ash hx hv (by rw [e110]; exact k' _ (h.upd fr ev (ashM_R h.1.1)))))
theorem st_stoke {c : Int} {a : Int} {r : Int} (h : Inv mem) (hc : i32 c) (ha : i32 a) (hr : i32 r) : Step Γ mX10_stoke mX11_stoke [vI c, vI a, vI r] mem vI := fun Q k => sC_stoke h.wf h.ev hc ha hr (fun m1 fr ev => by
  have e109 := fr 109 (by omega)
  have e110 := fr 110 (by omega)
  exact k _ _ (fun Q' k' => sR_stoke (by rw [e109]; exact h.wf.1) (by rw [e110]; exact h.wf.2.2.2.2.1) hc ha hr (by rw [e109, e110]; exact k' _ (h.upd fr ev (stokeM_R h.1.1)))))
theorem st_add {s : Int} {w : Int} (h : Inv mem) (hs : i32 s) (hw : i32 w) : Step Γ mX10_add mX11_add [vI s, vI w] mem vI := fun Q k => sC_add h.wf h.ev hs hw (fun m1 fr ev => by
  have e109 := fr 109 (by omega)
  have e110 := fr 110 (by omega)
  exact k _ _ (fun Q' k' => sR_add (by rw [e110]; exact h.wf.2.2.2.2.2.2.1) hs hw (by rw [e110]; exact k' _ (h.upd fr ev (addM_R h.1.1)))))
theorem st_dig {p : Int} {x : Int} (h : Inv mem) (hp : i32 p) (hx : i32 x) : Step Γ mX10_dig mX11_dig [vI p, vI x] mem vI := fun Q k => sC_dig h.wf h.ds h.ev hp hx (fun m1 fr ev => by
  have e109 := fr 109 (by omega)
  have e110 := fr 110 (by omega)
  exact k _ _ (fun Q' k' => sR_dig (n := m1 109 3) (by rw [e109, e110]; exact h.wf) rfl hp hx (by rw [e109, e110]; exact k' _ (h.upd fr ev (digM_R h.1.1)))))
theorem st_turn {p : Int} (h : Inv mem) (hp : i32 p) : Step Γ mX10_turn mX11_turn [vI p] mem vI := fun Q k => sC_turn h.wf h.ev hp (fun m1 fr ev => by
  have e109 := fr 109 (by omega)
  have e110 := fr 110 (by omega)
  exact k _ _ (fun Q' k' => sR_turn (by rw [e110]; exact fun p a b => (h.wf.2.2.2.2.2.2.2.1 p a b).2.2.2.2.2.2.1) (by rw [e110]; exact h.wf.2.2.2.2.2.2.1) hp (by rw [e110]; exact k' _ (h.upd fr ev (turnM_R h.1.1)))))
theorem st_wrap {p : Int} {w : Int} (h : Inv mem) (hp : i32 p) (hw : i32 w) : Step Γ mX10_wrap mX11_wrap [vI p, vI w] mem vI := fun Q k => sC_wrap h.wf h.ev hp hw (fun m1 fr ev => by
  have e109 := fr 109 (by omega)
  have e110 := fr 110 (by omega)
  exact k _ _ (fun Q' k' => sR_wrap (by rw [e110]; exact h.wf.2.2.2.2.2.2.1) hp hw (by rw [e110]; exact k' _ (h.upd fr ev (wrapM_R h.1.1)))))
theorem st_memo {p : Int} {c : Int} (h : Inv mem) (hp : i32 p) (hc : i32 c) : Step Γ mX10_memo mX11_memo [vI p, vI c] mem vI := fun Q k => sC_memo h.wf h.ev hp hc (fun m1 fr ev => by
  have e109 := fr 109 (by omega)
  have e110 := fr 110 (by omega)
  exact k _ _ (fun Q' k' => sR_memo (by rw [e109]; exact h.wf.1) (by rw [e110]; exact h.wf.2.2.2.2.2.2.1) hp hc (by rw [e109, e110]; exact k' _ (h.upd fr ev (memoM_R h.1.1)))))
theorem st_rake {x : Int} {b : Int} (h : Inv mem) (hx : i32 x) (hb : 0 ≤ b ∧ b ≤ 1) : Step Γ mX10_rake mX11_rake [vI x, vI b] mem vI := fun Q k => sC_rake h.wf h.ev hx hb (fun m1 fr ev => by
  have e109 := fr 109 (by omega)
  have e110 := fr 110 (by omega)
  exact k _ _ (fun Q' k' => sR_rake (by rw [e109]; exact h.wf.1) hx hb (by rw [e109, e110]; exact k' _ (h.upd fr ev (rakeM_R h.1.1)))))
theorem st_feel {c : Int} {x : Int} {v : Int} (h : Inv mem) (hc : i32 c) (hx : i32 x) (hv : i32 v) : Step Γ mX10_feel mX11_feel [vI c, vI x, vI v] mem vI := fun Q k => sC_feel h.wf h.ev hc hx hv (fun m1 fr ev => by
  have e109 := fr 109 (by omega)
  have e110 := fr 110 (by omega)
  exact k _ _ (fun Q' k' => sR_feel (by rw [e109]; exact h.wf.1) (by rw [e110]; exact h.wf.2.2.2.2.2.2.2.2.2.1) hc hx hv (by rw [e109, e110]; exact k' _ (h.upd fr ev (feelM_R h.1.1)))))
theorem st_forget {c : Int} (h : Inv mem) (hc : i32 c) : Step Γ mX10_forget mX11_forget [vI c] mem vI := fun Q k => sC_forget h.wf h.ev hc (fun m1 fr ev => by
  have e109 := fr 109 (by omega)
  have e110 := fr 110 (by omega)
  exact k _ _ (fun Q' k' => sR_forget (by rw [e110]; exact h.wf.2.2.2.2.2.2.2.2.2.1) hc (by rw [e110]; exact k' _ (h.upd fr ev (forgetM_R h.1.1)))))
theorem st_go {c : Int} (h : Inv mem) (hc : i32 c) : Step Γ mX10_go mX11_go [vI c] mem vI := fun Q k => sC_go h.wf h.ev h.h45 hc (fun m1 fr ev => by
  have e109 := fr 109 (by omega)
  have e110 := fr 110 (by omega)
  exact k _ _ (fun Q' k' => sR_go (n := m1 109 3) (by rw [e109, e110]; exact h.wf) rfl (by rw [e110]; exact h.h45) hc (fun g => by rw [e109, e110]; exact k' _ ((h.upd fr ev (goM_R h.1.1)).c111))))
end ZStep
