/-! reading a text, step by step: where the next token is looked for, and what was read -/
abbrev PSt := (Int → Int) × (Int → Int)
abbrev PSt.p (s : PSt) : Int := s.1 0
/-- the token at s.p must be one, and must be so -/
def erX (t : Int → Int) (L p : Int) : Int := 8 * tkB t L p + 1
abbrev k2 (_ : PSt) : Int := 2
abbrev k4 (_ : PSt) : Int := 4
abbrev k5 (_ : PSt) : Int := 5
def chkP (cd : PSt → Int) (t : Int → Int) (L : Int) (c : PSt → Prop) [∀ s, Decidable (c s)] (s : PSt) : Except Int PSt := if tkX t L s.p then .error (erX t L s.p) else if c s then .ok s else .error (8 * tkB t L s.p + cd s)
/-- behind the token at s.p -/
def advP (t : Int → Int) (L : Int) (s : PSt) : Except Int PSt := if tkX t L s.p then .error (erX t L s.p) else .ok (fset s.1 0 (tkE t L s.p), s.2)
/-- the reference stands at s: its token is read -/
abbrev RefOk (t : Int → Int) (L : Int) (s : PSt) (m : Mem) : Prop := m 109 18 = 0 ∧ ¬ tkX t L s.p ∧ m 109 14 = tkE t L s.p ∧ m 109 15 = tkB t L s.p ∧ m 109 16 = tkK t L s.p ∧ (tkK t L s.p = 2 → m 109 17 = tkV t L s.p) ∧ (∀ j : Int, 5 ≤ j → j ≤ 11 → m 109 j = s.1 j) ∧ m 113 = s.2
section
variable {t : Int → Int} {L : Int} {s : PSt} {m : Mem}
theorem RefOk.f (h : RefOk t L s m) : m 109 18 = 0 := h.1
theorem RefOk.x (h : RefOk t L s m) : ¬ tkX t L s.p := h.2.1
theorem RefOk.e (h : RefOk t L s m) : m 109 14 = tkE t L s.p := h.2.2.1
theorem RefOk.b (h : RefOk t L s m) : m 109 15 = tkB t L s.p := h.2.2.2.1
theorem RefOk.k (h : RefOk t L s m) : m 109 16 = tkK t L s.p := h.2.2.2.2.1
theorem RefOk.v (h : RefOk t L s m) : tkK t L s.p = 2 → m 109 17 = tkV t L s.p := h.2.2.2.2.2.1
theorem RefOk.g (h : RefOk t L s m) : ∀ j : Int, 5 ≤ j → j ≤ 11 → m 109 j = s.1 j := h.2.2.2.2.2.2.1
theorem RefOk.d (h : RefOk t L s m) : m 113 = s.2 := h.2.2.2.2.2.2.2
end
abbrev RefBad (a : Int) (m : Mem) : Prop := (0 < m 109 18 ∧ m 109 18 ≤ 6) ∧ 8 * m 109 19 + m 109 18 = a
theorem RefBad.f {a : Int} {m : Mem} (h : RefBad a m) : 0 < m 109 18 ∧ m 109 18 ≤ 6 := h.1
/-- what reading leaves alone, and what holds through it -/
abbrev RefFr (mem0 m : Mem) : Prop := FrX m mem0 [109, 113] ∧ (∀ j : Int, j < 5 ∨ j = 12 ∨ j = 13 ∨ 19 < j → m 109 j = mem0 109 j) ∧ (0 ≤ m 109 14 ∧ m 109 14 ≤ mem0 109 13) ∧ (0 ≤ m 109 15 ∧ m 109 15 ≤ mem0 109 13) ∧ (0 ≤ m 109 17 ∧ m 109 17 ≤ 99) ∧ (0 ≤ m 109 16 ∧ m 109 16 ≤ 3)
section
variable {m m0 : Mem}
theorem RefFr.fr (h : RefFr m0 m) : FrX m m0 [109, 113] := h.1
theorem RefFr.g (h : RefFr m0 m) : ∀ j : Int, j < 5 ∨ j = 12 ∨ j = 13 ∨ 19 < j → m 109 j = m0 109 j := h.2.1
theorem RefFr.p (h : RefFr m0 m) : 0 ≤ m 109 14 ∧ m 109 14 ≤ m0 109 13 := h.2.2.1
theorem RefFr.b (h : RefFr m0 m) : 0 ≤ m 109 15 ∧ m 109 15 ≤ m0 109 13 := h.2.2.2.1
theorem RefFr.v (h : RefFr m0 m) : 0 ≤ m 109 17 ∧ m 109 17 ≤ 99 := h.2.2.2.2.1
theorem RefFr.k (h : RefFr m0 m) : 0 ≤ m 109 16 ∧ m 109 16 ≤ 3 := h.2.2.2.2.2
end
def RefR (mem0 : Mem) (r : Except Int PSt) (m : Mem) : Prop := RefFr mem0 m ∧ match r with
  | .error a => RefBad a m
  | .ok s => if tkX (mem0 114) (mem0 109 13) s.p then RefBad (erX (mem0 114) (mem0 109 13) s.p) m else RefOk (mem0 114) (mem0 109 13) s m
theorem RefR.flt {mem0 m : Mem} {r : Except Int PSt} (h : RefR mem0 r m) : 0 ≤ m 109 18 ∧ m 109 18 ≤ 6 := by
  obtain ⟨-, h⟩ := h
  cases r with
  | error a => have := h.f; omega
  | ok s =>
    dsimp only at h
    split at h
    · have := h.f; omega
    · have := h.f; omega
/-- a reading that has failed: what follows doesn't change it -/
theorem RefR.bad {mem0 m : Mem} {r : Except Int PSt} (h : RefR mem0 r m) (hf : ¬ m 109 18 = 0) : ∃ a, RefBad a m ∧ (r = .error a ∨ ∃ s, r = .ok s ∧ tkX (mem0 114) (mem0 109 13) s.p ∧ a = erX (mem0 114) (mem0 109 13) s.p) := by
  obtain ⟨-, h⟩ := h
  cases r with
  | error a => exact ⟨a, h, Or.inl rfl⟩
  | ok s =>
    dsimp only at h
    split at h
    · exact ⟨_, h, Or.inr ⟨s, rfl, by assumption, rfl⟩⟩
    · exact absurd h.f hf
theorem RefR.good {mem0 m : Mem} {r : Except Int PSt} (h : RefR mem0 r m) (hf : m 109 18 = 0) : ∃ s, r = .ok s ∧ RefOk (mem0 114) (mem0 109 13) s m := by
  obtain ⟨-, h⟩ := h
  cases r with
  | error a => have := h.f; omega
  | ok s =>
    dsimp only at h
    split at h
    · have := h.f; omega
    · exact ⟨s, rfl, h⟩
theorem RefR.mkOk {mem0 m : Mem} {s : PSt} (hF : RefFr mem0 m) (h : RefOk (mem0 114) (mem0 109 13) s m) : RefR mem0 (.ok s) m := by
  refine ⟨hF, ?_⟩
  dsimp only
  rw [if_neg h.x]
  exact h
theorem RefR.mkBad {mem0 m : Mem} {a : Int} (hF : RefFr mem0 m) (h : RefBad a m) : RefR mem0 (.error a) m := ⟨hF, h⟩
theorem bind_bad {mem0 : Mem} {r : Except Int PSt} {a : Int} (h : r = .error a ∨ ∃ s, r = .ok s ∧ tkX (mem0 114) (mem0 109 13) s.p ∧ a = erX (mem0 114) (mem0 109 13) s.p) {f : PSt → Except Int PSt} (hf : ∀ s, tkX (mem0 114) (mem0 109 13) s.p → f s = .error (erX (mem0 114) (mem0 109 13) s.p)) : r.bind f = .error a := by
  rcases h with h | ⟨s, h, hx, ha⟩
  · subst h; rfl
  · subst h
    subst ha
    exact hf s hx
theorem chkP_x {cd : PSt → Int} {t : Int → Int} {L : Int} {c : PSt → Prop} [∀ s, Decidable (c s)] (s : PSt) (h : tkX t L s.p) : chkP cd t L c s = .error (erX t L s.p) := by
  unfold chkP
  rw [if_pos h]
theorem advP_x {t : Int → Int} {L : Int} (s : PSt) (h : tkX t L s.p) : advP t L s = .error (erX t L s.p) := by
  unfold advP
  rw [if_pos h]
theorem chkP_y {cd : PSt → Int} {t : Int → Int} {L : Int} {c : PSt → Prop} [∀ s, Decidable (c s)] {s : PSt} (h : ¬ tkX t L s.p) (hc : c s) : chkP cd t L c s = .ok s := by
  unfold chkP
  rw [if_neg h, if_pos hc]
theorem chkP_n {cd : PSt → Int} {t : Int → Int} {L : Int} {c : PSt → Prop} [∀ s, Decidable (c s)] {s : PSt} (h : ¬ tkX t L s.p) (hc : ¬ c s) : chkP cd t L c s = .error (8 * tkB t L s.p + cd s) := by
  unfold chkP
  rw [if_neg h, if_neg hc]
abbrev TpOK (mem0 : Mem) : Prop := (0 ≤ mem0 109 13 ∧ mem0 109 13 ≤ 160) ∧ (∀ i : Int, 0 ≤ i → i < mem0 109 13 → 0 ≤ mem0 114 i ∧ mem0 114 i ≤ 127)
theorem tkB_rng {t : Int → Int} {L p : Int} (h : 0 ≤ p ∧ p ≤ L) : p ≤ tkB t L p ∧ tkB t L p ≤ L := endF_r (by omega) h.2
theorem lookF_lt {t : Int → Int} {L p : Int} (h : 0 ≤ lookF t L p) : p < L ∧ lookF t L p = t p := by
  unfold lookF at h ⊢
  split at h
  · next hp => exact ⟨hp, by rw [if_pos hp]⟩
  · omega
theorem tkE_rng {t : Int → Int} {L p : Int} (h : 0 ≤ p ∧ p ≤ L) : tkB t L p ≤ tkE t L p ∧ tkE t L p ≤ L := by
  have hb := tkB_rng (t := t) h
  unfold tkE
  split
  · omega
  · split
    · exact endF_r (by omega) hb.2
    · split
      · exact endF_r (by omega) hb.2
      · next h0 h1 h2 =>
        have : ¬ lookF t L (tkB t L p) < 0 := fun z => h0 (by unfold tkK; rw [if_pos z])
        have := (lookF_lt (t := t) (L := L) (p := tkB t L p) (by omega)).1
        omega
theorem tkK_rng {t : Int → Int} {L p : Int} : 0 ≤ tkK t L p ∧ tkK t L p ≤ 3 := by
  unfold tkK
  (repeat' split) <;> omega
theorem tkV_rng {t : Int → Int} {L p : Int} (h : tkK t L p = 2) : 0 ≤ tkV t L p ∧ tkV t L p ≤ 99 := by
  have hlb : 48 ≤ lookF t L (tkB t L p) ∧ lookF t L (tkB t L p) ≤ 57 := by
    by_cases hz : 48 ≤ lookF t L (tkB t L p) ∧ lookF t L (tkB t L p) ≤ 57
    · exact hz
    · exfalso
      unfold tkK at h
      rw [if_neg hz] at h
      split at h
      · omega
      · split at h <;> omega
  have l1 := lookF_lt (t := t) (L := L) (p := tkB t L p) (by omega)
  have hE : tkE t L p = endF t L 48 57 (tkB t L p + 1) := by
    unfold tkE
    rw [if_neg (by omega), if_neg (by omega), if_pos h, endF_y (by omega) hlb]
  unfold tkV
  split
  · omega
  · next h2 =>
    have hl2 : 48 ≤ lookF t L (tkB t L p + 1) ∧ lookF t L (tkB t L p + 1) ≤ 57 := by
      by_cases hz : 48 ≤ lookF t L (tkB t L p + 1) ∧ lookF t L (tkB t L p + 1) ≤ 57
      · exact hz
      · exfalso
        rw [endF_n hz] at hE
        omega
    have l2 := lookF_lt (t := t) (L := L) (p := tkB t L p + 1) (by omega)
    omega
section ZRef24
variable {Γ : ZG} {mem mem0 : Mem} {Q : Option AV → Mem → Prop}
theorem sR_needsR {b code : Int} (r : Except Int PSt) (cd : PSt → Int) (c : PSt → Prop) [∀ s, Decidable (c s)] (hcd : 1 ≤ code ∧ code ≤ 6) (hb1 : b = 1 ∨ b = 0) (hR : RefR mem0 r mem) (hb : ∀ s, r = .ok s → mem 109 18 = 0 → (b = 1 ∧ c s) ∨ (b = 0 ∧ ¬ c s)) (k : ∀ m' : Mem, m' = mcell mem 109 (needC (b = 1) code (mem 109)) → RefR mem0 (r.bind (chkP cd (mem0 114) (mem0 109 13) c)) m' → Q none m') (hcs : ∀ s, r = .ok s → mem 109 18 = 0 → cd s = code := by intro _ _ _; rfl) : AMet Γ mX11_needs [vR 109, vI b, vI code] zG mem Q := by
  refine sR_needs (b = 1) (by omega) hR.flt (k _ rfl ?_)
  by_cases hf : mem 109 18 = 0
  · obtain ⟨s, hs, ho⟩ := hR.good hf
    have hbs := hb s hs hf
    have hcs' := hcs s hs hf
    subst hs
    show RefR mem0 (chkP cd (mem0 114) (mem0 109 13) c s) _
    rcases hbs with ⟨h1, hc⟩ | ⟨h1, hc⟩
    · rw [needC_t h1, mcell_self, chkP_y ho.x hc]
      exact hR
    · rw [chkP_n ho.x hc, hcs']
      have hn : needC (b = 1) code (mem 109) = fset (fset (mem 109) 18 code) 19 (mem 109 15) := by
        unfold needC
        rw [if_pos ⟨by omega, hf⟩]
      rw [hn]
      obtain ⟨hF, -⟩ := hR
      refine RefR.mkBad ⟨?_, ?_, ?_, ?_, ?_, ?_⟩ ⟨?_, ?_⟩
      · intro x hx
        rw [mcell_ne (fun z => hx (by rw [z]; simp))]
        exact hF.fr x hx
      · intro j hj
        rw [mcell_same, fset_ne (by omega), fset_ne (by omega)]
        exact hF.g j hj
      · exact hF.p
      · exact hF.b
      · exact hF.v
      · exact hF.k
      · show 0 < code ∧ code ≤ 6
        omega
      · show 8 * mem 109 15 + code = _
        rw [ho.b]
  · obtain ⟨a, hB, ha⟩ := hR.bad hf
    have hn : needC (b = 1) code (mem 109) = mem 109 := by
      unfold needC
      rw [if_neg (fun z => hf z.2)]
    rw [hn, mcell_self, bind_bad ha (fun s h => chkP_x s h)]
    exact RefR.mkBad hR.1 hB
theorem sR_nextR (r : Except Int PSt) (tp : TpOK mem0) (hR : RefR mem0 r mem) (k : ∀ m' : Mem, RefR mem0 (r.bind (advP (mem0 114) (mem0 109 13))) m' → m' 113 = mem 113 → Q none m') : AMet Γ mX11_next [vR 109] zG mem Q := by
  have e13 : mem 109 13 = mem0 109 13 := hR.1.g 13 (by omega)
  have e114 : mem 114 = mem0 114 := hR.1.fr 114 (by decide)
  refine sR_nextV hR.flt (by rw [e13]; exact tp.1) (by rw [e13]; exact hR.1.p) (by rw [e13, e114]; exact tp.2) (k _ ?_ (mcell_ne (by decide)))
  by_cases hf : mem 109 18 = 0
  · obtain ⟨s, hs, ho⟩ := hR.good hf
    subst hs
    show RefR mem0 (advP (mem0 114) (mem0 109 13) s) _
    have hp := hR.1.p
    have ha : advP (mem0 114) (mem0 109 13) s = .ok (fset s.1 0 (mem 109 14), s.2) := by
      unfold advP
      rw [if_neg ho.x, ho.e]
    rw [ha, nextC_eq hf, e13, e114]
    have hB := tkB_rng (t := mem0 114) hp
    have hE := tkE_rng (t := mem0 114) hp
    have hK := tkK_rng (t := mem0 114) (L := mem0 109 13) (p := mem 109 14)
    have hF : ∀ g : Int → Int, (∀ j : Int, ¬ j = 18 → ¬ j = 19 → g j = tokC (tkB (mem0 114) (mem0 109 13) (mem 109 14)) (tkK (mem0 114) (mem0 109 13) (mem 109 14)) (tkE (mem0 114) (mem0 109 13) (mem 109 14)) (tkV (mem0 114) (mem0 109 13) (mem 109 14)) (mem 109) j) → RefFr mem0 (mcell mem 109 g) := by
      intro g hg
      refine ⟨hR.1.fr.cell (by decide), ?_, ?_, ?_, ?_, ?_⟩
      · intro j hj
        rw [mcell_same, hg j (by omega) (by omega)]
        unfold tokC
        rw [if_neg (by omega), if_neg (by omega), if_neg (by omega), if_neg (by omega)]
        exact hR.1.g j hj
      · rw [mcell_same, hg 14 (by decide) (by decide), tokC_14]
        omega
      · rw [mcell_same, hg 15 (by decide) (by decide), tokC_15]
        omega
      · rw [mcell_same, hg 17 (by decide) (by decide)]
        unfold tokC
        rw [if_neg (by decide), if_neg (by decide), if_neg (by decide), if_pos rfl]
        split
        · exact tkV_rng (by assumption)
        · exact hR.1.v
      · rw [mcell_same, hg 16 (by decide) (by decide)]
        exact hK
    refine ⟨?_, ?_⟩
    · refine hF _ (fun j h18 h19 => ?_)
      unfold needC
      split
      · rw [fset_ne h19, fset_ne h18]
      · rfl
    · dsimp only
      by_cases hx : tkX (mem0 114) (mem0 109 13) (mem 109 14)
      · rw [if_pos (show tkX (mem0 114) (mem0 109 13) (PSt.p (fset s.1 0 (mem 109 14), s.2)) from hx)]
        have hn : ∀ g : Int → Int, g 18 = 0 → needC (¬ tkX (mem0 114) (mem0 109 13) (mem 109 14)) 1 g = fset (fset g 18 1) 19 (g 15) := by
          intro g hg
          unfold needC
          rw [if_pos ⟨fun z => z hx, hg⟩]
        rw [hn _ (show tokC _ _ _ _ (mem 109) 18 = 0 from hf)]
        exact ⟨by rw [mcell_same, fset_ne (by decide), fset_same]; omega, by rw [mcell_same, fset_same, fset_ne (by decide), fset_same]; rfl⟩
      · rw [if_neg (show ¬ tkX (mem0 114) (mem0 109 13) (PSt.p (fset s.1 0 (mem 109 14), s.2)) from hx), needC_t hx]
        refine ⟨hf, hx, rfl, rfl, rfl, ?_, ?_, ?_⟩
        · intro hk
          have hk2 : tkK (mem0 114) (mem0 109 13) (mem 109 14) = 2 := hk
          rw [mcell_same, hk2]
          rfl
        · intro j h1 h2
          rw [mcell_same]
          unfold tokC
          rw [if_neg (by omega), if_neg (by omega), if_neg (by omega), if_neg (by omega), ho.g j h1 h2]
          exact (fset_ne (by omega)).symm
        · rw [mcell_ne (by decide)]
          exact ho.d
  · obtain ⟨a, hB, ha⟩ := hR.bad hf
    have hn : nextC (mem 114) (mem 109) = mem 109 := by
      unfold nextC
      rw [if_pos (by have := hB.f; omega)]
    rw [hn, mcell_self, bind_bad ha (fun s h => advP_x s h)]
    exact RefR.mkBad hR.1 hB
end ZRef24
