/-! steps of the reading: slots 0 where, 1 the number read last, 2 a number held, 5 .. 11 as the reference has them -/
theorem ebind {r : Except Int PSt} {A B : PSt → Except Int PSt} : (r.bind A).bind B = r.bind (fun s => (A s).bind B) := by
  cases r <;> rfl
def stP (G : PSt → PSt) (s : PSt) : Except Int PSt := .ok (G s)
theorem RefR.stp {mem0 m m' : Mem} {r : Except Int PSt} (h : RefR mem0 r m) (G : PSt → PSt) (hG : ∀ s, (G s).1 0 = s.1 0) (hf : FrX m' m [109, 113]) (hg : ∀ j : Int, j < 5 ∨ 11 < j → m' 109 j = m 109 j) (hok : ∀ s, r = .ok s → RefOk (mem0 114) (mem0 109 13) s m → (∀ j : Int, 5 ≤ j → j ≤ 11 → m' 109 j = (G s).1 j) ∧ m' 113 = (G s).2) : RefR mem0 (r.bind (stP G)) m' := by
  have hF : RefFr mem0 m' := by
    refine ⟨hf.tr h.1.fr, ?_, ?_, ?_, ?_, ?_⟩
    · intro j hj
      rw [hg j (by omega)]
      exact h.1.g j hj
    · rw [hg 14 (by omega)]; exact h.1.p
    · rw [hg 15 (by omega)]; exact h.1.b
    · rw [hg 17 (by omega)]; exact h.1.v
    · rw [hg 16 (by omega)]; exact h.1.k
  have hB : ∀ a, RefBad a m → RefBad a m' := by
    intro a z
    exact ⟨by rw [hg 18 (by omega)]; exact z.1, by rw [hg 19 (by omega), hg 18 (by omega)]; exact z.2⟩
  cases r with
  | error a => exact RefR.mkBad hF (hB a h.2)
  | ok s =>
    have e : ((Except.ok s : Except Int PSt).bind (stP G)) = .ok (G s) := rfl
    rw [e]
    refine ⟨hF, ?_⟩
    have h2 := h.2
    dsimp only at h2 ⊢
    have ep : PSt.p (G s) = PSt.p s := hG s
    by_cases hx : tkX (mem0 114) (mem0 109 13) s.p
    · rw [if_pos hx] at h2
      rw [if_pos (by rw [ep]; exact hx), ep]
      exact hB _ h2
    · rw [if_neg hx] at h2
      rw [if_neg (by rw [ep]; exact hx)]
      obtain ⟨k1, k2⟩ := hok s rfl h2
      refine ⟨by rw [hg 18 (by omega)]; exact h2.f, by rw [ep]; exact hx, by rw [ep, hg 14 (by omega)]; exact h2.e, by rw [ep, hg 15 (by omega)]; exact h2.b, by rw [ep, hg 16 (by omega)]; exact h2.k, ?_, k1, k2⟩
      rw [ep, hg 17 (by omega)]
      exact h2.v
/-- slot 1 := the number of the token at p -/
def ghV (t : Int → Int) (L : Int) (s : PSt) : PSt := (fset s.1 1 (tkV t L s.p), s.2)
def numP (t : Int → Int) (L lo hi : Int) (s : PSt) : Except Int PSt := ((chkP (numD t L) t L (numC t L lo hi) s).bind (stP (ghV t L))).bind (advP t L)
def cellG (t : Int → Int) (L : Int) (s : PSt) : PSt := (fset (fset s.1 1 (tkV t L s.p)) 9 (if s.1 9 < tkV t L s.p then tkV t L s.p else s.1 9), s.2)
def cellL (t : Int → Int) (L : Int) (s : PSt) : Except Int PSt := (chkP (numD t L) t L (numC t L 0 7) s).bind (stP (cellG t L))
def cellP (t : Int → Int) (L : Int) (s : PSt) : Except Int PSt := (cellL t L s).bind (advP t L)
theorem chkP_ok {cd : PSt → Int} {t : Int → Int} {L : Int} {c : PSt → Prop} [∀ s, Decidable (c s)] {r : Except Int PSt} {s : PSt} (h : r.bind (chkP cd t L c) = .ok s) : r = .ok s ∧ ¬ tkX t L s.p ∧ c s := by
  cases r with
  | error a => exact absurd h (by intro z; cases z)
  | ok s2 =>
    have h2 : chkP cd t L c s2 = .ok s := h
    unfold chkP at h2
    split at h2
    · cases h2
    · next hx =>
      split at h2
      · next hc =>
        cases h2
        exact ⟨rfl, hx, hc⟩
      · cases h2
theorem stP_ok {G : PSt → PSt} {r : Except Int PSt} {s' : PSt} (h : r.bind (stP G) = .ok s') : ∃ s, r = .ok s ∧ s' = G s := by
  cases r with
  | error a => exact absurd h (by intro z; cases z)
  | ok s => exact ⟨s, rfl, by have h2 : Except.ok (G s) = (.ok s' : Except Int PSt) := h; cases h2; rfl⟩
theorem advP_ok {t : Int → Int} {L : Int} {r : Except Int PSt} {s' : PSt} (h : r.bind (advP t L) = .ok s') : ∃ s, r = .ok s ∧ ¬ tkX t L s.p ∧ s' = (fset s.1 0 (tkE t L s.p), s.2) := by
  cases r with
  | error a => exact absurd h (by intro z; cases z)
  | ok s =>
    have h2 : advP t L s = .ok s' := h
    unfold advP at h2
    split at h2
    · cases h2
    · next hz => cases h2; exact ⟨s, rfl, hz, rfl⟩
section ZRef27
variable {Γ : ZG} {mem mem0 : Mem} {Q : Option AV → Mem → Prop}
theorem RefR.gh {r : Except Int PSt} {m : Mem} (h : RefR mem0 r m) (G : PSt → PSt) (hG : ∀ s, (G s).1 0 = s.1 0) (h5 : ∀ (s : PSt) (j : Int), 5 ≤ j → (G s).1 j = s.1 j) (hd : ∀ s, (G s).2 = s.2) : RefR mem0 (r.bind (stP G)) m :=
  h.stp G hG FrX.rf (fun _ _ => rfl) (fun s _ ho => ⟨fun j h1 h2 => by rw [h5 s j h1]; exact ho.g j h1 h2, by rw [hd]; exact ho.d⟩)
theorem sR_numR {lo hi : Int} (r : Except Int PSt) (hlh : 0 ≤ lo ∧ lo ≤ hi ∧ hi ≤ 99) (tp : TpOK mem0) (hR : RefR mem0 r mem) (k : ∀ (v : Int) (m' : Mem), RefR mem0 (r.bind (numP (mem0 114) (mem0 109 13) lo hi)) m' → (0 ≤ v ∧ v ≤ 99) → (∀ s, r.bind (numP (mem0 114) (mem0 109 13) lo hi) = .ok s → v = s.1 1) → m' 113 = mem 113 → Q (some (vI v)) m') : AMet Γ mX11_readNumber [vR 109, vI lo, vI hi] zG mem Q := by
  have eN : r.bind (numP (mem0 114) (mem0 109 13) lo hi) = ((r.bind (chkP (numD (mem0 114) (mem0 109 13)) (mem0 114) (mem0 109 13) (numC (mem0 114) (mem0 109 13) lo hi))).bind (stP (ghV (mem0 114) (mem0 109 13)))).bind (advP (mem0 114) (mem0 109 13)) := by
    cases r <;> rfl
  rw [eN] at k
  refine AMet.of' 1 (ls := [some (vR (109)), some (vI (lo)), some (vI (hi)), none]) (by decide) rfl (Nat.le_of_ble_eq_true rfl) ?_
  refine aw_aload_n dX11_readNumber_0 rfl rfl ?_
  refine aw_iload_n dX11_readNumber_1 rfl rfl ?_
  refine aw_iload_n dX11_readNumber_2 rfl rfl ?_
  refine aw_callV [_, _] _ dX11_readNumber_3 rfl clv_X11_127 (by decide) ⟨Nat.zero_le _, Nat.zero_le _⟩ g109 (by rfl) (Nat.le_of_ble_eq_true rfl) rfl ?_
  refine sR_lookedR r hlh hR (fun v m1 h1 z1 y1 d1 => ?_)
  refine aw_istore3 rfl dX11_readNumber_6 rfl (by decide) ?_
  refine aw_aload_n dX11_readNumber_7 rfl rfl ?_
  refine aw_callV [] _ dX11_readNumber_8 rfl clv_X11_131 (by decide) ⟨Nat.zero_le _, Nat.zero_le _⟩ g109 (by rfl) (Nat.le_of_ble_eq_true rfl) rfl ?_
  refine sR_nextR _ tp (h1.gh (ghV (mem0 114) (mem0 109 13)) (fun _ => rfl) (fun s j hj => fset_ne (by omega)) (fun _ => rfl)) (fun m2 h2 d2 => ?_)
  refine aw_iload_n dX11_readNumber_11 rfl rfl ?_
  refine aw_ireturn (ty := .int) dX11_readNumber_12 rfl rfl ?_
  refine k v m2 h2 ?_ ?_ (d2.trans d1)
  · by_cases hf : m1 109 18 = 0
    · have := z1 hf; omega
    · have := y1 hf; omega
  · intro s hs
    obtain ⟨s1, e1, x1, q1⟩ := advP_ok hs
    obtain ⟨s2, e2, q2⟩ := stP_ok e1
    obtain ⟨e3, x3, c3⟩ := chkP_ok e2
    rw [looked_v h1 z1 s2 e3 x3 c3, q1, q2]
    rfl
theorem sR_lookedCellR (r : Except Int PSt) (hR : RefR mem0 r mem) (h9 : mem 109 18 = 0 → -4 ≤ mem 109 9 ∧ mem 109 9 ≤ 99) (k : ∀ (v : Int) (m' : Mem), RefR mem0 (r.bind (cellL (mem0 114) (mem0 109 13))) m' → (0 ≤ v ∧ v ≤ 7) → (∀ s, r.bind (cellL (mem0 114) (mem0 109 13)) = .ok s → v = s.1 1) → m' 113 = mem 113 → Q (some (vI v)) m') : AMet Γ mX11_lookedCell [vR 109] zG mem Q := by
  have eN : r.bind (cellL (mem0 114) (mem0 109 13)) = (r.bind (chkP (numD (mem0 114) (mem0 109 13)) (mem0 114) (mem0 109 13) (numC (mem0 114) (mem0 109 13) 0 7))).bind (stP (cellG (mem0 114) (mem0 109 13))) := by
    cases r <;> rfl
  rw [eN] at k
  have fin : ∀ (v : Int) (m1 : Mem) (x : Int), RefR mem0 (r.bind (chkP (numD (mem0 114) (mem0 109 13)) (mem0 114) (mem0 109 13) (numC (mem0 114) (mem0 109 13) 0 7))) m1 → (m1 109 18 = 0 → m1 = mem ∧ v = mem 109 17 ∧ 0 ≤ v ∧ v ≤ 7) → (¬ m1 109 18 = 0 → v = 0) → m1 113 = mem 113 → (m1 109 18 = 0 → x = if m1 109 9 < v then v else m1 109 9) → Q (some (vI v)) (mset m1 109 9 x) := by
    intro v m1 x h1 z1 y1 d1 hx
    refine k v _ (h1.stp (cellG (mem0 114) (mem0 109 13)) (fun _ => rfl) (FrX.rf.set (by decide)) (fun j hj => ?_) (fun s hs ho => ?_)) ?_ ?_ ?_
    · rw [mset_eq, mcell_same, fset_ne (by omega)]
    · obtain ⟨e3, x3, c3⟩ := chkP_ok hs
      have hv := looked_v h1 z1 s e3 x3 c3
      refine ⟨fun j h1 h2 => ?_, ?_⟩
      · rw [mset_eq, mcell_same]
        unfold cellG
        by_cases h : j = 9
        · subst h
          rw [fset_same]
          dsimp only
          rw [fset_same, hx ho.f, ho.g 9 (by omega) (by omega), hv]
        · refine (fset_ne h).trans (Eq.trans ?_ ((fset_ne h).trans (fset_ne (by omega))).symm)
          exact ho.g j h1 h2
      · rw [mset_eq, mcell_ne (by decide)]
        exact ho.d
    · by_cases hf : m1 109 18 = 0
      · have := z1 hf; omega
      · have := y1 hf; omega
    · intro s hs
      obtain ⟨s2, e2, q2⟩ := stP_ok hs
      obtain ⟨e3, x3, c3⟩ := chkP_ok e2
      rw [looked_v h1 z1 s2 e3 x3 c3, q2]
      rfl
    · rw [mset_eq, mcell_ne (by decide)]
      exact d1
  refine AMet.of' 1 (ls := [some (vR (109)), none]) (by decide) rfl (Nat.le_of_ble_eq_true rfl) ?_
  refine aw_aload_n dX11_lookedCell_0 rfl rfl ?_
  refine aw_iconst dX11_lookedCell_1 rfl ?_
  refine aw_bipush dX11_lookedCell_2 rfl (by decide) ?_
  refine aw_callV [_, _] _ dX11_lookedCell_4 rfl clv_X11_127 (by decide) ⟨Nat.zero_le _, Nat.zero_le _⟩ g109 (by rfl) (Nat.le_of_ble_eq_true rfl) rfl ?_
  refine sR_lookedR r (by omega) hR (fun v m1 h1 z1 y1 d1 => ?_)
  refine aw_istore1 rfl dX11_lookedCell_7 rfl (by decide) ?_
  have f1 := h1.flt
  have r9 : m1 109 18 = 0 → (-4 ≤ m1 109 9 ∧ m1 109 9 ≤ 99) ∧ 0 ≤ v ∧ v ≤ 7 := fun z => ⟨by have e := (z1 z).1; rw [e] at z ⊢; exact h9 z, (z1 z).2.2.1, (z1 z).2.2.2⟩
  refine aw_aload_n dX11_lookedCell_8 rfl rfl ?_
  refine aw_aload_n dX11_lookedCell_9 rfl rfl ?_
  refine aw_getI (kI := 18) dX11_lookedCell_10 rfl fl_X11_85 g109 (by rfl) rfl ?_
  refine aw_if_ne (tgt := 28) dX11_lookedCell_13 (by decide) rfl (by omega) (fun c13 => ?_) (fun c13 => ?_)
  · refine aw_aload_n dX11_lookedCell_28 rfl rfl ?_
    refine aw_getI (kI := 9) dX11_lookedCell_29 rfl fl_X11_64 g109 (by rfl) rfl ?_
    refine aw_putI (kI := 9) dX11_lookedCell_32 rfl fp_X11_64 g109 (by rfl) rfl ?_
    refine aw_iload_n dX11_lookedCell_35 rfl rfl ?_
    refine aw_ireturn (ty := .int) dX11_lookedCell_36 rfl rfl ?_
    exact fin v m1 _ h1 z1 y1 d1 (fun z => by first | (exfalso; exact c13 z) | (rw [if_pos (by omega)]) | (rw [if_neg (by omega)]))
  · have r9' := r9 c13
    refine aw_iload_n dX11_lookedCell_16 rfl rfl ?_
    refine aw_aload_n dX11_lookedCell_17 rfl rfl ?_
    refine aw_getI (kI := 9) dX11_lookedCell_18 rfl fl_X11_64 g109 (by rfl) rfl ?_
    refine aw_icmp_le (tgt := 28) dX11_lookedCell_21 (by decide) rfl (by omega) (by omega) (fun c21 => ?_) (fun c21 => ?_)
    · refine aw_aload_n dX11_lookedCell_28 rfl rfl ?_
      refine aw_getI (kI := 9) dX11_lookedCell_29 rfl fl_X11_64 g109 (by rfl) rfl ?_
      refine aw_putI (kI := 9) dX11_lookedCell_32 rfl fp_X11_64 g109 (by rfl) rfl ?_
      refine aw_iload_n dX11_lookedCell_35 rfl rfl ?_
      refine aw_ireturn (ty := .int) dX11_lookedCell_36 rfl rfl ?_
      exact fin v m1 _ h1 z1 y1 d1 (fun z => by first | (exfalso; exact c13 z) | (rw [if_pos (by omega)]) | (rw [if_neg (by omega)]))
    · refine aw_iload_n dX11_lookedCell_24 rfl rfl ?_
      refine aw_goto (tgt := 32) dX11_lookedCell_25 (by decide) ?_
      refine aw_putI (kI := 9) dX11_lookedCell_32 rfl fp_X11_64 g109 (by rfl) rfl ?_
      refine aw_iload_n dX11_lookedCell_35 rfl rfl ?_
      refine aw_ireturn (ty := .int) dX11_lookedCell_36 rfl rfl ?_
      exact fin v m1 _ h1 z1 y1 d1 (fun z => by first | (exfalso; exact c13 z) | (rw [if_pos (by omega)]) | (rw [if_neg (by omega)]))
end ZRef27
