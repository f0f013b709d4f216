section ZRef26
variable {Γ : ZG} {mem mem0 : Mem} {Q : Option AV → Mem → Prop}
theorem RefR.ok {mem0 m : Mem} {s : PSt} (h : RefR mem0 (.ok s) m) (hx : ¬ tkX (mem0 114) (mem0 109 13) s.p) : RefOk (mem0 114) (mem0 109 13) s m := by
  have := h.2
  dsimp only at this
  rw [if_neg hx] at this
  exact this
theorem looked_v {lo hi v : Int} {r : Except Int PSt} {m' : Mem} (h1 : RefR mem0 (r.bind (chkP (numD (mem0 114) (mem0 109 13)) (mem0 114) (mem0 109 13) (numC (mem0 114) (mem0 109 13) lo hi))) m') (z1 : m' 109 18 = 0 → m' = mem ∧ v = mem 109 17 ∧ lo ≤ v ∧ v ≤ hi) (s : PSt) (hs : r = .ok s) (hx : ¬ tkX (mem0 114) (mem0 109 13) s.p) (hn : numC (mem0 114) (mem0 109 13) lo hi s) : v = tkV (mem0 114) (mem0 109 13) s.p := by
  subst hs
  have h2 : RefR mem0 (chkP (numD (mem0 114) (mem0 109 13)) (mem0 114) (mem0 109 13) (numC (mem0 114) (mem0 109 13) lo hi) s) m' := h1
  rw [chkP_y hx hn] at h2
  have ho := h2.ok hx
  have hz := z1 ho.f
  rw [hz.2.1, ← hz.1]
  exact ho.v hn.1
theorem sR_readNumberR {lo hi : Int} (r : Except Int PSt) (hlh : 0 ≤ lo ∧ lo ≤ hi ∧ hi ≤ 99) (tp : TpOK mem0) (hR : RefR mem0 r mem) (k : ∀ (v : Int) (m' : Mem), RefR mem0 ((r.bind (chkP (numD (mem0 114) (mem0 109 13)) (mem0 114) (mem0 109 13) (numC (mem0 114) (mem0 109 13) lo hi))).bind (advP (mem0 114) (mem0 109 13))) m' → (0 ≤ v ∧ v ≤ 99) → (∀ s, r = .ok s → ¬ tkX (mem0 114) (mem0 109 13) s.p → numC (mem0 114) (mem0 109 13) lo hi s → v = tkV (mem0 114) (mem0 109 13) s.p) → m' 113 = mem 113 → Q (some (vI v)) m') : AMet Γ mX11_readNumber [vR 109, vI lo, vI hi] zG mem Q := by
  refine AMet.of' 1 (ls := [some (vR (109)), some (vI (lo)), some (vI (hi)), none]) (by decide) rfl (Nat.le_of_ble_eq_true rfl) ?_
  refine aw_aload_n dX11_readNumber_0 rfl rfl ?_
  refine aw_iload_n dX11_readNumber_1 rfl rfl ?_
  refine aw_iload_n dX11_readNumber_2 rfl rfl ?_
  refine aw_callV [_, _] _ dX11_readNumber_3 rfl clv_X11_127 (by decide) ⟨Nat.zero_le _, Nat.zero_le _⟩ g109 (by rfl) (Nat.le_of_ble_eq_true rfl) rfl ?_
  refine sR_lookedR r hlh hR (fun v m1 h1 z1 y1 d1 => ?_)
  refine aw_istore3 rfl dX11_readNumber_6 rfl (by decide) ?_
  refine aw_aload_n dX11_readNumber_7 rfl rfl ?_
  refine aw_callV [] _ dX11_readNumber_8 rfl clv_X11_131 (by decide) ⟨Nat.zero_le _, Nat.zero_le _⟩ g109 (by rfl) (Nat.le_of_ble_eq_true rfl) rfl ?_
  refine sR_nextR _ tp h1 (fun m2 h2 d2 => ?_)
  refine aw_iload_n dX11_readNumber_11 rfl rfl ?_
  refine aw_ireturn (ty := .int) dX11_readNumber_12 rfl rfl ?_
  refine k v m2 h2 ?_ (looked_v h1 z1) (d2.trans d1)
  by_cases hf : m1 109 18 = 0
  · have := z1 hf; omega
  · have := y1 hf; omega
end ZRef26
