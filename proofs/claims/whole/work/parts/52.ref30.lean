def woodG (z : Int) (s : PSt) : PSt := (s.1, fset s.2 (27 + 3 * s.2 26 + z) (s.1 1))
def incG (i : Int) (s : PSt) : PSt := (s.1, fset s.2 i (s.2 i + 1))
def woodP (t : Int → Int) (L : Int) (s : PSt) : Except Int PSt := ((((((cellP t L s).bind (stP (woodG 0))).bind (numP t L 1 99)).bind (stP (woodG 1))).bind (numP t L 1 9)).bind (stP (woodG 2))).bind (stP (incG 26))
section ZRef30
variable {Γ : ZG} {mem mem0 : Mem} {Q : Option AV → Mem → Prop}
theorem RefR.put {r : Except Int PSt} {m : Mem} (h : RefR mem0 r m) (G : PSt → PSt) (hG : ∀ s, (G s).1 = s.1) {i v : Int} (hp : ∀ s, r = .ok s → RefOk (mem0 114) (mem0 109 13) s m → (G s).2 = fset s.2 i v) : RefR mem0 (r.bind (stP G)) (mset m 113 i v) := by
  refine h.stp G (fun s => by rw [hG]) (FrX.rf.set (by decide)) (fun j hj => ?_) (fun s hs ho => ⟨fun j h5 h11 => ?_, ?_⟩)
  · rw [mset_eq, mcell_ne (by decide)]
  · rw [mset_eq, mcell_ne (by decide), hG]
    exact ho.g j h5 h11
  · rw [mset_eq, mcell_same, hp s hs ho, ho.d]
theorem sR_readWoodR (r : Except Int PSt) (tp : TpOK mem0) (hR : RefR mem0 r mem) (h9 : mem 109 18 = 0 → -4 ≤ mem 109 9 ∧ mem 109 9 ≤ 99) (h26 : 0 ≤ mem 113 26 ∧ mem 113 26 ≤ 5) (k : ∀ m' : Mem, RefR mem0 (r.bind (woodP (mem0 114) (mem0 109 13))) m' → Q none m') : AMet Γ mX11_readWood [vR 109] zG mem Q := by
  have eN : r.bind (woodP (mem0 114) (mem0 109 13)) = ((((((r.bind (cellP (mem0 114) (mem0 109 13))).bind (stP (woodG 0))).bind (numP (mem0 114) (mem0 109 13) 1 99)).bind (stP (woodG 1))).bind (numP (mem0 114) (mem0 109 13) 1 9)).bind (stP (woodG 2))).bind (stP (incG 26)) := by
    cases r <;> rfl
  rw [eN] at k
  have pz : ∀ (z v : Int) (m : Mem) (rz : Except Int PSt) (i : Int), RefR mem0 rz m → (∀ s, rz = .ok s → v = s.1 1) → m 113 26 = mem 113 26 → i = 27 + 3 * mem 113 26 + z → RefR mem0 (rz.bind (stP (woodG z))) (mset m 113 i v) := by
    intro z v m rz i h hv h6 hi
    refine h.put (woodG z) (fun _ => rfl) (fun s hs ho => ?_)
    unfold woodG
    dsimp only
    rw [← hv s hs, ← ho.d, h6, hi]
  refine AMet.of' 1 (ls := [some (vR (109)), none]) (by decide) rfl (Nat.le_of_ble_eq_true rfl) ?_
  refine aw_bipush dX11_readWood_0 rfl (by decide) ?_
  refine aw_iconst dX11_readWood_2 rfl ?_
  refine aw_aload_n dX11_readWood_3 rfl rfl ?_
  refine aw_getR dX11_readWood_4 rfl fl_X11_20 g109 (by rfl) ?_
  refine aw_bipush dX11_readWood_7 rfl (by decide) ?_
  refine aw_iaload dX11_readWood_9 rfl g113 (by decide) (by omega) ?_
  refine aw_imul dX11_readWood_10 rfl ?_
  refine aw_iadd dX11_readWood_11 rfl ?_
  refine aw_istore1 rfl dX11_readWood_12 rfl (by decide) ?_
  refine aw_aload_n dX11_readWood_13 rfl rfl ?_
  refine aw_getR dX11_readWood_14 rfl fl_X11_20 g109 (by rfl) ?_
  refine aw_iload_n dX11_readWood_17 rfl rfl ?_
  refine aw_aload_n dX11_readWood_18 rfl rfl ?_
  refine aw_callV [] _ dX11_readWood_19 rfl clv_X11_144 (by decide) ⟨Nat.zero_le _, Nat.zero_le _⟩ g109 (by rfl) (Nat.le_of_ble_eq_true rfl) rfl ?_
  refine sR_cellR r tp hR h9 (fun v1 m1 h1 r1 y1 d1 => ?_)
  refine aw_iastore dX11_readWood_22 rfl g113 (by decide) (by omega) ?_
  have h2 := pz 0 v1 m1 _ (27 + 3 * mem 113 26) h1 y1 (by rw [d1]) (by omega)
  have d2 : (mset m1 113 (27 + 3 * mem 113 26) v1) 113 26 = mem 113 26 := by rw [mset_eq, mcell_same, fset_ne (by omega), d1]
  refine aw_aload_n dX11_readWood_23 rfl rfl ?_
  refine aw_getR dX11_readWood_24 rfl fl_X11_20 g109 (by rfl) ?_
  refine aw_iload_n dX11_readWood_27 rfl rfl ?_
  refine aw_iconst dX11_readWood_28 rfl ?_
  refine aw_iadd dX11_readWood_29 rfl ?_
  refine aw_aload_n dX11_readWood_30 rfl rfl ?_
  refine aw_iconst dX11_readWood_31 rfl ?_
  refine aw_bipush dX11_readWood_32 rfl (by decide) ?_
  refine aw_callV [_, _] _ dX11_readWood_34 rfl clv_X11_141 (by decide) ⟨Nat.zero_le _, Nat.zero_le _⟩ g109 (by rfl) (Nat.le_of_ble_eq_true rfl) rfl ?_
  refine sR_numR _ (by omega) tp h2 (fun v3 m3 h3 r3 y3 d3 => ?_)
  refine aw_iastore dX11_readWood_37 rfl g113 (by decide) (by omega) ?_
  have h4 := pz 1 v3 m3 _ (27 + 3 * mem 113 26 + 1) h3 y3 (by rw [d3]; exact d2) (by omega)
  have d4 : (mset m3 113 (27 + 3 * mem 113 26 + 1) v3) 113 26 = mem 113 26 := by rw [mset_eq, mcell_same, fset_ne (by omega), d3]; exact d2
  refine aw_aload_n dX11_readWood_38 rfl rfl ?_
  refine aw_getR dX11_readWood_39 rfl fl_X11_20 g109 (by rfl) ?_
  refine aw_iload_n dX11_readWood_42 rfl rfl ?_
  refine aw_iconst dX11_readWood_43 rfl ?_
  refine aw_iadd dX11_readWood_44 rfl ?_
  refine aw_aload_n dX11_readWood_45 rfl rfl ?_
  refine aw_iconst dX11_readWood_46 rfl ?_
  refine aw_bipush dX11_readWood_47 rfl (by decide) ?_
  refine aw_callV [_, _] _ dX11_readWood_49 rfl clv_X11_141 (by decide) ⟨Nat.zero_le _, Nat.zero_le _⟩ g109 (by rfl) (Nat.le_of_ble_eq_true rfl) rfl ?_
  refine sR_numR _ (by omega) tp h4 (fun v5 m5 h5 r5 y5 d5 => ?_)
  refine aw_iastore dX11_readWood_52 rfl g113 (by decide) (by omega) ?_
  have h6 := pz 2 v5 m5 _ (27 + 3 * mem 113 26 + 2) h5 y5 (by rw [d5]; exact d4) (by omega)
  refine aw_aload_n dX11_readWood_53 rfl rfl ?_
  refine aw_getR dX11_readWood_54 rfl fl_X11_20 g109 (by rfl) ?_
  refine aw_bipush dX11_readWood_57 rfl (by decide) ?_
  refine aw_dup2 dX11_readWood_59 rfl rfl rfl ?_
  refine aw_iaload dX11_readWood_60 rfl g113 (by decide) (by omega) ?_
  refine aw_iconst dX11_readWood_61 rfl ?_
  refine aw_iadd dX11_readWood_62 rfl ?_
  refine aw_iastore dX11_readWood_63 rfl g113 (by decide) (by omega) ?_
  refine aw_return dX11_readWood_64 rfl ?_
  refine k _ (h6.put (incG 26) (fun _ => rfl) (fun s hs ho => ?_))
  unfold incG
  dsimp only
  rw [ho.d]
end ZRef30
