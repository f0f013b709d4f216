abbrev numC (t : Int → Int) (L lo hi : Int) (s : PSt) : Prop := tkK t L s.p = 2 ∧ lo ≤ tkV t L s.p ∧ tkV t L s.p ≤ hi
def numD (t : Int → Int) (L : Int) (s : PSt) : Int := if tkK t L s.p = 2 then 3 else 2
section ZRef25
variable {Γ : ZG} {mem mem0 : Mem} {Q : Option AV → Mem → Prop}
theorem sR_lookedR {lo hi : Int} (r : Except Int PSt) (hlh : 0 ≤ lo ∧ lo ≤ hi ∧ hi ≤ 99) (hR : RefR mem0 r mem) (k : ∀ (v : Int) (m' : Mem), RefR mem0 (r.bind (chkP (numD (mem0 114) (mem0 109 13)) (mem0 114) (mem0 109 13) (numC (mem0 114) (mem0 109 13) lo hi))) m' → (m' 109 18 = 0 → m' = mem ∧ v = mem 109 17 ∧ lo ≤ v ∧ v ≤ hi) → (¬ m' 109 18 = 0 → v = 0) → m' 113 = mem 113 → Q (some (vI v)) m') : AMet Γ mX11_looked [vR 109, vI lo, vI hi] zG mem Q := by
  have hfl := hR.flt
  have hk := hR.1.k
  have hv := hR.1.v
  have s49 : ∀ m2 : Mem, RefR mem0 (r.bind (chkP (numD (mem0 114) (mem0 109 13)) (mem0 114) (mem0 109 13) (numC (mem0 114) (mem0 109 13) lo hi))) m2 → (m2 109 18 = 0 → m2 = mem ∧ lo ≤ mem 109 17 ∧ mem 109 17 ≤ hi) → m2 113 = mem 113 → AW Γ mX11_looked (zF Γ zG Q) zG 0 0 49 [some (vR 109), some (vI lo), some (vI hi)] [] m2 := by
    intro m2 h2 z2 d2
    have f2 := h2.flt
    refine aw_aload_n dX11_looked_49 rfl rfl ?_
    refine aw_getI (kI := 18) dX11_looked_50 rfl fl_X11_85 g109 (by rfl) rfl ?_
    refine aw_if_ne (tgt := 63) dX11_looked_53 (by decide) rfl (by omega) (fun c53 => ?_) (fun c53 => ?_)
    · refine aw_iconst dX11_looked_63 rfl ?_
      refine aw_ireturn (ty := .int) dX11_looked_64 rfl rfl ?_
      first | (have hz := z2 c53; exact k _ m2 h2 (fun _ => ⟨hz.1, by rw [hz.1], by rw [hz.1]; exact hz.2.1, by rw [hz.1]; exact hz.2.2⟩) (fun y => absurd c53 y) d2) | exact k _ m2 h2 (fun y => absurd y c53) (fun _ => rfl) d2
    · refine aw_aload_n dX11_looked_56 rfl rfl ?_
      refine aw_getI (kI := 17) dX11_looked_57 rfl fl_X11_120 g109 (by rfl) rfl ?_
      refine aw_goto (tgt := 64) dX11_looked_60 (by decide) ?_
      refine aw_ireturn (ty := .int) dX11_looked_64 rfl rfl ?_
      first | (have hz := z2 c53; exact k _ m2 h2 (fun _ => ⟨hz.1, by rw [hz.1], by rw [hz.1]; exact hz.2.1, by rw [hz.1]; exact hz.2.2⟩) (fun y => absurd c53 y) d2) | exact k _ m2 h2 (fun y => absurd y c53) (fun _ => rfl) d2
  have bad25 : ∀ (m1 : Mem) (a : Int), RefFr mem0 m1 → RefBad a m1 → r.bind (chkP (numD (mem0 114) (mem0 109 13)) (mem0 114) (mem0 109 13) (numC (mem0 114) (mem0 109 13) lo hi)) = .error a → m1 113 = mem 113 → AW Γ mX11_looked (zF Γ zG Q) zG 0 0 25 [some (vR 109), some (vI lo), some (vI hi)] [] m1 := by
    intro m1 a hF hB he d1
    have fB := hB.f
    refine aw_aload_n dX11_looked_25 rfl rfl ?_
    refine aw_getI (kI := 18) dX11_looked_26 rfl fl_X11_85 g109 (by rfl) rfl ?_
    refine aw_if_ne (tgt := 49) dX11_looked_29 (by decide) rfl (by omega) (fun c29 => ?_) (fun c29 => ?_)
    · exact s49 m1 (by rw [he]; exact RefR.mkBad hF hB) (fun y => by have := hB.f; omega) d1
    · exfalso; omega
  by_cases hf : mem 109 18 = 0
  · obtain ⟨s, hs, ho⟩ := hR.good hf
    have ev := ho.v
    have ek := ho.k
    have s25 : mem 109 16 = 2 → AW Γ mX11_looked (zF Γ zG Q) zG 0 0 25 [some (vR 109), some (vI lo), some (vI hi)] [] mem := by
      intro h16
      have ev2 := ev (by omega)
      refine aw_aload_n dX11_looked_25 rfl rfl ?_
      refine aw_getI (kI := 18) dX11_looked_26 rfl fl_X11_85 g109 (by rfl) rfl ?_
      refine aw_if_ne (tgt := 49) dX11_looked_29 (by decide) rfl (by omega) (fun c29 => ?_) (fun c29 => ?_)
      · first | (exfalso; omega) | exact s49 m2 h2 (fun z => by first | (refine ⟨by rw [e2, needC_t rfl, mcell_self], by omega, by omega⟩) | (exfalso; rw [e2, mcell_same] at z; unfold needC at z; rw [if_pos ⟨by decide, hf⟩, fset_ne (by decide), fset_same] at z; exact absurd z (by decide))) (by rw [e2, mcell_ne (by decide)])
      · refine aw_aload_n dX11_looked_32 rfl rfl ?_
        refine aw_aload_n dX11_looked_33 rfl rfl ?_
        refine aw_getI (kI := 17) dX11_looked_34 rfl fl_X11_120 g109 (by rfl) rfl ?_
        refine aw_i2l dX11_looked_37 rfl (by omega) ?_
        refine aw_iload_n dX11_looked_38 rfl rfl ?_
        refine aw_i2l dX11_looked_39 rfl (by omega) ?_
        refine aw_iload_n dX11_looked_40 rfl rfl ?_
        refine aw_i2l dX11_looked_41 rfl (by omega) ?_
        refine aw_callS [_, _, _] _ dX11_looked_42 rfl cls_X11_78 (by decide) ⟨Nat.zero_le _, Nat.zero_le _⟩ (Nat.le_of_ble_eq_true rfl) rfl ?_
        refine sR_in (by omega) (by omega) (by omega) (fun c42 => ?_) (fun c42 => ?_)
        · refine aw_iconst dX11_looked_45 rfl ?_
          refine aw_callV [_, _] _ dX11_looked_46 rfl clv_X11_123 (by decide) ⟨Nat.zero_le _, Nat.zero_le _⟩ g109 (by rfl) (Nat.le_of_ble_eq_true rfl) rfl ?_
          refine sR_needsR r (numD (mem0 114) (mem0 109 13)) (numC (mem0 114) (mem0 109 13) lo hi) (by omega) (by omega) hR (fun s' e' _ => by first | (left; refine ⟨rfl, ?_⟩; rw [hs] at e'; cases e'; exact ⟨by omega, by omega, by omega⟩) | (right; refine ⟨rfl, ?_⟩; rw [hs] at e'; cases e'; intro hz; obtain ⟨z1, z2, z3⟩ := hz; exact c42 ⟨by omega, by omega⟩)) (hcs := fun s' e' _ => by rw [hs] at e'; cases e'; unfold numD; rw [if_pos (by omega)]) (fun m2 e2 h2 => ?_)
          first | (exfalso; omega) | exact s49 m2 h2 (fun z => by first | (refine ⟨by rw [e2, needC_t rfl, mcell_self], by omega, by omega⟩) | (exfalso; rw [e2, mcell_same] at z; unfold needC at z; rw [if_pos ⟨by decide, hf⟩, fset_ne (by decide), fset_same] at z; exact absurd z (by decide))) (by rw [e2, mcell_ne (by decide)])
        · refine aw_iconst dX11_looked_45 rfl ?_
          refine aw_callV [_, _] _ dX11_looked_46 rfl clv_X11_123 (by decide) ⟨Nat.zero_le _, Nat.zero_le _⟩ g109 (by rfl) (Nat.le_of_ble_eq_true rfl) rfl ?_
          refine sR_needsR r (numD (mem0 114) (mem0 109 13)) (numC (mem0 114) (mem0 109 13) lo hi) (by omega) (by omega) hR (fun s' e' _ => by first | (left; refine ⟨rfl, ?_⟩; rw [hs] at e'; cases e'; exact ⟨by omega, by omega, by omega⟩) | (right; refine ⟨rfl, ?_⟩; rw [hs] at e'; cases e'; intro hz; obtain ⟨z1, z2, z3⟩ := hz; exact c42 ⟨by omega, by omega⟩)) (hcs := fun s' e' _ => by rw [hs] at e'; cases e'; unfold numD; rw [if_pos (by omega)]) (fun m2 e2 h2 => ?_)
          first | (exfalso; omega) | exact s49 m2 h2 (fun z => by first | (refine ⟨by rw [e2, needC_t rfl, mcell_self], by omega, by omega⟩) | (exfalso; rw [e2, mcell_same] at z; unfold needC at z; rw [if_pos ⟨by decide, hf⟩, fset_ne (by decide), fset_same] at z; exact absurd z (by decide))) (by rw [e2, mcell_ne (by decide)])
    have eb : ∀ f : PSt → Except Int PSt, r.bind f = f s := fun f => by rw [hs]; rfl
    have p25 : ∀ m1 : Mem, mem 109 16 = 2 → m1 = mcell mem 109 (needC ((1 : Int) = 1) 2 (mem 109)) → AW Γ mX11_looked (zF Γ zG Q) zG 0 0 25 [some (vR 109), some (vI lo), some (vI hi)] [] m1 := by
      intro m1 h16 e1
      rw [needC_t rfl, mcell_self] at e1
      rw [e1]
      exact s25 h16
    have n25 : ∀ m1 : Mem, ¬ mem 109 16 = 2 → RefR mem0 (r.bind (chkP k2 (mem0 114) (mem0 109 13) (fun s => tkK (mem0 114) (mem0 109 13) s.p = 2))) m1 → m1 113 = mem 113 → AW Γ mX11_looked (zF Γ zG Q) zG 0 0 25 [some (vR 109), some (vI lo), some (vI hi)] [] m1 := by
      intro m1 h16 h1 d1
      rw [eb, chkP_n ho.x (by omega)] at h1
      exact bad25 m1 _ h1.1 h1.2 (by rw [eb, chkP_n ho.x (fun z => by have := z.1; omega)]; unfold numD; rw [if_neg (by omega)]) d1
    refine AMet.of' 0 (ls := [some (vR (109)), some (vI (lo)), some (vI (hi))]) (by decide) rfl (Nat.le_of_ble_eq_true rfl) ?_
    refine aw_aload_n dX11_looked_0 rfl rfl ?_
    refine aw_getI (kI := 18) dX11_looked_1 rfl fl_X11_85 g109 (by rfl) rfl ?_
    refine aw_if_ne (tgt := 25) dX11_looked_4 (by decide) rfl (by omega) (fun c4 => ?_) (fun c4 => ?_)
    · first | (exfalso; omega) | exact p25 m1 (by assumption) e1 | exact n25 m1 (by assumption) h1 (by rw [e1, mcell_ne (by decide)])
    · refine aw_aload_n dX11_looked_7 rfl rfl ?_
      refine aw_aload_n dX11_looked_8 rfl rfl ?_
      refine aw_getI (kI := 16) dX11_looked_9 rfl fl_X11_109 g109 (by rfl) rfl ?_
      refine aw_iconst dX11_looked_12 rfl ?_
      refine aw_icmp_ne (tgt := 20) dX11_looked_13 (by decide) rfl (by omega) (by omega) (fun c13 => ?_) (fun c13 => ?_)
      · refine aw_iconst dX11_looked_20 rfl ?_
        refine aw_iconst dX11_looked_21 rfl ?_
        refine aw_callV [_, _] _ dX11_looked_22 rfl clv_X11_123 (by decide) ⟨Nat.zero_le _, Nat.zero_le _⟩ g109 (by rfl) (Nat.le_of_ble_eq_true rfl) rfl ?_
        refine sR_needsR r k2 (fun s => tkK (mem0 114) (mem0 109 13) s.p = 2) (by omega) (by omega) hR (fun s' e' _ => by rw [hs] at e'; cases e'; omega) (fun m1 e1 h1 => ?_)
        first | (exfalso; omega) | exact p25 m1 (by assumption) e1 | exact n25 m1 (by assumption) h1 (by rw [e1, mcell_ne (by decide)])
      · refine aw_iconst dX11_looked_16 rfl ?_
        refine aw_goto (tgt := 21) dX11_looked_17 (by decide) ?_
        refine aw_iconst dX11_looked_21 rfl ?_
        refine aw_callV [_, _] _ dX11_looked_22 rfl clv_X11_123 (by decide) ⟨Nat.zero_le _, Nat.zero_le _⟩ g109 (by rfl) (Nat.le_of_ble_eq_true rfl) rfl ?_
        refine sR_needsR r k2 (fun s => tkK (mem0 114) (mem0 109 13) s.p = 2) (by omega) (by omega) hR (fun s' e' _ => by rw [hs] at e'; cases e'; omega) (fun m1 e1 h1 => ?_)
        first | (exfalso; omega) | exact p25 m1 (by assumption) e1 | exact n25 m1 (by assumption) h1 (by rw [e1, mcell_ne (by decide)])
  · obtain ⟨a, hB, ha⟩ := hR.bad hf
    have hst := bad25 mem a hR.1 hB (bind_bad ha (fun s h => chkP_x s h)) rfl
    refine AMet.of' 0 (ls := [some (vR (109)), some (vI (lo)), some (vI (hi))]) (by decide) rfl (Nat.le_of_ble_eq_true rfl) ?_
    refine aw_aload_n dX11_looked_0 rfl rfl ?_
    refine aw_getI (kI := 18) dX11_looked_1 rfl fl_X11_85 g109 (by rfl) rfl ?_
    refine aw_if_ne (tgt := 25) dX11_looked_4 (by decide) rfl (by omega) (fun c4 => ?_) (fun c4 => ?_)
    · exact hst
    · exfalso; omega
end ZRef25
