section ZExt
variable {Γ : ZG} {M : ZM} {F : ZF} {G : List GK} {cs ss pc : Nat} {ls : List (Option AV)} {st : List AV} {mem : Mem} {Q : Option AV → Mem → Prop}
theorem arrV_congr {cA : ClassId} {n : Nat} {f g : Nat → Value} (h : ∀ j, j < n → f j = g j) : arrV cA n f = arrV cA n g := by
  unfold arrV
  congr 1
  apply Array.ext
  · simp
  · intro i h1 h2
    simp at h1 ⊢
    exact h i h1
theorem AW.extP {mem2 : Mem} (h : ∀ H, va_P Γ.2.1 vwCl (wz Γ G mem) H → va_P Γ.2.1 vwCl (wz Γ G mem2) H) (k : AW Γ M F G cs ss pc ls st mem2) : AW Γ M F G cs ss pc ls st mem := by
  intro p e s m args below meth c H locs A lsC hC hK hX hA hP hD hS hL
  exact k p e s m args below meth c H locs A lsC hC hK hX hA (h H hP) (wz_D hD) hS hL
/-- what lies behind the end of a row doesn't matter -/
theorem aw_ext {c n : Nat} {ty : FieldType} {f g : Int → Int} (hG : G[c]? = some (.inl (ty, n))) (hfg : ∀ j : Int, 0 ≤ j → j < n → f j = g j) (k : AW Γ M F G cs ss pc ls st (mcell mem c g)) : AW Γ M F G cs ss pc ls st (mcell mem c f) := by
  refine AW.extP (fun H hP => ?_) k
  intro d x hx
  by_cases hd : d = c
  · subst hd
    have h1 := hP d _ (wz_get hG)
    rw [wz_get hG] at hx
    cases hx
    rw [mcell_same] at h1 ⊢
    have h2 : H[Γ.2.2.2.1 d]? = some (arrV (Γ.2.2.1 d) n (fun j => .int (Int32.ofInt (f (j : Int))))) := h1
    show H[Γ.2.2.2.1 d]? = some (arrV (Γ.2.2.1 d) n (fun j => .int (Int32.ofInt (g (j : Int)))))
    rw [h2]
    congr 1
    exact arrV_congr (fun j hj => by rw [hfg j (by omega) (by omega)])
  · refine hP d x ?_
    rw [← hx]
    simp only [wz, List.getElem?_mapIdx]
    cases G[d]? with
    | none => rfl
    | some g2 => simp [mcell, hd]
/-- starts(): at is st -/
theorem sR_starts2 (k : Q none (mcell mem 111 (mem 110))) : AMet Γ mX11_starts [vR 109] zG mem Q := by
  have loop : ∀ (d : Nat) (i : Int), i + d = 115 → 0 ≤ i → AW Γ mX11_starts (zF Γ zG Q) zG 0 0 2 [some (vR 109), some (vI i)] [] (mcell mem 111 (fcopy (mem 110) (mem 111) 0 0 i)) := by
    intro d
    induction d with
    | zero =>
      intro i hi h0
      refine aw_ext (g := mem 110) g111 (fun j a b => by unfold fcopy; rw [if_pos (by omega), show (0 : Int) + (j - 0) = j by omega]) ?_
      refine aw_iload_n dX11_starts_2 rfl rfl ?_
      refine aw_bipush dX11_starts_3 rfl (by decide) ?_
      refine aw_icmp_ge (tgt := 26) dX11_starts_5 (by decide) rfl (by omega) (by omega) (fun c5 => ?_) (fun c5 => ?_)
      · refine aw_return dX11_starts_26 rfl ?_
        exact k
      · exfalso; omega
    | succ d ih =>
      intro i hi h0
      refine aw_iload_n dX11_starts_2 rfl rfl ?_
      refine aw_bipush dX11_starts_3 rfl (by decide) ?_
      refine aw_icmp_ge (tgt := 26) dX11_starts_5 (by decide) rfl (by omega) (by omega) (fun c5 => ?_) (fun c5 => ?_)
      · exfalso; omega
      · refine aw_aload_n dX11_starts_8 rfl rfl ?_
        refine aw_getR dX11_starts_9 rfl fl_X11_13 g109 (by rfl) ?_
        refine aw_iload_n dX11_starts_12 rfl rfl ?_
        refine aw_aload_n dX11_starts_13 rfl rfl ?_
        refine aw_getR dX11_starts_14 rfl fl_X11_7 g109 (by rfl) ?_
        refine aw_iload_n dX11_starts_17 rfl rfl ?_
        refine aw_iaload dX11_starts_18 rfl g110 (by decide) (by omega) ?_
        refine aw_iastore dX11_starts_19 rfl g111 (by decide) (by omega) ?_
        rw [mset_mcell, show mcell mem 111 (fcopy (mem 110) (mem 111) 0 0 i) 110 i = mem 110 i from rfl, fcopy_step h0]
        refine aw_iinc1 rfl dX11_starts_20 rfl (by decide) ?_
        refine aw_goto (tgt := 2) dX11_starts_23 (by decide) ?_
        exact ih (i + 1) (by omega) (by omega)
  refine AMet.of' 1 (ls := [some (vR (109)), none]) (by decide) rfl (Nat.le_of_ble_eq_true rfl) ?_
  refine aw_iconst dX11_starts_0 rfl ?_
  refine aw_istore1 rfl dX11_starts_1 rfl (by decide) ?_
  have l0 := loop 115 0 (by omega) (by omega)
  rw [fcopy_0, mcell_self] at l0
  exact l0
end ZExt
