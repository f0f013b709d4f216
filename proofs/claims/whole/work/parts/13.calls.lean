section ZCall
variable {Γ : ZG} {M : ZM} {F : ZF} {G : List GK} {cs ss pc q : Nat} {ls : List (Option AV)} {st : List AV} {mem : Mem}
theorem wz_adr {mem' : Mem} {k : Nat} {x : Nat × va_E} (h : (wz Γ G mem)[k]? = some x) : ∃ y, (wz Γ G mem')[k]? = some y ∧ y.1 = x.1 := by
  simp only [wz, List.getElem?_mapIdx] at h ⊢
  cases hg : G[k]? with
  | none => rw [hg] at h; cases h
  | some g => rw [hg] at h; cases h; exact ⟨_, rfl, rfl⟩
theorem wz_D {mem' : Mem} {A : Nat → Prop} (h : va_D A (wz Γ G mem)) : va_D A (wz Γ G mem') := by
  refine ⟨fun i j x y hx hy e => ?_, fun k x hx => ?_⟩
  · obtain ⟨x', hx', ex⟩ := wz_adr (mem' := mem) hx
    obtain ⟨y', hy', ey⟩ := wz_adr (mem' := mem) hy
    exact h.1 i j x' y' hx' hy' (by rw [ex, ey]; exact e)
  · obtain ⟨x', hx', ex⟩ := wz_adr (mem' := mem) hx
    rw [← ex]
    exact h.2 k x' hx'
theorem cv_app {ad : Nat → Nat} (r : Option AV) (rest : List AV) : (r.toList ++ rest).map (cv ad) = (r.map (cv ad)).toList ++ rest.map (cv ad) := by
  cases r <;> rfl
theorem zcat_sum {ad : Nat → Nat} (rest : List AV) : ((rest.map (cv ad)).map fun v => v.category).sum = (rest.map zcat).sum := by
  rw [List.map_map]
  congr 1
  exact List.map_congr_left (fun v _ => cv_cat ad v)
theorem zblind {as : List AV} {sz : Nat} {A : Nat → Prop} : FrameBlind (va_Pc (as.map (cv Γ.2.2.2.1)) (fun U => U.heap.size = sz ∧ zK Γ G U ∧ zX Γ A U U.heap ∧ va_P Γ.2.1 vwCl (wz Γ G mem) U.heap ∧ va_D (fun _ => True) (wz Γ G mem))) := by
  intro a U g mk h
  obtain ⟨h1, h2, h3, h4, h5, h6⟩ := h
  exact ⟨h1, h2, zK.moved (u := U) (U := U.calling g mk a) (Vm.Alike.refl U.vm) h3, zX.same (u := U) (U := U.calling g mk a) rfl h4, h5, h6⟩
theorem zback {p : Program} {e : Env} {s : State} {m : MethodId} {args : Array Value} {below : List Frame} {meth : Method} {c : Code} {H : Heap} {locs : List Loc} {A : Nat → Prop} {lsC : Array Slot} {a : Array Value} {st0 : List Value} {rest : List AV}
    (hC : zC M p s m args meth c) (hK : zK Γ G s) (hX : zX Γ A s s.heap) (hA : ∀ q, s.heap.size ≤ q → A q) (hD : va_D A (wz Γ G mem)) (hS : va_S A s.heap H locs) (hL : zL Γ lsC M.2.2.1 ls) (hFc : ∀ q, va_A (wz Γ G mem) H.size q → A q)
    (hr : va_Run p Γ.1 e M.2.2.2.2 s m args below meth c H locs cs ss 0 0 (F0 m pc lsC st0) (rest.map (cv Γ.2.2.2.1)) (zQ Γ G (va_A (wz Γ G mem) H.size) (fun r mem' => AW Γ M F G cs ss (pc + 3) ls (r.toList ++ rest) mem') a) (va_A (wz Γ G mem) H.size)) :
    W p Γ.1 e M.2.2.2.2 s m args below meth c H locs cs ss (F s args below A) (F0 m pc lsC st0) := by
  intro T hT X
  obtain ⟨v, st₀, t, T', L, h0, X', hLL, e1, e2, ⟨r, mem', ho, hQ, hP', hF⟩, stp⟩ := hr T hT X
  obtain rfl : v = r.map (cv Γ.2.2.2.1) := by injection ho
  have hz := hF.1
  have hk := hF.2
  rw [h0] at hz hk
  have hS' : va_S A s.heap T'.heap (locs ++ L) := ⟨Nat.le_trans hS.1 (by rw [e1]; exact hz), fun q h1 h2 => by rw [e1, hk q (Nat.lt_of_lt_of_le h1 hS.1) (fun z => h2 (hFc q z))]; exact hS.2.1 q h1 h2, fun q hq => by
      rcases List.mem_append.mp hq with h | h
      · exact hS.2.2 q h
      · exact hFc _ (hLL q h)⟩
  obtain ⟨t2, a1, b1⟩ := hQ p e s m args below meth c T'.heap (locs ++ L) A lsC hC hK hX hA (by rw [e1]; exact hP') (wz_D hD) hS' hL T' rfl X'
  rw [cv_app] at a1
  exact ⟨t2, stp t2 a1, b1⟩
/-- a call's link -/
def CLB (own : String) (idx : Nat) (M' : ZM) (n : Nat) : Prop := Cond.methodLink own idx M'.1 ∈ zT ∧ Cond.initialized M'.1.cls ∈ zT ∧ Cond.code M'.1 M'.2.1 M'.2.2.1 M'.2.2.2.1 ∈ zT ∧ (M'.1.cls ≠ "java/lang/invoke/MethodHandle" ∧ M'.1.cls ≠ "java/lang/invoke/VarHandle" ∧ (parseMethodDescriptor M'.1.desc).map (fun d => d.parameters.length) = some n) ∧ M'.2.2.2.2.cells = 0 ∧ M'.2.2.2.2.slots = 0
def CLV (own : String) (idx : Nat) (M' : ZM) (n : Nat) : Prop := CLB own idx M' n ∧ Cond.instanceMethod M'.1 ∈ zT ∧ Cond.selects M'.1.cls M'.1 M'.1 ∈ zT
def CLS (own : String) (idx : Nat) (M' : ZM) (n : Nat) : Prop := CLB own idx M' n ∧ Cond.static M'.1 ∈ zT
theorem zgood {M' : ZM} (h : Cond.code M'.1 M'.2.1 M'.2.2.1 M'.2.2.2.1 ∈ zT) : GoodIn zT (zws M') := by
  intro w hw
  rcases List.mem_cons.mp hw with rfl | hw
  · exact ⟨h, zT_good _ h⟩
  · exact ⟨hw, zT_good _ hw⟩
abbrev zroom (M M' : ZM) : Prop := M'.2.2.2.2.frames + 1 ≤ M.2.2.2.2.frames ∧ 8 + (M'.2.2.1 + 11) + M'.2.2.2.2.locals ≤ M.2.2.2.2.locals
theorem aw_callV {M' : ZM} {idx ci c : Nat} {ps : List (Option (Option Nat))} (as rest : List AV) (hdg : decode M.2.1 pc = .ok (.invokevirtual idx, 3)) (hq : pc + 3 = q) (hl : CLV M.1.cls idx M' as.length) (hrm : zroom M M') (hcs : cs ≤ M.2.2.2.2.cells ∧ ss ≤ M.2.2.2.2.slots) (hG : G[c]? = some (.inr (.inr (ci, ps)))) (hci : (vwCl[ci]?).map (fun x => x.1) = some M'.1.cls) (hrest : (rest.map zcat).sum ≤ 8) (hst : st = as.reverse ++ vR c :: rest)
    (k : AMet Γ M' (vR c :: as) G mem (fun r mem' => AW Γ M F G cs ss q ls (r.toList ++ rest) mem')) : AW Γ M F G cs ss pc ls st mem := by
  subst hq; subst hst
  intro p e s m args below meth c0 H locs A lsC hC hK hX hA hP hD hS hL
  have hFc : ∀ q, va_A (wz Γ G mem) H.size q → A q := by
    rintro q (⟨k, e, h⟩ | h)
    · exact hD.2 k _ h
    · exact hA q (Nat.le_trans hS.1 h)
  obtain ⟨q0, hq0, hname⟩ : ∃ q0, vwCl[ci]? = some q0 ∧ q0.1 = M'.1.cls := by
    cases hx : vwCl[ci]? with
    | none => rw [hx] at hci; cases hci
    | some q0 => rw [hx] at hci; exact ⟨q0, rfl, Option.some.inj hci⟩
  obtain ⟨⟨l1, l2, l3, l4, l5, l6⟩, l7, l8⟩ := hl
  have hts := hC.2.2.2.2.2.1
  have cw : CallW M.2.2.2.2 s args M.1.cls M'.1.cls idx M'.1 M'.2.1 M'.2.2.1 M'.2.2.2.1 (zws M') M'.2.2.2.2 0 0 as.length := ⟨callB_of as.length hts (zgood l3) rfl l5 l6 (hts _ l2) (hts _ l1) l4 hrm, hts _ l7, hts _ l8⟩
  have hrecv := va_recv hK.K0 hP hq0 (wz_get hG)
  rw [hname] at hrecv
  refine zback (st0 := _) hC hK hX hA hD hS hL hFc (va_runV (As := as.map (cv Γ.2.2.2.1)) (rest := rest.map (cv Γ.2.2.2.1)) (b := Γ.2.2.2.1 c) ⟨hC.1, hC.2.1, hC.2.2.1, hC.2.2.2.2.1, hts⟩ (k H.size) cw ⟨zblind, hrecv, fun U hU hW => ⟨rfl, by rw [hU], hK.moved hW.alike, ?_, by rw [hU]; exact hP, hD.weaken (fun _ _ _ _ => trivial)⟩⟩ rfl (by simp) hL.1 ?_ ?_ hdg hcs)
  · rw [hU]
    exact ((hX.kept hS.1 hS.2.1).narrow hFc).warm hW
  · simp [List.map_append, cv]
  · rw [zcat_sum]
    show 2 * 0 + _ ≤ 8
    omega
theorem aw_callS {M' : ZM} {idx : Nat} (as rest : List AV) (hdg : decode M.2.1 pc = .ok (.invokestatic idx, 3)) (hq : pc + 3 = q) (hl : CLS M.1.cls idx M' as.length) (hrm : zroom M M') (hcs : cs ≤ M.2.2.2.2.cells ∧ ss ≤ M.2.2.2.2.slots) (hrest : (rest.map zcat).sum ≤ 8) (hst : st = as.reverse ++ rest)
    (k : AMet Γ M' as G mem (fun r mem' => AW Γ M F G cs ss q ls (r.toList ++ rest) mem')) : AW Γ M F G cs ss pc ls st mem := by
  subst hq; subst hst
  intro p e s m args below meth c0 H locs A lsC hC hK hX hA hP hD hS hL
  have hFc : ∀ q, va_A (wz Γ G mem) H.size q → A q := by
    rintro q (⟨k, e, h⟩ | h)
    · exact hD.2 k _ h
    · exact hA q (Nat.le_trans hS.1 h)
  obtain ⟨⟨l1, l2, l3, l4, l5, l6⟩, l7⟩ := hl
  have hts := hC.2.2.2.2.2.1
  have cw : CallB M.2.2.2.2 s args M.1.cls idx M'.1 M'.2.1 M'.2.2.1 M'.2.2.2.1 (zws M') M'.2.2.2.2 0 0 as.length ∧ (Cond.static M'.1).before args s = true := ⟨callB_of as.length hts (zgood l3) rfl l5 l6 (hts _ l2) (hts _ l1) l4 hrm, hts _ l7⟩
  refine zback (st0 := _) hC hK hX hA hD hS hL hFc (va_runS (As := as.map (cv Γ.2.2.2.1)) (rest := rest.map (cv Γ.2.2.2.1)) ⟨hC.1, hC.2.1, hC.2.2.1, hC.2.2.2.2.1, hts⟩ (k H.size) cw ⟨zblind, fun U hU hW => ⟨rfl, by rw [hU], hK.moved hW.alike, ?_, by rw [hU]; exact hP, hD.weaken (fun _ _ _ _ => trivial)⟩⟩ rfl (by simp) hL.1 ?_ ?_ hdg hcs)
  · rw [hU]
    exact ((hX.kept hS.1 hS.2.1).narrow hFc).warm hW
  · simp [List.map_append]
  · rw [zcat_sum]
    show 2 * 0 + _ ≤ 8
    omega
def fcopy (f g : Int → Int) (sp dp n : Int) : Int → Int := fun k => if dp ≤ k ∧ k < dp + n then f (sp + (k - dp)) else g k
def CLC (own : String) (idx : Nat) : Prop := Cond.methodLink own idx arraycopyName ∈ zT ∧ Cond.native arraycopyName ∈ zT ∧ Cond.static arraycopyName ∈ zT ∧ Cond.initialized "java/lang/System" ∈ zT
theorem aw_copy {idx c0 c1 n0 n1 : Nat} {sp dp n : Int} (hdg : decode M.2.1 pc = .ok (.invokestatic idx, 3)) (hq : pc + 3 = q) (hl : CLC M.1.cls idx) (hG0 : G[c0]? = some (.inl (.int, n0))) (hG1 : G[c1]? = some (.inl (.int, n1))) (hsp : 0 ≤ sp) (hdp : 0 ≤ dp) (hn : 0 ≤ n) (h4 : sp + n ≤ n0) (h5 : dp + n ≤ n1) (hn0 : n0 < 2147483648) (hn1 : n1 < 2147483648) (hframes : 1 ≤ M.2.2.2.2.frames) (hlocals : (st.map zcat).sum + (nativeFrameWords "java/lang/System" "arraycopy" 5 + 11) ≤ M.2.2.2.2.locals)
    (kk : AW Γ M F G cs ss q ls st (mcell mem c1 (fcopy (mem c0) (mem c1) sp dp n))) : AW Γ M F G cs ss pc ls (vI n :: vI dp :: vR c1 :: vI sp :: vR c0 :: st) mem := by
  subst hq
  intro p e s m args below meth c0' H locs A lsC hC hK hX hA hP hD hS hL
  obtain ⟨l1, l2, l3, l4⟩ := hl
  have hts := hC.2.2.2.2.2.1
  have nn : ∀ z : Int, 0 ≤ z ∧ z ≤ 2147483647 → ¬ Int32.ofInt z < 0 ∧ ((Int32.ofInt z).toNatClampNeg : Int) = z := by
    intro z hz
    have e : (Int32.ofInt z).toInt = z := z32 (by omega)
    refine ⟨fun h => ?_, ?_⟩
    · have := (zlt (a := z) (b := 0) (by omega) (by omega)).mp h
      omega
    · rw [← Int32.toNat_toInt, e]
      omega
  obtain ⟨a1, a2⟩ := nn sp (by omega)
  obtain ⟨b1, b2⟩ := nn dp (by omega)
  obtain ⟨d1, d2⟩ := nn n (by omega)
  refine va_copyi hC.1 hC.2.1 (hC.2.2.1.trans hL.1.symm) hC.2.2.2.2.1 (hts _ l1) (hts _ l2) (hts _ l3) (hts _ l4) (hK.K2 (zty_inl hG0) (zty_inl hG1)) hP hD hS c0 c1 0 1 (f := fun j => Int32.ofInt (mem c0 (j : Int))) (g := fun j => Int32.ofInt (mem c1 (j : Int))) (ty := .int) (wz_get hG0) (wz_get hG1) rfl rfl rfl a1 b1 d1 (by omega) (by omega) (fun i _ => rfl) hframes (by rw [zcat_sum]; exact hlocals) hdg (fun H1 locs1 hP1 hD1 hS1 => ?_)
  have eq1 : (fun j : Nat => Int32.ofInt (fcopy (mem c0) (mem c1) sp dp n (j : Int))) = va_cpy (fun j => Int32.ofInt (mem c0 (j : Int))) (fun j => Int32.ofInt (mem c1 (j : Int))) (Int32.ofInt sp).toNatClampNeg (Int32.ofInt dp).toNatClampNeg (Int32.ofInt n).toNatClampNeg := by
    funext j
    unfold va_cpy fcopy
    by_cases hj : (Int32.ofInt dp).toNatClampNeg ≤ j ∧ j < (Int32.ofInt dp).toNatClampNeg + (Int32.ofInt n).toNatClampNeg
    · rw [if_pos hj, if_pos (by omega)]
      congr 2
      omega
    · rw [if_neg hj, if_neg (by omega)]
  have h2 := wz_set (Γ := Γ) (mem := mem) (f := fcopy (mem c0) (mem c1) sp dp n) hG1
  have h3 : (wz Γ G mem).set c1 (Γ.2.2.2.1 c1, .inl (Γ.2.2.1 c1, n1, .inl (va_cpy (fun j => Int32.ofInt (mem c0 (j : Int))) (fun j => Int32.ofInt (mem c1 (j : Int))) (Int32.ofInt sp).toNatClampNeg (Int32.ofInt dp).toNatClampNeg (Int32.ofInt n).toNatClampNeg))) = wz Γ G (mcell mem c1 (fcopy (mem c0) (mem c1) sp dp n)) := by
    rw [← h2, ← eq1]
    rfl
  rw [h3] at hP1 hD1
  exact kk p e s m args below meth c0' H1 locs1 A lsC hC hK hX hA hP1 hD1 hS1 hL
end ZCall
