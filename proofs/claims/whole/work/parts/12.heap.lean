theorem inX0 : ∀ w ∈ u_ws RX0 TX0 9, w ∈ zT := by decide +kernel
theorem inX1 : ∀ w ∈ u_ws RX1 TX1 5, w ∈ zT := by decide +kernel
theorem inX2 : ∀ w ∈ u_ws RX2 TX2 8, w ∈ zT := by decide +kernel
theorem inX3 : ∀ w ∈ u_ws RX3 TX3 5, w ∈ zT := by decide +kernel
theorem inX4 : ∀ w ∈ u_ws RX4 TX4 3, w ∈ zT := by decide +kernel
theorem inX5 : ∀ w ∈ u_ws RX5 TX5 9, w ∈ zT := by decide +kernel
theorem inX6 : ∀ w ∈ u_ws RX6 TX6 3, w ∈ zT := by decide +kernel
theorem inX7 : ∀ w ∈ u_ws RX7 TX7 7, w ∈ zT := by decide +kernel
theorem inX8 : ∀ w ∈ u_ws RX8 TX8 7, w ∈ zT := by decide +kernel
theorem inX9 : ∀ w ∈ u_ws RX9 TX9 2, w ∈ zT := by decide +kernel
theorem inX10 : ∀ w ∈ u_ws RX10 TX10 12, w ∈ zT := by decide +kernel
theorem inX11 : ∀ w ∈ u_ws RX11 TX11 27, w ∈ zT := by decide +kernel
theorem zcl : ∀ (ci : Nat) (C : String) (T : u_T) (N : Nat), vwCl[ci]? = some (C, T, N) → (∀ w ∈ u_ws C T N, w ∈ zT) ∧ (∃ ty0 : Nat → FieldType, ∀ k, k < N → parseFieldDescriptor (T k).2.2.1 = some (ty0 k)) ∧ (∀ a, a < N → ∀ b, b < N → a ≠ b → (T a).2.1 ≠ (T b).2.1) := by
  intro ci C T N h
  match ci, h with
  | 0, h => cases h; exact ⟨inX0, ⟨_, tyX0_ok⟩, nmX0⟩
  | 1, h => cases h; exact ⟨inX1, ⟨_, tyX1_ok⟩, nmX1⟩
  | 2, h => cases h; exact ⟨inX2, ⟨_, tyX2_ok⟩, nmX2⟩
  | 3, h => cases h; exact ⟨inX3, ⟨_, tyX3_ok⟩, nmX3⟩
  | 4, h => cases h; exact ⟨inX4, ⟨_, tyX4_ok⟩, nmX4⟩
  | 5, h => cases h; exact ⟨inX5, ⟨_, tyX5_ok⟩, nmX5⟩
  | 6, h => cases h; exact ⟨inX6, ⟨_, tyX6_ok⟩, nmX6⟩
  | 7, h => cases h; exact ⟨inX7, ⟨_, tyX7_ok⟩, nmX7⟩
  | 8, h => cases h; exact ⟨inX8, ⟨_, tyX8_ok⟩, nmX8⟩
  | 9, h => cases h; exact ⟨inX9, ⟨_, tyX9_ok⟩, nmX9⟩
  | 10, h => cases h; exact ⟨inX10, ⟨_, tyX10_ok⟩, nmX10⟩
  | 11, h => cases h; exact ⟨inX11, ⟨_, tyX11_ok⟩, nmX11⟩
  | k + 12, h => simp at h
section ZH
variable {Γ : ZG} {M : ZM} {F : ZF} {G : List GK} {cs ss pc q : Nat} {ls : List (Option AV)} {st : List AV} {mem : Mem}
/-- a field's link: entry idx of class own is slot k of class ci -/
def FL (own : String) (idx ci k : Nat) : Prop := ∃ (C : String) (T : u_T) (N : Nat), vwCl[ci]? = some (C, T, N) ∧ k < N ∧ Cond.fieldLink own idx (T k).1 (T k).2.1 (T k).2.2.1 ∈ zT
def FP (own : String) (idx ci k : Nat) (ty : FieldType) : Prop := ∃ (C : String) (T : u_T) (N : Nat), vwCl[ci]? = some (C, T, N) ∧ k < N ∧ Cond.fieldLink own idx (T k).1 (T k).2.1 (T k).2.2.1 ∈ zT ∧ (T k).2.2.2 = false ∧ parseFieldDescriptor (T k).2.2.1 = some ty
theorem aw_getI {idx ci k c : Nat} {kI : Int} {ps : List (Option (Option Nat))} (hdg : decode M.2.1 pc = .ok (.getfield idx, 3)) (hq : pc + 3 = q) (hf : FL M.1.cls idx ci k) (hG : G[c]? = some (.inr (.inr (ci, ps)))) (hk : ps[k]? = some none) (hkI : (k : Int) = kI) (kk : AW Γ M F G cs ss q ls (vI (mem c kI) :: st) mem) : AW Γ M F G cs ss pc ls (vR c :: st) mem := by
  subst hq
  subst hkI
  intro p e s m args below meth c0 H locs A lsC hC hK hX hA hP hD hS hL
  obtain ⟨C, T, N, hc, hkN, hlk⟩ := hf
  exact va_get hC.1 hC.2.1 hC.2.2.2.2.2.1 (zcl ci C T N hc).1 hC.2.2.2.2.1 hK.K0 hP c (fs := ps.mapIdx (zsl Γ.2.2.2.1 (mem c))) (wz_get hG) hc k hkN (hC.2.2.2.2.2.1 _ hlk) (fun _ h9 => h9) (v := .int (Int32.ofInt (mem c k))) (by rw [List.getElem?_mapIdx, hk]; rfl) hdg (kk p e s m args below meth c0 H locs A lsC hC hK hX hA hP hD hS hL)
theorem aw_getR {idx ci k c r : Nat} {ps : List (Option (Option Nat))} (hdg : decode M.2.1 pc = .ok (.getfield idx, 3)) (hq : pc + 3 = q) (hf : FL M.1.cls idx ci k) (hG : G[c]? = some (.inr (.inr (ci, ps)))) (hk : ps[k]? = some (some (some r))) (kk : AW Γ M F G cs ss q ls (vR r :: st) mem) : AW Γ M F G cs ss pc ls (vR c :: st) mem := by
  subst hq
  intro p e s m args below meth c0 H locs A lsC hC hK hX hA hP hD hS hL
  obtain ⟨C, T, N, hc, hkN, hlk⟩ := hf
  exact va_get hC.1 hC.2.1 hC.2.2.2.2.2.1 (zcl ci C T N hc).1 hC.2.2.2.2.1 hK.K0 hP c (fs := ps.mapIdx (zsl Γ.2.2.2.1 (mem c))) (wz_get hG) hc k hkN (hC.2.2.2.2.2.1 _ hlk) (fun _ h9 => h9) (v := .ref (Γ.2.2.2.1 r)) (by rw [List.getElem?_mapIdx, hk]; rfl) hdg (kk p e s m args below meth c0 H locs A lsC hC hK hX hA hP hD hS hL)
theorem zsl_set {ad : Nat → Nat} {f : Int → Int} {ps : List (Option (Option Nat))} {k : Nat} {v : Int} (hk : ps[k]? = some none) : (ps.mapIdx (zsl ad f)).set k (.int (Int32.ofInt v)) = ps.mapIdx (zsl ad (fset f k v)) := by
  have hl : k < ps.length := (List.getElem?_eq_some_iff.mp hk).1
  apply List.ext_getElem?
  intro j
  by_cases hj : k = j
  · subst hj
    rw [List.getElem?_set_self (by simpa using hl), List.getElem?_mapIdx, hk]
    simp [zsl, fset]
  · rw [List.getElem?_set_ne hj, List.getElem?_mapIdx, List.getElem?_mapIdx]
    have hj' : ¬ ((j : Int) = (k : Int)) := by omega
    cases ps[j]? with
    | none => rfl
    | some o => cases o with
      | none => simp [zsl, fset, hj']
      | some r => rfl
theorem wz_putI {c ci k : Nat} {ps : List (Option (Option Nat))} {v : Int} (hG : G[c]? = some (.inr (.inr (ci, ps)))) (hk : ps[k]? = some none) : (wz Γ G mem).set c (Γ.2.2.2.1 c, .inr (ci, (ps.mapIdx (zsl Γ.2.2.2.1 (mem c))).set k (.int (Int32.ofInt v)))) = wz Γ G (mset mem c k v) := by
  rw [zsl_set hk]
  exact wz_set hG
theorem aw_putI {idx ci k c : Nat} {a kI : Int} {ps : List (Option (Option Nat))} (hdg : decode M.2.1 pc = .ok (.putfield idx, 3)) (hq : pc + 3 = q) (hf : FP M.1.cls idx ci k .int) (hG : G[c]? = some (.inr (.inr (ci, ps)))) (hk : ps[k]? = some none) (hkI : (k : Int) = kI) (kk : AW Γ M F G cs ss q ls st (mset mem c kI a)) : AW Γ M F G cs ss pc ls (vI a :: vR c :: st) mem := by
  subst hq
  subst hkI
  intro p e s m args below meth c0 H locs A lsC hC hK hX hA hP hD hS hL
  obtain ⟨C, T, N, hc, hkN, hlk, hfin, hty⟩ := hf
  obtain ⟨h1, ⟨ty0, h2⟩, h3⟩ := zcl ci C T N hc
  refine va_put hC.1 hC.2.1 hC.2.2.2.2.2.1 h1 ty0 h2 h3 hC.2.2.2.2.1 hK.K0 hP hD hS c (fs := ps.mapIdx (zsl Γ.2.2.2.1 (mem c))) (wz_get hG) hc k hkN (hC.2.2.2.2.2.1 _ hlk) (fun _ h9 => h9) hfin (v := .int (Int32.ofInt a)) hty rfl rfl (by simpa using (List.getElem?_eq_some_iff.mp hk).1) hdg (fun H1 locs1 hP1 hD1 hS1 => ?_)
  rw [wz_putI hG hk] at hP1 hD1
  exact kk p e s m args below meth c0 H1 locs1 A lsC hC hK hX hA hP1 hD1 hS1 hL
theorem znarZ {a : Int} (ha : 0 ≤ a ∧ a ≤ 1) : narrow .boolean (.int (Int32.ofInt a)) = .int (Int32.ofInt a) ∧ fits .boolean (.int (Int32.ofInt a)) = true ∧ vp_nar .boolean (Int32.ofInt a) = Int32.ofInt a := by
  obtain rfl | rfl : a = 0 ∨ a = 1 := by omega
  · exact ⟨by decide, by decide, by decide⟩
  · exact ⟨by decide, by decide, by decide⟩
theorem aw_putZ {idx ci k c : Nat} {a kI : Int} {ps : List (Option (Option Nat))} (hdg : decode M.2.1 pc = .ok (.putfield idx, 3)) (hq : pc + 3 = q) (hf : FP M.1.cls idx ci k .boolean) (ha : 0 ≤ a ∧ a ≤ 1) (hG : G[c]? = some (.inr (.inr (ci, ps)))) (hk : ps[k]? = some none) (hkI : (k : Int) = kI) (kk : AW Γ M F G cs ss q ls st (mset mem c kI a)) : AW Γ M F G cs ss pc ls (vI a :: vR c :: st) mem := by
  subst hq
  subst hkI
  intro p e s m args below meth c0 H locs A lsC hC hK hX hA hP hD hS hL
  obtain ⟨C, T, N, hc, hkN, hlk, hfin, hty⟩ := hf
  obtain ⟨h1, ⟨ty0, h2⟩, h3⟩ := zcl ci C T N hc
  refine va_put hC.1 hC.2.1 hC.2.2.2.2.2.1 h1 ty0 h2 h3 hC.2.2.2.2.1 hK.K0 hP hD hS c (fs := ps.mapIdx (zsl Γ.2.2.2.1 (mem c))) (wz_get hG) hc k hkN (hC.2.2.2.2.2.1 _ hlk) (fun _ h9 => h9) hfin (v := .int (Int32.ofInt a)) hty (znarZ ha).1 (znarZ ha).2.1 (by simpa using (List.getElem?_eq_some_iff.mp hk).1) hdg (fun H1 locs1 hP1 hD1 hS1 => ?_)
  rw [wz_putI hG hk] at hP1 hD1
  exact kk p e s m args below meth c0 H1 locs1 A lsC hC hK hX hA hP1 hD1 hS1 hL
theorem zty_inl {c n : Nat} {ty : FieldType} (hG : G[c]? = some (.inl (ty, n))) : zty G c = some ty := by simp [zty, hG]
theorem zty_inr {c : Nat} {C : String} {rs : List (Option Nat)} (hG : G[c]? = some (.inr (.inl (C, rs)))) : zty G c = some (.object C) := by simp [zty, hG]
theorem aw_iaload {c n : Nat} {i : Int} (hdg : decode M.2.1 pc = .ok (.iaload, 1)) (hq : pc + 1 = q) (hG : G[c]? = some (.inl (.int, n))) (hn : n < 2147483648) (hi : 0 ≤ i ∧ i < n) (kk : AW Γ M F G cs ss q ls (vI (mem c i) :: st) mem) : AW Γ M F G cs ss pc ls (vI i :: vR c :: st) mem := by
  subst hq
  intro p e s m args below meth c0 H locs A lsC hC hK hX hA hP hD hS hL
  obtain ⟨h1, h2⟩ := zcl_ix hi hn
  have k2 := kk p e s m args below meth c0 H locs A lsC hC hK hX hA hP hD hS hL
  refine va_iald hC.1 hC.2.1 (hK.K1 (zty_inl hG)) hP c 0 (f := fun j => Int32.ofInt (mem c (j : Int))) (n := n) (wz_get hG) rfl h1 hdg ?_
  rw [h2]
  exact k2
theorem aw_baload {c n : Nat} {i : Int} (hdg : decode M.2.1 pc = .ok (.baload, 1)) (hq : pc + 1 = q) (hG : G[c]? = some (.inl (.byte, n))) (hn : n < 2147483648) (hi : 0 ≤ i ∧ i < n) (kk : AW Γ M F G cs ss q ls (vI (mem c i) :: st) mem) : AW Γ M F G cs ss pc ls (vI i :: vR c :: st) mem := by
  subst hq
  intro p e s m args below meth c0 H locs A lsC hC hK hX hA hP hD hS hL
  obtain ⟨h1, h2⟩ := zcl_ix hi hn
  have k2 := kk p e s m args below meth c0 H locs A lsC hC hK hX hA hP hD hS hL
  refine va_bald hC.1 hC.2.1 (hK.K1 (zty_inl hG)) hP c 0 (f := fun j => Int32.ofInt (mem c (j : Int))) (n := n) (wz_get hG) rfl h1 hdg ?_
  rw [h2]
  exact k2
theorem aw_zaload {c n : Nat} {i : Int} (hdg : decode M.2.1 pc = .ok (.baload, 1)) (hq : pc + 1 = q) (hG : G[c]? = some (.inl (.boolean, n))) (hn : n < 2147483648) (hi : 0 ≤ i ∧ i < n) (kk : AW Γ M F G cs ss q ls (vI (mem c i) :: st) mem) : AW Γ M F G cs ss pc ls (vI i :: vR c :: st) mem := by
  subst hq
  intro p e s m args below meth c0 H locs A lsC hC hK hX hA hP hD hS hL
  obtain ⟨h1, h2⟩ := zcl_ix hi hn
  have k2 := kk p e s m args below meth c0 H locs A lsC hC hK hX hA hP hD hS hL
  refine va_zald hC.1 hC.2.1 (hK.K1 (zty_inl hG)) hP c 0 (f := fun j => Int32.ofInt (mem c (j : Int))) (n := n) (wz_get hG) rfl h1 hdg ?_
  rw [h2]
  exact k2
theorem wz_ast {c n : Nat} {ty : FieldType} {i v : Int} (hG : G[c]? = some (.inl (ty, n))) (hi : ((Int32.ofInt i).toNatClampNeg : Int) = i) : (wz Γ G mem).set c (Γ.2.2.2.1 c, .inl (Γ.2.2.1 c, n, .inl (upd (fun j => Int32.ofInt (mem c (j : Int))) (Int32.ofInt i).toNatClampNeg (Int32.ofInt v)))) = wz Γ G (mset mem c i v) := by
  have e : (fun j : Nat => Int32.ofInt (fset (mem c) i v (j : Int))) = upd (fun j => Int32.ofInt (mem c (j : Int))) (Int32.ofInt i).toNatClampNeg (Int32.ofInt v) := by
    funext j
    by_cases hj : j = (Int32.ofInt i).toNatClampNeg
    · subst hj
      rw [pk_us]
      simp [fset, hi]
    · rw [pk_un hj]
      have : ¬ ((j : Int) = i) := by omega
      simp [fset, this]
  have h2 := wz_set (Γ := Γ) (mem := mem) (f := fset (mem c) i v) hG
  rw [mset, ← h2, ← e]
  rfl
theorem aw_iastore {c n : Nat} {i a : Int} (hdg : decode M.2.1 pc = .ok (.iastore, 1)) (hq : pc + 1 = q) (hG : G[c]? = some (.inl (.int, n))) (hn : n < 2147483648) (hi : 0 ≤ i ∧ i < n) (kk : AW Γ M F G cs ss q ls st (mset mem c i a)) : AW Γ M F G cs ss pc ls (vI a :: vI i :: vR c :: st) mem := by
  subst hq
  intro p e s m args below meth c0 H locs A lsC hC hK hX hA hP hD hS hL
  obtain ⟨h1, h2⟩ := zcl_ix hi hn
  refine va_iast hC.1 hC.2.1 (hK.K1 (zty_inl hG)) hP hD hS c 0 (f := fun j => Int32.ofInt (mem c (j : Int))) (n := n) (wz_get hG) rfl h1 hdg (fun H1 locs1 hP1 hD1 hS1 => ?_)
  rw [wz_ast hG h2] at hP1 hD1
  exact kk p e s m args below meth c0 H1 locs1 A lsC hC hK hX hA hP1 hD1 hS1 hL
theorem znarB {a : Int} (ha : -128 ≤ a ∧ a ≤ 127) : vp_nar .byte (Int32.ofInt a) = Int32.ofInt a := by
  rw [vp_nar_byte, ← Int32.toInt_inj, z32 (by omega), Int8.toInt_toInt32, Int32.toInt_toInt8, z32 (by omega)]
  exact Int.bmod_eq_of_le (by omega) (by omega)
theorem aw_bastore {c n : Nat} {i a : Int} (hdg : decode M.2.1 pc = .ok (.bastore, 1)) (hq : pc + 1 = q) (hG : G[c]? = some (.inl (.byte, n))) (hn : n < 2147483648) (hi : 0 ≤ i ∧ i < n) (ha : -128 ≤ a ∧ a ≤ 127) (kk : AW Γ M F G cs ss q ls st (mset mem c i a)) : AW Γ M F G cs ss pc ls (vI a :: vI i :: vR c :: st) mem := by
  subst hq
  intro p e s m args below meth c0 H locs A lsC hC hK hX hA hP hD hS hL
  obtain ⟨h1, h2⟩ := zcl_ix hi hn
  refine va_bast hC.1 hC.2.1 (hK.K1 (zty_inl hG)) hP hD hS c 0 (f := fun j => Int32.ofInt (mem c (j : Int))) (n := n) (wz_get hG) rfl h1 hdg (fun H1 locs1 hP1 hD1 hS1 => ?_)
  rw [znarB ha, wz_ast hG h2] at hP1 hD1
  exact kk p e s m args below meth c0 H1 locs1 A lsC hC hK hX hA hP1 hD1 hS1 hL
theorem aw_zastore {c n : Nat} {i a : Int} (hdg : decode M.2.1 pc = .ok (.bastore, 1)) (hq : pc + 1 = q) (hG : G[c]? = some (.inl (.boolean, n))) (hn : n < 2147483648) (hi : 0 ≤ i ∧ i < n) (ha : 0 ≤ a ∧ a ≤ 1) (kk : AW Γ M F G cs ss q ls st (mset mem c i a)) : AW Γ M F G cs ss pc ls (vI a :: vI i :: vR c :: st) mem := by
  subst hq
  intro p e s m args below meth c0 H locs A lsC hC hK hX hA hP hD hS hL
  obtain ⟨h1, h2⟩ := zcl_ix hi hn
  refine va_zast hC.1 hC.2.1 (hK.K1 (zty_inl hG)) hP hD hS c 0 (f := fun j => Int32.ofInt (mem c (j : Int))) (n := n) (wz_get hG) rfl h1 hdg (fun H1 locs1 hP1 hD1 hS1 => ?_)
  rw [(znarZ ha).2.2, wz_ast hG h2] at hP1 hD1
  exact kk p e s m args below meth c0 H1 locs1 A lsC hC hK hX hA hP1 hD1 hS1 hL
theorem aw_aaload {c r : Nat} {C : String} {rs : List (Option Nat)} {i : Int} (hdg : decode M.2.1 pc = .ok (.aaload, 1)) (hq : pc + 1 = q) (hG : G[c]? = some (.inr (.inl (C, rs)))) (hn : rs.length < 2147483648) (hi : 0 ≤ i) (hr : rs[i.toNat]? = some (some r)) (kk : AW Γ M F G cs ss q ls (vR r :: st) mem) : AW Γ M F G cs ss pc ls (vI i :: vR c :: st) mem := by
  subst hq
  intro p e s m args below meth c0 H locs A lsC hC hK hX hA hP hD hS hL
  have hlt : i.toNat < rs.length := (List.getElem?_eq_some_iff.mp hr).1
  obtain ⟨h1, h2⟩ := zcl_ix (i := i) (n := rs.length) (by omega) hn
  have k2 := kk p e s m args below meth c0 H locs A lsC hC hK hX hA hP hD hS hL
  refine va_aldq hC.1 hC.2.1 (hK.K1 (zty_inr hG)) hP c 0 (f := fun k => (rs.getD k none).map Γ.2.2.2.1) (n := rs.length) (wz_get hG) rfl h1 hdg ?_
  have e3 : (Int32.ofInt i).toNatClampNeg = i.toNat := by omega
  rw [e3, List.getD_eq_getElem?_getD, hr]
  exact k2
theorem aw_alenI {c n : Nat} {ty : FieldType} (hdg : decode M.2.1 pc = .ok (.arraylength, 1)) (hq : pc + 1 = q) (hG : G[c]? = some (.inl (ty, n))) (kk : AW Γ M F G cs ss q ls (vI n :: st) mem) : AW Γ M F G cs ss pc ls (vR c :: st) mem := by
  subst hq
  intro p e s m args below meth c0 H locs A lsC hC hK hX hA hP hD hS hL
  have k2 := kk p e s m args below meth c0 H locs A lsC hC hK hX hA hP hD hS hL
  refine va_alen hC.1 hC.2.1 (hK.K1 (zty_inl hG)) hP c 0 (x := (n, .inl (fun j => Int32.ofInt (mem c (j : Int))))) (wz_get hG) rfl (v := Int32.ofInt n) Int32.ofInt_eq_ofNat.symm hdg ?_
  exact k2
theorem aw_sload {i : Int} (hdg : decode M.2.1 pc = .ok (.iaload, 1)) (hq : pc + 1 = q) (hn : Γ.2.2.2.2.1 < 2147483648) (hi : 0 ≤ i ∧ i < Γ.2.2.2.2.1) (kk : AW Γ M F G cs ss q ls (vI (Γ.2.2.2.2.2 i.toNat).toInt :: st) mem) : AW Γ M F G cs ss pc ls (vI i :: vR 9999 :: st) mem := by
  subst hq
  intro p e s m args below meth c0 H locs A lsC hC hK hX hA hP hD hS hL
  obtain ⟨h1, h2⟩ := zcl_ix hi hn
  have k2 := kk p e s m args below meth c0 H locs A lsC hC hK hX hA hP hD hS hL
  refine va_sld hC.1 hC.2.1 hX.2.2.2.2.2.1 hX.2.2.2.2.2.2.1 hX.2.2.2.2.2.2.2 hS h1 hdg ?_
  have e3 : (Int32.ofInt i).toNatClampNeg = i.toNat := by omega
  rw [e3]
  simp only [List.map_cons, cv, Int32.ofInt_toInt] at k2
  exact k2
theorem aw_slen (hdg : decode M.2.1 pc = .ok (.arraylength, 1)) (hq : pc + 1 = q) (kk : AW Γ M F G cs ss q ls (vI Γ.2.2.2.2.1 :: st) mem) : AW Γ M F G cs ss pc ls (vR 9999 :: st) mem := by
  subst hq
  intro p e s m args below meth c0 H locs A lsC hC hK hX hA hP hD hS hL
  have k2 := kk p e s m args below meth c0 H locs A lsC hC hK hX hA hP hD hS hL
  refine va_slen hC.1 hC.2.1 hX.2.2.2.2.2.1 hX.2.2.2.2.2.2.1 hX.2.2.2.2.2.2.2 hS hdg ?_
  simp only [List.map_cons, cv, Int32.ofInt_eq_ofNat] at k2
  exact k2
-- returns
theorem aw_ireturn {Q : Option AV → Mem → Prop} {a : Int} {ty : FieldType} (hdg : decode M.2.1 pc = .ok (.ireturn, 1)) (hr : M.2.2.2.1 = some ty) (hn : narrow ty (.int (Int32.ofInt a)) = .int (Int32.ofInt a)) (kk : Q (some (vI a)) mem) : AW Γ M (zF Γ G Q) G 0 0 pc ls [vI a] mem := by
  intro p e s m args below meth c0 H locs A lsC hC hK hX hA hP hD hS hL
  exact W.zret (ty := ty) hC.1 hC.2.1 (hC.2.2.2.1.trans hr) hn (fun t ht hW => ⟨some (vI a), mem, rfl, kk, by rw [ht]; exact hP, hS.F ht⟩) hS.2.2 hdg hC.2.2.2.2.2.2.1
theorem aw_lreturn {Q : Option AV → Mem → Prop} {a : Int} (hdg : decode M.2.1 pc = .ok (.lreturn, 1)) (hr : M.2.2.2.1 = some .long) (kk : Q (some (vL a)) mem) : AW Γ M (zF Γ G Q) G 0 0 pc ls [vL a] mem := by
  intro p e s m args below meth c0 H locs A lsC hC hK hX hA hP hD hS hL
  exact W.lret hC.1 hC.2.1 (hC.2.2.2.1.trans hr) (fun t ht hW => ⟨some (vL a), mem, rfl, kk, by rw [ht]; exact hP, hS.F ht⟩) hS.2.2 hdg hC.2.2.2.2.2.2.1
theorem aw_return {Q : Option AV → Mem → Prop} (hdg : decode M.2.1 pc = .ok (.return_, 1)) (hr : M.2.2.2.1 = none) (kk : Q none mem) : AW Γ M (zF Γ G Q) G 0 0 pc ls [] mem := by
  intro p e s m args below meth c0 H locs A lsC hC hK hX hA hP hD hS hL
  exact W.vret hC.1 hC.2.1 (hC.2.2.2.1.trans hr) (fun t ht hW => ⟨none, mem, rfl, kk, by rw [ht]; exact hP, hS.F ht⟩) hS.2.2 hdg hC.2.2.2.2.2.2.1
end ZH
