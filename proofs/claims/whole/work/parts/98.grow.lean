/-! CELLS ARE MADE: the constructors' rules. The world grows; addresses of new cells are found as they are made (zEx: the same up to cell n, and beyond 9000) -/
def zwith (Γ : ZG) (kA : Nat → ClassId) (ad : Nat → Nat) : ZG := (Γ.1, Γ.2.1, kA, ad, Γ.2.2.2.2)
def zag (n : Nat) (Γ : ZG) (kA : Nat → ClassId) (ad : Nat → Nat) : Prop := ∀ c : Nat, c < n ∨ 9000 ≤ c → kA c = Γ.2.2.1 c ∧ ad c = Γ.2.2.2.1 c
def zEx (n : Nat) (Γ Γ' : ZG) : Prop := ∃ (kA : Nat → ClassId) (ad : Nat → Nat), Γ' = zwith Γ kA ad ∧ zag n Γ kA ad
theorem zEx.rf {n : Nat} {Γ : ZG} : zEx n Γ Γ := ⟨Γ.2.2.1, Γ.2.2.2.1, rfl, fun _ _ => ⟨rfl, rfl⟩⟩
theorem zEx.tr {n k : Nat} {Γ Γ1 Γ2 : ZG} (h : zEx n Γ Γ1) (h2 : zEx k Γ1 Γ2) (hk : n ≤ k) : zEx n Γ Γ2 := by
  obtain ⟨kA, ad, rfl, g⟩ := h
  obtain ⟨kA2, ad2, rfl, g2⟩ := h2
  refine ⟨kA2, ad2, rfl, fun c hc => ?_⟩
  obtain ⟨a1, a2⟩ := g c hc
  obtain ⟨b1, b2⟩ := g2 c (by omega)
  exact ⟨b1.trans a1, b2.trans a2⟩
def zrv (n : Nat) : AV → Prop
  | .inr (.inr r) => r < n ∨ 9000 ≤ r
  | _ => True
def zrg (n : Nat) : GK → Prop
  | .inl _ => True
  | .inr (.inl (_, rs)) => ∀ r ∈ rs, ∀ x, r = some x → x < n
  | .inr (.inr (_, ps)) => ∀ o ∈ ps, ∀ x, o = some (some x) → x < n
/-- a world of n cells; its references lie in it -/
def zWf (n : Nat) (G : List GK) : Prop := G.length = n ∧ n < 9000 ∧ ∀ g ∈ G, zrg n g
abbrev zlv (n : Nat) (ls : List (Option AV)) (st : List AV) : Prop := (∀ v : AV, some v ∈ ls → zrv n v) ∧ ∀ v ∈ st, zrv n v
theorem zrg.mono {n k : Nat} {g : GK} (h : zrg n g) (hk : n ≤ k) : zrg k g := by
  rcases g with g | g | g
  · trivial
  · exact fun r hr x e => Nat.lt_of_lt_of_le (h r hr x e) hk
  · exact fun r hr x e => Nat.lt_of_lt_of_le (h r hr x e) hk
theorem cv_ag {n : Nat} {Γ : ZG} {kA : Nat → ClassId} {ad : Nat → Nat} (h : zag n Γ kA ad) {v : AV} (hv : zrv n v) : cv ad v = cv Γ.2.2.2.1 v := by
  rcases v with a | a | a
  · rfl
  · rfl
  · show Value.ref _ = Value.ref _
    rw [(h a hv).2]
theorem zsl_ag {n : Nat} {Γ : ZG} {kA : Nat → ClassId} {ad : Nat → Nat} (h : zag n Γ kA ad) {ps : List (Option (Option Nat))} (hp : ∀ o ∈ ps, ∀ x, o = some (some x) → x < n) {f : Int → Int} : ps.mapIdx (zsl ad f) = ps.mapIdx (zsl Γ.2.2.2.1 f) := by
  apply List.ext_getElem?
  intro j
  rw [List.getElem?_mapIdx, List.getElem?_mapIdx]
  cases hj : ps[j]? with
  | none => rfl
  | some o =>
    rcases o with _ | _ | r
    · rfl
    · rfl
    · have := hp _ (List.mem_of_getElem? hj) r rfl
      show some (va_rf (some (ad r))) = some (va_rf (some (Γ.2.2.2.1 r)))
      rw [(h r (Or.inl this)).2]
theorem zrs_ag {n : Nat} {Γ : ZG} {kA : Nat → ClassId} {ad : Nat → Nat} (h : zag n Γ kA ad) {rs : List (Option Nat)} (hp : ∀ r ∈ rs, ∀ x, r = some x → x < n) : (fun k => (rs.getD k none).map ad) = (fun k => (rs.getD k none).map Γ.2.2.2.1) := by
  funext k
  rw [List.getD_eq_getElem?_getD]
  cases hj : rs[k]? with
  | none => rfl
  | some o =>
    cases o with
    | none => rfl
    | some r =>
      have := hp _ (List.mem_of_getElem? hj) r rfl
      show some (ad r) = some (Γ.2.2.2.1 r)
      rw [(h r (Or.inl this)).2]
theorem wz_ag {n : Nat} {Γ : ZG} {kA : Nat → ClassId} {ad : Nat → Nat} (h : zag n Γ kA ad) {G : List GK} (hG : zWf n G) {mem : Mem} : wz (zwith Γ kA ad) G mem = wz Γ G mem := by
  apply List.ext_getElem?
  intro j
  simp only [wz, List.getElem?_mapIdx]
  cases hj : G[j]? with
  | none => rfl
  | some g =>
    have hl : j < n := by rw [← hG.1]; exact (List.getElem?_eq_some_iff.mp hj).1
    have hr := hG.2.2 g (List.mem_of_getElem? hj)
    obtain ⟨e1, e2⟩ := h j (Or.inl hl)
    show some (ad j, zE kA ad j g (mem j)) = some (Γ.2.2.2.1 j, zE Γ.2.2.1 Γ.2.2.2.1 j g (mem j))
    rw [e2]
    rcases g with g | g | g
    · simp only [zE, e1]
    · simp only [zE, e1]
      rw [zrs_ag h hr]
    · simp only [zE]
      rw [zsl_ag h hr]
theorem zK_ag {n : Nat} {Γ : ZG} {kA : Nat → ClassId} {ad : Nat → Nat} (h : zag n Γ kA ad) {G : List GK} (hG : G.length = n) {s : State} (hK : zK Γ G s) : zK (zwith Γ kA ad) G s := by
  refine ⟨hK.1, fun c ty hc => ?_⟩
  have hl : c < n := by
    rw [← hG]
    cases hj : G[c]? with
    | none => simp [zty, hj] at hc
    | some g => exact (List.getElem?_eq_some_iff.mp hj).1
  have := hK.2 c ty hc
  rw [← (h c (Or.inl hl)).1] at this
  exact this
theorem zX_ag {n : Nat} {Γ : ZG} {kA : Nat → ClassId} {ad : Nat → Nat} (h : zag n Γ kA ad) {A : Nat → Prop} {U : State} {H : Heap} (hX : zX Γ A U H) : zX (zwith Γ kA ad) A U H := by
  have e1 : (fun j => ad (9000 + j)) = (fun j => Γ.2.2.2.1 (9000 + j)) := funext fun j => (h _ (Or.inr (by omega))).2
  have e2 : (fun j => ad (9100 + j)) = (fun j => Γ.2.2.2.1 (9100 + j)) := funext fun j => (h _ (Or.inr (by omega))).2
  have e3 : ad 9999 = Γ.2.2.2.1 9999 := (h _ (Or.inr (by omega))).2
  unfold zX zwith
  dsimp only
  rw [e1, e2, e3]
  obtain ⟨h1, h2, h3⟩ := hX
  refine ⟨h1, fun j q hj => ?_, h3⟩
  have := h2 j q hj
  rw [← (h (9000 + j) (Or.inr (by omega))).2] at this
  exact this
theorem zL_ag {n : Nat} {Γ : ZG} {kA : Nat → ClassId} {ad : Nat → Nat} (h : zag n Γ kA ad) {lsC : Array Slot} {nL : Nat} {ls : List (Option AV)} (hv : ∀ v : AV, some v ∈ ls → zrv n v) (hL : zL Γ lsC nL ls) : zL (zwith Γ kA ad) lsC nL ls := by
  refine ⟨hL.1, hL.2.1, fun i v hi => ?_⟩
  rw [hL.2.2 i v hi]
  show _ = some (Slot.val (cv ad v))
  rw [cv_ag h (hv v (List.mem_of_getElem? hi))]
theorem st_ag {n : Nat} {Γ : ZG} {kA : Nat → ClassId} {ad : Nat → Nat} (h : zag n Γ kA ad) {st : List AV} (hv : ∀ v ∈ st, zrv n v) : st.map (cv ad) = st.map (cv Γ.2.2.2.1) := List.map_congr_left (fun v hm => cv_ag h (hv v hm))
def zup (Γ : ZG) (n q : Nat) (cA : ClassId) : ZG := zwith Γ (fun c => if c = n then cA else Γ.2.2.1 c) (fun c => if c = n then q else Γ.2.2.2.1 c)
theorem zup_ag {Γ : ZG} {n q : Nat} {cA : ClassId} (hn : n < 9000) : zag n Γ (fun c => if c = n then cA else Γ.2.2.1 c) (fun c => if c = n then q else Γ.2.2.2.1 c) := by
  intro c hc
  exact ⟨if_neg (by omega), if_neg (by omega)⟩
theorem zup_ex {Γ : ZG} {n q : Nat} {cA : ClassId} (hn : n < 9000) : zEx n Γ (zup Γ n q cA) := ⟨_, _, rfl, zup_ag hn⟩
theorem wz_push {Γ : ZG} {n q : Nat} {cA : ClassId} {G : List GK} {g : GK} {mem : Mem} (hG : zWf n G) : wz (zup Γ n q cA) (G ++ [g]) mem = wz Γ G mem ++ [(q, zE (fun c => if c = n then cA else Γ.2.2.1 c) (fun c => if c = n then q else Γ.2.2.2.1 c) n g (mem n))] := by
  rw [← wz_ag (zup_ag (q := q) (cA := cA) hG.2.1) hG]
  unfold wz
  rw [List.mapIdx_append]
  congr 1
  simp only [List.mapIdx_cons, List.mapIdx_nil, Nat.zero_add, hG.1]
  show [((if n = n then q else _), _)] = _
  rw [if_pos rfl]
  rfl
theorem zWf.push {n : Nat} {G : List GK} {g : GK} (hG : zWf n G) (h9 : n + 1 < 9000) (hg : zrg (n + 1) g) : zWf (n + 1) (G ++ [g]) := by
  refine ⟨by rw [List.length_append, hG.1]; rfl, h9, fun x hx => ?_⟩
  rcases List.mem_append.mp hx with h | h
  · exact (hG.2.2 x h).mono (by omega)
  · rw [List.mem_singleton.mp h]; exact hg
theorem zWf.put {n c : Nat} {G : List GK} {g : GK} (hG : zWf n G) (hg : zrg n g) : zWf n (G.set c g) := by
  refine ⟨by rw [List.length_set]; exact hG.1, hG.2.1, fun x hx => ?_⟩
  rcases List.mem_or_eq_of_mem_set hx with h | h
  · exact hG.2.2 x h
  · rw [h]; exact hg
/-- a class's slots when it is made -/
def FR (ci : Nat) (C : String) (N : Nat) (ps : List (Option (Option Nat))) : Prop := ∃ (T : u_T) (ty : Nat → FieldType), vwCl[ci]? = some (C, T, N) ∧ (∀ k, k < N → parseFieldDescriptor (T k).2.2.1 = some (ty k)) ∧ (∀ j, j < N → (ps[j]? = some none ∧ defaultValue (ty j) = .int 0) ∨ (ps[j]? = some (some none) ∧ defaultValue (ty j) = .null)) ∧ ∀ o ∈ ps, o = none ∨ o = some none
theorem fr_zrg {n ci N : Nat} {C : String} {ps : List (Option (Option Nat))} (h : FR ci C N ps) : zrg n (.inr (.inr (ci, ps))) := by
  obtain ⟨T, ty, h1, h2, h3, h4⟩ := h
  intro o ho x e
  rcases h4 o ho with h | h <;> rw [h] at e <;> cases e
section ZGr
variable {Γ : ZG} {M : ZM} {F : ZF} {G : List GK} {cs ss pc q n : Nat} {ls : List (Option AV)} {st : List AV} {mem : Mem}
theorem aw_new {idx ci N : Nat} {C : String} {ps : List (Option (Option Nat))} {G' : List GK} (hdg : decode M.2.1 pc = .ok (.new idx, 3)) (hq : pc + 3 = q) (hf : FR ci C N ps) (hl : Cond.classLink M.1.cls idx C ∈ zT) (hi : Cond.instantiable C N ∈ zT) (hini : Cond.initialized C ∈ zT) (hG : zWf n G) (h9 : n + 1 < 9000) (hv : zlv n ls st) (hz : mem n = fun _ => 0) (hcs : cs + 1 ≤ M.2.2.2.2.cells) (hss : ss + N ≤ M.2.2.2.2.slots) (hG' : G ++ [.inr (.inr (ci, ps))] = G')
    (kk : ∀ Γ' : ZG, zEx n Γ Γ' → zWf (n + 1) G' → AW Γ' M F G' (cs + 1) (ss + N) q ls (vR n :: st) mem) : AW Γ M F G cs ss pc ls st mem := by
  subst hq; subst hG'
  intro p e s m args below meth c0 H locs A lsC hC hK hX hA hP hD hS hL
  have hf' := hf
  obtain ⟨T, ty, hc, h2, h3, h4⟩ := hf
  have hts := hC.2.2.2.2.2.1
  refine va_new (fs := ps.mapIdx (zsl Γ.2.2.2.1 (fun _ => 0))) hC.1 hC.2.1 hts (zcl ci C T N hc).1 ty h2 hC.2.2.2.2.1 (hts _ hl) (hts _ hi) (hts _ hini) hK.K0 hP hD hS hA hc (fun j hj => ?_) hcs hss hdg (fun a H1 hP1 hD1 hS1 => ?_)
  · unfold vp_V
    rw [List.getD_eq_getElem?_getD, List.getElem?_mapIdx]
    rcases h3 j hj with ⟨e1, e2⟩ | ⟨e1, e2⟩
    · rw [e1, e2]; rfl
    · rw [e1, e2]; rfl
  · have hag := zup_ag (Γ := Γ) (n := n) (q := a) (cA := Γ.2.2.1 n) hG.2.1
    have ew := wz_push (Γ := Γ) (q := a) (cA := Γ.2.2.1 n) (g := .inr (.inr (ci, ps))) (mem := mem) hG
    have ez : zE (fun c => if c = n then Γ.2.2.1 n else Γ.2.2.1 c) (fun c => if c = n then a else Γ.2.2.2.1 c) n (.inr (.inr (ci, ps))) (mem n) = .inr (ci, ps.mapIdx (zsl Γ.2.2.2.1 (fun _ => 0))) := by
      rw [hz]
      show Sum.inr (ci, ps.mapIdx (zsl _ (fun _ => 0))) = _
      rw [zsl_ag hag (fun o ho x ex => by rcases h4 o ho with h | h <;> rw [h] at ex <;> cases ex)]
    rw [ez] at ew
    rw [← ew] at hP1 hD1
    have kW := kk (zup Γ n a (Γ.2.2.1 n)) (zup_ex hG.2.1) (hG.push h9 (fr_zrg hf')) p e s m args below meth c0 H1 locs A lsC hC ?_ (zX_ag hag hX) hA hP1 hD1 hS1 (zL_ag hag hv.1 hL)
    · have es : (vR n :: st).map (cv (zup Γ n a (Γ.2.2.1 n)).2.2.2.1) = .ref a :: st.map (cv Γ.2.2.2.1) := by
        rw [List.map_cons]
        have e1 : cv (zup Γ n a (Γ.2.2.1 n)).2.2.2.1 (vR n) = .ref a := by show Value.ref (if n = n then a else _) = _; rw [if_pos rfl]
        rw [e1]
        exact congrArg (List.cons _) (st_ag hag hv.2)
      rw [es] at kW
      exact kW
    · refine ⟨hK.1, fun c ty' hty => ?_⟩
      by_cases hlt : c < n
      · have : zty G c = some ty' := by
          rw [← hty]
          unfold zty
          rw [List.getElem?_append_left (by rw [hG.1]; exact hlt)]
        have h7 := (zK_ag hag hG.1 hK).2 c ty' this
        exact h7
      · exfalso
        unfold zty at hty
        rw [List.getElem?_append_right (by rw [hG.1]; omega)] at hty
        by_cases e0 : c - G.length = 0
        · rw [e0] at hty; cases hty
        · have : [(Sum.inr (Sum.inr (ci, ps)) : GK)][c - G.length]? = none := by
            apply List.getElem?_eq_none
            show 1 ≤ _
            omega
          rw [this] at hty; cases hty
def gty : GK → Option FieldType
  | .inl (t, _) => some t
  | .inr (.inl (C, _)) => some (.object C)
  | _ => none
theorem zK_push {a : Nat} {cA : ClassId} {g : GK} {ty : FieldType} {s : State} (hG : zWf n G) (hK : zK Γ G s) (hg : gty g = some ty) (hA : ArrOfT s cA ty ∧ va_RA s cA ty) : zK (zup Γ n a cA) (G ++ [g]) s := by
  have hag := zup_ag (Γ := Γ) (n := n) (q := a) (cA := cA) hG.2.1
  refine ⟨hK.1, fun c ty' hty => ?_⟩
  by_cases hlt : c < n
  · have : zty G c = some ty' := by
      rw [← hty]
      unfold zty
      rw [List.getElem?_append_left (by rw [hG.1]; exact hlt)]
    exact (zK_ag hag hG.1 hK).2 c ty' this
  · by_cases e0 : c - G.length = 0
    · have hc : c = n := by have := hG.1; omega
      have hgc : (G ++ [g])[c]? = some g := by rw [List.getElem?_append_right (by rw [hG.1]; omega), e0]; rfl
      subst hc
      have et : ty' = ty := by
        unfold zty at hty
        rw [hgc] at hty
        rcases g with g | g | g
        · exact Option.some.inj (hty.symm.trans hg)
        · exact Option.some.inj (hty.symm.trans hg)
        · cases hg
      rw [et]
      show ArrOfT s (if c = c then cA else _) ty ∧ va_RA s (if c = c then cA else _) ty
      rw [if_pos rfl]
      exact hA
    · exfalso
      have : (G ++ [g])[c]? = none := by
        apply List.getElem?_eq_none
        rw [List.length_append]
        show G.length + 1 ≤ _
        omega
      unfold zty at hty
      rw [this] at hty; cases hty
theorem aw_newarr {atype : ArrayType} {ty : FieldType} {len : Nat} {a : Int} {G' : List GK} (hdg : decode M.2.1 pc = .ok (.newarray atype, 2)) (hq : pc + 2 = q) (hw : Cond.arrayClass (newarray.typeOf atype) ∈ zT) (hty : newarray.typeOf atype = ty) (hdv : defaultValue ty = .int 0) (ha : a = len) (hlen : len < 1000) (hby : componentBytes ty ≤ 8) (hG : zWf n G) (h9 : n + 1 < 9000) (hv : zlv n ls st) (hz : mem n = fun _ => 0) (hcs : cs + 1 ≤ M.2.2.2.2.cells) (hss : ss + len ≤ M.2.2.2.2.slots) (hG' : G ++ [.inl (ty, len)] = G')
    (kk : ∀ Γ' : ZG, zEx n Γ Γ' → zWf (n + 1) G' → AW Γ' M F G' (cs + 1) (ss + len) q ls (vR n :: st) mem) : AW Γ M F G cs ss pc ls (vI a :: st) mem := by
  subst hq; subst hG'; subst ha
  intro p e s m args below meth c0 H locs A lsC hC hK hX hA hP hD hS hL
  have hts := hC.2.2.2.2.2.1
  have nn : ¬ Int32.ofInt (len : Int) < 0 ∧ (Int32.ofInt (len : Int)).toNatClampNeg = len := by
    have e : (Int32.ofInt (len : Int)).toInt = len := z32 (by omega)
    refine ⟨fun h => ?_, ?_⟩
    · have := (zlt (a := (len : Int)) (b := 0) (by omega) (by omega)).mp h
      omega
    · have h2 := Int32.toNat_toInt (Int32.ofInt (len : Int))
      rw [e] at h2
      omega
  refine va_newa (a0 := (len, .inl (fun k => Int32.ofInt ((fun _ => (0 : Int)) (k : Int))))) hC.1 hC.2.1 (hts _ hw) hty hK.K0 hP hD hS hA (fun cA => ?_) nn.1 nn.2 ?_ hcs hss hdg (fun b cA H1 hK1 hP1 hD1 hS1 => ?_)
  · rw [hdv]; rfl
  · have : len * componentBytes ty ≤ 1000 * 8 := Nat.mul_le_mul (by omega) hby
    omega
  · have hag := zup_ag (Γ := Γ) (n := n) (q := b) (cA := cA) hG.2.1
    have ew := wz_push (Γ := Γ) (q := b) (cA := cA) (g := .inl (ty, len)) (mem := mem) hG
    have ez : zE (fun c => if c = n then cA else Γ.2.2.1 c) (fun c => if c = n then b else Γ.2.2.2.1 c) n (.inl (ty, len)) (mem n) = .inl (cA, len, .inl (fun k => Int32.ofInt ((fun _ => (0 : Int)) (k : Int)))) := by
      rw [hz]
      show Sum.inl ((if n = n then cA else _), _) = _
      rw [if_pos rfl]
    rw [ez] at ew
    rw [← ew] at hP1 hD1
    have kW := kk (zup Γ n b cA) (zup_ex hG.2.1) (hG.push h9 trivial) p e s m args below meth c0 H1 locs A lsC hC (zK_push hG hK rfl (hK1.2 0 _ rfl)) (zX_ag hag hX) hA hP1 hD1 hS1 (zL_ag hag hv.1 hL)
    have es : (vR n :: st).map (cv (zup Γ n b cA).2.2.2.1) = .ref b :: st.map (cv Γ.2.2.2.1) := by
      rw [List.map_cons]
      have e1 : cv (zup Γ n b cA).2.2.2.1 (vR n) = .ref b := by show Value.ref (if n = n then b else _) = _; rw [if_pos rfl]
      rw [e1]
      exact congrArg (List.cons _) (st_ag hag hv.2)
    rw [es] at kW
    exact kW
theorem aw_newref {idx : Nat} {C : String} {len : Nat} {a : Int} {G' : List GK} (hdg : decode M.2.1 pc = .ok (.anewarray idx, 3)) (hq : pc + 3 = q) (hw : Cond.classLink M.1.cls idx C ∈ zT) (hC' : C ∈ zover) (ha : a = len) (hlen : len < 1000) (hG : zWf n G) (h9 : n + 1 < 9000) (hv : zlv n ls st) (hcs : cs + 1 ≤ M.2.2.2.2.cells) (hss : ss + len ≤ M.2.2.2.2.slots) (hG' : G ++ [.inr (.inl (C, List.replicate len none))] = G')
    (kk : ∀ Γ' : ZG, zEx n Γ Γ' → zWf (n + 1) G' → AW Γ' M F G' (cs + 1) (ss + len) q ls (vR n :: st) mem) : AW Γ M F G cs ss pc ls (vI a :: st) mem := by
  subst hq; subst hG'; subst ha
  intro p e s m args below meth c0 H locs A lsC hC hK hX hA hP hD hS hL
  have hts := hC.2.2.2.2.2.1
  have nn : ¬ Int32.ofInt (len : Int) < 0 ∧ (Int32.ofInt (len : Int)).toNatClampNeg = len := by
    have e : (Int32.ofInt (len : Int)).toInt = len := z32 (by omega)
    refine ⟨fun h => ?_, ?_⟩
    · have := (zlt (a := (len : Int)) (b := 0) (by omega) (by omega)).mp h
      omega
    · have h2 := Int32.toNat_toInt (Int32.ofInt (len : Int))
      rw [e] at h2
      omega
  refine va_newq hC.1 hC.2.1 hC.2.2.2.2.1 (hts _ hw) (hX.2.2.1.2 C hC') hK.K0 hP hD hS hA nn.1 nn.2 (by omega) hcs hss hdg (fun b cA H1 hK1 hP1 hD1 hS1 => ?_)
  have hag := zup_ag (Γ := Γ) (n := n) (q := b) (cA := cA) hG.2.1
  have ew := wz_push (Γ := Γ) (q := b) (cA := cA) (g := .inr (.inl (C, List.replicate len none))) (mem := mem) hG
  have ez : zE (fun c => if c = n then cA else Γ.2.2.1 c) (fun c => if c = n then b else Γ.2.2.2.1 c) n (.inr (.inl (C, List.replicate len none))) (mem n) = .inl (cA, len, .inr (.inr (.inr (.inr (fun _ => none))))) := by
    show Sum.inl ((if n = n then cA else _), (List.replicate len (none : Option Nat)).length, _) = _
    rw [if_pos rfl, List.length_replicate]
    have : (fun k => ((List.replicate len (none : Option Nat)).getD k none).map (fun c => if c = n then b else Γ.2.2.2.1 c)) = fun _ => none := by
      funext k
      rw [List.getD_eq_getElem?_getD, List.getElem?_replicate]
      split <;> rfl
    rw [this]
  rw [ez] at ew
  rw [← ew] at hP1 hD1
  have kW := kk (zup Γ n b cA) (zup_ex hG.2.1) (hG.push h9 (fun r hr x ex => by rw [List.eq_of_mem_replicate hr] at ex; cases ex)) p e s m args below meth c0 H1 locs A lsC hC (zK_push hG hK rfl (hK1.2 0 _ rfl)) (zX_ag hag hX) hA hP1 hD1 hS1 (zL_ag hag hv.1 hL)
  have es : (vR n :: st).map (cv (zup Γ n b cA).2.2.2.1) = .ref b :: st.map (cv Γ.2.2.2.1) := by
    rw [List.map_cons]
    have e1 : cv (zup Γ n b cA).2.2.2.1 (vR n) = .ref b := by show Value.ref (if n = n then b else _) = _; rw [if_pos rfl]
    rw [e1]
    exact congrArg (List.cons _) (st_ag hag hv.2)
  rw [es] at kW
  exact kW
/-- a final field's link -/
def FPF (own : String) (idx ci k : Nat) : Prop := ∃ (C : String) (T : u_T) (N : Nat) (ty : FieldType), vwCl[ci]? = some (C, T, N) ∧ k < N ∧ Cond.fieldLink own idx (T k).1 (T k).2.1 (T k).2.2.1 ∈ zT ∧ (T k).2.2.2 = true ∧ (T k).1 = own ∧ parseFieldDescriptor (T k).2.2.1 = some ty ∧ ∀ a : Nat, narrow ty (.ref a) = .ref a ∧ fits ty (.ref a) = true
theorem zty_set {c d : Nat} {g g' : GK} (hG : G[c]? = some g) (h : ∀ G1 G2 : List GK, G1[c]? = some g → G2[c]? = some g' → zty G1 c = zty G2 c) : zty (G.set c g') d = zty G d := by
  by_cases e : c = d
  · subst e
    exact (h G (G.set c g') hG (List.getElem?_set_self (List.getElem?_eq_some_iff.mp hG).1)).symm
  · unfold zty
    rw [List.getElem?_set_ne e]
theorem wz_setG {c : Nat} {g g' : GK} (hG : G[c]? = some g) : (wz Γ G mem).set c (Γ.2.2.2.1 c, zE Γ.2.2.1 Γ.2.2.2.1 c g' (mem c)) = wz Γ (G.set c g') mem := by
  have hl : c < G.length := (List.getElem?_eq_some_iff.mp hG).1
  apply List.ext_getElem?
  intro j
  by_cases hj : c = j
  · subst hj
    rw [List.getElem?_set_self (by simpa [wz] using hl), wz_get (List.getElem?_set_self hl)]
  · rw [List.getElem?_set_ne hj]
    simp only [wz, List.getElem?_mapIdx, List.getElem?_set_ne hj]
theorem aw_putR {idx ci k c r : Nat} {ps ps' : List (Option (Option Nat))} {G' : List GK} (hdg : decode M.2.1 pc = .ok (.putfield idx, 3)) (hq : pc + 3 = q) (hf : FPF M.1.cls idx ci k) (hi : M.1.name = "<init>") (hG : zWf n G) (hc : G[c]? = some (.inr (.inr (ci, ps)))) (hk : k < ps.length) (hps : ps.set k (some (some r)) = ps') (hr : r < n) (hG' : G.set c (.inr (.inr (ci, ps'))) = G')
    (kk : zWf n G' → AW Γ M F G' cs ss q ls st mem) : AW Γ M F G cs ss pc ls (vR r :: vR c :: st) mem := by
  subst hq; subst hG'; subst hps
  intro p e s m args below meth c0 H locs A lsC hC hK hX hA hP hD hS hL
  obtain ⟨C, T, N, ty, hcl, hkN, hlk, hfin, hown, hty, hnf⟩ := hf
  obtain ⟨h1, ⟨ty0, h2⟩, h3⟩ := zcl ci C T N hcl
  refine va_putF hC.1 hC.2.1 hC.2.2.2.2.2.1 h1 ty0 h2 h3 hC.2.2.2.2.1 hK.K0 hP hD hS c (fs := ps.mapIdx (zsl Γ.2.2.2.1 (mem c))) (wz_get hc) hcl k hkN (hC.2.2.2.2.2.1 _ hlk) (fun _ h9 => h9) hfin (hC.2.2.2.2.2.2.2 hi) hown (v := .ref (Γ.2.2.2.1 r)) hty (hnf _).1 (hnf _).2 (by simpa using hk) hdg (fun H1 locs1 hP1 hD1 hS1 => ?_)
  have e1 : (ps.mapIdx (zsl Γ.2.2.2.1 (mem c))).set k (.ref (Γ.2.2.2.1 r)) = (ps.set k (some (some r))).mapIdx (zsl Γ.2.2.2.1 (mem c)) := by
    apply List.ext_getElem?
    intro j
    by_cases hj : k = j
    · subst hj
      rw [List.getElem?_set_self (by simpa using hk), List.getElem?_mapIdx, List.getElem?_set_self hk]
      rfl
    · rw [List.getElem?_set_ne hj, List.getElem?_mapIdx, List.getElem?_mapIdx, List.getElem?_set_ne hj]
  have e2 := wz_setG (Γ := Γ) (mem := mem) (g' := .inr (.inr (ci, ps.set k (some (some r))))) hc
  rw [e1] at hP1 hD1
  rw [show (wz Γ G mem).set c (Γ.2.2.2.1 c, .inr (ci, (ps.set k (some (some r))).mapIdx (zsl Γ.2.2.2.1 (mem c)))) = wz Γ (G.set c (.inr (.inr (ci, ps.set k (some (some r)))))) mem from e2] at hP1 hD1
  refine kk (hG.put (fun o ho x ex => ?_)) p e s m args below meth c0 H1 locs1 A lsC hC ⟨hK.1, fun d ty' hd => hK.2 d ty' ?_⟩ hX hA hP1 hD1 hS1 hL
  · rcases List.mem_or_eq_of_mem_set ho with h | h
    · exact hG.2.2 _ (List.mem_of_getElem? hc) o h x ex
    · rw [h] at ex; cases ex; exact hr
  · rw [← hd]
    exact (zty_set hc (fun G1 G2 g1 g2 => by unfold zty; rw [g1, g2])).symm
theorem aw_aastore {ci c r i : Nat} {a : Int} {C : String} {rs rs' : List (Option Nat)} {ps : List (Option (Option Nat))} {G' : List GK} (hdg : decode M.2.1 pc = .ok (.aastore, 1)) (hq : pc + 1 = q) (ha : a = i) (hi : i < rs.length) (hi2 : i < 1000) (hci : (vwCl[ci]?).map (fun x => x.1) = some C) (hG : zWf n G) (hc : G[c]? = some (.inr (.inl (C, rs)))) (hr : G[r]? = some (.inr (.inr (ci, ps)))) (hrs : rs.set i (some r) = rs') (hG' : G.set c (.inr (.inl (C, rs'))) = G')
    (kk : zWf n G' → AW Γ M F G' cs ss q ls st mem) : AW Γ M F G cs ss pc ls (vR r :: vI a :: vR c :: st) mem := by
  subst hq; subst hG'; subst hrs; subst ha
  intro p e s m args below meth c0 H locs A lsC hC hK hX hA hP hD hS hL
  have nn : (Int32.ofInt (i : Int)).toNatClampNeg = i ∧ ¬ Int32.ofInt (i : Int) < 0 := by
    have e : (Int32.ofInt (i : Int)).toInt = i := z32 (by omega)
    refine ⟨?_, fun h => ?_⟩
    · have h2 := Int32.toNat_toInt (Int32.ofInt (i : Int))
      rw [e] at h2
      omega
    · have := (zlt (a := (i : Int)) (b := 0) (by omega) (by omega)).mp h
      omega
  obtain ⟨q0, hq0, hname⟩ : ∃ q0, vwCl[ci]? = some q0 ∧ q0.1 = C := by
    cases hx : vwCl[ci]? with
    | none => rw [hx] at hci; cases hci
    | some q0 => rw [hx] at hci; exact ⟨q0, rfl, Option.some.inj hci⟩
  have hin : vp_in (Int32.ofInt (i : Int)) rs.length := by
    rintro (h | h)
    · exact nn.2 h
    · rw [nn.1] at h; omega
  have hrl : r < n := by rw [← hG.1]; exact (List.getElem?_eq_some_iff.mp hr).1
  refine va_astq hC.1 hC.2.1 (hK.K1 (zty_inr hc)) hP hD hS c 0 r ci (r := q0) (f := fun k => (rs.getD k none).map Γ.2.2.2.1) (n := rs.length) (vs := ps.mapIdx (zsl Γ.2.2.2.1 (mem r))) (wz_get hc) (by rw [hname]; rfl) (wz_get hr) hq0 hin hdg (fun H1 locs1 hP1 hD1 hS1 => ?_)
  have e1 : va_up (fun k => (rs.getD k none).map Γ.2.2.2.1) (Int32.ofInt (i : Int)).toNatClampNeg (some (Γ.2.2.2.1 r)) = (fun k => ((rs.set i (some r)).getD k none).map Γ.2.2.2.1) := by
    funext k
    unfold va_up
    rw [nn.1]
    simp only [List.getD_eq_getElem?_getD]
    by_cases hk : k = i
    · subst hk
      rw [if_pos rfl, List.getElem?_set_self hi]
      rfl
    · rw [if_neg hk, List.getElem?_set_ne (fun z => hk z.symm)]
  rw [e1] at hP1 hD1
  have e2 := wz_setG (Γ := Γ) (mem := mem) (g' := .inr (.inl (C, rs.set i (some r)))) hc
  rw [show (wz Γ G mem).set c (Γ.2.2.2.1 c, .inl (Γ.2.2.1 c, rs.length, .inr (.inr (.inr (.inr (fun k => ((rs.set i (some r)).getD k none).map Γ.2.2.2.1)))))) = wz Γ (G.set c (.inr (.inl (C, rs.set i (some r))))) mem by rw [← e2]; show _ = (wz Γ G mem).set c (Γ.2.2.2.1 c, .inl (Γ.2.2.1 c, (rs.set i (some r)).length, _)); rw [List.length_set]] at hP1 hD1
  refine kk (hG.put (fun o ho x ex => ?_)) p e s m args below meth c0 H1 locs1 A lsC hC ⟨hK.1, fun d ty' hd => hK.2 d ty' ?_⟩ hX hA hP1 hD1 hS1 hL
  · rcases List.mem_or_eq_of_mem_set ho with h | h
    · exact hG.2.2 _ (List.mem_of_getElem? hc) o h x ex
    · rw [h] at ex; cases ex; exact hrl
  · rw [← hd]
    exact (zty_set hc (fun G1 G2 g1 g2 => by unfold zty; rw [g1, g2])).symm
theorem aw_objInit {idx c : Nat} (hdg : decode M.2.1 pc = .ok (.invokespecial idx, 3)) (hq : pc + 3 = q) (h1 : Cond.methodLink M.1.cls idx objectInit ∈ zT) (h2 : Cond.instanceMethod objectInit ∈ zT) (h3 : Cond.code objectInit { data := #[177] } 1 none ∈ zT) (hfr : 1 ≤ M.2.2.2.2.frames) (hlo : (st.map zcat).sum + 12 ≤ M.2.2.2.2.locals) (kk : AW Γ M F G cs ss q ls st mem) : AW Γ M F G cs ss pc ls (vR c :: st) mem := by
  subst hq
  intro p e s m args below meth c0 H locs A lsC hC hK hX hA hP hD hS hL
  have hts := hC.2.2.2.2.2.1
  refine W.objInit hC.1 hC.2.1 hC.2.2.2.2.1 (hts _ h1) (hts _ h2) (hts _ h3) rfl (hL.1.trans hC.2.2.1.symm) (a := Γ.2.2.2.1 c) (rest := st.map (cv Γ.2.2.2.1)) rfl hdg hfr ?_ ?_
  · rw [zcat_sum]
    show 2 * 0 + _ + 12 ≤ _
    omega
  · exact kk p e s m args below meth c0 H locs A lsC hC hK hX hA hP hD hS hL
end ZGr
/-! a constructor's contract: it makes mc cells of ms slots; the world becomes G' -/
def zQN (Γ : ZG) (n : Nat) (G' : List GK) (A : Nat → Prop) (Q : ZG → Mem → Prop) : Array Value → State → Outcome → State → Prop := fun _ st o t =>
  ∃ (Γ' : ZG) (mem : Mem), zEx n Γ Γ' ∧ o = .returned none ∧ Q Γ' mem ∧ zK Γ' G' t ∧ va_P Γ.2.1 vwCl (wz Γ' G' mem) t.heap ∧ va_D A (wz Γ' G' mem) ∧ va_F A st t
abbrev zFN (Γ : ZG) (n : Nat) (G' : List GK) (Q : ZG → Mem → Prop) (mc ms : Nat) : ZF := fun s args below A => MQ below (zQN Γ n G' A Q) args s mc ms A
def AMetN (Γ : ZG) (M : ZM) (as : List AV) (n : Nat) (G : List GK) (mem : Mem) (mc ms : Nat) (G' : List GK) (Q : ZG → Mem → Prop) : Prop :=
  ∀ sz : Nat, Met Γ.1 M.1 (zws M) M.2.2.2.2 (va_Pc (as.map (cv Γ.2.2.2.1)) (fun U => U.heap.size = sz ∧ zK Γ G U ∧ zX Γ (va_A (wz Γ G mem) sz) U U.heap ∧ va_P Γ.2.1 vwCl (wz Γ G mem) U.heap ∧ va_D (fun _ => True) (wz Γ G mem)))
    (zQN Γ n G' (va_A (wz Γ G mem) sz) Q) mc ms (va_A (wz Γ G mem) sz)
section ZGc
variable {Γ : ZG} {M : ZM} {F : ZF} {G : List GK} {cs ss pc q n : Nat} {ls : List (Option AV)} {st : List AV} {mem : Mem}
theorem AMetN.of {as : List AV} {G' : List GK} {Q : ZG → Mem → Prop} {mc ms : Nat} {ls : List (Option AV)} (k : Nat) (hy : plainName M.1.cls = true) (hls : zent as ++ List.replicate k none = ls) (hlen : ls.length ≤ M.2.2.1)
    (h : AW Γ M (zFN Γ n G' Q mc ms) G 0 0 0 ls [] mem) : AMetN Γ M as n G mem mc ms G' Q := by
  subst hls
  intro sz
  refine Met.ofW (cc := M.2.1) (maxL := M.2.2.1) (ret := M.2.2.2.1) (ws' := zT) hy rfl ?_
  intro p e s m args below meth c s₁ B hml hv
  obtain ⟨rfl, hsz, hK, hX, hP, hD0⟩ := hv
  have hts := atoms_spec (ws := zws M) B.pre
  subst hsz
  have hD := hD0.self (sz := s.heap.size)
  have hl := lv_entry (as.map (cv Γ.2.2.2.1)) (n := M.2.2.1) (by rw [zent_len]; simp at hlen; omega)
  rw [lg_entry_eq]
  refine h p e s m _ below meth c s.heap [] _ _ ⟨B.exec, B.bytes, hml, B.returns, findClass_of_methodNamed B.named, fun w hw => hts w (List.mem_cons_of_mem _ hw), B.notSynchronized, fun hi => (name_of_methodNamed B.named B.method).1.trans hi⟩ hK hX (fun q h => Or.inr h) hP hD va_S.rf ⟨hl.1, hl.2.1, fun i v hi => ?_⟩
  have hi2 : (zent as)[i]? = some (some v) := by
    by_cases hx : i < (zent as).length
    · rwa [List.getElem?_append_left hx] at hi
    · rw [List.getElem?_append_right (by omega)] at hi
      have := List.eq_of_mem_replicate (List.mem_of_getElem? hi)
      cases this
  have := hl.2.2 _ (zent_args Γ.2.2.2.1 as 0 i v hi2)
  rw [Nat.zero_add] at this
  exact this
theorem aw_returnN {Γ0 : ZG} {Q : ZG → Mem → Prop} (hdg : decode M.2.1 pc = .ok (.return_, 1)) (hr : M.2.2.2.1 = none) (he : zEx n Γ0 Γ) (kk : Q Γ mem) : AW Γ M (zFN Γ0 n G Q cs ss) G cs ss pc ls [] mem := by
  intro p e s m args below meth c0 H locs A lsC hC hK hX hA hP hD hS hL
  have e1 : Γ.2.1 = Γ0.2.1 := by obtain ⟨kA, ad, rfl, -⟩ := he; rfl
  have e0 : Γ.1 = Γ0.1 := by obtain ⟨kA, ad, rfl, -⟩ := he; rfl
  exact W.vret hC.1 hC.2.1 (hC.2.2.2.1.trans hr) (fun t ht hW => ⟨Γ, mem, he, rfl, kk, hK.moved hW.alike, by rw [ht, ← e1]; exact hP, hD, hS.F ht⟩) hS.2.2 hdg hC.2.2.2.2.2.2.1
theorem zbackN {G' : List GK} {mc ms : Nat} {p : Program} {e : Env} {s : State} {m : MethodId} {args : Array Value} {below : List Frame} {meth : Method} {c : Code} {H : Heap} {locs : List Loc} {A : Nat → Prop} {lsC : Array Slot} {a : Array Value} {st0 : List Value} {rest : List AV}
    (hC : zC M p s m args meth c) (hX : zX Γ A s s.heap) (hA : ∀ q, s.heap.size ≤ q → A q) (hS : va_S A s.heap H locs) (hL : zL Γ lsC M.2.2.1 ls) (hFc : ∀ q, va_A (wz Γ G mem) H.size q → A q) (hv : zlv n ls rest)
    (hr : va_Run p Γ.1 e M.2.2.2.2 s m args below meth c H locs cs ss mc ms (F0 m pc lsC st0) (rest.map (cv Γ.2.2.2.1)) (zQN Γ n G' (va_A (wz Γ G mem) H.size) (fun Γ' mem' => AW Γ' M F G' (cs + mc) (ss + ms) (pc + 3) ls rest mem') a) (va_A (wz Γ G mem) H.size)) :
    W p Γ.1 e M.2.2.2.2 s m args below meth c H locs cs ss (F s args below A) (F0 m pc lsC st0) := by
  intro T hT X
  obtain ⟨v, st₀, t, T', L, h0, X', hLL, e1, e2, ⟨Γ', mem', hex, ho, hQ, hK', hP', hD', hF⟩, stp⟩ := hr T hT X
  obtain ⟨kA, ad, rfl, hag⟩ := hex
  obtain rfl : v = none := by injection ho
  have hz := hF.1
  have hk := hF.2
  rw [h0] at hz hk
  have hS' : va_S A s.heap T'.heap (locs ++ L) := ⟨Nat.le_trans hS.1 (by rw [e1]; exact hz), fun q h1 h2 => by rw [e1, hk q (Nat.lt_of_lt_of_le h1 hS.1) (fun z => h2 (hFc q z))]; exact hS.2.1 q h1 h2, fun q hq => by
      rcases List.mem_append.mp hq with h | h
      · exact hS.2.2 q h
      · exact hFc _ (hLL q h)⟩
  have hal : s.vm.Alike t.vm := by rw [← e2]; exact X'.warmed.alike
  obtain ⟨t2, a1, b1⟩ := hQ p e s m args below meth c T'.heap (locs ++ L) A lsC hC (hK'.moved hal.symm) (zX_ag hag hX) hA (by rw [e1]; exact hP') (hD'.weaken (fun k x _ hx => hFc _ hx)) hS' (zL_ag hag hv.1 hL) T' rfl X'
  have es : rest.map (cv (zwith Γ kA ad).2.2.2.1) = rest.map (cv Γ.2.2.2.1) := st_ag hag hv.2
  rw [es] at a1
  exact ⟨t2, stp t2 a1, b1⟩
/-- a constructor's call's link: a plain one, or a nest mate's -/
def CLI (own : String) (idx : Nat) (M' : ZM) : Prop := (Cond.methodLink own idx M'.1 ∈ zT ∨ (own, idx, M'.1) ∈ znest) ∧ Cond.initialized M'.1.cls ∈ zT ∧ Cond.code M'.1 M'.2.1 M'.2.2.1 none ∈ zT ∧ M'.2.2.2.1 = none ∧ (M'.1.cls ≠ "java/lang/invoke/MethodHandle" ∧ M'.1.cls ≠ "java/lang/invoke/VarHandle" ∧ (parseMethodDescriptor M'.1.desc).map (fun d => d.parameters.length) = some 0) ∧ M'.1.name = "<init>" ∧ Cond.instanceMethod M'.1 ∈ zT
theorem aw_callN {M' : ZM} {idx c mc ms : Nat} {G' : List GK} (rest : List AV) (hdg : decode M.2.1 pc = .ok (.invokespecial idx, 3)) (hq : pc + 3 = q) (hl : CLI M.1.cls idx M') (hmc : M'.2.2.2.2.cells = mc) (hms : M'.2.2.2.2.slots = ms) (hrm : zroom M M') (hcs : cs + mc ≤ M.2.2.2.2.cells ∧ ss + ms ≤ M.2.2.2.2.slots) (hrest : (rest.map zcat).sum ≤ 8) (hv : zlv n ls rest)
    (k : AMetN Γ M' [vR c] n G mem mc ms G' (fun Γ' mem' => AW Γ' M F G' (cs + mc) (ss + ms) q ls rest mem')) : AW Γ M F G cs ss pc ls (vR c :: rest) mem := by
  subst hq
  intro p e s m args below meth c0 H locs A lsC hC hK hX hA hP hD hS hL
  have hFc : ∀ q, va_A (wz Γ G mem) H.size q → A q := by
    rintro q (⟨k, e, h⟩ | h)
    · exact hD.2 k _ h
    · exact hA q (Nat.le_trans hS.1 h)
  obtain ⟨l1, l2, l3, l4, l5, l6, l7⟩ := hl
  have hts := hC.2.2.2.2.2.1
  have l3' : Cond.code M'.1 M'.2.1 M'.2.2.1 M'.2.2.2.1 ∈ zT := by rw [l4]; exact l3
  have hpre : PreS s H (va_Pc ([vR c].map (cv Γ.2.2.2.1)) (fun U => U.heap.size = H.size ∧ zK Γ G U ∧ zX Γ (va_A (wz Γ G mem) H.size) U U.heap ∧ va_P Γ.2.1 vwCl (wz Γ G mem) U.heap ∧ va_D (fun _ => True) (wz Γ G mem))) (.ref (Γ.2.2.2.1 c) :: []) := by
    refine ⟨zblind, fun U hU hW => ⟨rfl, by rw [hU], hK.moved hW.alike, ?_, by rw [hU]; exact hP, hD.weaken (fun _ _ _ _ => trivial)⟩⟩
    rw [hU]
    exact ((hX.kept hS.1 hS.2.1).narrow hFc).warm hW
  have hz0 : 2 * (F0 m pc lsC ((vR c :: rest).map (cv Γ.2.2.2.1))).monitorRoom + ((rest.map (cv Γ.2.2.2.1)).map fun v => v.category).sum ≤ 8 := by
    rw [zcat_sum]
    show 2 * 0 + _ ≤ 8
    omega
  have hws : zws M' = .code M'.1 M'.2.1 M'.2.2.1 none :: zT := by unfold zws; rw [l4]
  rcases l1 with l1 | l1
  · exact zbackN (st0 := _) hC hX hA hS hL hFc hv (va_runI (As := []) (rest := rest.map (cv Γ.2.2.2.1)) (b := Γ.2.2.2.1 c) ⟨hC.1, hC.2.1, hC.2.2.1, hC.2.2.2.2.1, hts⟩ (k H.size) ⟨callB_of 0 hts (zgood l3') hws hmc hms (hts _ l2) (hts _ l1) l5 hrm, l6, hts _ l7⟩ hpre rfl rfl hL.1 rfl hz0 hdg hcs)
  · exact zbackN (st0 := _) hC hX hA hS hL hFc hv (va_runIN (As := []) (rest := rest.map (cv Γ.2.2.2.1)) (b := Γ.2.2.2.1 c) ⟨hC.1, hC.2.1, hC.2.2.1, hC.2.2.2.2.1, hts⟩ (k H.size) ⟨va_cnB 0 hts (zgood l3') hws hmc hms (hX.2.2.1.1 _ l1) (hts _ l2) l5 hrm, l6, hts _ l7⟩ hpre rfl rfl hL.1 rfl hz0 hdg hcs)
end ZGc
