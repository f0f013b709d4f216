/-- the literals' terms -/
def ztm (i : Nat) : Term := match zstr[i]? with
  | some q => .string q.1 q.2.1
  | none => .string "" 0
abbrev zfl : List Cond := flatC (Jvm.Cond.and given_1 narrow_1)
theorem zs_ex : ∀ i : Nat, i < 9 → Cond.exactly (ztm i) "java/lang/String" ∈ zfl := by decide +kernel
theorem zs_co : ∀ i : Nat, i < 9 → Cond.eq (.field (ztm i) "java/lang/String" "coder" "B") (.int 0) ∈ zfl := by decide +kernel
theorem zs_ar : ∀ i : Nat, i < 9 → Cond.arrayOf (.field (ztm i) "java/lang/String" "value" "[B") .byte ∈ zfl := by decide +kernel
theorem zs_le : ∀ i : Nat, i < 9 → Cond.eq (.length (.field (ztm i) "java/lang/String" "value" "[B")) (.int (Int32.ofNat (zlen.getD i 0))) ∈ zfl := by decide +kernel
theorem zs_el : ∀ i : Nat, i < 9 → ∀ j : Nat, j < zlen.getD i 0 → Cond.eq (.elem (.field (ztm i) "java/lang/String" "value" "[B") (.int (Int32.ofNat j))) (.int ((zbyt.getD i []).getD j 0)) ∈ zfl := by decide +kernel
theorem zs_ne : ∀ i : Nat, i < 9 → ∀ j : Nat, j < 9 → i ≠ j → Cond.not (Cond.eq (ztm i) (ztm j)) ∈ zfl ∨ Cond.not (Cond.eq (ztm j) (ztm i)) ∈ zfl := by decide +kernel
theorem zs_rf : ∀ q ∈ zstr, Cond.stringRef q.1 q.2.1 q.2.2.1 ∈ lw_tbl := by decide +kernel
theorem zs_nw : ∀ x ∈ znest, Cond.methodLinkNest x.1 x.2.1 x.2.2 "EmberSpuds" ∈ lw_tbl := by decide +kernel
theorem zs_ao : ∀ C ∈ zover, Cond.arrayOver (.object C) ∈ lw_tbl := by decide +kernel
theorem zs_in : ∀ q ∈ vwCl.map (fun q => (q.1, q.2.2)), Cond.instantiable q.1 q.2 ∈ lw_tbl := by decide +kernel
theorem zs_hw : ∀ i : Nat, i < 9 → zlen.getD i 0 < 2 ^ 31 := by decide
set_option maxRecDepth 100000 in
theorem whole_start {p : Program} {e : Env} {s : State} {m : MethodId} {below : List Frame} {meth : Method} {c : Code} (l : Launch) (hflags : l.flags = flags0) {b L : Nat} {xs : Nat → Int32} (hL : L ≤ 320) (C0 : lw_At p s m meth c b L xs) : W p l e room_1 s m #[Value.ref b] below meth c s.heap [] 0 0 (lw_Z below #[Value.ref b] s) (entryFrame m ([Value.ref b] : List Value).toArray 4) := by
  obtain ⟨hx, hb, hr, hml, hown, hts, hX, hbl, hlocks, hgv⟩ := id C0
  have hs := flat_of_before _ hgv
  have hA : ∀ a : Nat, a < s.heap.size → ¬ (fun q : Nat => s.heap.size ≤ q) a := fun a h => Nat.not_le.mpr h
  obtain ⟨adK, adV, hS0, hev⟩ := vk_Sof (N := 9) (tm := ztm) (len := zlen) (byt := zbyt) (A := fun q : Nat => s.heap.size ≤ q) zs_hw (fun i hi => hs _ (zs_ex i hi)) (fun i hi => hs _ (zs_co i hi)) (fun i hi => hs _ (zs_ar i hi)) (fun i hi => hs _ (zs_le i hi)) (fun i hi j hj => hs _ (zs_el i hi j hj)) (fun i j hi hj hne => (zs_ne i hi j hj hne).imp (fun z => hs _ z) (fun z => hs _ z)) hA
  have hk : ∀ k : Nat, ∃ x : ClassId × (Nat → Nat), ∀ q : vw_C, vwCl[k]? = some q → u_Kn s q.1 q.2.1 q.2.2 x.1 x.2 := by
    intro k
    cases hq : vwCl[k]? with
    | none => exact ⟨(0, fun _ => 0), fun q z => by cases z⟩
    | some q =>
      obtain ⟨cC, iS, h⟩ := u_known (ws := zT) (C := q.1) (T := q.2.1) (N := q.2.2) (n := q.2.2) (s := s) (args := #[Value.ref b]) (fun w hw => hts w (List.mem_filter.mp hw).1) (zcl k q.1 q.2.1 q.2.2 hq).1 (hts _ (zs_in _ (List.mem_map.mpr ⟨q, List.mem_of_getElem? hq, rfl⟩)))
      exact ⟨(cC, iS), fun q' z => by cases z; exact h⟩
  obtain ⟨D, hD⟩ := Classical.axiomOfChoice hk
  let ad : Nat → Nat := fun a => if a = 9999 then b else if 9100 ≤ a then adV (a - 9100) else adK (a - 9000)
  have eK : ∀ i : Nat, i < 9 → ad (9000 + i) = adK i := fun i hi => by
    show (if 9000 + i = 9999 then b else if 9100 ≤ 9000 + i then adV (9000 + i - 9100) else adK (9000 + i - 9000)) = _
    rw [if_neg (by omega), if_neg (by omega)]
    congr 1
    omega
  have eV : ∀ i : Nat, i < 9 → ad (9100 + i) = adV i := fun i hi => by
    show (if 9100 + i = 9999 then b else if 9100 ≤ 9100 + i then adV (9100 + i - 9100) else adK (9100 + i - 9000)) = _
    rw [if_neg (by omega), if_pos (by omega)]
    congr 1
    omega
  have eB : ad 9999 = b := rfl
  have zx : zX (l, (fun k => (D k).1, fun k => (D k).2), fun _ => 0, ad, L, xs) (fun q : Nat => s.heap.size ≤ q) s s.heap := by
    refine ⟨⟨fun i hi => ?_, fun i j hi hj h => ?_⟩, fun j q hj => ?_, ⟨fun x hx => va_Nw.of rfl (hts _ (zs_nw x hx)), fun C hC => va_AO.of (hts _ (zs_ao C hC))⟩, ?_, ?_, ?_, ?_, ?_⟩
    · show va_O _ (ad (9000 + i)) _ _ _ ∧ va_OF _ _ _ _ (ad (9000 + i)) _ _ _ ∧ va_OF _ _ _ (.ref (ad (9100 + i))) (ad (9000 + i)) _ _ _ ∧ va_T _ (ad (9100 + i)) _ _ _ _ _
      rw [eK i hi, eV i hi]
      exact hS0.1 i hi
    · have h' : ad (9000 + i) = ad (9000 + j) := h
      rw [eK i hi, eK j hj] at h'
      exact hS0.2 i j hi hj h'
    · have hj9 : j < 9 := (List.getElem?_eq_some_iff.mp hj).1
      show vk_R q.1 q.2.1 q.2.2.1 (ad (9000 + j)) s
      rw [eK j hj9]
      refine vk_R.of (A := #[Value.ref b]) (hts _ (zs_rf q (List.mem_of_getElem? hj))) ?_
      have h2 := hev j hj9
      unfold ztm at h2
      rw [hj] at h2
      exact h2
    · exact va_Zof (hts _ (by decide +kernel)) (hts _ (by decide +kernel)) (va_eqi (hs _ (by decide +kernel))) hA
    · exact va_Zqof (hts _ (by decide +kernel)) (hts _ (by decide +kernel)) (hs _ (by decide +kernel)) hA
    · exact hX
    · exact hbl
    · exact hA b hbl
  have zk : zK (l, (fun k => (D k).1, fun k => (D k).2), fun _ => 0, ad, L, xs) [] s := ⟨fun k q hq => hD k q hq, fun k ty h => by simp [zty] at h⟩
  have hl := lv_entry ([.ref b]) (n := 4) (Nat.le_of_ble_eq_true rfl)
  rw [lg_entry_eq]
  generalize (lg_sl ([.ref b]) ++ List.replicate (4 - (lg_sl ([.ref b])).length) Slot.unset).toArray = lsC at hl ⊢
  have hl : lv_has lsC 4 [(0, .ref b)] := hl
  have zl : zL (l, (fun k => (D k).1, fun k => (D k).2), fun _ => 0, ad, L, xs) lsC 4 [some (vR 9999), none, none, none] := by
    refine ⟨hl.1, hl.2.1, fun i v hi => ?_⟩
    match i, hi with
    | 0, hi =>
      have ev : vR 9999 = v := Option.some.inj (Option.some.inj hi)
      subst ev
      show lsC[0]? = some (.val (.ref (ad 9999)))
      rw [eB]
      exact hl.2.2 (0, .ref b) List.mem_cons_self
    | 1, hi => cases Option.some.inj hi
    | 2, hi => cases Option.some.inj hi
    | 3, hi => cases Option.some.inj hi
    | i + 4, hi => simp at hi
  have go := lw_go (Γ := (l, (fun k => (D k).1, fun k => (D k).2), fun _ => 0, ad, L, xs)) hL p e s m #[Value.ref b] below meth c s.heap [] (fun q : Nat => s.heap.size ≤ q) lsC ⟨hx, hb, hml, hr, hown, fun w hw => hts w (List.mem_filter.mp hw).1, hlocks, fun z => absurd z (by decide)⟩ zk zx (fun _ h => h) (fun k q h => by simp [wz] at h) ⟨fun i j p q h => by simp [wz] at h, fun k q h => by simp [wz] at h⟩ va_S.rf zl
  intro T hT X
  obtain ⟨t, a1, a2⟩ := go T hT X
  exact ⟨t, a1, a2 (fun _ h => h) ⟨b, rfl⟩⟩
set_option maxHeartbeats 4000000 in
theorem lw_walk (l : Launch) (hflags : l.flags = flags0) (b : Addr) (xs : List Int32) : MetFree l x (headSpec (Jvm.Cond.code x code maxLocals ret :: tables_1) room_1) (lw_P b xs) (fun _ _ _ _ _ => True) lw_Q := by
  refine MetFree.of_bodyS (code := code) (maxLocals := maxLocals) (ret := ret) (by decide) ?_ ?_
  · intro args s m h hn
    obtain ⟨meth, c, h1, h2, h3, h4, h5, h6, -, -⟩ := Cond.code_spec hn (atoms_spec (ws := Jvm.Cond.code x code maxLocals ret :: tables_1) h _ List.mem_cons_self)
    exact ⟨meth, c, h1, h2, h3, h4, h5, h6⟩
  · intro p e s m args below meth c s₁ B hml0 hP _
    obtain ⟨rfl, hx, hbd, hgv⟩ := hP
    obtain ⟨scr, harrAt, hlist, hof, hsmall⟩ := hx
    obtain ⟨hcb, hkn, -, -⟩ := State.arrayAt?_spec harrAt
    have hown : s.vm.findClass R_law = some m.cls := findClass_of_methodNamed B.named
    have hts0 : ∀ c ∈ (Jvm.Cond.code x code maxLocals ret :: tables_1), c.before #[Value.ref b] s = true := atoms_spec (ws := Jvm.Cond.code x code maxLocals ret :: tables_1) B.pre
    have hts : ∀ w ∈ lw_tbl, w.before #[Value.ref b] s = true := k2_hts_sels lw_privs (fun w hw => hts0 w (List.mem_cons_of_mem _ hw)) lw_privs_ok
    have hml : c.maxLocals = 4 := B.maxLocals_eq (hts0 _ List.mem_cons_self)
    have X₀ : Stand p l e room_1 s m #[Value.ref b] below meth c s₁ [] 0 0 := Stand.of_body B
    have hh0 : s₁.heap = s.heap := by rw [B.state]; rfl
    have hsz : scr.slots.size = xs.length := by rw [← Array.length_toList, hlist, List.length_map]
    have hval : ∀ j : Nat, j < xs.length → scr.slots[j]? = some (.int (xs.getD j 0)) := fun j hj => by
      rw [← Array.getElem?_toList, hlist]
      simp [hj]
    have hbl : b < s.heap.size := (Array.getElem?_eq_some_iff.mp hcb).1
    have hX : va_X b xs.length (fun j => xs.getD j 0) s s.heap := ⟨scr, hcb, hof, hkn, hsz, hval⟩
    have K : W p l e room_1 s m #[Value.ref b] below meth c s₁.heap [] 0 0 (lw_Z below #[Value.ref b] s) (entryFrame m ([Value.ref b] : List Value).toArray 4) := by
      rw [hh0]
      exact whole_start l hflags hbd ⟨B.exec, B.bytes, B.returns, hml, hown, hts, hX, hbl, B.notSynchronized, hgv⟩
    obtain ⟨t, a1, o, b1, b2, b3⟩ := K s₁ rfl X₀
    exact ⟨t, o, a1, b1, b2, b3⟩
theorem lw_pre_spec {args : Array Value} {s : State} (h : (Jvm.Cond.and given_1 narrow_1).before args s = true) (hr : rest_1_c.before args s = true) : ∃ (b : Addr) (xs : List Int32), lw_P b xs args s := by
  have hs := flat_of_before _ h
  have hq := flat_of_before _ hr
  have hc : (Cond.count 1).before args s = true := hs _ (by decide +kernel)
  have harr : (Cond.arrayOf (.arg 0) .int).before args s = true := hs _ (by decide +kernel)
  have hle : (Cond.le (.length (.arg 0)) (.int 320)).before args s = true := hs _ (by decide +kernel)
  have hlen : (Cond.isInt (.length (.arg 0))).before args s = true := hq _ (by decide +kernel)
  have hall : (Cond.all (.arg 0) (.isInt (.elem (.arg 0) (.index 0)))).before args s = true := hq _ (by decide +kernel)
  obtain ⟨b, xs, hb, hx⟩ := State.ints_of_pre rfl harr hlen hall
  have hsm : xs.length < 2 ^ 31 := hx.choose_spec.2.2.2
  have hev : (Term.length (.arg 0)).eval args s none [] s = some (.int xs.length.toInt32) := hx.length_eval hb
  have hv := Cond.le_ints hev (show (Term.int 320).eval args s none [] s = some (.int 320) from rfl)
  have hd : xs.length.toInt32 ≤ 320 := by
    simpa [Cond.before, Cond.holds, hv] using hle
  have hN : xs.length ≤ 320 := (Int32.ofNat_le_ofNat hsm (by decide)).mp (show Int32.ofNat xs.length ≤ Int32.ofNat 320 from hd)
  exact ⟨b, xs, Cond.one_arg hc (show args[0]? = some (.ref b) from hb), hx, hN, h⟩
theorem lw_comes (l : Launch) (hflags : l.flags = flags0) : Comes l x (Jvm.Cond.code x code maxLocals ret :: tables_1) room_1 (fun tb e args s => Calls_1 tb e args s ∧ rest_1 tb e args s ∧ Pre_1 tb e args s)
    (fun _ _ args s o t => lw_Q args s o t) := by
  intro p e ha hc hk s m args below hf hfit hheap happ hpre
  obtain ⟨b, xs, hP⟩ := lw_pre_spec hpre.2.2 hpre.2.1
  obtain ⟨k, o, h1, h2, h3, hQ⟩ := lw_walk l hflags b xs p e ha hc hk s m args below hf ((Spec.applies_iff_loose hf).mp happ).1 hP trivial
  exact ⟨k, o, h1, h2, h3, hQ⟩
theorem lw_frame {s t : State} {o : Outcome} {args : Array Value} (h : Framed s o t [] 600000 7302250) :
    Framed s o t (fieldLocs frame_1_writes args s ++ arrayLocs frame_1_arrays args s ++ staticLocs frame_1_statics s) 600000 7302250 := h
theorem lw_limb (L : Cond) (hL : ∀ (args : Array Value) (s t : State), L.after args s (.returned (some (.int 1))) t = true) :
    ArmFor flags0 classFile x code maxLocals ret World_1 tables_1 room_1 Calls_1 rest_1 Pre_1
      (fun tb e a s o t => postC L tb e a s o t ∧ Framed s o t (fieldLocs frame_1_writes a s ++ arrayLocs frame_1_arrays a s ++ staticLocs frame_1_statics s) 600000 7302250) := by
  intro l hflags _ _ p e ha hc hk s m args below hf hfit hheap happ hpre
  obtain ⟨k, o, h1, h2, h3, rfl, hF⟩ := lw_comes l hflags p e ha hc hk s m args below hf hfit hheap happ hpre
  exact ⟨k, _, h1, h2, h3, hL args s _, lw_frame hF⟩
theorem i_vc : Claimed_1_1 ∧ Claimed_1_2 := ⟨lw_limb limb_1_1 (fun args s t => by simp [limb_1_1, Cond.after, Cond.holds, Cond.value]), lw_limb limb_1_2 (fun args s t => Cond.after_iff.mpr (by
  first | (rw [show limb_1_2 = Cond.eq .result (.int 1) from rfl, Cond.eq_ints (x := 1) (y := 1) rfl rfl]; simp; done) | (simp [limb_1_2, Cond.value, Term.eval]; done)))⟩
