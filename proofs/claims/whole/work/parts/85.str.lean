/-! literals: what the JDK's String answers of them -/
section ZStr
variable {Γ : ZG} {M : ZM} {F : ZF} {G : List GK} {cs ss pc q : Nat} {ls : List (Option AV)} {st : List AV} {mem : Mem} {j : Nat}
def zby (j i : Nat) : Int := ((zbyt.getD j []).getD i 0).toInt
theorem zby_rng : ∀ j : Nat, j < 9 → ∀ i : Nat, i < 4 → 0 ≤ zby j i ∧ zby j i ≤ 122 := by decide +kernel
theorem zlen_rng : ∀ j : Nat, j < 9 → 3 ≤ zlen.getD j 0 ∧ zlen.getD j 0 ≤ 4 := by decide +kernel
theorem aw_ldcS {idx : Nat} {tx : String} {bs : List Int32} (hj : zstr[j]? = some (M.1.cls, idx, tx, bs)) (hdg : decode M.2.1 pc = .ok (.ldc idx, 2)) (hq : pc + 2 = q) (k : AW Γ M F G cs ss q ls (vR (9000 + j) :: st) mem) : AW Γ M F G cs ss pc ls st mem := by
  subst hq
  intro p e s m args below meth c H locs A lsC hC hK hX hA hP hD hS hL
  exact va_ldcS hC.1 hC.2.1 hC.2.2.2.2.1 (hX.2.1 j _ hj) hdg (k p e s m args below meth c H locs A lsC hC hK hX hA hP hD hS hL)
theorem aw_strV {idx : Nat} (hj : j < 9) (hdg : decode M.2.1 pc = .ok (.getfield idx, 3)) (hq : pc + 3 = q) (hl : Cond.fieldLink M.1.cls idx "java/lang/String" "value" "[B" ∈ zT) (k : AW Γ M F G cs ss q ls (vR (9100 + j) :: st) mem) : AW Γ M F G cs ss pc ls (vR (9000 + j) :: st) mem := by
  subst hq
  intro p e s m args below meth c H locs A lsC hC hK hX hA hP hD hS hL
  exact vk_getf hC.1 hC.2.1 (hX.1.1 j hj).2.2.1 hS hC.2.2.2.2.1 (hC.2.2.2.2.2.1 _ hl) (fun x h => h) hdg (k p e s m args below meth c H locs A lsC hC hK hX hA hP hD hS hL)
theorem aw_strC {idx : Nat} (hj : j < 9) (hdg : decode M.2.1 pc = .ok (.getfield idx, 3)) (hq : pc + 3 = q) (hl : Cond.fieldLink M.1.cls idx "java/lang/String" "coder" "B" ∈ zT) (k : AW Γ M F G cs ss q ls (vI 0 :: st) mem) : AW Γ M F G cs ss pc ls (vR (9000 + j) :: st) mem := by
  subst hq
  intro p e s m args below meth c H locs A lsC hC hK hX hA hP hD hS hL
  exact vk_getf hC.1 hC.2.1 (hX.1.1 j hj).2.1 hS hC.2.2.2.2.1 (hC.2.2.2.2.2.1 _ hl) (fun x h => h) hdg (k p e s m args below meth c H locs A lsC hC hK hX hA hP hD hS hL)
theorem aw_getsC {idx : Nat} (hdg : decode M.2.1 pc = .ok (.getstatic idx, 3)) (hq : pc + 3 = q) (hl : Cond.fieldLink M.1.cls idx "java/lang/String" "COMPACT_STRINGS" "Z" ∈ zT) (k : AW Γ M F G cs ss q ls (vI 1 :: st) mem) : AW Γ M F G cs ss pc ls st mem := by
  subst hq
  intro p e s m args below meth c H locs A lsC hC hK hX hA hP hD hS hL
  exact va_gets hC.1 hC.2.1 hX.2.2.2.1 hS hC.2.2.2.2.1 (hC.2.2.2.2.2.1 _ hl) (fun x h => h) hdg (k p e s m args below meth c H locs A lsC hC hK hX hA hP hD hS hL)
theorem aw_strL (hj : j < 9) (hdg : decode M.2.1 pc = .ok (.arraylength, 1)) (hq : pc + 1 = q) (k : AW Γ M F G cs ss q ls (vI (zlen.getD j 0 : Nat) :: st) mem) : AW Γ M F G cs ss pc ls (vR (9100 + j) :: st) mem := by
  subst hq
  intro p e s m args below meth c H locs A lsC hC hK hX hA hP hD hS hL
  exact va_tlen hC.1 hC.2.1 (hX.1.1 j hj).2.2.2 hS (Int32.ofInt_eq_ofNat (n := zlen.getD j 0)).symm hdg (k p e s m args below meth c H locs A lsC hC hK hX hA hP hD hS hL)
theorem aw_strB {i : Nat} (hj : j < 9) (hdg : decode M.2.1 pc = .ok (.baload, 1)) (hq : pc + 1 = q) (hi : i < zlen.getD j 0) (k : AW Γ M F G cs ss q ls (vI (zby j i) :: st) mem) : AW Γ M F G cs ss pc ls (vI i :: vR (9100 + j) :: st) mem := by
  subst hq
  intro p e s m args below meth c H locs A lsC hC hK hX hA hP hD hS hL
  have hl := zlen_rng j hj
  obtain ⟨c1, c2⟩ := zcl_ix (i := (i : Int)) (n := zlen.getD j 0) (by omega) (by omega)
  have c3 : (Int32.ofInt (i : Int)).toNatClampNeg = i := by omega
  refine va_tb (i := Int32.ofInt (i : Int)) hC.1 hC.2.1 (hX.1.1 j hj).2.2.2 hS c1 (v := .int (Int32.ofInt (zby j i))) ?_ hdg (k p e s m args below meth c H locs A lsC hC hK hX hA hP hD hS hL)
  rw [c3]
  unfold zby
  rw [Int32.ofInt_toInt]
theorem aw_i2c {a : Int} (hdg : decode M.2.1 pc = .ok (.i2c, 1)) (hq : pc + 1 = q) (ha : 0 ≤ a ∧ a ≤ 127) (k : AW Γ M F G cs ss q ls (vI a :: st) mem) : AW Γ M F G cs ss pc ls (vI a :: st) mem := by
  subst hq
  have hz : ∀ x : Fin 128, ((Int32.ofInt (x.val : Int)).toUInt32 % 65536).toInt32 = Int32.ofInt (x.val : Int) := by decide +kernel
  have h1 := hz ⟨a.toNat, by omega⟩
  dsimp only at h1
  rw [show ((a.toNat : Nat) : Int) = a by omega] at h1
  exact AW.pure (fun p e s m args below meth c H locs lsC Qf hC hL kk => lv_i2c hC.1 hC.2.1 hdg h1 kk) k
theorem znarC {a : Int} (ha : 0 ≤ a ∧ a ≤ 127) : narrow .char (.int (Int32.ofInt a)) = .int (Int32.ofInt a) := by
  have hz : ∀ x : Fin 128, narrow .char (.int (Int32.ofInt (x.val : Int))) = .int (Int32.ofInt (x.val : Int)) := by decide +kernel
  have h1 := hz ⟨a.toNat, by omega⟩
  dsimp only at h1
  rwa [show ((a.toNat : Nat) : Int) = a by omega] at h1
theorem aw_callStr {M' : ZM} {idx : Nat} (hj : j < 9) (as rest : List AV) (hdg : decode M.2.1 pc = .ok (.invokevirtual idx, 3)) (hq : pc + 3 = q) (hl : CLV M.1.cls idx M' as.length) (hrm : zroom M M') (hcs : cs ≤ M.2.2.2.2.cells ∧ ss ≤ M.2.2.2.2.slots) (hci : M'.1.cls = "java/lang/String") (hrest : (rest.map zcat).sum ≤ 8) (hst : st = as.reverse ++ vR (9000 + j) :: rest)
    (k : AMet Γ M' (vR (9000 + j) :: as) G mem (fun r mem' => AW Γ M F G cs ss q ls (r.toList ++ rest) mem')) : AW Γ M F G cs ss pc ls st mem := by
  subst hq; subst hst
  intro p e s m args below meth c0 H locs A lsC hC hK hX hA hP hD hS hL
  have hFc : ∀ q, va_A (wz Γ G mem) H.size q → A q := by
    rintro q (⟨k, e, h⟩ | h)
    · exact hD.2 k _ h
    · exact hA q (Nat.le_trans hS.1 h)
  obtain ⟨⟨l1, l2, l3, l4, l5, l6⟩, l7, l8⟩ := hl
  have hts := hC.2.2.2.2.2.1
  have cw : CallW M.2.2.2.2 s args M.1.cls M'.1.cls idx M'.1 M'.2.1 M'.2.2.1 M'.2.2.2.1 (zws M') M'.2.2.2.2 0 0 as.length := ⟨callB_of as.length hts (zgood l3) rfl l5 l6 (hts _ l2) (hts _ l1) l4 hrm, hts _ l7, hts _ l8⟩
  have hrecv := vk_recv hX.1 hj hS
  rw [← hci] at hrecv
  refine zback (st0 := _) hC hK hX hA hD hS hL hFc (va_runV (As := as.map (cv Γ.2.2.2.1)) (rest := rest.map (cv Γ.2.2.2.1)) (b := Γ.2.2.2.1 (9000 + j)) ⟨hC.1, hC.2.1, hC.2.2.1, hC.2.2.2.2.1, hts⟩ (k H.size) cw ⟨zblind, hrecv, fun U hU hW => ⟨rfl, by rw [hU], hK.moved hW.alike, ?_, by rw [hU]; exact hP, hD.weaken (fun _ _ _ _ => trivial)⟩⟩ rfl (by simp) hL.1 ?_ ?_ hdg hcs)
  · rw [hU]
    exact ((hX.kept hS.1 hS.2.1).narrow hFc).warm hW
  · simp [List.map_append, cv]
  · rw [zcat_sum]
    show 2 * 0 + _ ≤ 8
    omega
end ZStr
/-! the bounds of an index, checked by the JDK -/
section ZChk
variable {Γ : ZG} {G : List GK} {mem : Mem}
theorem zblindV {vals : List Value} {sz : Nat} {A : Nat → Prop} : FrameBlind (va_Pc vals (fun U => U.heap.size = sz ∧ zK Γ G U ∧ zX Γ A U U.heap ∧ va_P Γ.2.1 vwCl (wz Γ G mem) U.heap ∧ va_D (fun _ => True) (wz Γ G mem))) := by
  intro a U g mk h
  obtain ⟨h1, h2, h3, h4, h5, h6⟩ := h
  exact ⟨h1, h2, zK.moved (u := U) (U := U.calling g mk a) (Vm.Alike.refl U.vm) h3, zX.same (u := U) (U := U.calling g mk a) rfl h4, h5, h6⟩
theorem sC_check3 {i n : Int} (v : Value) (hv : v = .null ∨ ∃ t : Nat, v = .ref t) (hi : 0 ≤ i ∧ i < n) (hn : n ≤ 2147483647) {Q : Option AV → Mem → Prop} (k : Q (some (vI i)) mem) : ∀ sz : Nat, Met Γ.1 mJ3_checkIndex_8e157.1 (zws mJ3_checkIndex_8e157) mJ3_checkIndex_8e157.2.2.2.2 (va_Pc [.int (Int32.ofInt i), .int (Int32.ofInt n), v] (fun U => U.heap.size = sz ∧ zK Γ G U ∧ zX Γ (va_A (wz Γ G mem) sz) U U.heap ∧ va_P Γ.2.1 vwCl (wz Γ G mem) U.heap ∧ va_D (fun _ => True) (wz Γ G mem)))
    (zQ Γ G (va_A (wz Γ G mem) sz) Q) 0 0 (va_A (wz Γ G mem) sz) := by
  have kw : AW Γ mJ3_checkIndex_8e157 (zF Γ G Q) G 0 0 0 [some (vI i), some (vI n), none] [] mem := by
    refine aw_iload_n dJ3_checkIndex_8e157_0 rfl rfl ?_
    refine aw_if_lt (tgt := 9) dJ3_checkIndex_8e157_1 (by decide) rfl (by omega) (fun c1 => ?_) (fun c1 => ?_)
    · exfalso; omega
    · refine aw_iload_n dJ3_checkIndex_8e157_4 rfl rfl ?_
      refine aw_iload_n dJ3_checkIndex_8e157_5 rfl rfl ?_
      refine aw_icmp_lt (tgt := 16) dJ3_checkIndex_8e157_6 (by decide) rfl (by omega) (by omega) (fun c6 => ?_) (fun c6 => ?_)
      · refine aw_iload_n dJ3_checkIndex_8e157_16 rfl rfl ?_
        refine aw_ireturn (ty := .int) dJ3_checkIndex_8e157_17 rfl rfl ?_
        exact k
      · exfalso; omega
  intro sz
  refine Met.ofW (cc := mJ3_checkIndex_8e157.2.1) (maxL := mJ3_checkIndex_8e157.2.2.1) (ret := mJ3_checkIndex_8e157.2.2.2.1) (ws' := zT) (by decide) rfl ?_
  intro p e s m args below meth c s₁ B hml hvv
  obtain ⟨rfl, hsz, hK, hX, hP, hD0⟩ := hvv
  have hts := atoms_spec (ws := zws mJ3_checkIndex_8e157) B.pre
  subst hsz
  have hD := hD0.self (sz := s.heap.size)
  have hlen : (lg_sl [.int (Int32.ofInt i), .int (Int32.ofInt n), v]).length ≤ mJ3_checkIndex_8e157.2.2.1 := by
    show _ ≤ 3
    rcases hv with rfl | ⟨t, rfl⟩ <;> simp [lg_sl, Value.category]
  have hl := lv_entry [.int (Int32.ofInt i), .int (Int32.ofInt n), v] (n := mJ3_checkIndex_8e157.2.2.1) hlen
  rw [lg_entry_eq]
  refine kw p e s m _ below meth c s.heap [] _ _ ⟨B.exec, B.bytes, hml, B.returns, findClass_of_methodNamed B.named, fun w hw => hts w (List.mem_cons_of_mem _ hw), B.notSynchronized, fun hi => absurd hi (by decide)⟩ hK hX (fun q h => Or.inr h) hP hD va_S.rf ⟨hl.1, hl.2.1, fun i2 v2 hi2 => ?_⟩
  match i2, hi2 with
  | 0, h2 => cases h2; exact hl.2.2 (0, .int (Int32.ofInt i)) (by simp [lv_args])
  | 1, h2 => cases h2; exact hl.2.2 (1, .int (Int32.ofInt n)) (by simp [lv_args, Value.category])
  | 2, h2 => cases h2
  | i2 + 3, h2 => simp at h2
theorem aw_chk {F : ZF} {cs ss : Nat} {ls : List (Option AV)} {i n : Int} (hi : 0 ≤ i ∧ i < n) (hn : n ≤ 2147483647) (hcs : cs ≤ mJ0_checkIndex_df160.2.2.2.2.cells ∧ ss ≤ mJ0_checkIndex_df160.2.2.2.2.slots) (k : AW Γ mJ0_checkIndex_df160 F G cs ss 8 ls [vI i] mem) : AW Γ mJ0_checkIndex_df160 F G cs ss 2 ls [vI n, vI i] mem := by
  intro p e s m args below meth c0 H locs A lsC hC hK hX hA hP hD hS hL
  have hFc : ∀ q, va_A (wz Γ G mem) H.size q → A q := by
    rintro q (⟨k, e, h⟩ | h)
    · exact hD.2 k _ h
    · exact hA q (Nat.le_trans hS.1 h)
  have hts := hC.2.2.2.2.2.1
  have go : ∀ v : Value, (v = .null ∨ ∃ t : Nat, v = .ref t) → va_Z "jdk/internal/util/Preconditions" "SIOOBE_FORMATTER" "Ljava/util/function/BiFunction;" v A s s.heap → W p Γ.1 e mJ0_checkIndex_df160.2.2.2.2 s m args below meth c0 H locs cs ss (F s args below A) (F0 m 2 lsC [.int (Int32.ofInt n), .int (Int32.ofInt i)]) := by
    intro v hv hZ
    refine va_gets hC.1 hC.2.1 hZ hS hC.2.2.2.2.1 (hts _ (zin 530 (by decide +kernel) rfl)) (fun x h => h) dJ0_checkIndex_df160_2 ?_
    obtain ⟨⟨l1, l2, l3, l4, l5, l6⟩, l7⟩ := cls_J0_1059
    have cw : CallB mJ0_checkIndex_df160.2.2.2.2 s args mJ0_checkIndex_df160.1.cls 1059 mJ3_checkIndex_8e157.1 mJ3_checkIndex_8e157.2.1 mJ3_checkIndex_8e157.2.2.1 mJ3_checkIndex_8e157.2.2.2.1 (zws mJ3_checkIndex_8e157) mJ3_checkIndex_8e157.2.2.2.2 0 0 3 ∧ (Cond.static mJ3_checkIndex_8e157.1).before args s = true := ⟨callB_of 3 hts (zgood l3) rfl l5 l6 (hts _ l2) (hts _ l1) l4 (by decide), hts _ l7⟩
    refine zback (M := mJ0_checkIndex_df160) (pc := 5) (rest := []) (st0 := _) hC hK hX hA hD hS hL hFc (va_runS (As := [.int (Int32.ofInt i), .int (Int32.ofInt n), v]) (rest := []) ⟨hC.1, hC.2.1, hC.2.2.1, hC.2.2.2.2.1, hts⟩ (sC_check3 v hv hi hn (Q := fun r mem' => AW Γ mJ0_checkIndex_df160 F G cs ss (5 + 3) ls (r.toList ++ []) mem') k H.size) cw ⟨zblindV, fun U hU hW => ⟨rfl, by rw [hU], hK.moved hW.alike, ?_, by rw [hU]; exact hP, hD.weaken (fun _ _ _ _ => trivial)⟩⟩ rfl rfl hL.1 rfl (by show 2 * 0 + 0 ≤ 8; omega) dJ0_checkIndex_df160_5 hcs)
    rw [hU]
    exact ((hX.kept hS.1 hS.2.1).narrow hFc).warm hW
  rcases hX.2.2.2.2.1 with hZ | ⟨t, hZ⟩
  · exact go .null (Or.inl rfl) hZ
  · exact go (.ref t) (Or.inr ⟨t, rfl⟩) hZ
variable {Q : Option AV → Mem → Prop} {j : Nat}
theorem sC_checkIndex {i n : Int} (hi : 0 ≤ i ∧ i < n) (hn : n ≤ 2147483647) (k : Q none mem) : AMet Γ mJ0_checkIndex_df160 [vI i, vI n] G mem Q := by
  refine AMet.of' 0 (ls := [some (vI (i)), some (vI (n))]) (by decide) rfl (Nat.le_of_ble_eq_true rfl) ?_
  refine aw_iload_n dJ0_checkIndex_df160_0 rfl rfl ?_
  refine aw_iload_n dJ0_checkIndex_df160_1 rfl rfl ?_
  refine aw_chk hi hn ⟨Nat.zero_le _, Nat.zero_le _⟩ ?_
  refine aw_pop dJ0_checkIndex_df160_8 rfl rfl ?_
  refine aw_return dJ0_checkIndex_df160_9 rfl ?_
  exact k
theorem sC_coder (hj : j < 9) (k : Q (some (vI 0)) mem) : AMet Γ mJ0_coder_7d493 [vR (9000 + j)] G mem Q := by
  refine AMet.of' 0 (ls := [some (vR ((9000 + j)))]) (by decide) rfl (Nat.le_of_ble_eq_true rfl) ?_
  refine aw_getsC dJ0_coder_7d493_0 rfl (zin 514 (by decide +kernel) rfl) ?_
  refine aw_if_eq (tgt := 13) dJ0_coder_7d493_3 (by decide) rfl (by omega) (fun c => absurd c (by decide)) (fun _ => ?_)
  refine aw_aload_n dJ0_coder_7d493_6 rfl rfl ?_
  refine aw_strC hj dJ0_coder_7d493_7 rfl (zin 1576 (by decide +kernel) rfl) ?_
  refine aw_goto (tgt := 14) dJ0_coder_7d493_10 (by decide) ?_
  refine aw_ireturn (ty := .byte) dJ0_coder_7d493_14 rfl (by decide) ?_
  exact k
theorem sC_isLatin1 (hj : j < 9) (k : Q (some (vI 1)) mem) : AMet Γ mJ0_isLatin1_aae02 [vR (9000 + j)] G mem Q := by
  refine AMet.of' 0 (ls := [some (vR ((9000 + j)))]) (by decide) rfl (Nat.le_of_ble_eq_true rfl) ?_
  refine aw_getsC dJ0_isLatin1_aae02_0 rfl (zin 514 (by decide +kernel) rfl) ?_
  refine aw_if_eq (tgt := 17) dJ0_isLatin1_aae02_3 (by decide) rfl (by omega) (fun c => absurd c (by decide)) (fun _ => ?_)
  refine aw_aload_n dJ0_isLatin1_aae02_6 rfl rfl ?_
  refine aw_strC hj dJ0_isLatin1_aae02_7 rfl (zin 1576 (by decide +kernel) rfl) ?_
  refine aw_if_ne (tgt := 17) dJ0_isLatin1_aae02_10 (by decide) rfl (by omega) (fun c => absurd c (by decide)) (fun _ => ?_)
  refine aw_iconst dJ0_isLatin1_aae02_13 rfl ?_
  refine aw_goto (tgt := 18) dJ0_isLatin1_aae02_14 (by decide) ?_
  refine aw_ireturn (ty := .boolean) dJ0_isLatin1_aae02_18 rfl (znarZ (by omega)).1 ?_
  exact k
theorem sC_strLen (hj : j < 9) (k : Q (some (vI (zlen.getD j 0 : Nat))) mem) : AMet Γ mJ0_length_8abf5 [vR (9000 + j)] G mem Q := by
  have hz : ∀ j : Nat, j < 9 → zshr ((zlen.getD j 0 : Nat) : Int) 0 = ((zlen.getD j 0 : Nat) : Int) := by decide +kernel
  have h1 := hz j hj
  refine AMet.of' 0 (ls := [some (vR ((9000 + j)))]) (by decide) rfl (Nat.le_of_ble_eq_true rfl) ?_
  refine aw_aload_n dJ0_length_8abf5_0 rfl rfl ?_
  refine aw_strV hj dJ0_length_8abf5_1 rfl (zin 1575 (by decide +kernel) rfl) ?_
  refine aw_strL hj dJ0_length_8abf5_4 rfl ?_
  refine aw_aload_n dJ0_length_8abf5_5 rfl rfl ?_
  refine aw_callStr hj [] _ dJ0_length_8abf5_6 rfl clv_J0_335 (by decide) ⟨Nat.zero_le _, Nat.zero_le _⟩ (by rfl) (Nat.le_of_ble_eq_true rfl) rfl ?_
  refine sC_coder hj ?_
  refine aw_ishr dJ0_length_8abf5_9 rfl ?_
  rw [h1]
  refine aw_ireturn (ty := .int) dJ0_length_8abf5_10 rfl rfl ?_
  exact k
theorem sC_charAtL {i : Nat} (hj : j < 9) (hi : i < zlen.getD j 0) (k : Q (some (vI (zby j i))) mem) : AMet Γ mJ1_charAt_3b067 [vR (9100 + j), vI i] G mem Q := by
  have hl := zlen_rng j hj
  have hb := zby_rng j hj i (by omega)
  have hz : ∀ j : Nat, j < 9 → ∀ i : Nat, i < 4 → zand (zby j i) 255 = zby j i := by decide +kernel
  have h1 := hz j hj i (by omega)
  refine AMet.of' 0 (ls := [some (vR ((9100 + j))), some (vI ((i : Int)))]) (by decide) rfl (Nat.le_of_ble_eq_true rfl) ?_
  refine aw_iload_n dJ1_charAt_3b067_0 rfl rfl ?_
  refine aw_aload_n dJ1_charAt_3b067_1 rfl rfl ?_
  refine aw_strL hj dJ1_charAt_3b067_2 rfl ?_
  refine aw_callS [_, _] _ dJ1_charAt_3b067_3 rfl cls_J1_9 (by decide) ⟨Nat.zero_le _, Nat.zero_le _⟩ (Nat.le_of_ble_eq_true rfl) rfl ?_
  refine sC_checkIndex (by omega) (by omega) ?_
  refine aw_aload_n dJ1_charAt_3b067_6 rfl rfl ?_
  refine aw_iload_n dJ1_charAt_3b067_7 rfl rfl ?_
  refine aw_strB hj dJ1_charAt_3b067_8 rfl hi ?_
  refine aw_sipush dJ1_charAt_3b067_9 rfl (by decide) ?_
  refine aw_iand dJ1_charAt_3b067_12 rfl ?_
  rw [h1]
  refine aw_i2c dJ1_charAt_3b067_13 rfl (by omega) ?_
  refine aw_ireturn (ty := .char) dJ1_charAt_3b067_14 rfl (znarC (by omega)) ?_
  exact k
theorem sC_charAt {i : Nat} (hj : j < 9) (hi : i < zlen.getD j 0) (k : Q (some (vI (zby j i))) mem) : AMet Γ mJ0_charAt_5068e [vR (9000 + j), vI i] G mem Q := by
  have hl := zlen_rng j hj
  have hb := zby_rng j hj i (by omega)
  refine AMet.of' 0 (ls := [some (vR ((9000 + j))), some (vI ((i : Int)))]) (by decide) rfl (Nat.le_of_ble_eq_true rfl) ?_
  refine aw_aload_n dJ0_charAt_5068e_0 rfl rfl ?_
  refine aw_callStr hj [] _ dJ0_charAt_5068e_1 rfl clv_J0_492 (by decide) ⟨Nat.zero_le _, Nat.zero_le _⟩ (by rfl) (Nat.le_of_ble_eq_true rfl) rfl ?_
  refine sC_isLatin1 hj ?_
  refine aw_if_eq (tgt := 16) dJ0_charAt_5068e_4 (by decide) rfl (by omega) (fun c4 => ?_) (fun c4 => ?_)
  · exfalso; omega
  · refine aw_aload_n dJ0_charAt_5068e_7 rfl rfl ?_
    refine aw_strV hj dJ0_charAt_5068e_8 rfl (zin 1575 (by decide +kernel) rfl) ?_
    refine aw_iload_n dJ0_charAt_5068e_11 rfl rfl ?_
    refine aw_callS [_, _] _ dJ0_charAt_5068e_12 rfl cls_J0_495 (by decide) ⟨Nat.zero_le _, Nat.zero_le _⟩ (Nat.le_of_ble_eq_true rfl) rfl ?_
    refine sC_charAtL hj hi ?_
    refine aw_ireturn (ty := .char) dJ0_charAt_5068e_15 rfl (znarC (by omega)) ?_
    exact k
end ZChk
