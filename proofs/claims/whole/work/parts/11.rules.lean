section ZR
variable {Γ : ZG} {M : ZM} {F : ZF} {G : List GK} {cs ss pc q : Nat} {ls : List (Option AV)} {st : List AV} {mem : Mem}
theorem AW.pure {st' : List AV} (h : ∀ (p : Program) (e : Env) (s : State) (m : MethodId) (args : Array Value) (below : List Frame) (meth : Method) (c : Code) (H : Heap) (locs : List Loc) (lsC : Array Slot) (Qf : State → Prop), zC M p s m args meth c → zL Γ lsC M.2.2.1 ls →
      W p Γ.1 e M.2.2.2.2 s m args below meth c H locs cs ss Qf (F0 m q lsC (st'.map (cv Γ.2.2.2.1))) → W p Γ.1 e M.2.2.2.2 s m args below meth c H locs cs ss Qf (F0 m pc lsC (st.map (cv Γ.2.2.2.1))))
    (k : AW Γ M F G cs ss q ls st' mem) : AW Γ M F G cs ss pc ls st mem := by
  intro p e s m args below meth c H locs A lsC hC hK hX hA hP hD hS hL
  exact h p e s m args below meth c H locs lsC _ hC hL (k p e s m args below meth c H locs A lsC hC hK hX hA hP hD hS hL)
theorem z32 {a : Int} (h : -2147483648 ≤ a ∧ a ≤ 2147483647) : (Int32.ofInt a).toInt = a := Int32.toInt_ofInt_of_le (by omega) (by omega)
theorem z64 {a : Int} (h : -9223372036854775808 ≤ a ∧ a ≤ 9223372036854775807) : (Int64.ofInt a).toInt = a := Int64.toInt_ofInt_of_le (by omega) (by omega)
theorem zlt {a b : Int} (ha : -2147483648 ≤ a ∧ a ≤ 2147483647) (hb : -2147483648 ≤ b ∧ b ≤ 2147483647) : Int32.ofInt a < Int32.ofInt b ↔ a < b := by rw [Int32.lt_iff_toInt_lt, z32 ha, z32 hb]
theorem zle {a b : Int} (ha : -2147483648 ≤ a ∧ a ≤ 2147483647) (hb : -2147483648 ≤ b ∧ b ≤ 2147483647) : Int32.ofInt a ≤ Int32.ofInt b ↔ a ≤ b := by rw [Int32.le_iff_toInt_le, z32 ha, z32 hb]
theorem zeq {a b : Int} (ha : -2147483648 ≤ a ∧ a ≤ 2147483647) (hb : -2147483648 ≤ b ∧ b ≤ 2147483647) : Int32.ofInt a = Int32.ofInt b ↔ a = b := by rw [← Int32.toInt_inj, z32 ha, z32 hb]
theorem zcl_ix {i : Int} {n : Nat} (h : 0 ≤ i ∧ i < n) (hn : n < 2147483648) : vp_in (Int32.ofInt i) n ∧ ((Int32.ofInt i).toNatClampNeg : Int) = i := by
  have e : (Int32.ofInt i).toInt = i := z32 (by omega)
  refine ⟨vp_in_iff.mpr (by rw [e]; exact h), ?_⟩
  rw [← Int32.toNat_toInt, e]
  omega

theorem aw_iconst {n : Int} (hdg : decode M.2.1 pc = .ok (.iconst n, 1)) (hq : pc + 1 = q) (k : AW Γ M F G cs ss q ls (vI n :: st) mem) : AW Γ M F G cs ss pc ls st mem := by
  subst hq
  exact AW.pure (fun p e s m args below meth c H locs lsC Qf hC hL kk => lv_iconst hC.1 hC.2.1 hdg rfl kk) k
theorem aw_bipush {n : Int} (hdg : decode M.2.1 pc = .ok (.bipush n, 2)) (hq : pc + 2 = q) (hv : (Int8.ofInt n).toInt32 = Int32.ofInt n) (k : AW Γ M F G cs ss q ls (vI n :: st) mem) : AW Γ M F G cs ss pc ls st mem := by
  subst hq
  exact AW.pure (fun p e s m args below meth c H locs lsC Qf hC hL kk => lv_bipush hC.1 hC.2.1 hdg hv kk) k
theorem aw_sipush {n : Int} (hdg : decode M.2.1 pc = .ok (.sipush n, 3)) (hq : pc + 3 = q) (hv : (Int16.ofInt n).toInt32 = Int32.ofInt n) (k : AW Γ M F G cs ss q ls (vI n :: st) mem) : AW Γ M F G cs ss pc ls st mem := by
  subst hq
  exact AW.pure (fun p e s m args below meth c H locs lsC Qf hC hL kk => lv_sipush hC.1 hC.2.1 hdg hv kk) k
theorem aw_lconst {n : Fin 2} {a : Int} (hdg : decode M.2.1 pc = .ok (.lconst n, 1)) (hq : pc + 1 = q) (hv : Int64.ofNat (n : Nat) = Int64.ofInt a) (k : AW Γ M F G cs ss q ls (vL a :: st) mem) : AW Γ M F G cs ss pc ls st mem := by
  subst hq
  exact AW.pure (fun p e s m args below meth c H locs lsC Qf hC hL kk => lv_lconst hC.1 hC.2.1 hdg hv kk) k
theorem aw_ldc {idx : Nat} {v : Int32} {a : Int} (hdg : decode M.2.1 pc = .ok (.ldc idx, 2)) (hq : pc + 2 = q) (hw : Cond.constant M.1.cls idx v ∈ zT) (hv : v = Int32.ofInt a) (k : AW Γ M F G cs ss q ls (vI a :: st) mem) : AW Γ M F G cs ss pc ls st mem := by
  subst hq; subst hv
  exact AW.pure (fun p e s m args below meth c H locs lsC Qf hC hL kk => lv_ldc hC.1 hC.2.1 hC.2.2.2.2.1 (hC.2.2.2.2.2.1 _ hw) hdg kk) k
theorem aw_ldcw {idx : Nat} {v : Int32} {a : Int} (hdg : decode M.2.1 pc = .ok (.ldc_w idx, 3)) (hq : pc + 3 = q) (hw : Cond.constant M.1.cls idx v ∈ zT) (hv : v = Int32.ofInt a) (k : AW Γ M F G cs ss q ls (vI a :: st) mem) : AW Γ M F G cs ss pc ls st mem := by
  subst hq; subst hv
  exact AW.pure (fun p e s m args below meth c H locs lsC Qf hC hL kk => lv_ldcw hC.1 hC.2.1 hC.2.2.2.2.1 (hC.2.2.2.2.2.1 _ hw) hdg kk) k
theorem aw_ldc2 {idx : Nat} {v : Int64} {a : Int} (hdg : decode M.2.1 pc = .ok (.ldc2_w idx, 3)) (hq : pc + 3 = q) (hw : Cond.constantLong M.1.cls idx v ∈ zT) (hv : v = Int64.ofInt a) (k : AW Γ M F G cs ss q ls (vL a :: st) mem) : AW Γ M F G cs ss pc ls st mem := by
  subst hq; subst hv
  exact AW.pure (fun p e s m args below meth c H locs lsC Qf hC hL kk => lv_ldc2 hC.1 hC.2.1 hC.2.2.2.2.1 (hC.2.2.2.2.2.1 _ hw) hdg kk) k
theorem aw_iload_n {n : Fin 4} {a : Int} (hdg : decode M.2.1 pc = .ok (.iload_n n, 1)) (hq : pc + 1 = q) (hl : ls[(n : Nat)]? = some (some (vI a))) (k : AW Γ M F G cs ss q ls (vI a :: st) mem) : AW Γ M F G cs ss pc ls st mem := by
  subst hq
  exact AW.pure (fun p e s m args below meth c H locs lsC Qf hC hL kk => lv_iload_n hC.1 hC.2.1 hdg rfl (hL.2.2 _ _ hl) kk) k
theorem aw_iload {n : Nat} {a : Int} (hdg : decode M.2.1 pc = .ok (.iload n, 2)) (hq : pc + 2 = q) (hl : ls[n]? = some (some (vI a))) (k : AW Γ M F G cs ss q ls (vI a :: st) mem) : AW Γ M F G cs ss pc ls st mem := by
  subst hq
  exact AW.pure (fun p e s m args below meth c H locs lsC Qf hC hL kk => lv_iload hC.1 hC.2.1 hdg (hL.2.2 _ _ hl) kk) k
theorem aw_aload_n {n : Fin 4} {a : Nat} (hdg : decode M.2.1 pc = .ok (.aload_n n, 1)) (hq : pc + 1 = q) (hl : ls[(n : Nat)]? = some (some (vR a))) (k : AW Γ M F G cs ss q ls (vR a :: st) mem) : AW Γ M F G cs ss pc ls st mem := by
  subst hq
  exact AW.pure (fun p e s m args below meth c H locs lsC Qf hC hL kk => lv_aload_n hC.1 hC.2.1 hdg rfl (hL.2.2 _ _ hl) kk) k
theorem aw_aload {n : Nat} {a : Nat} (hdg : decode M.2.1 pc = .ok (.aload n, 2)) (hq : pc + 2 = q) (hl : ls[n]? = some (some (vR a))) (k : AW Γ M F G cs ss q ls (vR a :: st) mem) : AW Γ M F G cs ss pc ls st mem := by
  subst hq
  exact AW.pure (fun p e s m args below meth c H locs lsC Qf hC hL kk => lv_aload hC.1 hC.2.1 hdg (hL.2.2 _ _ hl) kk) k
theorem aw_lload_n {n : Fin 4} {a : Int} (hdg : decode M.2.1 pc = .ok (.lload_n n, 1)) (hq : pc + 1 = q) (hl : ls[(n : Nat)]? = some (some (vL a))) (k : AW Γ M F G cs ss q ls (vL a :: st) mem) : AW Γ M F G cs ss pc ls st mem := by
  subst hq
  exact AW.pure (fun p e s m args below meth c H locs lsC Qf hC hL kk => lv_lload_n hC.1 hC.2.1 hdg rfl (hL.2.2 _ _ hl) kk) k
theorem aw_lload {n : Nat} {a : Int} (hdg : decode M.2.1 pc = .ok (.lload n, 2)) (hq : pc + 2 = q) (hl : ls[n]? = some (some (vL a))) (k : AW Γ M F G cs ss q ls (vL a :: st) mem) : AW Γ M F G cs ss pc ls st mem := by
  subst hq
  exact AW.pure (fun p e s m args below meth c H locs lsC Qf hC hL kk => lv_lload hC.1 hC.2.1 hdg (hL.2.2 _ _ hl) kk) k
theorem aw_istore_ng {n : Fin 4} {a : Int} {ls' : List (Option AV)} (hdg : decode M.2.1 pc = .ok (.istore_n n, 1)) (hq : pc + 1 = q) (hn : (n : Nat) < M.2.2.1) (hls : ∀ (j : Nat) (w : AV), ls'[j]? = some (some w) → (j = (n : Nat) ∧ w = vI a) ∨ (j ≠ (n : Nat) ∧ ls[j]? = some (some w) ∧ ¬ (j + 1 = (n : Nat) ∧ zcat w = 2))) (k : AW Γ M F G cs ss q ls' st mem) : AW Γ M F G cs ss pc ls (vI a :: st) mem := by
  subst hq
  intro p e s m args below meth c H locs A lsC hC hK hX hA hP hD hS hL
  exact lv_istore_n hC.1 hC.2.1 hdg rfl hL.has hn rfl (fun ls2 h2 => k p e s m args below meth c H locs A ls2 hC hK hX hA hP hD hS (zL.st1 (v := vI a) h2 hls))
theorem aw_istore_g {n : Nat} {a : Int} {ls' : List (Option AV)} (hdg : decode M.2.1 pc = .ok (.istore n, 2)) (hq : pc + 2 = q) (hn : n < M.2.2.1) (hls : ∀ (j : Nat) (w : AV), ls'[j]? = some (some w) → (j = n ∧ w = vI a) ∨ (j ≠ n ∧ ls[j]? = some (some w) ∧ ¬ (j + 1 = n ∧ zcat w = 2))) (k : AW Γ M F G cs ss q ls' st mem) : AW Γ M F G cs ss pc ls (vI a :: st) mem := by
  subst hq
  intro p e s m args below meth c H locs A lsC hC hK hX hA hP hD hS hL
  exact lv_istore hC.1 hC.2.1 hdg hL.has hn rfl (fun ls2 h2 => k p e s m args below meth c H locs A ls2 hC hK hX hA hP hD hS (zL.st1 (v := vI a) h2 hls))
theorem aw_astore_ng {n : Fin 4} {a : Nat} {ls' : List (Option AV)} (hdg : decode M.2.1 pc = .ok (.astore_n n, 1)) (hq : pc + 1 = q) (hn : (n : Nat) < M.2.2.1) (hls : ∀ (j : Nat) (w : AV), ls'[j]? = some (some w) → (j = (n : Nat) ∧ w = vR a) ∨ (j ≠ (n : Nat) ∧ ls[j]? = some (some w) ∧ ¬ (j + 1 = (n : Nat) ∧ zcat w = 2))) (k : AW Γ M F G cs ss q ls' st mem) : AW Γ M F G cs ss pc ls (vR a :: st) mem := by
  subst hq
  intro p e s m args below meth c H locs A lsC hC hK hX hA hP hD hS hL
  exact lv_astore_n hC.1 hC.2.1 hdg rfl hL.has hn rfl (fun ls2 h2 => k p e s m args below meth c H locs A ls2 hC hK hX hA hP hD hS (zL.st1 (v := vR a) h2 hls))
theorem aw_astore_g {n : Nat} {a : Nat} {ls' : List (Option AV)} (hdg : decode M.2.1 pc = .ok (.astore n, 2)) (hq : pc + 2 = q) (hn : n < M.2.2.1) (hls : ∀ (j : Nat) (w : AV), ls'[j]? = some (some w) → (j = n ∧ w = vR a) ∨ (j ≠ n ∧ ls[j]? = some (some w) ∧ ¬ (j + 1 = n ∧ zcat w = 2))) (k : AW Γ M F G cs ss q ls' st mem) : AW Γ M F G cs ss pc ls (vR a :: st) mem := by
  subst hq
  intro p e s m args below meth c H locs A lsC hC hK hX hA hP hD hS hL
  exact lv_astore hC.1 hC.2.1 hdg hL.has hn rfl (fun ls2 h2 => k p e s m args below meth c H locs A ls2 hC hK hX hA hP hD hS (zL.st1 (v := vR a) h2 hls))
theorem aw_lstore_ng {n : Fin 4} {a : Int} {ls' : List (Option AV)} (hdg : decode M.2.1 pc = .ok (.lstore_n n, 1)) (hq : pc + 1 = q) (hn : (n : Nat) + 1 < M.2.2.1) (hls : ∀ (j : Nat) (w : AV), ls'[j]? = some (some w) → (j = (n : Nat) ∧ w = vL a) ∨ (j ≠ (n : Nat) ∧ j ≠ (n : Nat) + 1 ∧ ls[j]? = some (some w) ∧ ¬ (j + 1 = (n : Nat) ∧ zcat w = 2))) (k : AW Γ M F G cs ss q ls' st mem) : AW Γ M F G cs ss pc ls (vL a :: st) mem := by
  subst hq
  intro p e s m args below meth c H locs A lsC hC hK hX hA hP hD hS hL
  exact lv_lstore_n hC.1 hC.2.1 hdg rfl hL.has hn rfl (fun ls2 h2 => k p e s m args below meth c H locs A ls2 hC hK hX hA hP hD hS (zL.st2 (v := vL a) h2 hls))
theorem aw_lstore_g {n : Nat} {a : Int} {ls' : List (Option AV)} (hdg : decode M.2.1 pc = .ok (.lstore n, 2)) (hq : pc + 2 = q) (hn : n + 1 < M.2.2.1) (hls : ∀ (j : Nat) (w : AV), ls'[j]? = some (some w) → (j = n ∧ w = vL a) ∨ (j ≠ n ∧ j ≠ n + 1 ∧ ls[j]? = some (some w) ∧ ¬ (j + 1 = n ∧ zcat w = 2))) (k : AW Γ M F G cs ss q ls' st mem) : AW Γ M F G cs ss pc ls (vL a :: st) mem := by
  subst hq
  intro p e s m args below meth c H locs A lsC hC hK hX hA hP hD hS hL
  exact lv_lstore hC.1 hC.2.1 hdg hL.has hn rfl (fun ls2 h2 => k p e s m args below meth c H locs A ls2 hC hK hX hA hP hD hS (zL.st2 (v := vL a) h2 hls))
theorem zmem_at {ad : Nat → Nat} {ls : List (Option AV)} {j : Nat} {v : AV} (h : ls[j]? = some (some v)) : ∃ k : Nat, (zp ad ls)[k]? = some (j, cv ad v) := List.getElem?_of_mem (zp_mem h)
theorem aw_iinc_g {n : Nat} {d a : Int} {ls' : List (Option AV)} (hdg : decode M.2.1 pc = .ok (.iinc n d, 3)) (hq : pc + 3 = q) (hn : n < M.2.2.1) (hl : ls[n]? = some (some (vI a))) (hls : ∀ (j : Nat) (w : AV), ls'[j]? = some (some w) → (j = n ∧ w = vI (a + d)) ∨ (j ≠ n ∧ ls[j]? = some (some w) ∧ ¬ (j + 1 = n ∧ zcat w = 2))) (k : AW Γ M F G cs ss q ls' st mem) : AW Γ M F G cs ss pc ls st mem := by
  subst hq
  intro p e s m args below meth c H locs A lsC hC hK hX hA hP hD hS hL
  obtain ⟨k0, hk0⟩ := zmem_at (ad := Γ.2.2.2.1) hl
  exact lv_iinc hC.1 hC.2.1 hdg hL.has hk0 (v := Int32.ofInt (a + d)) (Int32.ofInt_add a d).symm hn rfl (fun ls2 h2 => k p e s m args below meth c H locs A ls2 hC hK hX hA hP hD hS (zL.st1 (v := vI (a + d)) h2 hls))
/-- what lies behind a store, place by place -/
theorem zst_hls {n : Nat} {v : AV} {ls ls' : List (Option AV)} (h0 : ls'[n]? = some (some v)) (h1 : ∀ (j : Nat) (w : AV), j ≠ n → ls'[j]? = some (some w) → ls[j]? = some (some w)) (h2 : ∀ w : AV, ∀ j : Nat, j + 1 = n → ls'[j]? = some (some w) → zcat w = 1) : ∀ (j : Nat) (w : AV), ls'[j]? = some (some w) → (j = n ∧ w = v) ∨ (j ≠ n ∧ ls[j]? = some (some w) ∧ ¬ (j + 1 = n ∧ zcat w = 2)) := by
  intro j w h
  by_cases hj : j = n
  · subst hj
    rw [h0] at h
    cases h
    exact Or.inl ⟨rfl, rfl⟩
  · refine Or.inr ⟨hj, h1 j w hj h, fun z => ?_⟩
    have := h2 w j z.1 h
    omega
theorem zst2_hls {n : Nat} {v : AV} {ls ls' : List (Option AV)} (h0 : ls'[n]? = some (some v)) (h3 : ls'[n + 1]? = some none) (h1 : ∀ (j : Nat) (w : AV), j ≠ n → j ≠ n + 1 → ls'[j]? = some (some w) → ls[j]? = some (some w)) (h2 : ∀ w : AV, ∀ j : Nat, j + 1 = n → ls'[j]? = some (some w) → zcat w = 1) : ∀ (j : Nat) (w : AV), ls'[j]? = some (some w) → (j = n ∧ w = v) ∨ (j ≠ n ∧ j ≠ n + 1 ∧ ls[j]? = some (some w) ∧ ¬ (j + 1 = n ∧ zcat w = 2)) := by
  intro j w h
  by_cases hj : j = n
  · subst hj
    rw [h0] at h
    cases h
    exact Or.inl ⟨rfl, rfl⟩
  · by_cases hj2 : j = n + 1
    · subst hj2
      rw [h3] at h
      cases h
    · refine Or.inr ⟨hj, hj2, h1 j w hj hj2 h, fun z => ?_⟩
      have := h2 w j z.1 h
      omega
theorem zlong_cat {o : Option AV} (h : zlong o = false) : ∀ w : AV, o = some w → zcat w = 1 := by
  intro w e
  subst e
  rcases w with a | a | a
  · rfl
  · cases h
  · rfl

theorem aw_istore0 {x0 : Option AV} {l : List (Option AV)} {a : Int} (hdg : decode M.2.1 pc = .ok (.istore_n 0, 1)) (hq : pc + 1 = q) (hn : 0 < M.2.2.1) (k : AW Γ M F G cs ss q (some (vI a) :: l) st mem) : AW Γ M F G cs ss pc (x0 :: l) (vI a :: st) mem :=
  aw_istore_ng hdg hq hn (zst_hls (n := 0) rfl (fun j w hj h => by
    match j, hj, h with
    | 0, hj, h => exact absurd rfl hj
    | j + 1, hj, h => exact h) (fun w j z h => by omega)) k
theorem aw_astore0 {x0 : Option AV} {l : List (Option AV)} {a : Nat} (hdg : decode M.2.1 pc = .ok (.astore_n 0, 1)) (hq : pc + 1 = q) (hn : 0 < M.2.2.1) (k : AW Γ M F G cs ss q (some (vR a) :: l) st mem) : AW Γ M F G cs ss pc (x0 :: l) (vR a :: st) mem :=
  aw_astore_ng hdg hq hn (zst_hls (n := 0) rfl (fun j w hj h => by
    match j, hj, h with
    | 0, hj, h => exact absurd rfl hj
    | j + 1, hj, h => exact h) (fun w j z h => by omega)) k
theorem aw_iinc0 {l : List (Option AV)} {a d : Int} (hdg : decode M.2.1 pc = .ok (.iinc 0 d, 3)) (hq : pc + 3 = q) (hn : 0 < M.2.2.1) (k : AW Γ M F G cs ss q (some (vI (a + d)) :: l) st mem) : AW Γ M F G cs ss pc (some (vI a) :: l) st mem :=
  aw_iinc_g hdg hq hn rfl (zst_hls (n := 0) rfl (fun j w hj h => by
    match j, hj, h with
    | 0, hj, h => exact absurd rfl hj
    | j + 1, hj, h => exact h) (fun w j z h => by omega)) k
theorem aw_lstore0 {x0 x1 : Option AV} {l : List (Option AV)} {a : Int} (hdg : decode M.2.1 pc = .ok (.lstore_n 0, 1)) (hq : pc + 1 = q) (hn : 0 + 1 < M.2.2.1) (k : AW Γ M F G cs ss q (some (vL a) :: none :: l) st mem) : AW Γ M F G cs ss pc (x0 :: x1 :: l) (vL a :: st) mem :=
  aw_lstore_ng hdg hq hn (zst2_hls (n := 0) rfl rfl (fun j w hj hj2 h => by
    match j, hj, hj2, h with
    | 0, hj, hj2, h => exact absurd rfl hj
    | 1, hj, hj2, h => exact absurd rfl hj2
    | j + 2, hj, hj2, h => exact h) (fun w j z h => by omega)) k
theorem aw_istore1 {x0 x1 : Option AV} {l : List (Option AV)} {a : Int} (hz : zlong x0 = false) (hdg : decode M.2.1 pc = .ok (.istore_n 1, 1)) (hq : pc + 1 = q) (hn : 1 < M.2.2.1) (k : AW Γ M F G cs ss q (x0 :: some (vI a) :: l) st mem) : AW Γ M F G cs ss pc (x0 :: x1 :: l) (vI a :: st) mem :=
  aw_istore_ng hdg hq hn (zst_hls (n := 1) rfl (fun j w hj h => by
    match j, hj, h with
    | 0, hj, h => exact h
    | 1, hj, h => exact absurd rfl hj
    | j + 2, hj, h => exact h) (fun w j z h => by
    obtain rfl : j = 0 := by omega
    exact zlong_cat hz w (Option.some.inj h))) k
theorem aw_astore1 {x0 x1 : Option AV} {l : List (Option AV)} {a : Nat} (hz : zlong x0 = false) (hdg : decode M.2.1 pc = .ok (.astore_n 1, 1)) (hq : pc + 1 = q) (hn : 1 < M.2.2.1) (k : AW Γ M F G cs ss q (x0 :: some (vR a) :: l) st mem) : AW Γ M F G cs ss pc (x0 :: x1 :: l) (vR a :: st) mem :=
  aw_astore_ng hdg hq hn (zst_hls (n := 1) rfl (fun j w hj h => by
    match j, hj, h with
    | 0, hj, h => exact h
    | 1, hj, h => exact absurd rfl hj
    | j + 2, hj, h => exact h) (fun w j z h => by
    obtain rfl : j = 0 := by omega
    exact zlong_cat hz w (Option.some.inj h))) k
theorem aw_iinc1 {x0 : Option AV} {l : List (Option AV)} {a d : Int} (hz : zlong x0 = false) (hdg : decode M.2.1 pc = .ok (.iinc 1 d, 3)) (hq : pc + 3 = q) (hn : 1 < M.2.2.1) (k : AW Γ M F G cs ss q (x0 :: some (vI (a + d)) :: l) st mem) : AW Γ M F G cs ss pc (x0 :: some (vI a) :: l) st mem :=
  aw_iinc_g hdg hq hn rfl (zst_hls (n := 1) rfl (fun j w hj h => by
    match j, hj, h with
    | 0, hj, h => exact h
    | 1, hj, h => exact absurd rfl hj
    | j + 2, hj, h => exact h) (fun w j z h => by
    obtain rfl : j = 0 := by omega
    exact zlong_cat hz w (Option.some.inj h))) k
theorem aw_lstore1 {x0 x1 x2 : Option AV} {l : List (Option AV)} {a : Int} (hz : zlong x0 = false) (hdg : decode M.2.1 pc = .ok (.lstore_n 1, 1)) (hq : pc + 1 = q) (hn : 1 + 1 < M.2.2.1) (k : AW Γ M F G cs ss q (x0 :: some (vL a) :: none :: l) st mem) : AW Γ M F G cs ss pc (x0 :: x1 :: x2 :: l) (vL a :: st) mem :=
  aw_lstore_ng hdg hq hn (zst2_hls (n := 1) rfl rfl (fun j w hj hj2 h => by
    match j, hj, hj2, h with
    | 0, hj, hj2, h => exact h
    | 1, hj, hj2, h => exact absurd rfl hj
    | 2, hj, hj2, h => exact absurd rfl hj2
    | j + 3, hj, hj2, h => exact h) (fun w j z h => by
    obtain rfl : j = 0 := by omega
    exact zlong_cat hz w (Option.some.inj h))) k
theorem aw_istore2 {x0 x1 x2 : Option AV} {l : List (Option AV)} {a : Int} (hz : zlong x1 = false) (hdg : decode M.2.1 pc = .ok (.istore_n 2, 1)) (hq : pc + 1 = q) (hn : 2 < M.2.2.1) (k : AW Γ M F G cs ss q (x0 :: x1 :: some (vI a) :: l) st mem) : AW Γ M F G cs ss pc (x0 :: x1 :: x2 :: l) (vI a :: st) mem :=
  aw_istore_ng hdg hq hn (zst_hls (n := 2) rfl (fun j w hj h => by
    match j, hj, h with
    | 0, hj, h => exact h
    | 1, hj, h => exact h
    | 2, hj, h => exact absurd rfl hj
    | j + 3, hj, h => exact h) (fun w j z h => by
    obtain rfl : j = 1 := by omega
    exact zlong_cat hz w (Option.some.inj h))) k
theorem aw_astore2 {x0 x1 x2 : Option AV} {l : List (Option AV)} {a : Nat} (hz : zlong x1 = false) (hdg : decode M.2.1 pc = .ok (.astore_n 2, 1)) (hq : pc + 1 = q) (hn : 2 < M.2.2.1) (k : AW Γ M F G cs ss q (x0 :: x1 :: some (vR a) :: l) st mem) : AW Γ M F G cs ss pc (x0 :: x1 :: x2 :: l) (vR a :: st) mem :=
  aw_astore_ng hdg hq hn (zst_hls (n := 2) rfl (fun j w hj h => by
    match j, hj, h with
    | 0, hj, h => exact h
    | 1, hj, h => exact h
    | 2, hj, h => exact absurd rfl hj
    | j + 3, hj, h => exact h) (fun w j z h => by
    obtain rfl : j = 1 := by omega
    exact zlong_cat hz w (Option.some.inj h))) k
theorem aw_iinc2 {x0 x1 : Option AV} {l : List (Option AV)} {a d : Int} (hz : zlong x1 = false) (hdg : decode M.2.1 pc = .ok (.iinc 2 d, 3)) (hq : pc + 3 = q) (hn : 2 < M.2.2.1) (k : AW Γ M F G cs ss q (x0 :: x1 :: some (vI (a + d)) :: l) st mem) : AW Γ M F G cs ss pc (x0 :: x1 :: some (vI a) :: l) st mem :=
  aw_iinc_g hdg hq hn rfl (zst_hls (n := 2) rfl (fun j w hj h => by
    match j, hj, h with
    | 0, hj, h => exact h
    | 1, hj, h => exact h
    | 2, hj, h => exact absurd rfl hj
    | j + 3, hj, h => exact h) (fun w j z h => by
    obtain rfl : j = 1 := by omega
    exact zlong_cat hz w (Option.some.inj h))) k
theorem aw_lstore2 {x0 x1 x2 x3 : Option AV} {l : List (Option AV)} {a : Int} (hz : zlong x1 = false) (hdg : decode M.2.1 pc = .ok (.lstore_n 2, 1)) (hq : pc + 1 = q) (hn : 2 + 1 < M.2.2.1) (k : AW Γ M F G cs ss q (x0 :: x1 :: some (vL a) :: none :: l) st mem) : AW Γ M F G cs ss pc (x0 :: x1 :: x2 :: x3 :: l) (vL a :: st) mem :=
  aw_lstore_ng hdg hq hn (zst2_hls (n := 2) rfl rfl (fun j w hj hj2 h => by
    match j, hj, hj2, h with
    | 0, hj, hj2, h => exact h
    | 1, hj, hj2, h => exact h
    | 2, hj, hj2, h => exact absurd rfl hj
    | 3, hj, hj2, h => exact absurd rfl hj2
    | j + 4, hj, hj2, h => exact h) (fun w j z h => by
    obtain rfl : j = 1 := by omega
    exact zlong_cat hz w (Option.some.inj h))) k
theorem aw_istore3 {x0 x1 x2 x3 : Option AV} {l : List (Option AV)} {a : Int} (hz : zlong x2 = false) (hdg : decode M.2.1 pc = .ok (.istore_n 3, 1)) (hq : pc + 1 = q) (hn : 3 < M.2.2.1) (k : AW Γ M F G cs ss q (x0 :: x1 :: x2 :: some (vI a) :: l) st mem) : AW Γ M F G cs ss pc (x0 :: x1 :: x2 :: x3 :: l) (vI a :: st) mem :=
  aw_istore_ng hdg hq hn (zst_hls (n := 3) rfl (fun j w hj h => by
    match j, hj, h with
    | 0, hj, h => exact h
    | 1, hj, h => exact h
    | 2, hj, h => exact h
    | 3, hj, h => exact absurd rfl hj
    | j + 4, hj, h => exact h) (fun w j z h => by
    obtain rfl : j = 2 := by omega
    exact zlong_cat hz w (Option.some.inj h))) k
theorem aw_astore3 {x0 x1 x2 x3 : Option AV} {l : List (Option AV)} {a : Nat} (hz : zlong x2 = false) (hdg : decode M.2.1 pc = .ok (.astore_n 3, 1)) (hq : pc + 1 = q) (hn : 3 < M.2.2.1) (k : AW Γ M F G cs ss q (x0 :: x1 :: x2 :: some (vR a) :: l) st mem) : AW Γ M F G cs ss pc (x0 :: x1 :: x2 :: x3 :: l) (vR a :: st) mem :=
  aw_astore_ng hdg hq hn (zst_hls (n := 3) rfl (fun j w hj h => by
    match j, hj, h with
    | 0, hj, h => exact h
    | 1, hj, h => exact h
    | 2, hj, h => exact h
    | 3, hj, h => exact absurd rfl hj
    | j + 4, hj, h => exact h) (fun w j z h => by
    obtain rfl : j = 2 := by omega
    exact zlong_cat hz w (Option.some.inj h))) k
theorem aw_iinc3 {x0 x1 x2 : Option AV} {l : List (Option AV)} {a d : Int} (hz : zlong x2 = false) (hdg : decode M.2.1 pc = .ok (.iinc 3 d, 3)) (hq : pc + 3 = q) (hn : 3 < M.2.2.1) (k : AW Γ M F G cs ss q (x0 :: x1 :: x2 :: some (vI (a + d)) :: l) st mem) : AW Γ M F G cs ss pc (x0 :: x1 :: x2 :: some (vI a) :: l) st mem :=
  aw_iinc_g hdg hq hn rfl (zst_hls (n := 3) rfl (fun j w hj h => by
    match j, hj, h with
    | 0, hj, h => exact h
    | 1, hj, h => exact h
    | 2, hj, h => exact h
    | 3, hj, h => exact absurd rfl hj
    | j + 4, hj, h => exact h) (fun w j z h => by
    obtain rfl : j = 2 := by omega
    exact zlong_cat hz w (Option.some.inj h))) k
theorem aw_lstore3 {x0 x1 x2 x3 x4 : Option AV} {l : List (Option AV)} {a : Int} (hz : zlong x2 = false) (hdg : decode M.2.1 pc = .ok (.lstore_n 3, 1)) (hq : pc + 1 = q) (hn : 3 + 1 < M.2.2.1) (k : AW Γ M F G cs ss q (x0 :: x1 :: x2 :: some (vL a) :: none :: l) st mem) : AW Γ M F G cs ss pc (x0 :: x1 :: x2 :: x3 :: x4 :: l) (vL a :: st) mem :=
  aw_lstore_ng hdg hq hn (zst2_hls (n := 3) rfl rfl (fun j w hj hj2 h => by
    match j, hj, hj2, h with
    | 0, hj, hj2, h => exact h
    | 1, hj, hj2, h => exact h
    | 2, hj, hj2, h => exact h
    | 3, hj, hj2, h => exact absurd rfl hj
    | 4, hj, hj2, h => exact absurd rfl hj2
    | j + 5, hj, hj2, h => exact h) (fun w j z h => by
    obtain rfl : j = 2 := by omega
    exact zlong_cat hz w (Option.some.inj h))) k
theorem aw_istore4 {x0 x1 x2 x3 x4 : Option AV} {l : List (Option AV)} {a : Int} (hz : zlong x3 = false) (hdg : decode M.2.1 pc = .ok (.istore 4, 2)) (hq : pc + 2 = q) (hn : 4 < M.2.2.1) (k : AW Γ M F G cs ss q (x0 :: x1 :: x2 :: x3 :: some (vI a) :: l) st mem) : AW Γ M F G cs ss pc (x0 :: x1 :: x2 :: x3 :: x4 :: l) (vI a :: st) mem :=
  aw_istore_g hdg hq hn (zst_hls (n := 4) rfl (fun j w hj h => by
    match j, hj, h with
    | 0, hj, h => exact h
    | 1, hj, h => exact h
    | 2, hj, h => exact h
    | 3, hj, h => exact h
    | 4, hj, h => exact absurd rfl hj
    | j + 5, hj, h => exact h) (fun w j z h => by
    obtain rfl : j = 3 := by omega
    exact zlong_cat hz w (Option.some.inj h))) k
theorem aw_astore4 {x0 x1 x2 x3 x4 : Option AV} {l : List (Option AV)} {a : Nat} (hz : zlong x3 = false) (hdg : decode M.2.1 pc = .ok (.astore 4, 2)) (hq : pc + 2 = q) (hn : 4 < M.2.2.1) (k : AW Γ M F G cs ss q (x0 :: x1 :: x2 :: x3 :: some (vR a) :: l) st mem) : AW Γ M F G cs ss pc (x0 :: x1 :: x2 :: x3 :: x4 :: l) (vR a :: st) mem :=
  aw_astore_g hdg hq hn (zst_hls (n := 4) rfl (fun j w hj h => by
    match j, hj, h with
    | 0, hj, h => exact h
    | 1, hj, h => exact h
    | 2, hj, h => exact h
    | 3, hj, h => exact h
    | 4, hj, h => exact absurd rfl hj
    | j + 5, hj, h => exact h) (fun w j z h => by
    obtain rfl : j = 3 := by omega
    exact zlong_cat hz w (Option.some.inj h))) k
theorem aw_iinc4 {x0 x1 x2 x3 : Option AV} {l : List (Option AV)} {a d : Int} (hz : zlong x3 = false) (hdg : decode M.2.1 pc = .ok (.iinc 4 d, 3)) (hq : pc + 3 = q) (hn : 4 < M.2.2.1) (k : AW Γ M F G cs ss q (x0 :: x1 :: x2 :: x3 :: some (vI (a + d)) :: l) st mem) : AW Γ M F G cs ss pc (x0 :: x1 :: x2 :: x3 :: some (vI a) :: l) st mem :=
  aw_iinc_g hdg hq hn rfl (zst_hls (n := 4) rfl (fun j w hj h => by
    match j, hj, h with
    | 0, hj, h => exact h
    | 1, hj, h => exact h
    | 2, hj, h => exact h
    | 3, hj, h => exact h
    | 4, hj, h => exact absurd rfl hj
    | j + 5, hj, h => exact h) (fun w j z h => by
    obtain rfl : j = 3 := by omega
    exact zlong_cat hz w (Option.some.inj h))) k
theorem aw_lstore4 {x0 x1 x2 x3 x4 x5 : Option AV} {l : List (Option AV)} {a : Int} (hz : zlong x3 = false) (hdg : decode M.2.1 pc = .ok (.lstore 4, 2)) (hq : pc + 2 = q) (hn : 4 + 1 < M.2.2.1) (k : AW Γ M F G cs ss q (x0 :: x1 :: x2 :: x3 :: some (vL a) :: none :: l) st mem) : AW Γ M F G cs ss pc (x0 :: x1 :: x2 :: x3 :: x4 :: x5 :: l) (vL a :: st) mem :=
  aw_lstore_g hdg hq hn (zst2_hls (n := 4) rfl rfl (fun j w hj hj2 h => by
    match j, hj, hj2, h with
    | 0, hj, hj2, h => exact h
    | 1, hj, hj2, h => exact h
    | 2, hj, hj2, h => exact h
    | 3, hj, hj2, h => exact h
    | 4, hj, hj2, h => exact absurd rfl hj
    | 5, hj, hj2, h => exact absurd rfl hj2
    | j + 6, hj, hj2, h => exact h) (fun w j z h => by
    obtain rfl : j = 3 := by omega
    exact zlong_cat hz w (Option.some.inj h))) k
theorem aw_istore5 {x0 x1 x2 x3 x4 x5 : Option AV} {l : List (Option AV)} {a : Int} (hz : zlong x4 = false) (hdg : decode M.2.1 pc = .ok (.istore 5, 2)) (hq : pc + 2 = q) (hn : 5 < M.2.2.1) (k : AW Γ M F G cs ss q (x0 :: x1 :: x2 :: x3 :: x4 :: some (vI a) :: l) st mem) : AW Γ M F G cs ss pc (x0 :: x1 :: x2 :: x3 :: x4 :: x5 :: l) (vI a :: st) mem :=
  aw_istore_g hdg hq hn (zst_hls (n := 5) rfl (fun j w hj h => by
    match j, hj, h with
    | 0, hj, h => exact h
    | 1, hj, h => exact h
    | 2, hj, h => exact h
    | 3, hj, h => exact h
    | 4, hj, h => exact h
    | 5, hj, h => exact absurd rfl hj
    | j + 6, hj, h => exact h) (fun w j z h => by
    obtain rfl : j = 4 := by omega
    exact zlong_cat hz w (Option.some.inj h))) k
theorem aw_astore5 {x0 x1 x2 x3 x4 x5 : Option AV} {l : List (Option AV)} {a : Nat} (hz : zlong x4 = false) (hdg : decode M.2.1 pc = .ok (.astore 5, 2)) (hq : pc + 2 = q) (hn : 5 < M.2.2.1) (k : AW Γ M F G cs ss q (x0 :: x1 :: x2 :: x3 :: x4 :: some (vR a) :: l) st mem) : AW Γ M F G cs ss pc (x0 :: x1 :: x2 :: x3 :: x4 :: x5 :: l) (vR a :: st) mem :=
  aw_astore_g hdg hq hn (zst_hls (n := 5) rfl (fun j w hj h => by
    match j, hj, h with
    | 0, hj, h => exact h
    | 1, hj, h => exact h
    | 2, hj, h => exact h
    | 3, hj, h => exact h
    | 4, hj, h => exact h
    | 5, hj, h => exact absurd rfl hj
    | j + 6, hj, h => exact h) (fun w j z h => by
    obtain rfl : j = 4 := by omega
    exact zlong_cat hz w (Option.some.inj h))) k
theorem aw_iinc5 {x0 x1 x2 x3 x4 : Option AV} {l : List (Option AV)} {a d : Int} (hz : zlong x4 = false) (hdg : decode M.2.1 pc = .ok (.iinc 5 d, 3)) (hq : pc + 3 = q) (hn : 5 < M.2.2.1) (k : AW Γ M F G cs ss q (x0 :: x1 :: x2 :: x3 :: x4 :: some (vI (a + d)) :: l) st mem) : AW Γ M F G cs ss pc (x0 :: x1 :: x2 :: x3 :: x4 :: some (vI a) :: l) st mem :=
  aw_iinc_g hdg hq hn rfl (zst_hls (n := 5) rfl (fun j w hj h => by
    match j, hj, h with
    | 0, hj, h => exact h
    | 1, hj, h => exact h
    | 2, hj, h => exact h
    | 3, hj, h => exact h
    | 4, hj, h => exact h
    | 5, hj, h => exact absurd rfl hj
    | j + 6, hj, h => exact h) (fun w j z h => by
    obtain rfl : j = 4 := by omega
    exact zlong_cat hz w (Option.some.inj h))) k
theorem aw_lstore5 {x0 x1 x2 x3 x4 x5 x6 : Option AV} {l : List (Option AV)} {a : Int} (hz : zlong x4 = false) (hdg : decode M.2.1 pc = .ok (.lstore 5, 2)) (hq : pc + 2 = q) (hn : 5 + 1 < M.2.2.1) (k : AW Γ M F G cs ss q (x0 :: x1 :: x2 :: x3 :: x4 :: some (vL a) :: none :: l) st mem) : AW Γ M F G cs ss pc (x0 :: x1 :: x2 :: x3 :: x4 :: x5 :: x6 :: l) (vL a :: st) mem :=
  aw_lstore_g hdg hq hn (zst2_hls (n := 5) rfl rfl (fun j w hj hj2 h => by
    match j, hj, hj2, h with
    | 0, hj, hj2, h => exact h
    | 1, hj, hj2, h => exact h
    | 2, hj, hj2, h => exact h
    | 3, hj, hj2, h => exact h
    | 4, hj, hj2, h => exact h
    | 5, hj, hj2, h => exact absurd rfl hj
    | 6, hj, hj2, h => exact absurd rfl hj2
    | j + 7, hj, hj2, h => exact h) (fun w j z h => by
    obtain rfl : j = 4 := by omega
    exact zlong_cat hz w (Option.some.inj h))) k
theorem aw_istore6 {x0 x1 x2 x3 x4 x5 x6 : Option AV} {l : List (Option AV)} {a : Int} (hz : zlong x5 = false) (hdg : decode M.2.1 pc = .ok (.istore 6, 2)) (hq : pc + 2 = q) (hn : 6 < M.2.2.1) (k : AW Γ M F G cs ss q (x0 :: x1 :: x2 :: x3 :: x4 :: x5 :: some (vI a) :: l) st mem) : AW Γ M F G cs ss pc (x0 :: x1 :: x2 :: x3 :: x4 :: x5 :: x6 :: l) (vI a :: st) mem :=
  aw_istore_g hdg hq hn (zst_hls (n := 6) rfl (fun j w hj h => by
    match j, hj, h with
    | 0, hj, h => exact h
    | 1, hj, h => exact h
    | 2, hj, h => exact h
    | 3, hj, h => exact h
    | 4, hj, h => exact h
    | 5, hj, h => exact h
    | 6, hj, h => exact absurd rfl hj
    | j + 7, hj, h => exact h) (fun w j z h => by
    obtain rfl : j = 5 := by omega
    exact zlong_cat hz w (Option.some.inj h))) k
theorem aw_astore6 {x0 x1 x2 x3 x4 x5 x6 : Option AV} {l : List (Option AV)} {a : Nat} (hz : zlong x5 = false) (hdg : decode M.2.1 pc = .ok (.astore 6, 2)) (hq : pc + 2 = q) (hn : 6 < M.2.2.1) (k : AW Γ M F G cs ss q (x0 :: x1 :: x2 :: x3 :: x4 :: x5 :: some (vR a) :: l) st mem) : AW Γ M F G cs ss pc (x0 :: x1 :: x2 :: x3 :: x4 :: x5 :: x6 :: l) (vR a :: st) mem :=
  aw_astore_g hdg hq hn (zst_hls (n := 6) rfl (fun j w hj h => by
    match j, hj, h with
    | 0, hj, h => exact h
    | 1, hj, h => exact h
    | 2, hj, h => exact h
    | 3, hj, h => exact h
    | 4, hj, h => exact h
    | 5, hj, h => exact h
    | 6, hj, h => exact absurd rfl hj
    | j + 7, hj, h => exact h) (fun w j z h => by
    obtain rfl : j = 5 := by omega
    exact zlong_cat hz w (Option.some.inj h))) k
theorem aw_iinc6 {x0 x1 x2 x3 x4 x5 : Option AV} {l : List (Option AV)} {a d : Int} (hz : zlong x5 = false) (hdg : decode M.2.1 pc = .ok (.iinc 6 d, 3)) (hq : pc + 3 = q) (hn : 6 < M.2.2.1) (k : AW Γ M F G cs ss q (x0 :: x1 :: x2 :: x3 :: x4 :: x5 :: some (vI (a + d)) :: l) st mem) : AW Γ M F G cs ss pc (x0 :: x1 :: x2 :: x3 :: x4 :: x5 :: some (vI a) :: l) st mem :=
  aw_iinc_g hdg hq hn rfl (zst_hls (n := 6) rfl (fun j w hj h => by
    match j, hj, h with
    | 0, hj, h => exact h
    | 1, hj, h => exact h
    | 2, hj, h => exact h
    | 3, hj, h => exact h
    | 4, hj, h => exact h
    | 5, hj, h => exact h
    | 6, hj, h => exact absurd rfl hj
    | j + 7, hj, h => exact h) (fun w j z h => by
    obtain rfl : j = 5 := by omega
    exact zlong_cat hz w (Option.some.inj h))) k
theorem aw_lstore6 {x0 x1 x2 x3 x4 x5 x6 x7 : Option AV} {l : List (Option AV)} {a : Int} (hz : zlong x5 = false) (hdg : decode M.2.1 pc = .ok (.lstore 6, 2)) (hq : pc + 2 = q) (hn : 6 + 1 < M.2.2.1) (k : AW Γ M F G cs ss q (x0 :: x1 :: x2 :: x3 :: x4 :: x5 :: some (vL a) :: none :: l) st mem) : AW Γ M F G cs ss pc (x0 :: x1 :: x2 :: x3 :: x4 :: x5 :: x6 :: x7 :: l) (vL a :: st) mem :=
  aw_lstore_g hdg hq hn (zst2_hls (n := 6) rfl rfl (fun j w hj hj2 h => by
    match j, hj, hj2, h with
    | 0, hj, hj2, h => exact h
    | 1, hj, hj2, h => exact h
    | 2, hj, hj2, h => exact h
    | 3, hj, hj2, h => exact h
    | 4, hj, hj2, h => exact h
    | 5, hj, hj2, h => exact h
    | 6, hj, hj2, h => exact absurd rfl hj
    | 7, hj, hj2, h => exact absurd rfl hj2
    | j + 8, hj, hj2, h => exact h) (fun w j z h => by
    obtain rfl : j = 5 := by omega
    exact zlong_cat hz w (Option.some.inj h))) k
theorem aw_istore7 {x0 x1 x2 x3 x4 x5 x6 x7 : Option AV} {l : List (Option AV)} {a : Int} (hz : zlong x6 = false) (hdg : decode M.2.1 pc = .ok (.istore 7, 2)) (hq : pc + 2 = q) (hn : 7 < M.2.2.1) (k : AW Γ M F G cs ss q (x0 :: x1 :: x2 :: x3 :: x4 :: x5 :: x6 :: some (vI a) :: l) st mem) : AW Γ M F G cs ss pc (x0 :: x1 :: x2 :: x3 :: x4 :: x5 :: x6 :: x7 :: l) (vI a :: st) mem :=
  aw_istore_g hdg hq hn (zst_hls (n := 7) rfl (fun j w hj h => by
    match j, hj, h with
    | 0, hj, h => exact h
    | 1, hj, h => exact h
    | 2, hj, h => exact h
    | 3, hj, h => exact h
    | 4, hj, h => exact h
    | 5, hj, h => exact h
    | 6, hj, h => exact h
    | 7, hj, h => exact absurd rfl hj
    | j + 8, hj, h => exact h) (fun w j z h => by
    obtain rfl : j = 6 := by omega
    exact zlong_cat hz w (Option.some.inj h))) k
theorem aw_astore7 {x0 x1 x2 x3 x4 x5 x6 x7 : Option AV} {l : List (Option AV)} {a : Nat} (hz : zlong x6 = false) (hdg : decode M.2.1 pc = .ok (.astore 7, 2)) (hq : pc + 2 = q) (hn : 7 < M.2.2.1) (k : AW Γ M F G cs ss q (x0 :: x1 :: x2 :: x3 :: x4 :: x5 :: x6 :: some (vR a) :: l) st mem) : AW Γ M F G cs ss pc (x0 :: x1 :: x2 :: x3 :: x4 :: x5 :: x6 :: x7 :: l) (vR a :: st) mem :=
  aw_astore_g hdg hq hn (zst_hls (n := 7) rfl (fun j w hj h => by
    match j, hj, h with
    | 0, hj, h => exact h
    | 1, hj, h => exact h
    | 2, hj, h => exact h
    | 3, hj, h => exact h
    | 4, hj, h => exact h
    | 5, hj, h => exact h
    | 6, hj, h => exact h
    | 7, hj, h => exact absurd rfl hj
    | j + 8, hj, h => exact h) (fun w j z h => by
    obtain rfl : j = 6 := by omega
    exact zlong_cat hz w (Option.some.inj h))) k
theorem aw_iinc7 {x0 x1 x2 x3 x4 x5 x6 : Option AV} {l : List (Option AV)} {a d : Int} (hz : zlong x6 = false) (hdg : decode M.2.1 pc = .ok (.iinc 7 d, 3)) (hq : pc + 3 = q) (hn : 7 < M.2.2.1) (k : AW Γ M F G cs ss q (x0 :: x1 :: x2 :: x3 :: x4 :: x5 :: x6 :: some (vI (a + d)) :: l) st mem) : AW Γ M F G cs ss pc (x0 :: x1 :: x2 :: x3 :: x4 :: x5 :: x6 :: some (vI a) :: l) st mem :=
  aw_iinc_g hdg hq hn rfl (zst_hls (n := 7) rfl (fun j w hj h => by
    match j, hj, h with
    | 0, hj, h => exact h
    | 1, hj, h => exact h
    | 2, hj, h => exact h
    | 3, hj, h => exact h
    | 4, hj, h => exact h
    | 5, hj, h => exact h
    | 6, hj, h => exact h
    | 7, hj, h => exact absurd rfl hj
    | j + 8, hj, h => exact h) (fun w j z h => by
    obtain rfl : j = 6 := by omega
    exact zlong_cat hz w (Option.some.inj h))) k
theorem aw_lstore7 {x0 x1 x2 x3 x4 x5 x6 x7 x8 : Option AV} {l : List (Option AV)} {a : Int} (hz : zlong x6 = false) (hdg : decode M.2.1 pc = .ok (.lstore 7, 2)) (hq : pc + 2 = q) (hn : 7 + 1 < M.2.2.1) (k : AW Γ M F G cs ss q (x0 :: x1 :: x2 :: x3 :: x4 :: x5 :: x6 :: some (vL a) :: none :: l) st mem) : AW Γ M F G cs ss pc (x0 :: x1 :: x2 :: x3 :: x4 :: x5 :: x6 :: x7 :: x8 :: l) (vL a :: st) mem :=
  aw_lstore_g hdg hq hn (zst2_hls (n := 7) rfl rfl (fun j w hj hj2 h => by
    match j, hj, hj2, h with
    | 0, hj, hj2, h => exact h
    | 1, hj, hj2, h => exact h
    | 2, hj, hj2, h => exact h
    | 3, hj, hj2, h => exact h
    | 4, hj, hj2, h => exact h
    | 5, hj, hj2, h => exact h
    | 6, hj, hj2, h => exact h
    | 7, hj, hj2, h => exact absurd rfl hj
    | 8, hj, hj2, h => exact absurd rfl hj2
    | j + 9, hj, hj2, h => exact h) (fun w j z h => by
    obtain rfl : j = 6 := by omega
    exact zlong_cat hz w (Option.some.inj h))) k
theorem aw_istore8 {x0 x1 x2 x3 x4 x5 x6 x7 x8 : Option AV} {l : List (Option AV)} {a : Int} (hz : zlong x7 = false) (hdg : decode M.2.1 pc = .ok (.istore 8, 2)) (hq : pc + 2 = q) (hn : 8 < M.2.2.1) (k : AW Γ M F G cs ss q (x0 :: x1 :: x2 :: x3 :: x4 :: x5 :: x6 :: x7 :: some (vI a) :: l) st mem) : AW Γ M F G cs ss pc (x0 :: x1 :: x2 :: x3 :: x4 :: x5 :: x6 :: x7 :: x8 :: l) (vI a :: st) mem :=
  aw_istore_g hdg hq hn (zst_hls (n := 8) rfl (fun j w hj h => by
    match j, hj, h with
    | 0, hj, h => exact h
    | 1, hj, h => exact h
    | 2, hj, h => exact h
    | 3, hj, h => exact h
    | 4, hj, h => exact h
    | 5, hj, h => exact h
    | 6, hj, h => exact h
    | 7, hj, h => exact h
    | 8, hj, h => exact absurd rfl hj
    | j + 9, hj, h => exact h) (fun w j z h => by
    obtain rfl : j = 7 := by omega
    exact zlong_cat hz w (Option.some.inj h))) k
theorem aw_astore8 {x0 x1 x2 x3 x4 x5 x6 x7 x8 : Option AV} {l : List (Option AV)} {a : Nat} (hz : zlong x7 = false) (hdg : decode M.2.1 pc = .ok (.astore 8, 2)) (hq : pc + 2 = q) (hn : 8 < M.2.2.1) (k : AW Γ M F G cs ss q (x0 :: x1 :: x2 :: x3 :: x4 :: x5 :: x6 :: x7 :: some (vR a) :: l) st mem) : AW Γ M F G cs ss pc (x0 :: x1 :: x2 :: x3 :: x4 :: x5 :: x6 :: x7 :: x8 :: l) (vR a :: st) mem :=
  aw_astore_g hdg hq hn (zst_hls (n := 8) rfl (fun j w hj h => by
    match j, hj, h with
    | 0, hj, h => exact h
    | 1, hj, h => exact h
    | 2, hj, h => exact h
    | 3, hj, h => exact h
    | 4, hj, h => exact h
    | 5, hj, h => exact h
    | 6, hj, h => exact h
    | 7, hj, h => exact h
    | 8, hj, h => exact absurd rfl hj
    | j + 9, hj, h => exact h) (fun w j z h => by
    obtain rfl : j = 7 := by omega
    exact zlong_cat hz w (Option.some.inj h))) k
theorem aw_iinc8 {x0 x1 x2 x3 x4 x5 x6 x7 : Option AV} {l : List (Option AV)} {a d : Int} (hz : zlong x7 = false) (hdg : decode M.2.1 pc = .ok (.iinc 8 d, 3)) (hq : pc + 3 = q) (hn : 8 < M.2.2.1) (k : AW Γ M F G cs ss q (x0 :: x1 :: x2 :: x3 :: x4 :: x5 :: x6 :: x7 :: some (vI (a + d)) :: l) st mem) : AW Γ M F G cs ss pc (x0 :: x1 :: x2 :: x3 :: x4 :: x5 :: x6 :: x7 :: some (vI a) :: l) st mem :=
  aw_iinc_g hdg hq hn rfl (zst_hls (n := 8) rfl (fun j w hj h => by
    match j, hj, h with
    | 0, hj, h => exact h
    | 1, hj, h => exact h
    | 2, hj, h => exact h
    | 3, hj, h => exact h
    | 4, hj, h => exact h
    | 5, hj, h => exact h
    | 6, hj, h => exact h
    | 7, hj, h => exact h
    | 8, hj, h => exact absurd rfl hj
    | j + 9, hj, h => exact h) (fun w j z h => by
    obtain rfl : j = 7 := by omega
    exact zlong_cat hz w (Option.some.inj h))) k
theorem aw_lstore8 {x0 x1 x2 x3 x4 x5 x6 x7 x8 x9 : Option AV} {l : List (Option AV)} {a : Int} (hz : zlong x7 = false) (hdg : decode M.2.1 pc = .ok (.lstore 8, 2)) (hq : pc + 2 = q) (hn : 8 + 1 < M.2.2.1) (k : AW Γ M F G cs ss q (x0 :: x1 :: x2 :: x3 :: x4 :: x5 :: x6 :: x7 :: some (vL a) :: none :: l) st mem) : AW Γ M F G cs ss pc (x0 :: x1 :: x2 :: x3 :: x4 :: x5 :: x6 :: x7 :: x8 :: x9 :: l) (vL a :: st) mem :=
  aw_lstore_g hdg hq hn (zst2_hls (n := 8) rfl rfl (fun j w hj hj2 h => by
    match j, hj, hj2, h with
    | 0, hj, hj2, h => exact h
    | 1, hj, hj2, h => exact h
    | 2, hj, hj2, h => exact h
    | 3, hj, hj2, h => exact h
    | 4, hj, hj2, h => exact h
    | 5, hj, hj2, h => exact h
    | 6, hj, hj2, h => exact h
    | 7, hj, hj2, h => exact h
    | 8, hj, hj2, h => exact absurd rfl hj
    | 9, hj, hj2, h => exact absurd rfl hj2
    | j + 10, hj, hj2, h => exact h) (fun w j z h => by
    obtain rfl : j = 7 := by omega
    exact zlong_cat hz w (Option.some.inj h))) k
theorem aw_istore9 {x0 x1 x2 x3 x4 x5 x6 x7 x8 x9 : Option AV} {l : List (Option AV)} {a : Int} (hz : zlong x8 = false) (hdg : decode M.2.1 pc = .ok (.istore 9, 2)) (hq : pc + 2 = q) (hn : 9 < M.2.2.1) (k : AW Γ M F G cs ss q (x0 :: x1 :: x2 :: x3 :: x4 :: x5 :: x6 :: x7 :: x8 :: some (vI a) :: l) st mem) : AW Γ M F G cs ss pc (x0 :: x1 :: x2 :: x3 :: x4 :: x5 :: x6 :: x7 :: x8 :: x9 :: l) (vI a :: st) mem :=
  aw_istore_g hdg hq hn (zst_hls (n := 9) rfl (fun j w hj h => by
    match j, hj, h with
    | 0, hj, h => exact h
    | 1, hj, h => exact h
    | 2, hj, h => exact h
    | 3, hj, h => exact h
    | 4, hj, h => exact h
    | 5, hj, h => exact h
    | 6, hj, h => exact h
    | 7, hj, h => exact h
    | 8, hj, h => exact h
    | 9, hj, h => exact absurd rfl hj
    | j + 10, hj, h => exact h) (fun w j z h => by
    obtain rfl : j = 8 := by omega
    exact zlong_cat hz w (Option.some.inj h))) k
theorem aw_astore9 {x0 x1 x2 x3 x4 x5 x6 x7 x8 x9 : Option AV} {l : List (Option AV)} {a : Nat} (hz : zlong x8 = false) (hdg : decode M.2.1 pc = .ok (.astore 9, 2)) (hq : pc + 2 = q) (hn : 9 < M.2.2.1) (k : AW Γ M F G cs ss q (x0 :: x1 :: x2 :: x3 :: x4 :: x5 :: x6 :: x7 :: x8 :: some (vR a) :: l) st mem) : AW Γ M F G cs ss pc (x0 :: x1 :: x2 :: x3 :: x4 :: x5 :: x6 :: x7 :: x8 :: x9 :: l) (vR a :: st) mem :=
  aw_astore_g hdg hq hn (zst_hls (n := 9) rfl (fun j w hj h => by
    match j, hj, h with
    | 0, hj, h => exact h
    | 1, hj, h => exact h
    | 2, hj, h => exact h
    | 3, hj, h => exact h
    | 4, hj, h => exact h
    | 5, hj, h => exact h
    | 6, hj, h => exact h
    | 7, hj, h => exact h
    | 8, hj, h => exact h
    | 9, hj, h => exact absurd rfl hj
    | j + 10, hj, h => exact h) (fun w j z h => by
    obtain rfl : j = 8 := by omega
    exact zlong_cat hz w (Option.some.inj h))) k
theorem aw_iinc9 {x0 x1 x2 x3 x4 x5 x6 x7 x8 : Option AV} {l : List (Option AV)} {a d : Int} (hz : zlong x8 = false) (hdg : decode M.2.1 pc = .ok (.iinc 9 d, 3)) (hq : pc + 3 = q) (hn : 9 < M.2.2.1) (k : AW Γ M F G cs ss q (x0 :: x1 :: x2 :: x3 :: x4 :: x5 :: x6 :: x7 :: x8 :: some (vI (a + d)) :: l) st mem) : AW Γ M F G cs ss pc (x0 :: x1 :: x2 :: x3 :: x4 :: x5 :: x6 :: x7 :: x8 :: some (vI a) :: l) st mem :=
  aw_iinc_g hdg hq hn rfl (zst_hls (n := 9) rfl (fun j w hj h => by
    match j, hj, h with
    | 0, hj, h => exact h
    | 1, hj, h => exact h
    | 2, hj, h => exact h
    | 3, hj, h => exact h
    | 4, hj, h => exact h
    | 5, hj, h => exact h
    | 6, hj, h => exact h
    | 7, hj, h => exact h
    | 8, hj, h => exact h
    | 9, hj, h => exact absurd rfl hj
    | j + 10, hj, h => exact h) (fun w j z h => by
    obtain rfl : j = 8 := by omega
    exact zlong_cat hz w (Option.some.inj h))) k
theorem aw_lstore9 {x0 x1 x2 x3 x4 x5 x6 x7 x8 x9 x10 : Option AV} {l : List (Option AV)} {a : Int} (hz : zlong x8 = false) (hdg : decode M.2.1 pc = .ok (.lstore 9, 2)) (hq : pc + 2 = q) (hn : 9 + 1 < M.2.2.1) (k : AW Γ M F G cs ss q (x0 :: x1 :: x2 :: x3 :: x4 :: x5 :: x6 :: x7 :: x8 :: some (vL a) :: none :: l) st mem) : AW Γ M F G cs ss pc (x0 :: x1 :: x2 :: x3 :: x4 :: x5 :: x6 :: x7 :: x8 :: x9 :: x10 :: l) (vL a :: st) mem :=
  aw_lstore_g hdg hq hn (zst2_hls (n := 9) rfl rfl (fun j w hj hj2 h => by
    match j, hj, hj2, h with
    | 0, hj, hj2, h => exact h
    | 1, hj, hj2, h => exact h
    | 2, hj, hj2, h => exact h
    | 3, hj, hj2, h => exact h
    | 4, hj, hj2, h => exact h
    | 5, hj, hj2, h => exact h
    | 6, hj, hj2, h => exact h
    | 7, hj, hj2, h => exact h
    | 8, hj, hj2, h => exact h
    | 9, hj, hj2, h => exact absurd rfl hj
    | 10, hj, hj2, h => exact absurd rfl hj2
    | j + 11, hj, hj2, h => exact h) (fun w j z h => by
    obtain rfl : j = 8 := by omega
    exact zlong_cat hz w (Option.some.inj h))) k
theorem aw_istore10 {x0 x1 x2 x3 x4 x5 x6 x7 x8 x9 x10 : Option AV} {l : List (Option AV)} {a : Int} (hz : zlong x9 = false) (hdg : decode M.2.1 pc = .ok (.istore 10, 2)) (hq : pc + 2 = q) (hn : 10 < M.2.2.1) (k : AW Γ M F G cs ss q (x0 :: x1 :: x2 :: x3 :: x4 :: x5 :: x6 :: x7 :: x8 :: x9 :: some (vI a) :: l) st mem) : AW Γ M F G cs ss pc (x0 :: x1 :: x2 :: x3 :: x4 :: x5 :: x6 :: x7 :: x8 :: x9 :: x10 :: l) (vI a :: st) mem :=
  aw_istore_g hdg hq hn (zst_hls (n := 10) rfl (fun j w hj h => by
    match j, hj, h with
    | 0, hj, h => exact h
    | 1, hj, h => exact h
    | 2, hj, h => exact h
    | 3, hj, h => exact h
    | 4, hj, h => exact h
    | 5, hj, h => exact h
    | 6, hj, h => exact h
    | 7, hj, h => exact h
    | 8, hj, h => exact h
    | 9, hj, h => exact h
    | 10, hj, h => exact absurd rfl hj
    | j + 11, hj, h => exact h) (fun w j z h => by
    obtain rfl : j = 9 := by omega
    exact zlong_cat hz w (Option.some.inj h))) k
theorem aw_astore10 {x0 x1 x2 x3 x4 x5 x6 x7 x8 x9 x10 : Option AV} {l : List (Option AV)} {a : Nat} (hz : zlong x9 = false) (hdg : decode M.2.1 pc = .ok (.astore 10, 2)) (hq : pc + 2 = q) (hn : 10 < M.2.2.1) (k : AW Γ M F G cs ss q (x0 :: x1 :: x2 :: x3 :: x4 :: x5 :: x6 :: x7 :: x8 :: x9 :: some (vR a) :: l) st mem) : AW Γ M F G cs ss pc (x0 :: x1 :: x2 :: x3 :: x4 :: x5 :: x6 :: x7 :: x8 :: x9 :: x10 :: l) (vR a :: st) mem :=
  aw_astore_g hdg hq hn (zst_hls (n := 10) rfl (fun j w hj h => by
    match j, hj, h with
    | 0, hj, h => exact h
    | 1, hj, h => exact h
    | 2, hj, h => exact h
    | 3, hj, h => exact h
    | 4, hj, h => exact h
    | 5, hj, h => exact h
    | 6, hj, h => exact h
    | 7, hj, h => exact h
    | 8, hj, h => exact h
    | 9, hj, h => exact h
    | 10, hj, h => exact absurd rfl hj
    | j + 11, hj, h => exact h) (fun w j z h => by
    obtain rfl : j = 9 := by omega
    exact zlong_cat hz w (Option.some.inj h))) k
theorem aw_iinc10 {x0 x1 x2 x3 x4 x5 x6 x7 x8 x9 : Option AV} {l : List (Option AV)} {a d : Int} (hz : zlong x9 = false) (hdg : decode M.2.1 pc = .ok (.iinc 10 d, 3)) (hq : pc + 3 = q) (hn : 10 < M.2.2.1) (k : AW Γ M F G cs ss q (x0 :: x1 :: x2 :: x3 :: x4 :: x5 :: x6 :: x7 :: x8 :: x9 :: some (vI (a + d)) :: l) st mem) : AW Γ M F G cs ss pc (x0 :: x1 :: x2 :: x3 :: x4 :: x5 :: x6 :: x7 :: x8 :: x9 :: some (vI a) :: l) st mem :=
  aw_iinc_g hdg hq hn rfl (zst_hls (n := 10) rfl (fun j w hj h => by
    match j, hj, h with
    | 0, hj, h => exact h
    | 1, hj, h => exact h
    | 2, hj, h => exact h
    | 3, hj, h => exact h
    | 4, hj, h => exact h
    | 5, hj, h => exact h
    | 6, hj, h => exact h
    | 7, hj, h => exact h
    | 8, hj, h => exact h
    | 9, hj, h => exact h
    | 10, hj, h => exact absurd rfl hj
    | j + 11, hj, h => exact h) (fun w j z h => by
    obtain rfl : j = 9 := by omega
    exact zlong_cat hz w (Option.some.inj h))) k
theorem aw_lstore10 {x0 x1 x2 x3 x4 x5 x6 x7 x8 x9 x10 x11 : Option AV} {l : List (Option AV)} {a : Int} (hz : zlong x9 = false) (hdg : decode M.2.1 pc = .ok (.lstore 10, 2)) (hq : pc + 2 = q) (hn : 10 + 1 < M.2.2.1) (k : AW Γ M F G cs ss q (x0 :: x1 :: x2 :: x3 :: x4 :: x5 :: x6 :: x7 :: x8 :: x9 :: some (vL a) :: none :: l) st mem) : AW Γ M F G cs ss pc (x0 :: x1 :: x2 :: x3 :: x4 :: x5 :: x6 :: x7 :: x8 :: x9 :: x10 :: x11 :: l) (vL a :: st) mem :=
  aw_lstore_g hdg hq hn (zst2_hls (n := 10) rfl rfl (fun j w hj hj2 h => by
    match j, hj, hj2, h with
    | 0, hj, hj2, h => exact h
    | 1, hj, hj2, h => exact h
    | 2, hj, hj2, h => exact h
    | 3, hj, hj2, h => exact h
    | 4, hj, hj2, h => exact h
    | 5, hj, hj2, h => exact h
    | 6, hj, hj2, h => exact h
    | 7, hj, hj2, h => exact h
    | 8, hj, hj2, h => exact h
    | 9, hj, hj2, h => exact h
    | 10, hj, hj2, h => exact absurd rfl hj
    | 11, hj, hj2, h => exact absurd rfl hj2
    | j + 12, hj, hj2, h => exact h) (fun w j z h => by
    obtain rfl : j = 9 := by omega
    exact zlong_cat hz w (Option.some.inj h))) k
theorem aw_istore11 {x0 x1 x2 x3 x4 x5 x6 x7 x8 x9 x10 x11 : Option AV} {l : List (Option AV)} {a : Int} (hz : zlong x10 = false) (hdg : decode M.2.1 pc = .ok (.istore 11, 2)) (hq : pc + 2 = q) (hn : 11 < M.2.2.1) (k : AW Γ M F G cs ss q (x0 :: x1 :: x2 :: x3 :: x4 :: x5 :: x6 :: x7 :: x8 :: x9 :: x10 :: some (vI a) :: l) st mem) : AW Γ M F G cs ss pc (x0 :: x1 :: x2 :: x3 :: x4 :: x5 :: x6 :: x7 :: x8 :: x9 :: x10 :: x11 :: l) (vI a :: st) mem :=
  aw_istore_g hdg hq hn (zst_hls (n := 11) rfl (fun j w hj h => by
    match j, hj, h with
    | 0, hj, h => exact h
    | 1, hj, h => exact h
    | 2, hj, h => exact h
    | 3, hj, h => exact h
    | 4, hj, h => exact h
    | 5, hj, h => exact h
    | 6, hj, h => exact h
    | 7, hj, h => exact h
    | 8, hj, h => exact h
    | 9, hj, h => exact h
    | 10, hj, h => exact h
    | 11, hj, h => exact absurd rfl hj
    | j + 12, hj, h => exact h) (fun w j z h => by
    obtain rfl : j = 10 := by omega
    exact zlong_cat hz w (Option.some.inj h))) k
theorem aw_astore11 {x0 x1 x2 x3 x4 x5 x6 x7 x8 x9 x10 x11 : Option AV} {l : List (Option AV)} {a : Nat} (hz : zlong x10 = false) (hdg : decode M.2.1 pc = .ok (.astore 11, 2)) (hq : pc + 2 = q) (hn : 11 < M.2.2.1) (k : AW Γ M F G cs ss q (x0 :: x1 :: x2 :: x3 :: x4 :: x5 :: x6 :: x7 :: x8 :: x9 :: x10 :: some (vR a) :: l) st mem) : AW Γ M F G cs ss pc (x0 :: x1 :: x2 :: x3 :: x4 :: x5 :: x6 :: x7 :: x8 :: x9 :: x10 :: x11 :: l) (vR a :: st) mem :=
  aw_astore_g hdg hq hn (zst_hls (n := 11) rfl (fun j w hj h => by
    match j, hj, h with
    | 0, hj, h => exact h
    | 1, hj, h => exact h
    | 2, hj, h => exact h
    | 3, hj, h => exact h
    | 4, hj, h => exact h
    | 5, hj, h => exact h
    | 6, hj, h => exact h
    | 7, hj, h => exact h
    | 8, hj, h => exact h
    | 9, hj, h => exact h
    | 10, hj, h => exact h
    | 11, hj, h => exact absurd rfl hj
    | j + 12, hj, h => exact h) (fun w j z h => by
    obtain rfl : j = 10 := by omega
    exact zlong_cat hz w (Option.some.inj h))) k
theorem aw_iinc11 {x0 x1 x2 x3 x4 x5 x6 x7 x8 x9 x10 : Option AV} {l : List (Option AV)} {a d : Int} (hz : zlong x10 = false) (hdg : decode M.2.1 pc = .ok (.iinc 11 d, 3)) (hq : pc + 3 = q) (hn : 11 < M.2.2.1) (k : AW Γ M F G cs ss q (x0 :: x1 :: x2 :: x3 :: x4 :: x5 :: x6 :: x7 :: x8 :: x9 :: x10 :: some (vI (a + d)) :: l) st mem) : AW Γ M F G cs ss pc (x0 :: x1 :: x2 :: x3 :: x4 :: x5 :: x6 :: x7 :: x8 :: x9 :: x10 :: some (vI a) :: l) st mem :=
  aw_iinc_g hdg hq hn rfl (zst_hls (n := 11) rfl (fun j w hj h => by
    match j, hj, h with
    | 0, hj, h => exact h
    | 1, hj, h => exact h
    | 2, hj, h => exact h
    | 3, hj, h => exact h
    | 4, hj, h => exact h
    | 5, hj, h => exact h
    | 6, hj, h => exact h
    | 7, hj, h => exact h
    | 8, hj, h => exact h
    | 9, hj, h => exact h
    | 10, hj, h => exact h
    | 11, hj, h => exact absurd rfl hj
    | j + 12, hj, h => exact h) (fun w j z h => by
    obtain rfl : j = 10 := by omega
    exact zlong_cat hz w (Option.some.inj h))) k
theorem aw_lstore11 {x0 x1 x2 x3 x4 x5 x6 x7 x8 x9 x10 x11 x12 : Option AV} {l : List (Option AV)} {a : Int} (hz : zlong x10 = false) (hdg : decode M.2.1 pc = .ok (.lstore 11, 2)) (hq : pc + 2 = q) (hn : 11 + 1 < M.2.2.1) (k : AW Γ M F G cs ss q (x0 :: x1 :: x2 :: x3 :: x4 :: x5 :: x6 :: x7 :: x8 :: x9 :: x10 :: some (vL a) :: none :: l) st mem) : AW Γ M F G cs ss pc (x0 :: x1 :: x2 :: x3 :: x4 :: x5 :: x6 :: x7 :: x8 :: x9 :: x10 :: x11 :: x12 :: l) (vL a :: st) mem :=
  aw_lstore_g hdg hq hn (zst2_hls (n := 11) rfl rfl (fun j w hj hj2 h => by
    match j, hj, hj2, h with
    | 0, hj, hj2, h => exact h
    | 1, hj, hj2, h => exact h
    | 2, hj, hj2, h => exact h
    | 3, hj, hj2, h => exact h
    | 4, hj, hj2, h => exact h
    | 5, hj, hj2, h => exact h
    | 6, hj, hj2, h => exact h
    | 7, hj, hj2, h => exact h
    | 8, hj, hj2, h => exact h
    | 9, hj, hj2, h => exact h
    | 10, hj, hj2, h => exact h
    | 11, hj, hj2, h => exact absurd rfl hj
    | 12, hj, hj2, h => exact absurd rfl hj2
    | j + 13, hj, hj2, h => exact h) (fun w j z h => by
    obtain rfl : j = 10 := by omega
    exact zlong_cat hz w (Option.some.inj h))) k
theorem aw_istore12 {x0 x1 x2 x3 x4 x5 x6 x7 x8 x9 x10 x11 x12 : Option AV} {l : List (Option AV)} {a : Int} (hz : zlong x11 = false) (hdg : decode M.2.1 pc = .ok (.istore 12, 2)) (hq : pc + 2 = q) (hn : 12 < M.2.2.1) (k : AW Γ M F G cs ss q (x0 :: x1 :: x2 :: x3 :: x4 :: x5 :: x6 :: x7 :: x8 :: x9 :: x10 :: x11 :: some (vI a) :: l) st mem) : AW Γ M F G cs ss pc (x0 :: x1 :: x2 :: x3 :: x4 :: x5 :: x6 :: x7 :: x8 :: x9 :: x10 :: x11 :: x12 :: l) (vI a :: st) mem :=
  aw_istore_g hdg hq hn (zst_hls (n := 12) rfl (fun j w hj h => by
    match j, hj, h with
    | 0, hj, h => exact h
    | 1, hj, h => exact h
    | 2, hj, h => exact h
    | 3, hj, h => exact h
    | 4, hj, h => exact h
    | 5, hj, h => exact h
    | 6, hj, h => exact h
    | 7, hj, h => exact h
    | 8, hj, h => exact h
    | 9, hj, h => exact h
    | 10, hj, h => exact h
    | 11, hj, h => exact h
    | 12, hj, h => exact absurd rfl hj
    | j + 13, hj, h => exact h) (fun w j z h => by
    obtain rfl : j = 11 := by omega
    exact zlong_cat hz w (Option.some.inj h))) k
theorem aw_astore12 {x0 x1 x2 x3 x4 x5 x6 x7 x8 x9 x10 x11 x12 : Option AV} {l : List (Option AV)} {a : Nat} (hz : zlong x11 = false) (hdg : decode M.2.1 pc = .ok (.astore 12, 2)) (hq : pc + 2 = q) (hn : 12 < M.2.2.1) (k : AW Γ M F G cs ss q (x0 :: x1 :: x2 :: x3 :: x4 :: x5 :: x6 :: x7 :: x8 :: x9 :: x10 :: x11 :: some (vR a) :: l) st mem) : AW Γ M F G cs ss pc (x0 :: x1 :: x2 :: x3 :: x4 :: x5 :: x6 :: x7 :: x8 :: x9 :: x10 :: x11 :: x12 :: l) (vR a :: st) mem :=
  aw_astore_g hdg hq hn (zst_hls (n := 12) rfl (fun j w hj h => by
    match j, hj, h with
    | 0, hj, h => exact h
    | 1, hj, h => exact h
    | 2, hj, h => exact h
    | 3, hj, h => exact h
    | 4, hj, h => exact h
    | 5, hj, h => exact h
    | 6, hj, h => exact h
    | 7, hj, h => exact h
    | 8, hj, h => exact h
    | 9, hj, h => exact h
    | 10, hj, h => exact h
    | 11, hj, h => exact h
    | 12, hj, h => exact absurd rfl hj
    | j + 13, hj, h => exact h) (fun w j z h => by
    obtain rfl : j = 11 := by omega
    exact zlong_cat hz w (Option.some.inj h))) k
theorem aw_iinc12 {x0 x1 x2 x3 x4 x5 x6 x7 x8 x9 x10 x11 : Option AV} {l : List (Option AV)} {a d : Int} (hz : zlong x11 = false) (hdg : decode M.2.1 pc = .ok (.iinc 12 d, 3)) (hq : pc + 3 = q) (hn : 12 < M.2.2.1) (k : AW Γ M F G cs ss q (x0 :: x1 :: x2 :: x3 :: x4 :: x5 :: x6 :: x7 :: x8 :: x9 :: x10 :: x11 :: some (vI (a + d)) :: l) st mem) : AW Γ M F G cs ss pc (x0 :: x1 :: x2 :: x3 :: x4 :: x5 :: x6 :: x7 :: x8 :: x9 :: x10 :: x11 :: some (vI a) :: l) st mem :=
  aw_iinc_g hdg hq hn rfl (zst_hls (n := 12) rfl (fun j w hj h => by
    match j, hj, h with
    | 0, hj, h => exact h
    | 1, hj, h => exact h
    | 2, hj, h => exact h
    | 3, hj, h => exact h
    | 4, hj, h => exact h
    | 5, hj, h => exact h
    | 6, hj, h => exact h
    | 7, hj, h => exact h
    | 8, hj, h => exact h
    | 9, hj, h => exact h
    | 10, hj, h => exact h
    | 11, hj, h => exact h
    | 12, hj, h => exact absurd rfl hj
    | j + 13, hj, h => exact h) (fun w j z h => by
    obtain rfl : j = 11 := by omega
    exact zlong_cat hz w (Option.some.inj h))) k
theorem aw_lstore12 {x0 x1 x2 x3 x4 x5 x6 x7 x8 x9 x10 x11 x12 x13 : Option AV} {l : List (Option AV)} {a : Int} (hz : zlong x11 = false) (hdg : decode M.2.1 pc = .ok (.lstore 12, 2)) (hq : pc + 2 = q) (hn : 12 + 1 < M.2.2.1) (k : AW Γ M F G cs ss q (x0 :: x1 :: x2 :: x3 :: x4 :: x5 :: x6 :: x7 :: x8 :: x9 :: x10 :: x11 :: some (vL a) :: none :: l) st mem) : AW Γ M F G cs ss pc (x0 :: x1 :: x2 :: x3 :: x4 :: x5 :: x6 :: x7 :: x8 :: x9 :: x10 :: x11 :: x12 :: x13 :: l) (vL a :: st) mem :=
  aw_lstore_g hdg hq hn (zst2_hls (n := 12) rfl rfl (fun j w hj hj2 h => by
    match j, hj, hj2, h with
    | 0, hj, hj2, h => exact h
    | 1, hj, hj2, h => exact h
    | 2, hj, hj2, h => exact h
    | 3, hj, hj2, h => exact h
    | 4, hj, hj2, h => exact h
    | 5, hj, hj2, h => exact h
    | 6, hj, hj2, h => exact h
    | 7, hj, hj2, h => exact h
    | 8, hj, hj2, h => exact h
    | 9, hj, hj2, h => exact h
    | 10, hj, hj2, h => exact h
    | 11, hj, hj2, h => exact h
    | 12, hj, hj2, h => exact absurd rfl hj
    | 13, hj, hj2, h => exact absurd rfl hj2
    | j + 14, hj, hj2, h => exact h) (fun w j z h => by
    obtain rfl : j = 11 := by omega
    exact zlong_cat hz w (Option.some.inj h))) k
theorem aw_dup {v : AV} (hdg : decode M.2.1 pc = .ok (.dup, 1)) (hq : pc + 1 = q) (hv : zcat v = 1) (k : AW Γ M F G cs ss q ls (v :: v :: st) mem) : AW Γ M F G cs ss pc ls (v :: st) mem := by
  subst hq
  exact AW.pure (fun p e s m args below meth c H locs lsC Qf hC hL kk => lv_dup hC.1 hC.2.1 hdg (by rw [cv_cat]; exact hv) kk) k
theorem aw_pop {v : AV} (hdg : decode M.2.1 pc = .ok (.pop, 1)) (hq : pc + 1 = q) (hv : zcat v = 1) (k : AW Γ M F G cs ss q ls st mem) : AW Γ M F G cs ss pc ls (v :: st) mem := by
  subst hq
  exact AW.pure (fun p e s m args below meth c H locs lsC Qf hC hL kk => lv_pop hC.1 hC.2.1 hdg (by rw [cv_cat]; exact hv) kk) k
theorem aw_dup2 {v w : AV} (hdg : decode M.2.1 pc = .ok (.dup2, 1)) (hq : pc + 1 = q) (hv : zcat v = 1) (hw : zcat w = 1) (k : AW Γ M F G cs ss q ls (v :: w :: v :: w :: st) mem) : AW Γ M F G cs ss pc ls (v :: w :: st) mem := by
  subst hq
  exact AW.pure (fun p e s m args below meth c H locs lsC Qf hC hL kk => lv_dup2_11 hC.1 hC.2.1 hdg (by rw [cv_cat]; exact hv) (by rw [cv_cat]; exact hw) kk) k
theorem aw_iadd {a b : Int} (hdg : decode M.2.1 pc = .ok (.iadd, 1)) (hq : pc + 1 = q) (k : AW Γ M F G cs ss q ls (vI (a + b) :: st) mem) : AW Γ M F G cs ss pc ls (vI b :: vI a :: st) mem := by
  subst hq
  exact AW.pure (fun p e s m args below meth c H locs lsC Qf hC hL kk => lv_iadd hC.1 hC.2.1 hdg (by rw [← Int32.ofInt_add]; exact kk)) k
theorem aw_isub {a b : Int} (hdg : decode M.2.1 pc = .ok (.isub, 1)) (hq : pc + 1 = q) (k : AW Γ M F G cs ss q ls (vI (a - b) :: st) mem) : AW Γ M F G cs ss pc ls (vI b :: vI a :: st) mem := by
  subst hq
  exact AW.pure (fun p e s m args below meth c H locs lsC Qf hC hL kk => lv_isub hC.1 hC.2.1 hdg (by rw [← Int32.ofInt_sub]; exact kk)) k
theorem aw_imul {a b : Int} (hdg : decode M.2.1 pc = .ok (.imul, 1)) (hq : pc + 1 = q) (k : AW Γ M F G cs ss q ls (vI (a * b) :: st) mem) : AW Γ M F G cs ss pc ls (vI b :: vI a :: st) mem := by
  subst hq
  exact AW.pure (fun p e s m args below meth c H locs lsC Qf hC hL kk => lv_imul hC.1 hC.2.1 hdg (by rw [← Int32.ofInt_mul]; exact kk)) k
theorem aw_ladd {a b : Int} (hdg : decode M.2.1 pc = .ok (.ladd, 1)) (hq : pc + 1 = q) (k : AW Γ M F G cs ss q ls (vL (a + b) :: st) mem) : AW Γ M F G cs ss pc ls (vL b :: vL a :: st) mem := by
  subst hq
  exact AW.pure (fun p e s m args below meth c H locs lsC Qf hC hL kk => lv_ladd hC.1 hC.2.1 hdg (by rw [← Int64.ofInt_add]; exact kk)) k
theorem aw_lmul {a b : Int} (hdg : decode M.2.1 pc = .ok (.lmul, 1)) (hq : pc + 1 = q) (k : AW Γ M F G cs ss q ls (vL (a * b) :: st) mem) : AW Γ M F G cs ss pc ls (vL b :: vL a :: st) mem := by
  subst hq
  exact AW.pure (fun p e s m args below meth c H locs lsC Qf hC hL kk => lv_lmul hC.1 hC.2.1 hdg (by rw [← Int64.ofInt_mul]; exact kk)) k
theorem aw_lsub {a b : Int} (hdg : decode M.2.1 pc = .ok (.lsub, 1)) (hq : pc + 1 = q) (k : AW Γ M F G cs ss q ls (vL (a - b) :: st) mem) : AW Γ M F G cs ss pc ls (vL b :: vL a :: st) mem := by
  subst hq
  exact AW.pure (fun p e s m args below meth c H locs lsC Qf hC hL kk => lv_lsub hC.1 hC.2.1 hdg (by rw [← Int64.ofInt_sub]; exact kk)) k
theorem aw_ineg {a : Int} (hdg : decode M.2.1 pc = .ok (.ineg, 1)) (hq : pc + 1 = q) (k : AW Γ M F G cs ss q ls (vI (0 - a) :: st) mem) : AW Γ M F G cs ss pc ls (vI a :: st) mem := by
  subst hq
  exact AW.pure (fun p e s m args below meth c H locs lsC Qf hC hL kk => lv_ineg hC.1 hC.2.1 hdg (by first | exact kk | (rw [show (0 : Int32) - Int32.ofInt a = Int32.ofInt (0 - a) by rw [Int32.ofInt_sub]; rfl]; exact kk) | (rw [show - Int32.ofInt a = Int32.ofInt (0 - a) by rw [Int32.ofInt_sub]; simp]; exact kk))) k
theorem zdiv32 {a b : Int} (ha : 0 ≤ a ∧ a ≤ 2147483647) (hb : 0 < b ∧ b ≤ 2147483647) : Int32.ofInt a / Int32.ofInt b = Int32.ofInt (a / b) := by
  have e1 : Int32.minValue.toInt = -2147483648 := by decide
  have e2 : Int32.maxValue.toInt = 2147483647 := by decide
  rw [← Int.tdiv_eq_ediv_of_nonneg ha.1, Int32.ofInt_tdiv (by omega) (by omega) (by omega) (by omega)]
theorem zdiv64 {a b : Int} (ha : 0 ≤ a ∧ a ≤ 9223372036854775807) (hb : 0 < b ∧ b ≤ 9223372036854775807) : Int64.ofInt a / Int64.ofInt b = Int64.ofInt (a / b) := by
  have e1 : Int64.minValue.toInt = -9223372036854775808 := by decide
  have e2 : Int64.maxValue.toInt = 9223372036854775807 := by decide
  rw [← Int.tdiv_eq_ediv_of_nonneg ha.1, Int64.ofInt_tdiv (by omega) (by omega) (by omega) (by omega)]
theorem zne32 {b : Int} (hb : 0 < b ∧ b ≤ 2147483647) : ¬ Int32.ofInt b = 0 := by
  intro h
  have := (zeq (a := b) (b := 0) (by omega) (by omega)).mp h
  omega
theorem zne64 {b : Int} (hb : 0 < b ∧ b ≤ 9223372036854775807) : ¬ Int64.ofInt b = 0 := by
  intro h
  have h1 : (Int64.ofInt b).toInt = 0 := by rw [h]; rfl
  rw [z64 (by omega)] at h1
  omega
theorem aw_idiv {a b : Int} (hdg : decode M.2.1 pc = .ok (.idiv, 1)) (hq : pc + 1 = q) (ha : 0 ≤ a ∧ a ≤ 2147483647) (hb : 0 < b ∧ b ≤ 2147483647) (k : AW Γ M F G cs ss q ls (vI (a / b) :: st) mem) : AW Γ M F G cs ss pc ls (vI b :: vI a :: st) mem := by
  subst hq
  exact AW.pure (fun p e s m args below meth c H locs lsC Qf hC hL kk => lv_idiv hC.1 hC.2.1 hdg (zne32 hb) (by rw [zdiv32 ha hb]; exact kk)) k
theorem aw_irem {a b : Int} (hdg : decode M.2.1 pc = .ok (.irem, 1)) (hq : pc + 1 = q) (ha : 0 ≤ a ∧ a ≤ 2147483647) (hb : 0 < b ∧ b ≤ 2147483647) (k : AW Γ M F G cs ss q ls (vI (a % b) :: st) mem) : AW Γ M F G cs ss pc ls (vI b :: vI a :: st) mem := by
  subst hq
  refine AW.pure (fun p e s m args below meth c H locs lsC Qf hC hL kk => lv_irem hC.1 hC.2.1 hdg (zne32 hb) ?_) k
  rw [zdiv32 ha hb, ← Int32.ofInt_mul, ← Int32.ofInt_sub, Int.mul_comm (a / b) b, ← Int.emod_def]
  exact kk
theorem aw_ldiv {a b : Int} (hdg : decode M.2.1 pc = .ok (.ldiv, 1)) (hq : pc + 1 = q) (ha : 0 ≤ a ∧ a ≤ 9223372036854775807) (hb : 0 < b ∧ b ≤ 9223372036854775807) (k : AW Γ M F G cs ss q ls (vL (a / b) :: st) mem) : AW Γ M F G cs ss pc ls (vL b :: vL a :: st) mem := by
  subst hq
  exact AW.pure (fun p e s m args below meth c H locs lsC Qf hC hL kk => lv_ldiv hC.1 hC.2.1 hdg (zne64 hb) (by rw [zdiv64 ha hb]; exact kk)) k
theorem aw_lrem {a b : Int} (hdg : decode M.2.1 pc = .ok (.lrem, 1)) (hq : pc + 1 = q) (ha : 0 ≤ a ∧ a ≤ 9223372036854775807) (hb : 0 < b ∧ b ≤ 9223372036854775807) (k : AW Γ M F G cs ss q ls (vL (a % b) :: st) mem) : AW Γ M F G cs ss pc ls (vL b :: vL a :: st) mem := by
  subst hq
  refine AW.pure (fun p e s m args below meth c H locs lsC Qf hC hL kk => lv_lrem hC.1 hC.2.1 hdg (zne64 hb) ?_) k
  rw [zdiv64 ha hb, ← Int64.ofInt_mul, ← Int64.ofInt_sub, Int.mul_comm (a / b) b, ← Int.emod_def]
  exact kk
def zand (a b : Int) : Int := (Int32.ofInt a &&& Int32.ofInt b).toInt
def zor (a b : Int) : Int := (Int32.ofInt a ||| Int32.ofInt b).toInt
def zxor (a b : Int) : Int := (Int32.ofInt a ^^^ Int32.ofInt b).toInt
def zshl (a b : Int) : Int := (Int32.ofInt a <<< (Int32.ofInt b &&& 31)).toInt
def zshr (a b : Int) : Int := (Int32.ofInt a >>> (Int32.ofInt b &&& 31)).toInt
def zushr (a b : Int) : Int := ((Int32.ofInt a).toUInt32 >>> ((Int32.ofInt b).toUInt32 &&& Int32.toUInt32 31)).toInt32.toInt
def zi2b (a : Int) : Int := (Int32.ofInt a).toInt8.toInt32.toInt
def zi2s (a : Int) : Int := (Int32.ofInt a).toInt16.toInt32.toInt
theorem aw_iand {a b : Int} (hdg : decode M.2.1 pc = .ok (.iand, 1)) (hq : pc + 1 = q) (k : AW Γ M F G cs ss q ls (vI (zand a b) :: st) mem) : AW Γ M F G cs ss pc ls (vI b :: vI a :: st) mem := by
  subst hq
  refine AW.pure (fun p e s m args below meth c H locs lsC Qf hC hL kk => lv_iand hC.1 hC.2.1 hdg ?_) k
  simp only [List.map_cons, cv, zand, Int32.ofInt_toInt] at kk
  exact kk
theorem aw_ior {a b : Int} (hdg : decode M.2.1 pc = .ok (.ior, 1)) (hq : pc + 1 = q) (k : AW Γ M F G cs ss q ls (vI (zor a b) :: st) mem) : AW Γ M F G cs ss pc ls (vI b :: vI a :: st) mem := by
  subst hq
  refine AW.pure (fun p e s m args below meth c H locs lsC Qf hC hL kk => lv_ior hC.1 hC.2.1 hdg ?_) k
  simp only [List.map_cons, cv, zor, Int32.ofInt_toInt] at kk
  exact kk
theorem aw_ixor {a b : Int} (hdg : decode M.2.1 pc = .ok (.ixor, 1)) (hq : pc + 1 = q) (k : AW Γ M F G cs ss q ls (vI (zxor a b) :: st) mem) : AW Γ M F G cs ss pc ls (vI b :: vI a :: st) mem := by
  subst hq
  refine AW.pure (fun p e s m args below meth c H locs lsC Qf hC hL kk => lv_ixor hC.1 hC.2.1 hdg ?_) k
  simp only [List.map_cons, cv, zxor, Int32.ofInt_toInt] at kk
  exact kk
theorem aw_ishl {a b : Int} (hdg : decode M.2.1 pc = .ok (.ishl, 1)) (hq : pc + 1 = q) (k : AW Γ M F G cs ss q ls (vI (zshl a b) :: st) mem) : AW Γ M F G cs ss pc ls (vI b :: vI a :: st) mem := by
  subst hq
  refine AW.pure (fun p e s m args below meth c H locs lsC Qf hC hL kk => lv_ishl hC.1 hC.2.1 hdg ?_) k
  simp only [List.map_cons, cv, zshl, Int32.ofInt_toInt] at kk
  exact kk
theorem aw_ishr {a b : Int} (hdg : decode M.2.1 pc = .ok (.ishr, 1)) (hq : pc + 1 = q) (k : AW Γ M F G cs ss q ls (vI (zshr a b) :: st) mem) : AW Γ M F G cs ss pc ls (vI b :: vI a :: st) mem := by
  subst hq
  refine AW.pure (fun p e s m args below meth c H locs lsC Qf hC hL kk => lv_ishr hC.1 hC.2.1 hdg ?_) k
  simp only [List.map_cons, cv, zshr, Int32.ofInt_toInt] at kk
  exact kk
theorem aw_iushr {a b : Int} (hdg : decode M.2.1 pc = .ok (.iushr, 1)) (hq : pc + 1 = q) (k : AW Γ M F G cs ss q ls (vI (zushr a b) :: st) mem) : AW Γ M F G cs ss pc ls (vI b :: vI a :: st) mem := by
  subst hq
  refine AW.pure (fun p e s m args below meth c H locs lsC Qf hC hL kk => lv_iushr hC.1 hC.2.1 hdg rfl ?_) k
  simp only [List.map_cons, cv, zushr, Int32.ofInt_toInt] at kk
  exact kk
theorem aw_i2b {a : Int} (hdg : decode M.2.1 pc = .ok (.i2b, 1)) (hq : pc + 1 = q) (k : AW Γ M F G cs ss q ls (vI (zi2b a) :: st) mem) : AW Γ M F G cs ss pc ls (vI a :: st) mem := by
  subst hq
  refine AW.pure (fun p e s m args below meth c H locs lsC Qf hC hL kk => lv_i2b hC.1 hC.2.1 hdg rfl ?_) k
  simp only [List.map_cons, cv, zi2b, Int32.ofInt_toInt] at kk
  exact kk
theorem aw_i2s {a : Int} (hdg : decode M.2.1 pc = .ok (.i2s, 1)) (hq : pc + 1 = q) (k : AW Γ M F G cs ss q ls (vI (zi2s a) :: st) mem) : AW Γ M F G cs ss pc ls (vI a :: st) mem := by
  subst hq
  refine AW.pure (fun p e s m args below meth c H locs lsC Qf hC hL kk => lv_i2s hC.1 hC.2.1 hdg rfl ?_) k
  simp only [List.map_cons, cv, zi2s, Int32.ofInt_toInt] at kk
  exact kk
theorem aw_i2l {a : Int} (hdg : decode M.2.1 pc = .ok (.i2l, 1)) (hq : pc + 1 = q) (ha : -2147483648 ≤ a ∧ a ≤ 2147483647) (k : AW Γ M F G cs ss q ls (vL a :: st) mem) : AW Γ M F G cs ss pc ls (vI a :: st) mem := by
  subst hq
  have e1 : Int32.minValue.toInt = -2147483648 := by decide
  have e2 : Int32.maxValue.toInt = 2147483647 := by decide
  exact AW.pure (fun p e s m args below meth c H locs lsC Qf hC hL kk => lv_i2l hC.1 hC.2.1 hdg (Int32.toInt64_ofInt (by omega) (by omega)) kk) k
theorem zcmp {a b : Int} (ha : -9223372036854775808 ≤ a ∧ a ≤ 9223372036854775807) (hb : -9223372036854775808 ≤ b ∧ b ≤ 9223372036854775807) : lg_cmp (Int64.ofInt a) (Int64.ofInt b) = Int32.ofInt (if b < a then 1 else if a = b then 0 else -1) := by
  have h1 : Int64.ofInt a > Int64.ofInt b ↔ b < a := by
    show Int64.ofInt b < Int64.ofInt a ↔ b < a
    rw [Int64.lt_iff_toInt_lt, z64 ha, z64 hb]
  have h2 : Int64.ofInt a = Int64.ofInt b ↔ a = b := by rw [← Int64.toInt_inj, z64 ha, z64 hb]
  unfold lg_cmp
  by_cases c1 : b < a
  · rw [if_pos (h1.mpr c1), if_pos c1]; rfl
  · rw [if_neg (fun z => c1 (h1.mp z)), if_neg c1]
    by_cases c2 : a = b
    · rw [if_pos (h2.mpr c2), if_pos c2]; rfl
    · rw [if_neg (fun z => c2 (h2.mp z)), if_neg c2]; rfl
theorem aw_lcmp {a b : Int} (hdg : decode M.2.1 pc = .ok (.lcmp, 1)) (hq : pc + 1 = q) (ha : -9223372036854775808 ≤ a ∧ a ≤ 9223372036854775807) (hb : -9223372036854775808 ≤ b ∧ b ≤ 9223372036854775807) (k : AW Γ M F G cs ss q ls (vI (if b < a then 1 else if a = b then 0 else -1) :: st) mem) : AW Γ M F G cs ss pc ls (vL b :: vL a :: st) mem := by
  subst hq
  exact AW.pure (fun p e s m args below meth c H locs lsC Qf hC hL kk => W.lcmp hC.1 hC.2.1 hdg (by rw [zcmp ha hb]; exact kk)) k
theorem aw_icmp_eq {a b off : Int} {tgt : Nat} (hdg : decode M.2.1 pc = .ok (.if_icmp .eq off, 3)) (ht : (pc : Int) + off = (tgt : Int)) (hq : pc + 3 = q) (ha : -2147483648 ≤ a ∧ a ≤ 2147483647) (hb : -2147483648 ≤ b ∧ b ≤ 2147483647) (kt : a = b → AW Γ M F G cs ss tgt ls st mem) (kf : ¬ (a = b) → AW Γ M F G cs ss q ls st mem) : AW Γ M F G cs ss pc ls (vI b :: vI a :: st) mem := by
  subst hq
  intro p e s m args below meth c H locs A lsC hC hK hX hA hP hD hS hL
  exact lv_icmp_eq hC.1 hC.2.1 hdg ht (fun h => kt ((zeq ha hb).mp h) p e s m args below meth c H locs A lsC hC hK hX hA hP hD hS hL) (fun h => kf (fun h' => h ((zeq ha hb).mpr h')) p e s m args below meth c H locs A lsC hC hK hX hA hP hD hS hL)
theorem aw_icmp_ne {a b off : Int} {tgt : Nat} (hdg : decode M.2.1 pc = .ok (.if_icmp .ne off, 3)) (ht : (pc : Int) + off = (tgt : Int)) (hq : pc + 3 = q) (ha : -2147483648 ≤ a ∧ a ≤ 2147483647) (hb : -2147483648 ≤ b ∧ b ≤ 2147483647) (kt : ¬ a = b → AW Γ M F G cs ss tgt ls st mem) (kf : a = b → AW Γ M F G cs ss q ls st mem) : AW Γ M F G cs ss pc ls (vI b :: vI a :: st) mem := by
  subst hq
  intro p e s m args below meth c H locs A lsC hC hK hX hA hP hD hS hL
  exact lv_icmp_ne hC.1 hC.2.1 hdg ht (fun h => kt ((not_congr (zeq ha hb)).mp h) p e s m args below meth c H locs A lsC hC hK hX hA hP hD hS hL) (fun h => kf ((zeq ha hb).mp h) p e s m args below meth c H locs A lsC hC hK hX hA hP hD hS hL)
theorem aw_icmp_lt {a b off : Int} {tgt : Nat} (hdg : decode M.2.1 pc = .ok (.if_icmp .lt off, 3)) (ht : (pc : Int) + off = (tgt : Int)) (hq : pc + 3 = q) (ha : -2147483648 ≤ a ∧ a ≤ 2147483647) (hb : -2147483648 ≤ b ∧ b ≤ 2147483647) (kt : a < b → AW Γ M F G cs ss tgt ls st mem) (kf : ¬ (a < b) → AW Γ M F G cs ss q ls st mem) : AW Γ M F G cs ss pc ls (vI b :: vI a :: st) mem := by
  subst hq
  intro p e s m args below meth c H locs A lsC hC hK hX hA hP hD hS hL
  exact lv_icmp_lt hC.1 hC.2.1 hdg ht (fun h => kt ((zlt ha hb).mp h) p e s m args below meth c H locs A lsC hC hK hX hA hP hD hS hL) (fun h => kf (fun h' => h ((zlt ha hb).mpr h')) p e s m args below meth c H locs A lsC hC hK hX hA hP hD hS hL)
theorem aw_icmp_ge {a b off : Int} {tgt : Nat} (hdg : decode M.2.1 pc = .ok (.if_icmp .ge off, 3)) (ht : (pc : Int) + off = (tgt : Int)) (hq : pc + 3 = q) (ha : -2147483648 ≤ a ∧ a ≤ 2147483647) (hb : -2147483648 ≤ b ∧ b ≤ 2147483647) (kt : b ≤ a → AW Γ M F G cs ss tgt ls st mem) (kf : ¬ (b ≤ a) → AW Γ M F G cs ss q ls st mem) : AW Γ M F G cs ss pc ls (vI b :: vI a :: st) mem := by
  subst hq
  intro p e s m args below meth c H locs A lsC hC hK hX hA hP hD hS hL
  exact lv_icmp_ge hC.1 hC.2.1 hdg ht (fun h => kt ((zle hb ha).mp h) p e s m args below meth c H locs A lsC hC hK hX hA hP hD hS hL) (fun h => kf (fun h' => h ((zle hb ha).mpr h')) p e s m args below meth c H locs A lsC hC hK hX hA hP hD hS hL)
theorem aw_icmp_gt {a b off : Int} {tgt : Nat} (hdg : decode M.2.1 pc = .ok (.if_icmp .gt off, 3)) (ht : (pc : Int) + off = (tgt : Int)) (hq : pc + 3 = q) (ha : -2147483648 ≤ a ∧ a ≤ 2147483647) (hb : -2147483648 ≤ b ∧ b ≤ 2147483647) (kt : b < a → AW Γ M F G cs ss tgt ls st mem) (kf : ¬ (b < a) → AW Γ M F G cs ss q ls st mem) : AW Γ M F G cs ss pc ls (vI b :: vI a :: st) mem := by
  subst hq
  intro p e s m args below meth c H locs A lsC hC hK hX hA hP hD hS hL
  exact lv_icmp_gt hC.1 hC.2.1 hdg ht (fun h => kt ((zlt hb ha).mp h) p e s m args below meth c H locs A lsC hC hK hX hA hP hD hS hL) (fun h => kf (fun h' => h ((zlt hb ha).mpr h')) p e s m args below meth c H locs A lsC hC hK hX hA hP hD hS hL)
theorem aw_icmp_le {a b off : Int} {tgt : Nat} (hdg : decode M.2.1 pc = .ok (.if_icmp .le off, 3)) (ht : (pc : Int) + off = (tgt : Int)) (hq : pc + 3 = q) (ha : -2147483648 ≤ a ∧ a ≤ 2147483647) (hb : -2147483648 ≤ b ∧ b ≤ 2147483647) (kt : a ≤ b → AW Γ M F G cs ss tgt ls st mem) (kf : ¬ (a ≤ b) → AW Γ M F G cs ss q ls st mem) : AW Γ M F G cs ss pc ls (vI b :: vI a :: st) mem := by
  subst hq
  intro p e s m args below meth c H locs A lsC hC hK hX hA hP hD hS hL
  exact lv_icmp_le hC.1 hC.2.1 hdg ht (fun h => kt ((zle ha hb).mp h) p e s m args below meth c H locs A lsC hC hK hX hA hP hD hS hL) (fun h => kf (fun h' => h ((zle ha hb).mpr h')) p e s m args below meth c H locs A lsC hC hK hX hA hP hD hS hL)
theorem aw_if_eq {a off : Int} {tgt : Nat} (hdg : decode M.2.1 pc = .ok (.ifCond .eq off, 3)) (ht : (pc : Int) + off = (tgt : Int)) (hq : pc + 3 = q) (ha : -2147483648 ≤ a ∧ a ≤ 2147483647) (kt : a = 0 → AW Γ M F G cs ss tgt ls st mem) (kf : ¬ (a = 0) → AW Γ M F G cs ss q ls st mem) : AW Γ M F G cs ss pc ls (vI a :: st) mem := by
  subst hq
  intro p e s m args below meth c H locs A lsC hC hK hX hA hP hD hS hL
  exact lv_if_eq hC.1 hC.2.1 hdg ht (fun h => kt ((zeq (a := a) (b := 0) ha (by omega)).mp h) p e s m args below meth c H locs A lsC hC hK hX hA hP hD hS hL) (fun h => kf (fun h' => h ((zeq (a := a) (b := 0) ha (by omega)).mpr h')) p e s m args below meth c H locs A lsC hC hK hX hA hP hD hS hL)
theorem aw_if_ne {a off : Int} {tgt : Nat} (hdg : decode M.2.1 pc = .ok (.ifCond .ne off, 3)) (ht : (pc : Int) + off = (tgt : Int)) (hq : pc + 3 = q) (ha : -2147483648 ≤ a ∧ a ≤ 2147483647) (kt : ¬ a = 0 → AW Γ M F G cs ss tgt ls st mem) (kf : a = 0 → AW Γ M F G cs ss q ls st mem) : AW Γ M F G cs ss pc ls (vI a :: st) mem := by
  subst hq
  intro p e s m args below meth c H locs A lsC hC hK hX hA hP hD hS hL
  exact lv_if_ne hC.1 hC.2.1 hdg ht (fun h => kt ((not_congr (zeq (a := a) (b := 0) ha (by omega))).mp h) p e s m args below meth c H locs A lsC hC hK hX hA hP hD hS hL) (fun h => kf ((zeq (a := a) (b := 0) ha (by omega)).mp h) p e s m args below meth c H locs A lsC hC hK hX hA hP hD hS hL)
theorem aw_if_lt {a off : Int} {tgt : Nat} (hdg : decode M.2.1 pc = .ok (.ifCond .lt off, 3)) (ht : (pc : Int) + off = (tgt : Int)) (hq : pc + 3 = q) (ha : -2147483648 ≤ a ∧ a ≤ 2147483647) (kt : a < 0 → AW Γ M F G cs ss tgt ls st mem) (kf : ¬ (a < 0) → AW Γ M F G cs ss q ls st mem) : AW Γ M F G cs ss pc ls (vI a :: st) mem := by
  subst hq
  intro p e s m args below meth c H locs A lsC hC hK hX hA hP hD hS hL
  exact lv_if_lt hC.1 hC.2.1 hdg ht (fun h => kt ((zlt (a := a) (b := 0) ha (by omega)).mp h) p e s m args below meth c H locs A lsC hC hK hX hA hP hD hS hL) (fun h => kf (fun h' => h ((zlt (a := a) (b := 0) ha (by omega)).mpr h')) p e s m args below meth c H locs A lsC hC hK hX hA hP hD hS hL)
theorem aw_if_ge {a off : Int} {tgt : Nat} (hdg : decode M.2.1 pc = .ok (.ifCond .ge off, 3)) (ht : (pc : Int) + off = (tgt : Int)) (hq : pc + 3 = q) (ha : -2147483648 ≤ a ∧ a ≤ 2147483647) (kt : 0 ≤ a → AW Γ M F G cs ss tgt ls st mem) (kf : ¬ (0 ≤ a) → AW Γ M F G cs ss q ls st mem) : AW Γ M F G cs ss pc ls (vI a :: st) mem := by
  subst hq
  intro p e s m args below meth c H locs A lsC hC hK hX hA hP hD hS hL
  exact lv_if_ge hC.1 hC.2.1 hdg ht (fun h => kt ((zle (a := 0) (b := a) (by omega) ha).mp h) p e s m args below meth c H locs A lsC hC hK hX hA hP hD hS hL) (fun h => kf (fun h' => h ((zle (a := 0) (b := a) (by omega) ha).mpr h')) p e s m args below meth c H locs A lsC hC hK hX hA hP hD hS hL)
theorem aw_if_gt {a off : Int} {tgt : Nat} (hdg : decode M.2.1 pc = .ok (.ifCond .gt off, 3)) (ht : (pc : Int) + off = (tgt : Int)) (hq : pc + 3 = q) (ha : -2147483648 ≤ a ∧ a ≤ 2147483647) (kt : 0 < a → AW Γ M F G cs ss tgt ls st mem) (kf : ¬ (0 < a) → AW Γ M F G cs ss q ls st mem) : AW Γ M F G cs ss pc ls (vI a :: st) mem := by
  subst hq
  intro p e s m args below meth c H locs A lsC hC hK hX hA hP hD hS hL
  exact lv_if_gt hC.1 hC.2.1 hdg ht (fun h => kt ((zlt (a := 0) (b := a) (by omega) ha).mp h) p e s m args below meth c H locs A lsC hC hK hX hA hP hD hS hL) (fun h => kf (fun h' => h ((zlt (a := 0) (b := a) (by omega) ha).mpr h')) p e s m args below meth c H locs A lsC hC hK hX hA hP hD hS hL)
theorem aw_if_le {a off : Int} {tgt : Nat} (hdg : decode M.2.1 pc = .ok (.ifCond .le off, 3)) (ht : (pc : Int) + off = (tgt : Int)) (hq : pc + 3 = q) (ha : -2147483648 ≤ a ∧ a ≤ 2147483647) (kt : a ≤ 0 → AW Γ M F G cs ss tgt ls st mem) (kf : ¬ (a ≤ 0) → AW Γ M F G cs ss q ls st mem) : AW Γ M F G cs ss pc ls (vI a :: st) mem := by
  subst hq
  intro p e s m args below meth c H locs A lsC hC hK hX hA hP hD hS hL
  exact lv_if_le hC.1 hC.2.1 hdg ht (fun h => kt ((zle (a := a) (b := 0) ha (by omega)).mp h) p e s m args below meth c H locs A lsC hC hK hX hA hP hD hS hL) (fun h => kf (fun h' => h ((zle (a := a) (b := 0) ha (by omega)).mpr h')) p e s m args below meth c H locs A lsC hC hK hX hA hP hD hS hL)
theorem aw_goto {off : Int} {tgt : Nat} (hdg : decode M.2.1 pc = .ok (.goto off, 3)) (ht : (pc : Int) + off = (tgt : Int)) (k : AW Γ M F G cs ss tgt ls st mem) : AW Γ M F G cs ss pc ls st mem :=
  AW.pure (fun p e s m args below meth c H locs lsC Qf hC hL kk => lv_goto hC.1 hC.2.1 hdg ht kk) k
/-- a tableswitch: the offset by the value -/
theorem aw_tswitch {a dflt lo hi : Int} {offs : Array Int} {len tgt : Nat} (hdg : decode M.2.1 pc = .ok (.tableswitch dflt lo hi offs, len)) (ha : -2147483648 ≤ a ∧ a ≤ 2147483647) (hin : lo ≤ a ∧ a ≤ hi) {off : Int} (ho : offs[(a - lo).toNat]? = some off) (ht : (pc : Int) + off = (tgt : Int)) (k : AW Γ M F G cs ss tgt ls st mem) : AW Γ M F G cs ss pc ls (vI a :: st) mem :=
  AW.pure (fun p e s m args below meth c H locs lsC Qf hC hL kk => lv_tableIn hC.1 hC.2.1 hdg (by rw [z32 ha]; omega) (by rw [z32 ha]; omega) (by rw [z32 ha]; exact ho) ht kk) k
theorem aw_tswitchD {a dflt lo hi : Int} {offs : Array Int} {len tgt : Nat} (hdg : decode M.2.1 pc = .ok (.tableswitch dflt lo hi offs, len)) (ha : -2147483648 ≤ a ∧ a ≤ 2147483647) (hin : a < lo ∨ hi < a) (ht : (pc : Int) + dflt = (tgt : Int)) (k : AW Γ M F G cs ss tgt ls st mem) : AW Γ M F G cs ss pc ls (vI a :: st) mem :=
  AW.pure (fun p e s m args below meth c H locs lsC Qf hC hL kk => lv_tableOut hC.1 hC.2.1 hdg (by rw [z32 ha]; exact hin) ht kk) k
theorem aw_lookup {a dflt off : Int} {ps : Array (Int × Int)} {len tgt : Nat} (hdg : decode M.2.1 pc = .ok (.lookupswitch dflt ps, len)) (ha : -2147483648 ≤ a ∧ a ≤ 2147483647) (hp : (ps.toList.zip (ps.toList.drop 1)).all (fun (a, next) => a.1 < next.1) = true) (ho : Op.lookupswitch.offset ps.toList dflt a = off) (ht : (pc : Int) + off = (tgt : Int)) (k : AW Γ M F G cs ss tgt ls st mem) : AW Γ M F G cs ss pc ls (vI a :: st) mem :=
  AW.pure (fun p e s m args below meth c H locs lsC Qf hC hL kk => lv_lookup hC.1 hC.2.1 hdg hp (by rw [z32 ha]; exact ho) ht kk) k
/-- a tableswitch, all its ways -/
theorem aw_tsw {a dflt lo hi : Int} {offs : Array Int} {len tgt : Nat} (hdg : decode M.2.1 pc = .ok (.tableswitch dflt lo hi offs, len)) (ha : -2147483648 ≤ a ∧ a ≤ 2147483647) (hsz : (offs.size : Int) = hi - lo + 1) (ht : (pc : Int) + dflt = (tgt : Int)) (kd : a < lo ∨ hi < a → AW Γ M F G cs ss tgt ls st mem) (ks : ∀ (j : Nat) (off : Int), offs[j]? = some off → a = lo + j → ∀ t : Nat, (pc : Int) + off = (t : Int) → 0 ≤ (pc : Int) + off → AW Γ M F G cs ss t ls st mem) (hpos : ∀ o ∈ offs.toList, 0 ≤ (pc : Int) + o) : AW Γ M F G cs ss pc ls (vI a :: st) mem := by
  by_cases h : lo ≤ a ∧ a ≤ hi
  · have hj : (a - lo).toNat < offs.size := by omega
    have ho : offs[(a - lo).toNat]? = some offs[(a - lo).toNat] := Array.getElem?_eq_getElem hj
    have hp := hpos offs[(a - lo).toNat] (by simp)
    obtain ⟨t, ht2⟩ : ∃ t : Nat, (pc : Int) + offs[(a - lo).toNat] = (t : Int) := ⟨((pc : Int) + offs[(a - lo).toNat]).toNat, by omega⟩
    exact aw_tswitch hdg ha h ho ht2 (ks _ _ ho (by omega) t ht2 hp)
  · exact aw_tswitchD hdg ha (by omega) ht (kd (by omega))
/-- a lookupswitch with two keys -/
theorem aw_look2 {a dflt k1 o1 k2 o2 : Int} {len t1 t2 t3 : Nat} (hdg : decode M.2.1 pc = .ok (.lookupswitch dflt #[(k1, o1), (k2, o2)], len)) (ha : -2147483648 ≤ a ∧ a ≤ 2147483647) (hk : k1 < k2) (h1 : (pc : Int) + o1 = (t1 : Int)) (h2 : (pc : Int) + o2 = (t2 : Int)) (h3 : (pc : Int) + dflt = (t3 : Int)) (c1 : a = k1 → AW Γ M F G cs ss t1 ls st mem) (c2 : a = k2 → AW Γ M F G cs ss t2 ls st mem) (c3 : a ≠ k1 → a ≠ k2 → AW Γ M F G cs ss t3 ls st mem) : AW Γ M F G cs ss pc ls (vI a :: st) mem := by
  have hp : ((#[(k1, o1), (k2, o2)] : Array (Int × Int)).toList.zip ((#[(k1, o1), (k2, o2)] : Array (Int × Int)).toList.drop 1)).all (fun (a, next) => a.1 < next.1) = true := by simp [hk]
  by_cases e1 : a = k1
  · exact aw_lookup hdg ha hp (by simp [Op.lookupswitch.offset, e1]) h1 (c1 e1)
  · by_cases e2 : a = k2
    · have : ¬ k2 = k1 := by omega
      exact aw_lookup hdg ha hp (by simp [Op.lookupswitch.offset, e2, this, Ne.symm this]) h2 (c2 e2)
    · exact aw_lookup hdg ha hp (by simp [Op.lookupswitch.offset, e1, e2, Ne.symm e1, Ne.symm e2]) h3 (c3 e1 e2)
end ZR
