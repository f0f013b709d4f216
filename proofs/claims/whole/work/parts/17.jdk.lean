section ZJdk
variable {Γ : ZG} {M : ZM} {F : ZF} {G : List GK} {cs ss pc q : Nat} {ls : List (Option AV)} {st : List AV} {mem : Mem}
theorem zm_i : Cond.initialized "java/lang/Math" ∈ zT := zin 62 (by decide +kernel) rfl
theorem zm_maxS : Cond.static Lib.Math.max.name ∈ zT := zin 574 (by decide +kernel) rfl
theorem zm_maxC : Cond.code Lib.Math.max.name Lib.Math.max.code 2 (some .int) ∈ zT := zin 575 (by decide +kernel) rfl
theorem zm_minS : Cond.static Lib.Math.min.name ∈ zT := zin 486 (by decide +kernel) rfl
theorem zm_minC : Cond.code Lib.Math.min.name Lib.Math.min.code 2 (some .int) ∈ zT := zin 487 (by decide +kernel) rfl
theorem zm_absS : Cond.static Lib.Math.abs.name ∈ zT := zin 977 (by decide +kernel) rfl
theorem zm_absC : Cond.code Lib.Math.abs.name Lib.Math.abs.code 1 (some .int) ∈ zT := zin 978 (by decide +kernel) rfl
theorem clm_X1_31 : Cond.methodLink RX1 31 Lib.Math.min.name ∈ zT := zin 948 (by decide +kernel) rfl
theorem clm_X2_68 : Cond.methodLink RX2 68 Lib.Math.min.name ∈ zT := zin 787 (by decide +kernel) rfl
theorem clm_X2_77 : Cond.methodLink RX2 77 Lib.Math.max.name ∈ zT := zin 800 (by decide +kernel) rfl
theorem clm_X3_86 : Cond.methodLink RX3 86 Lib.Math.max.name ∈ zT := zin 891 (by decide +kernel) rfl
theorem clm_X4_21 : Cond.methodLink RX4 21 Lib.Math.abs.name ∈ zT := zin 976 (by decide +kernel) rfl
theorem clm_X5_163 : Cond.methodLink RX5 163 Lib.Math.max.name ∈ zT := zin 573 (by decide +kernel) rfl
theorem clm_X7_37 : Cond.methodLink RX7 37 Lib.Math.min.name ∈ zT := zin 772 (by decide +kernel) rfl
theorem clm_X8_44 : Cond.methodLink RX8 44 Lib.Math.min.name ∈ zT := zin 485 (by decide +kernel) rfl
theorem clm_X9_61 : Cond.methodLink RX9 61 Lib.Math.min.name ∈ zT := zin 857 (by decide +kernel) rfl
theorem clm_X9_66 : Cond.methodLink RX9 66 Lib.Math.max.name ∈ zT := zin 858 (by decide +kernel) rfl
theorem aw_max {idx : Nat} {a b : Int} (hdg : decode M.2.1 pc = .ok (.invokestatic idx, 3)) (hq : pc + 3 = q) (hl : Cond.methodLink M.1.cls idx Lib.Math.max.name ∈ zT) (hfr : 1 ≤ M.2.2.2.2.frames) (hlo : (st.map zcat).sum + 13 ≤ M.2.2.2.2.locals) (hcs : cs ≤ M.2.2.2.2.cells ∧ ss ≤ M.2.2.2.2.slots) (ha : -2147483648 ≤ a ∧ a ≤ 2147483647) (hb : -2147483648 ≤ b ∧ b ≤ 2147483647) (k : AW Γ M F G cs ss q ls (vI (max a b) :: st) mem) : AW Γ M F G cs ss pc ls (vI b :: vI a :: st) mem := by
  subst hq
  intro p e s m args below meth c H locs A lsC hC hK hX hA hP hD hS hL
  have hts := hC.2.2.2.2.2.1
  have kk := k p e s m args below meth c H locs A lsC hC hK hX hA hP hD hS hL
  refine va_mmax hC.1 hC.2.1 (hC.2.2.1.trans hL.1.symm) hC.2.2.2.2.1 (hts _ hl) (hts _ zm_maxS) (hts _ zm_i) (hts _ zm_maxC) hfr (by rw [zcat_sum]; exact hlo) hcs.1 hcs.2 hdg ?_
  have e2 : (if Int32.ofInt a < Int32.ofInt b then Int32.ofInt b else Int32.ofInt a) = Int32.ofInt (max a b) := by
    by_cases h : a < b
    · rw [if_pos ((zlt ha hb).mpr h), show max a b = b by omega]
    · rw [if_neg (fun z => h ((zlt ha hb).mp z)), show max a b = a by omega]
  rw [e2]
  exact kk
theorem aw_min {idx : Nat} {a b : Int} (hdg : decode M.2.1 pc = .ok (.invokestatic idx, 3)) (hq : pc + 3 = q) (hl : Cond.methodLink M.1.cls idx Lib.Math.min.name ∈ zT) (hfr : 1 ≤ M.2.2.2.2.frames) (hlo : (st.map zcat).sum + 13 ≤ M.2.2.2.2.locals) (hcs : cs ≤ M.2.2.2.2.cells ∧ ss ≤ M.2.2.2.2.slots) (ha : -2147483648 ≤ a ∧ a ≤ 2147483647) (hb : -2147483648 ≤ b ∧ b ≤ 2147483647) (k : AW Γ M F G cs ss q ls (vI (min a b) :: st) mem) : AW Γ M F G cs ss pc ls (vI b :: vI a :: st) mem := by
  subst hq
  intro p e s m args below meth c H locs A lsC hC hK hX hA hP hD hS hL
  have hts := hC.2.2.2.2.2.1
  have kk := k p e s m args below meth c H locs A lsC hC hK hX hA hP hD hS hL
  refine va_mmin hC.1 hC.2.1 (hC.2.2.1.trans hL.1.symm) hC.2.2.2.2.1 (hts _ hl) (hts _ zm_minS) (hts _ zm_i) (hts _ zm_minC) hfr (by rw [zcat_sum]; exact hlo) hcs.1 hcs.2 hdg ?_
  have e2 : (if Int32.ofInt b < Int32.ofInt a then Int32.ofInt b else Int32.ofInt a) = Int32.ofInt (min a b) := by
    by_cases h : b < a
    · rw [if_pos ((zlt hb ha).mpr h), show min a b = b by omega]
    · rw [if_neg (fun z => h ((zlt hb ha).mp z)), show min a b = a by omega]
  rw [e2]
  exact kk
theorem aw_abs {idx : Nat} {a : Int} (hdg : decode M.2.1 pc = .ok (.invokestatic idx, 3)) (hq : pc + 3 = q) (hl : Cond.methodLink M.1.cls idx Lib.Math.abs.name ∈ zT) (hfr : 1 ≤ M.2.2.2.2.frames) (hlo : (st.map zcat).sum + 13 ≤ M.2.2.2.2.locals) (hcs : cs ≤ M.2.2.2.2.cells ∧ ss ≤ M.2.2.2.2.slots) (ha : -2147483647 ≤ a ∧ a ≤ 2147483647) (k : AW Γ M F G cs ss q ls (vI (if 0 ≤ a then a else 0 - a) :: st) mem) : AW Γ M F G cs ss pc ls (vI a :: st) mem := by
  subst hq
  intro p e s m args below meth c H locs A lsC hC hK hX hA hP hD hS hL
  have hts := hC.2.2.2.2.2.1
  have kk := k p e s m args below meth c H locs A lsC hC hK hX hA hP hD hS hL
  refine va_mabs hC.1 hC.2.1 (hC.2.2.1.trans hL.1.symm) hC.2.2.2.2.1 (hts _ hl) (hts _ zm_absS) (hts _ zm_i) (hts _ zm_absC) hfr (by rw [zcat_sum]; exact hlo) hcs.1 hcs.2 hdg ?_
  have e2 : (if 0 ≤ Int32.ofInt a then Int32.ofInt a else 0 - Int32.ofInt a) = Int32.ofInt (if 0 ≤ a then a else 0 - a) := by
    have z0 : (0 : Int32) = Int32.ofInt 0 := rfl
    rw [z0]
    by_cases h : 0 ≤ a
    · rw [if_pos ((zle (a := 0) (b := a) (by omega) (by omega)).mpr h), if_pos h]
    · rw [if_neg (fun z => h ((zle (a := 0) (b := a) (by omega) (by omega)).mp z)), if_neg h, Int32.ofInt_sub]
  rw [e2]
  exact kk
end ZJdk
