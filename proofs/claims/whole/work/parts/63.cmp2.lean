/-- what lies outside a stretch of cells stays -/
def FrI (m' m : Mem) (lo hi : Nat) : Prop := ∀ d : Nat, d < lo ∨ hi ≤ d → m' d = m d
theorem FrI.rf {m : Mem} {lo hi : Nat} : FrI m m lo hi := fun _ _ => rfl
theorem FrI.tr {m m1 m2 : Mem} {lo hi : Nat} (h : FrI m2 m1 lo hi) (h1 : FrI m1 m lo hi) : FrI m2 m lo hi := fun d hd => (h d hd).trans (h1 d hd)
theorem FrI.set {m' m : Mem} {lo hi c : Nat} {k v : Int} (h : FrI m' m lo hi) (hc : lo ≤ c ∧ c < hi) : FrI (mset m' c k v) m lo hi := fun d hd => by rw [mset_eq, mcell_ne (by omega)]; exact h d hd
theorem FrI.cell {m' m : Mem} {lo hi c : Nat} {g : Int → Int} (h : FrI m' m lo hi) (hc : lo ≤ c ∧ c < hi) : FrI (mcell m' c g) m lo hi := fun d hd => by rw [mcell_ne (by omega)]; exact h d hd
theorem FrI.wd {m' m : Mem} {lo hi lo' hi' : Nat} (h : FrI m' m lo hi) (h1 : lo' ≤ lo) (h2 : hi ≤ hi') : FrI m' m lo' hi' := fun d hd => h d (by omega)
theorem zshr_d {v d : Int} (hv : 0 ≤ v ∧ v ≤ 127) (hd : d = 0 ∨ d = 1 ∨ d = 2) : zshr v d = if d = 0 then v else if d = 1 then v / 2 else v / 4 := by
  have h : ∀ v : Fin 128, zshr (v.val : Int) 0 = v.val ∧ zshr (v.val : Int) 1 = (v.val : Int) / 2 ∧ zshr (v.val : Int) 2 = (v.val : Int) / 4 := by decide +kernel
  have hz := h ⟨v.toNat, by omega⟩
  have e : ((v.toNat : Nat) : Int) = v := by omega
  dsimp only at hz
  rw [e] at hz
  rcases hd with rfl | rfl | rfl
  · rw [if_pos rfl]; exact hz.1
  · rw [if_neg (by decide), if_pos rfl]; exact hz.2.1
  · rw [if_neg (by decide), if_neg (by decide)]; exact hz.2.2
section ZCmp2
variable {Γ : ZG} {mem : Mem} {Q : Option AV → Mem → Prop} {c : Nat}
theorem sC_fill {G : List GK} {n : Nat} {v : Int} (hG : G[c]? = some (.inl (.int, n))) (hn : n < 1000) (k : Q none (mcell mem c (fun i => if 0 ≤ i ∧ i < n then v else mem c i))) : AMet Γ mJ7_fill_53178 [vR c, vI v] G mem Q := by
  have loop : ∀ (d : Nat) (i : Int), i + d = n → 0 ≤ i → AW Γ mJ7_fill_53178 (zF Γ G Q) G 0 0 5 [some (vR c), some (vI v), some (vI i), some (vI n)] [] (mcell mem c (fun j => if 0 ≤ j ∧ j < i then v else mem c j)) := by
    intro d
    induction d with
    | zero =>
      intro i hi h0
      refine aw_iload_n dJ7_fill_53178_5 rfl rfl ?_
      refine aw_iload_n dJ7_fill_53178_6 rfl rfl ?_
      refine aw_icmp_ge (tgt := 20) dJ7_fill_53178_7 (by decide) rfl (by omega) (by omega) (fun c7 => ?_) (fun c7 => ?_)
      · refine aw_return dJ7_fill_53178_20 rfl ?_
        exact q_eq k rfl (by rw [show i = n by omega])
      · exfalso; omega
    | succ d ih =>
      intro i hi h0
      refine aw_iload_n dJ7_fill_53178_5 rfl rfl ?_
      refine aw_iload_n dJ7_fill_53178_6 rfl rfl ?_
      refine aw_icmp_ge (tgt := 20) dJ7_fill_53178_7 (by decide) rfl (by omega) (by omega) (fun c7 => ?_) (fun c7 => ?_)
      · exfalso; omega
      · refine aw_aload_n dJ7_fill_53178_10 rfl rfl ?_
        refine aw_iload_n dJ7_fill_53178_11 rfl rfl ?_
        refine aw_iload_n dJ7_fill_53178_12 rfl rfl ?_
        refine aw_iastore dJ7_fill_53178_13 rfl hG (by omega) (by omega) ?_
        rw [mset_mcell, show fset (fun j => if 0 ≤ j ∧ j < i then v else mem c j) i v = (fun j => if 0 ≤ j ∧ j < i + 1 then v else mem c j) from funext (fun x => by unfold fset; dsimp only; (repeat' split) <;> first | rfl | omega)]
        refine aw_iinc2 rfl dJ7_fill_53178_14 rfl (by decide) ?_
        refine aw_goto (tgt := 5) dJ7_fill_53178_17 (by decide) ?_
        exact ih (i + 1) (by omega) (by omega)
  refine AMet.of' 2 (ls := [some (vR (c)), some (vI (v)), none, none]) (by decide) rfl (Nat.le_of_ble_eq_true rfl) ?_
  refine aw_iconst dJ7_fill_53178_0 rfl ?_
  refine aw_istore2 rfl dJ7_fill_53178_1 rfl (by decide) ?_
  refine aw_aload_n dJ7_fill_53178_2 rfl rfl ?_
  refine aw_alenI dJ7_fill_53178_3 rfl (by first | assumption | rfl) ?_
  refine aw_istore3 rfl dJ7_fill_53178_4 rfl (by decide) ?_
  have l0 := loop n 0 (by omega) (by omega)
  rw [show (fun j => if 0 ≤ j ∧ j < (0 : Int) then v else mem c j) = mem c from funext (fun x => if_neg (by omega)), mcell_self] at l0
  exact l0
theorem sC_placeCount (hG : FiG zG c) (k : Q (some (vI (3 * mem c 0))) mem) : AMet Γ mX2_placeCount [vR c] zG mem Q := by
  obtain ⟨g0, g1, g2, g3, g4⟩ := hG
  refine AMet.of' 0 (ls := [some (vR (c))]) (by decide) rfl (Nat.le_of_ble_eq_true rfl) ?_
  refine aw_iconst dX2_placeCount_0 rfl ?_
  refine aw_aload_n dX2_placeCount_1 rfl rfl ?_
  refine aw_getI (kI := 0) dX2_placeCount_2 rfl fl_X2_24 (by first | assumption | rfl) (by rfl) rfl ?_
  refine aw_imul dX2_placeCount_5 rfl ?_
  refine aw_ireturn (ty := .int) dX2_placeCount_6 rfl rfl ?_
  exact k
theorem sC_hasCell {x : Int} (hG : FiG zG c) (hn : 3 ≤ mem c 0 ∧ mem c 0 ≤ 8) (hx : -2147483648 ≤ x ∧ x ≤ 2147483647) (k1 : 0 ≤ x ∧ x < mem c 0 → Q (some (vI 1)) mem) (k0 : ¬ (0 ≤ x ∧ x < mem c 0) → Q (some (vI 0)) mem) : AMet Γ mX2_hasCell [vR c, vI x] zG mem Q := by
  obtain ⟨g0, g1, g2, g3, g4⟩ := hG
  refine AMet.of' 0 (ls := [some (vR (c)), some (vI (x))]) (by decide) rfl (Nat.le_of_ble_eq_true rfl) ?_
  refine aw_iload_n dX2_hasCell_0 rfl rfl ?_
  refine aw_if_lt (tgt := 16) dX2_hasCell_1 (by decide) rfl (by omega) (fun c1 => ?_) (fun c1 => ?_)
  · refine aw_iconst dX2_hasCell_16 rfl ?_
    refine aw_ireturn (ty := .boolean) dX2_hasCell_17 rfl (znarZ (by omega)).1 ?_
    first | exact k0 (by omega) | exact k1 (by omega)
  · refine aw_iload_n dX2_hasCell_4 rfl rfl ?_
    refine aw_aload_n dX2_hasCell_5 rfl rfl ?_
    refine aw_getI (kI := 0) dX2_hasCell_6 rfl fl_X2_24 (by first | assumption | rfl) (by rfl) rfl ?_
    refine aw_icmp_ge (tgt := 16) dX2_hasCell_9 (by decide) rfl (by omega) (by omega) (fun c9 => ?_) (fun c9 => ?_)
    · refine aw_iconst dX2_hasCell_16 rfl ?_
      refine aw_ireturn (ty := .boolean) dX2_hasCell_17 rfl (znarZ (by omega)).1 ?_
      first | exact k0 (by omega) | exact k1 (by omega)
    · refine aw_iconst dX2_hasCell_12 rfl ?_
      refine aw_goto (tgt := 17) dX2_hasCell_13 (by decide) ?_
      refine aw_ireturn (ty := .boolean) dX2_hasCell_17 rfl (znarZ (by omega)).1 ?_
      first | exact k0 (by omega) | exact k1 (by omega)
theorem sC_hasPlace {x : Int} (hG : FiG zG c) (hn : 3 ≤ mem c 0 ∧ mem c 0 ≤ 8) (hx : -2147483648 ≤ x ∧ x ≤ 2147483647) (k1 : 0 ≤ x ∧ x < 3 * mem c 0 → Q (some (vI 1)) mem) (k0 : ¬ (0 ≤ x ∧ x < 3 * mem c 0) → Q (some (vI 0)) mem) : AMet Γ mX2_hasPlace [vR c, vI x] zG mem Q := by
  have hG' := hG
  obtain ⟨g0, g1, g2, g3, g4⟩ := hG
  refine AMet.of' 0 (ls := [some (vR (c)), some (vI (x))]) (by decide) rfl (Nat.le_of_ble_eq_true rfl) ?_
  refine aw_iload_n dX2_hasPlace_0 rfl rfl ?_
  refine aw_if_lt (tgt := 16) dX2_hasPlace_1 (by decide) rfl (by omega) (fun c1 => ?_) (fun c1 => ?_)
  · refine aw_iconst dX2_hasPlace_16 rfl ?_
    refine aw_ireturn (ty := .boolean) dX2_hasPlace_17 rfl (znarZ (by omega)).1 ?_
    first | exact k0 (by omega) | exact k1 (by omega)
  · refine aw_iload_n dX2_hasPlace_4 rfl rfl ?_
    refine aw_aload_n dX2_hasPlace_5 rfl rfl ?_
    refine aw_callV [] _ dX2_hasPlace_6 rfl clv_X2_49 (by decide) ⟨Nat.zero_le _, Nat.zero_le _⟩ (by first | assumption | rfl) (by rfl) (Nat.le_of_ble_eq_true rfl) rfl ?_
    refine sC_placeCount hG' ?_
    refine aw_icmp_ge (tgt := 16) dX2_hasPlace_9 (by decide) rfl (by omega) (by omega) (fun c9 => ?_) (fun c9 => ?_)
    · refine aw_iconst dX2_hasPlace_16 rfl ?_
      refine aw_ireturn (ty := .boolean) dX2_hasPlace_17 rfl (znarZ (by omega)).1 ?_
      first | exact k0 (by omega) | exact k1 (by omega)
    · refine aw_iconst dX2_hasPlace_12 rfl ?_
      refine aw_goto (tgt := 17) dX2_hasPlace_13 (by decide) ?_
      refine aw_ireturn (ty := .boolean) dX2_hasPlace_17 rfl (znarZ (by omega)).1 ?_
      first | exact k0 (by omega) | exact k1 (by omega)
theorem sC_heatAt {x : Int} (hG : FiG zG c) (hn : 3 ≤ mem c 0 ∧ mem c 0 ≤ 8) (hx : -2147483648 ≤ x ∧ x ≤ 2147483647) (k : Q (some (vI (if 0 ≤ x ∧ x < 3 * mem c 0 then mem (c + 1) x else 0))) mem) : AMet Γ mX2_heatAt [vR c, vI x] zG mem Q := by
  have hG' := hG
  obtain ⟨g0, g1, g2, g3, g4⟩ := hG
  refine AMet.of' 0 (ls := [some (vR (c)), some (vI (x))]) (by decide) rfl (Nat.le_of_ble_eq_true rfl) ?_
  refine aw_aload_n dX2_heatAt_0 rfl rfl ?_
  refine aw_iload_n dX2_heatAt_1 rfl rfl ?_
  refine aw_callV [_] _ dX2_heatAt_2 rfl clv_X2_53 (by decide) ⟨Nat.zero_le _, Nat.zero_le _⟩ (by first | assumption | rfl) (by rfl) (Nat.le_of_ble_eq_true rfl) rfl ?_
  refine sC_hasPlace hG' hn hx (fun c2 => ?_) (fun c2 => ?_)
  · refine aw_if_eq (tgt := 17) dX2_heatAt_5 (by decide) rfl (by omega) (fun c => absurd c (by decide)) (fun _ => ?_)
    refine aw_aload_n dX2_heatAt_8 rfl rfl ?_
    refine aw_getR dX2_heatAt_9 rfl fl_X2_9 (by first | assumption | rfl) (by rfl) ?_
    refine aw_iload_n dX2_heatAt_12 rfl rfl ?_
    refine aw_iaload dX2_heatAt_13 rfl (by first | assumption | rfl) (by decide) (by omega) ?_
    refine aw_goto (tgt := 18) dX2_heatAt_14 (by decide) ?_
    refine aw_ireturn (ty := .int) dX2_heatAt_18 rfl rfl ?_
    first | (rw [if_pos c2] at k; exact k) | (rw [if_neg c2] at k; exact k)
  · refine aw_if_eq (tgt := 17) dX2_heatAt_5 (by decide) rfl (by omega) (fun _ => ?_) (fun c => absurd c (by decide))
    refine aw_iconst dX2_heatAt_17 rfl ?_
    refine aw_ireturn (ty := .int) dX2_heatAt_18 rfl rfl ?_
    first | (rw [if_pos c2] at k; exact k) | (rw [if_neg c2] at k; exact k)
theorem sC_isRimPlace {x : Int} (hG : FiG zG c) (hn : 3 ≤ mem c 0 ∧ mem c 0 ≤ 8) (hx : 0 ≤ x ∧ x ≤ 2147483647) (k1 : (x / 3 = 0 ∨ x / 3 = mem c 0 - 1) → Q (some (vI 1)) mem) (k0 : ¬ (x / 3 = 0 ∨ x / 3 = mem c 0 - 1) → Q (some (vI 0)) mem) : AMet Γ mX2_isRimPlace [vR c, vI x] zG mem Q := by
  obtain ⟨g0, g1, g2, g3, g4⟩ := hG
  refine AMet.of' 0 (ls := [some (vR (c)), some (vI (x))]) (by decide) rfl (Nat.le_of_ble_eq_true rfl) ?_
  refine aw_iload_n dX2_isRimPlace_0 rfl rfl ?_
  refine aw_iconst dX2_isRimPlace_1 rfl ?_
  refine aw_idiv dX2_isRimPlace_2 rfl (by omega) (by omega) ?_
  refine aw_if_eq (tgt := 18) dX2_isRimPlace_3 (by decide) rfl (by omega) (fun c3 => ?_) (fun c3 => ?_)
  · refine aw_iconst dX2_isRimPlace_18 rfl ?_
    refine aw_goto (tgt := 23) dX2_isRimPlace_19 (by decide) ?_
    refine aw_ireturn (ty := .boolean) dX2_isRimPlace_23 rfl (znarZ (by omega)).1 ?_
    first | exact k0 (by omega) | exact k1 (by omega)
  · refine aw_iload_n dX2_isRimPlace_6 rfl rfl ?_
    refine aw_iconst dX2_isRimPlace_7 rfl ?_
    refine aw_idiv dX2_isRimPlace_8 rfl (by omega) (by omega) ?_
    refine aw_aload_n dX2_isRimPlace_9 rfl rfl ?_
    refine aw_getI (kI := 0) dX2_isRimPlace_10 rfl fl_X2_24 (by first | assumption | rfl) (by rfl) rfl ?_
    refine aw_iconst dX2_isRimPlace_13 rfl ?_
    refine aw_isub dX2_isRimPlace_14 rfl ?_
    refine aw_icmp_ne (tgt := 22) dX2_isRimPlace_15 (by decide) rfl (by omega) (by omega) (fun c15 => ?_) (fun c15 => ?_)
    · refine aw_iconst dX2_isRimPlace_22 rfl ?_
      refine aw_ireturn (ty := .boolean) dX2_isRimPlace_23 rfl (znarZ (by omega)).1 ?_
      first | exact k0 (by omega) | exact k1 (by omega)
    · refine aw_iconst dX2_isRimPlace_18 rfl ?_
      refine aw_goto (tgt := 23) dX2_isRimPlace_19 (by decide) ?_
      refine aw_ireturn (ty := .boolean) dX2_isRimPlace_23 rfl (znarZ (by omega)).1 ?_
      first | exact k0 (by omega) | exact k1 (by omega)
theorem sC_lossAt {x : Int} (hG : FiG zG c) (hn : 3 ≤ mem c 0 ∧ mem c 0 ≤ 8) (hx : 0 ≤ x ∧ x ≤ 2147483647) (k : Q (some (vI (mem c 1 + (if x / 3 = 0 ∨ x / 3 = mem c 0 - 1 then mem c 2 else 0)))) mem) : AMet Γ mX2_lossAt [vR c, vI x] zG mem Q := by
  have hG' := hG
  obtain ⟨g0, g1, g2, g3, g4⟩ := hG
  refine AMet.of' 0 (ls := [some (vR (c)), some (vI (x))]) (by decide) rfl (Nat.le_of_ble_eq_true rfl) ?_
  refine aw_aload_n dX2_lossAt_0 rfl rfl ?_
  refine aw_iload_n dX2_lossAt_1 rfl rfl ?_
  refine aw_callV [_] _ dX2_lossAt_2 rfl clv_X2_57 (by decide) ⟨Nat.zero_le _, Nat.zero_le _⟩ (by first | assumption | rfl) (by rfl) (Nat.le_of_ble_eq_true rfl) rfl ?_
  refine sC_isRimPlace hG' hn hx (fun c2 => ?_) (fun c2 => ?_)
  · refine aw_if_eq (tgt := 20) dX2_lossAt_5 (by decide) rfl (by omega) (fun c => absurd c (by decide)) (fun _ => ?_)
    refine aw_aload_n dX2_lossAt_8 rfl rfl ?_
    refine aw_getI (kI := 1) dX2_lossAt_9 rfl fl_X2_28 (by first | assumption | rfl) (by rfl) rfl ?_
    refine aw_aload_n dX2_lossAt_12 rfl rfl ?_
    refine aw_getI (kI := 2) dX2_lossAt_13 rfl fl_X2_31 (by first | assumption | rfl) (by rfl) rfl ?_
    refine aw_iadd dX2_lossAt_16 rfl ?_
    refine aw_goto (tgt := 24) dX2_lossAt_17 (by decide) ?_
    refine aw_ireturn (ty := .int) dX2_lossAt_24 rfl rfl ?_
    first | (rw [if_pos c2] at k; exact k) | (rw [if_neg c2, Int.add_zero] at k; exact k)
  · refine aw_if_eq (tgt := 20) dX2_lossAt_5 (by decide) rfl (by omega) (fun _ => ?_) (fun c => absurd c (by decide))
    refine aw_aload_n dX2_lossAt_20 rfl rfl ?_
    refine aw_getI (kI := 1) dX2_lossAt_21 rfl fl_X2_28 (by first | assumption | rfl) (by rfl) rfl ?_
    refine aw_ireturn (ty := .int) dX2_lossAt_24 rfl rfl ?_
    first | (rw [if_pos c2] at k; exact k) | (rw [if_neg c2, Int.add_zero] at k; exact k)
theorem sC_emberShare {G : List GK} {a d : Int} (k : Q (some (vI (zshr a d))) mem) : AMet Γ mX2_emberShare [vI a, vI d] G mem Q := by
  refine AMet.of' 0 (ls := [some (vI (a)), some (vI (d))]) (by decide) rfl (Nat.le_of_ble_eq_true rfl) ?_
  refine aw_iload_n dX2_emberShare_0 rfl rfl ?_
  refine aw_iload_n dX2_emberShare_1 rfl rfl ?_
  refine aw_ishr dX2_emberShare_2 rfl ?_
  refine aw_ireturn (ty := .int) dX2_emberShare_3 rfl rfl ?_
  exact k
theorem sC_layWood {a v r : Int} (hG : FiG zG c) (h3 : 0 ≤ mem c 3 ∧ mem c 3 ≤ 6) (k0 : mem c 3 = 6 → Q (some (vI 0)) mem) (k1 : ∀ m' : Mem, ¬ mem c 3 = 6 → m' = mset (mset (mset (mset mem (c + 2) (mem c 3) a) (c + 3) (mem c 3) v) (c + 4) (mem c 3) r) c 3 (mem c 3 + 1) → Q (some (vI 1)) m') : AMet Γ mX2_layWood [vR c, vI a, vI v, vI r] zG mem Q := by
  obtain ⟨g0, g1, g2, g3, g4⟩ := hG
  have e1 : ∀ (m : Mem) (d : Nat) (i w : Int), d ≠ c → mset m d i w c = m c := fun m d i w h => by rw [mset_eq, mcell_ne (Ne.symm h)]
  refine AMet.of' 0 (ls := [some (vR (c)), some (vI (a)), some (vI (v)), some (vI (r))]) (by decide) rfl (Nat.le_of_ble_eq_true rfl) ?_
  refine aw_aload_n dX2_layWood_0 rfl rfl ?_
  refine aw_getI (kI := 3) dX2_layWood_1 rfl fl_X2_34 (by first | assumption | rfl) (by rfl) rfl ?_
  refine aw_bipush dX2_layWood_4 rfl (by decide) ?_
  refine aw_icmp_lt (tgt := 11) dX2_layWood_6 (by decide) rfl (by omega) (by omega) (fun c6 => ?_) (fun c6 => ?_)
  · refine aw_aload_n dX2_layWood_11 rfl rfl ?_
    refine aw_getR dX2_layWood_12 rfl fl_X2_15 (by first | assumption | rfl) (by rfl) ?_
    refine aw_aload_n dX2_layWood_15 rfl rfl ?_
    refine aw_getI (kI := 3) dX2_layWood_16 rfl fl_X2_34 (by first | assumption | rfl) (by rfl) rfl ?_
    refine aw_iload_n dX2_layWood_19 rfl rfl ?_
    refine aw_iastore dX2_layWood_20 rfl (by first | assumption | rfl) (by decide) (by omega) ?_
    refine aw_aload_n dX2_layWood_21 rfl rfl ?_
    refine aw_getR dX2_layWood_22 rfl fl_X2_18 (by first | assumption | rfl) (by rfl) ?_
    refine aw_aload_n dX2_layWood_25 rfl rfl ?_
    refine aw_getI (kI := 3) dX2_layWood_26 rfl fl_X2_34 (by first | assumption | rfl) (by rfl) rfl ?_
    rw [e1 _ _ _ _ (by omega)]
    refine aw_iload_n dX2_layWood_29 rfl rfl ?_
    refine aw_iastore dX2_layWood_30 rfl (by first | assumption | rfl) (by decide) (by omega) ?_
    refine aw_aload_n dX2_layWood_31 rfl rfl ?_
    refine aw_getR dX2_layWood_32 rfl fl_X2_21 (by first | assumption | rfl) (by rfl) ?_
    refine aw_aload_n dX2_layWood_35 rfl rfl ?_
    refine aw_getI (kI := 3) dX2_layWood_36 rfl fl_X2_34 (by first | assumption | rfl) (by rfl) rfl ?_
    rw [e1 _ _ _ _ (by omega), e1 _ _ _ _ (by omega)]
    refine aw_iload_n dX2_layWood_39 rfl rfl ?_
    refine aw_iastore dX2_layWood_40 rfl (by first | assumption | rfl) (by decide) (by omega) ?_
    refine aw_aload_n dX2_layWood_41 rfl rfl ?_
    refine aw_dup dX2_layWood_42 rfl rfl ?_
    refine aw_getI (kI := 3) dX2_layWood_43 rfl fl_X2_34 (by first | assumption | rfl) (by rfl) rfl ?_
    rw [e1 _ _ _ _ (by omega), e1 _ _ _ _ (by omega), e1 _ _ _ _ (by omega)]
    refine aw_iconst dX2_layWood_46 rfl ?_
    refine aw_iadd dX2_layWood_47 rfl ?_
    refine aw_putI (kI := 3) dX2_layWood_48 rfl fp_X2_34 (by first | assumption | rfl) (by rfl) rfl ?_
    refine aw_iconst dX2_layWood_51 rfl ?_
    refine aw_ireturn (ty := .boolean) dX2_layWood_52 rfl (znarZ (by omega)).1 ?_
    first | exact k0 (by omega) | exact k1 _ (by omega) rfl
  · refine aw_iconst dX2_layWood_9 rfl ?_
    refine aw_ireturn (ty := .boolean) dX2_layWood_10 rfl (znarZ (by omega)).1 ?_
    first | exact k0 (by omega) | exact k1 _ (by omega) rfl
theorem sC_becomeEmber {cl v : Int} (hG : FiG zG c) (hn : 3 ≤ mem c 0 ∧ mem c 0 ≤ 8) (hc : 0 ≤ cl ∧ cl < mem c 0) (hv : 0 ≤ v ∧ v ≤ 99) (hh : ∀ x : Int, 0 ≤ x → x < 24 → 0 ≤ mem (c + 1) x ∧ mem (c + 1) x ≤ 99) (k : Q none (mcell mem (c + 1) (emberF cl v (mem (c + 1))))) : AMet Γ mX2_becomeEmber [vR c, vI cl, vI v] zG mem Q := by
  have hG' := hG
  obtain ⟨g0, g1, g2, g3, g4⟩ := hG
  have step : ∀ (d : Int) (g : Int → Int) (x4 : Option AV), (d = 0 ∨ d = 1 ∨ d = 2) → (0 ≤ g (3 * cl + d) ∧ g (3 * cl + d) ≤ 99) → AW Γ mX2_becomeEmber (zF Γ zG Q) zG 0 0 2 [some (vR c), some (vI cl), some (vI v), some (vI (d + 1)), some (vI (3 * cl + d))] [] (mcell mem (c + 1) (fset g (3 * cl + d) (min 99 (g (3 * cl + d) + (if d = 0 then v else if d = 1 then v / 2 else v / 4))))) → AW Γ mX2_becomeEmber (zF Γ zG Q) zG 0 0 2 [some (vR c), some (vI cl), some (vI v), some (vI d), x4] [] (mcell mem (c + 1) g) := by
    intro d g x4 hd hg kk
    have ec : mcell mem (c + 1) g c = mem c := mcell_ne (by omega)
    have es := zshr_d (v := v) (d := d) (by omega) hd
    have eb : 0 ≤ (if d = 0 then v else if d = 1 then v / 2 else v / 4) ∧ (if d = 0 then v else if d = 1 then v / 2 else v / 4) ≤ 99 := by (repeat' split) <;> omega
    refine aw_iload_n dX2_becomeEmber_2 rfl rfl ?_
    refine aw_iconst dX2_becomeEmber_3 rfl ?_
    refine aw_icmp_ge (tgt := 54) dX2_becomeEmber_4 (by decide) rfl (by omega) (by omega) (fun c4 => ?_) (fun c4 => ?_)
    · exfalso; omega
    · refine aw_iconst dX2_becomeEmber_7 rfl ?_
      refine aw_iload_n dX2_becomeEmber_8 rfl rfl ?_
      refine aw_imul dX2_becomeEmber_9 rfl ?_
      refine aw_iload_n dX2_becomeEmber_10 rfl rfl ?_
      refine aw_iadd dX2_becomeEmber_11 rfl ?_
      refine aw_istore4 rfl dX2_becomeEmber_12 rfl (by decide) ?_
      refine aw_aload_n dX2_becomeEmber_14 rfl rfl ?_
      refine aw_iload dX2_becomeEmber_15 rfl rfl ?_
      refine aw_callV [_] _ dX2_becomeEmber_17 rfl clv_X2_53 (by decide) ⟨Nat.zero_le _, Nat.zero_le _⟩ (by first | assumption | rfl) (by rfl) (Nat.le_of_ble_eq_true rfl) rfl ?_
      refine sC_hasPlace hG' (by rw [ec]; exact hn) (by omega) (fun c17 => ?_) (fun c17 => ?_)
      · refine aw_if_eq (tgt := 48) dX2_becomeEmber_20 (by decide) rfl (by omega) (fun c => absurd c (by decide)) (fun _ => ?_)
        refine aw_aload_n dX2_becomeEmber_23 rfl rfl ?_
        refine aw_getR dX2_becomeEmber_24 rfl fl_X2_9 (by first | assumption | rfl) (by rfl) ?_
        refine aw_iload dX2_becomeEmber_27 rfl rfl ?_
        refine aw_bipush dX2_becomeEmber_29 rfl (by decide) ?_
        refine aw_aload_n dX2_becomeEmber_31 rfl rfl ?_
        refine aw_getR dX2_becomeEmber_32 rfl fl_X2_9 (by first | assumption | rfl) (by rfl) ?_
        refine aw_iload dX2_becomeEmber_35 rfl rfl ?_
        refine aw_iaload dX2_becomeEmber_37 rfl (by first | assumption | rfl) (by decide) (by omega) ?_
        rw [mcell_same]
        refine aw_iload_n dX2_becomeEmber_38 rfl rfl ?_
        refine aw_iload_n dX2_becomeEmber_39 rfl rfl ?_
        refine aw_callS [_, _] _ dX2_becomeEmber_40 rfl cls_X2_64 (by decide) ⟨Nat.zero_le _, Nat.zero_le _⟩ (Nat.le_of_ble_eq_true rfl) rfl ?_
        refine sC_emberShare ?_
        rw [es]
        refine aw_iadd dX2_becomeEmber_43 rfl ?_
        refine aw_min dX2_becomeEmber_44 rfl clm_X2_68 (by decide) (Nat.le_of_ble_eq_true rfl) ⟨Nat.zero_le _, Nat.zero_le _⟩ (by omega) (by omega) ?_
        refine aw_iastore dX2_becomeEmber_47 rfl (by first | assumption | rfl) (by decide) (by omega) ?_
        first | (exfalso; rw [ec] at c17; omega) | (rw [mset_mcell]; refine aw_iinc3 rfl dX2_becomeEmber_48 rfl (by decide) ?_; refine aw_goto (tgt := 2) dX2_becomeEmber_51 (by decide) ?_; exact kk)
      · refine aw_if_eq (tgt := 48) dX2_becomeEmber_20 (by decide) rfl (by omega) (fun _ => ?_) (fun c => absurd c (by decide))
        first | (exfalso; rw [ec] at c17; omega) | (rw [mset_mcell]; refine aw_iinc3 rfl dX2_becomeEmber_48 rfl (by decide) ?_; refine aw_goto (tgt := 2) dX2_becomeEmber_51 (by decide) ?_; exact kk)
  have done : ∀ (g : Int → Int) (x4 : Option AV), Q none (mcell mem (c + 1) g) → AW Γ mX2_becomeEmber (zF Γ zG Q) zG 0 0 2 [some (vR c), some (vI cl), some (vI v), some (vI 3), x4] [] (mcell mem (c + 1) g) := by
    intro g x4 kk
    refine aw_iload_n dX2_becomeEmber_2 rfl rfl ?_
    refine aw_iconst dX2_becomeEmber_3 rfl ?_
    refine aw_icmp_ge (tgt := 54) dX2_becomeEmber_4 (by decide) rfl (by omega) (by omega) (fun c4 => ?_) (fun c4 => ?_)
    · refine aw_return dX2_becomeEmber_54 rfl ?_
      exact kk
    · exfalso; omega
  have r0 := hh (3 * cl + 0) (by omega) (by omega)
  have r1 := hh (3 * cl + 1) (by omega) (by omega)
  have r2 := hh (3 * cl + 2) (by omega) (by omega)
  refine AMet.of' 2 (ls := [some (vR (c)), some (vI (cl)), some (vI (v)), none, none]) (by decide) rfl (Nat.le_of_ble_eq_true rfl) ?_
  refine aw_iconst dX2_becomeEmber_0 rfl ?_
  refine aw_istore3 rfl dX2_becomeEmber_1 rfl (by decide) ?_
  rw [show mem = mcell mem (c + 1) (mem (c + 1)) from mcell_self.symm]
  refine step 0 _ _ (by omega) r0 (step 1 _ _ (by omega) (by rw [fset_ne (by omega)]; exact r1) (step 2 _ _ (by omega) (by rw [fset_ne (by omega), fset_ne (by omega)]; exact r2) (done _ _ ?_)))
  refine q_eq k rfl ?_
  refine congrArg (mcell mem (c + 1)) (funext (fun j => ?_))
  unfold emberF
  by_cases e0 : j = 3 * cl + 0
  · subst e0
    rw [if_pos (by omega), fset_ne (by omega), fset_ne (by omega), fset_same]
    rfl
  · by_cases e1 : j = 3 * cl + 1
    · subst e1
      rw [if_neg (by omega), if_pos rfl, fset_ne (by omega), fset_same, fset_ne (by omega)]
      rfl
    · by_cases e2 : j = 3 * cl + 2
      · subst e2
        rw [if_neg (by omega), if_neg (by omega), if_pos rfl, fset_same, fset_ne (by omega), fset_ne (by omega)]
        rfl
      · rw [if_neg (by omega), if_neg (by omega), if_neg (by omega), fset_ne (by omega), fset_ne (by omega), fset_ne (by omega)]
end ZCmp2
