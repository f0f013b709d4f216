def freeB : Nat → (Int → Int) → Int → Int → Bool
  | 0, _, _, _ => true
  | q + 1, f, p, x => freeB q f p x && (decide (x = -4) || (decide ((q : Int) = p) || decide (¬ f (47 + 8 * (q : Int) + 2) = x)))
def digM (n : Int) (f : Int → Int) (p x : Int) : Int × (Int → Int) := if (0 ≤ p ∧ p < f 46) ∧ (x = -4 ∨ (0 ≤ x ∧ x < 3 * n)) then (if freeB (f 46).toNat f p x = true then (f (47 + 8 * p + 2), fset f (47 + 8 * p + 2) x) else (-2, f)) else (-1, f)
def goM (n : Int) (f : Int → Int) (c : Int) : Int × (Int → Int) := if 0 ≤ c ∧ c ≤ 60 then (if f 45 + c ≤ 999 then (goodTo (f 46).toNat (roundsF n c.toNat f), fcopy (roundsF n c.toNat f) f 0 0 115) else (-3, f)) else (-1, f)
def aheadM (n : Int) (f : Int → Int) (p c w : Int) : Int := if (0 ≤ p ∧ p < f 46) ∧ (0 ≤ c ∧ c ≤ 60) ∧ (0 ≤ w ∧ w ≤ 9) then tellF (roundsF n c.toNat f) p w else -1
def laterM (n : Int) (f : Int → Int) (x c : Int) : Int := if (0 ≤ x ∧ x < 3 * n) ∧ (0 ≤ c ∧ c ≤ 60) then roundsF n c.toNat f x else -1
def feelF (f : Int → Int) (c x v : Int) : Int → Int := fset (fset (fset (fset f (97 + 3 * f 96) c) (97 + 3 * f 96 + 1) x) (97 + 3 * f 96 + 2) v) 96 (f 96 + 1)
def feelM (n : Int) (f : Int → Int) (c x v : Int) : Int × (Int → Int) := if (0 ≤ c ∧ c ≤ 20) ∧ (0 ≤ x ∧ x < 3 * n) ∧ (0 ≤ v ∧ v ≤ 99) then (if f 96 = 6 then (-3, f) else (f 96 + 1, feelF f c x v)) else (-1, f)
def forgetM (f : Int → Int) (c : Int) : Int × (Int → Int) := if 0 ≤ c ∧ c ≤ f 96 then (f 96, fset f 96 c) else (-1, f)
section ZRef5
variable {Γ : ZG} {mem : Mem} {Q : Option AV → Mem → Prop}
theorem sR_spud {n p w : Int} (h : Wf n (mem 110)) (hp : -2147483648 ≤ p ∧ p ≤ 2147483647) (hw : -2147483648 ≤ w ∧ w ≤ 2147483647) (k : ∀ g, Q (some (vI (spudM (mem 110) p w))) (mcell mem 111 g)) : AMet Γ mX11_spud [vR 109, vI p, vI w] zG mem Q := by
  have h46 := h.2.2.2.2.2.2.1
  have hs := h.2.2.2.2.2.2.2.1
  refine AMet.of' 0 (ls := [some (vR (109)), some (vI (p)), some (vI (w))]) (by decide) rfl (Nat.le_of_ble_eq_true rfl) ?_
  refine aw_aload_n dX11_spud_0 rfl rfl ?_
  refine aw_iload_n dX11_spud_1 rfl rfl ?_
  refine aw_callV [_] _ dX11_spud_2 rfl clv_X11_217 (by decide) ⟨Nat.zero_le _, Nat.zero_le _⟩ g109 (by rfl) (Nat.le_of_ble_eq_true rfl) rfl ?_
  refine sR_isSpud h46 hp (fun c2 => ?_) (fun c2 => ?_)
  · refine aw_if_eq (tgt := 20) dX11_spud_5 (by decide) rfl (by omega) (fun c => absurd c (by decide)) (fun _ => ?_)
    refine aw_iload_n dX11_spud_8 rfl rfl ?_
    refine aw_i2l dX11_spud_9 rfl (by omega) ?_
    refine aw_lconst (a := 0) dX11_spud_10 rfl (by decide) ?_
    refine aw_ldc2 (a := 9) dX11_spud_11 rfl lc_X11_220 (by decide) ?_
    refine aw_callS [_, _, _] _ dX11_spud_14 rfl cls_X11_78 (by decide) ⟨Nat.zero_le _, Nat.zero_le _⟩ (Nat.le_of_ble_eq_true rfl) rfl ?_
    refine sR_in (by omega) (by omega) (by omega) (fun c14 => ?_) (fun c14 => ?_)
    · refine aw_if_ne (tgt := 22) dX11_spud_17 (by decide) rfl (by omega) (fun _ => ?_) (fun c => absurd c (by decide))
      refine aw_aload_n dX11_spud_22 rfl rfl ?_
      refine aw_callV [] _ dX11_spud_23 rfl clv_X11_222 (by decide) ⟨Nat.zero_le _, Nat.zero_le _⟩ g109 (by rfl) (Nat.le_of_ble_eq_true rfl) rfl ?_
      refine sR_starts2 ?_
      refine aw_aload_n dX11_spud_26 rfl rfl ?_
      refine aw_iload_n dX11_spud_27 rfl rfl ?_
      refine aw_iload_n dX11_spud_28 rfl rfl ?_
      refine aw_callV [_, _] _ dX11_spud_29 rfl clv_X11_225 (by decide) ⟨Nat.zero_le _, Nat.zero_le _⟩ g109 (by rfl) (Nat.le_of_ble_eq_true rfl) rfl ?_
      refine sR_tells (n := n) (by omega) (by rw [mcell_same]; exact hs p c2.1 c2.2) c14 ?_
      refine aw_ireturn (ty := .int) dX11_spud_32 rfl rfl ?_
      exact q_eq (k (mem 110)) (by unfold spudM; rw [if_pos ⟨c2, c14⟩, mcell_same]) rfl
    · refine aw_if_ne (tgt := 22) dX11_spud_17 (by decide) rfl (by omega) (fun c => absurd c (by decide)) (fun _ => ?_)
      refine aw_iconst dX11_spud_20 rfl ?_
      refine aw_ireturn (ty := .int) dX11_spud_21 rfl rfl ?_
      exact q_eq (k (mem 111)) (by unfold spudM; rw [if_neg (by omega)]) mcell_self
  · refine aw_if_eq (tgt := 20) dX11_spud_5 (by decide) rfl (by omega) (fun _ => ?_) (fun c => absurd c (by decide))
    refine aw_iconst dX11_spud_20 rfl ?_
    refine aw_ireturn (ty := .int) dX11_spud_21 rfl rfl ?_
    exact q_eq (k (mem 111)) (by unfold spudM; rw [if_neg (by omega)]) mcell_self
theorem sR_add {s w : Int} (h46 : 0 ≤ mem 110 46 ∧ mem 110 46 ≤ 6) (hs : -2147483648 ≤ s ∧ s ≤ 2147483647) (hw : -2147483648 ≤ w ∧ w ≤ 2147483647) (k : Q (some (vI (addM (mem 110) s w).1)) (mcell mem 110 (addM (mem 110) s w).2)) : AMet Γ mX11_add [vR 109, vI s, vI w] zG mem Q := by
  have loop : ∀ (d : Nat) (i : Int), i + d = 8 → 0 ≤ i → (1 ≤ s ∧ s ≤ 9) ∧ (0 ≤ w ∧ w ≤ 2) → ¬ mem 110 46 = 6 → AW Γ mX11_add (zF Γ zG Q) zG 0 0 58 [some (vR 109), some (vI s), some (vI w), some (vI (47 + 8 * mem 110 46)), some (vI i)] [] (mcell mem 110 (fun j => if 47 + 8 * mem 110 46 ≤ j ∧ j < 47 + 8 * mem 110 46 + i then (if j = 47 + 8 * mem 110 46 + 2 ∨ j = 47 + 8 * mem 110 46 + 7 then -4 else 0) else mem 110 j)) := by
    intro d
    induction d with
    | zero =>
      intro i hi h0 hok hne
      have e47 : (fset (fset (fun j => if 47 + 8 * mem 110 46 ≤ j ∧ j < 47 + 8 * mem 110 46 + i then (if j = 47 + 8 * mem 110 46 + 2 ∨ j = 47 + 8 * mem 110 46 + 7 then (-4 : Int) else 0) else mem 110 j) (47 + 8 * mem 110 46 + 0) s) (47 + 8 * mem 110 46 + 1) w) 46 = mem 110 46 := by
        rw [fset_ne (by omega), fset_ne (by omega), if_neg (by omega)]
      refine aw_iload dX11_add_58 rfl rfl ?_
      refine aw_bipush dX11_add_60 rfl (by decide) ?_
      refine aw_icmp_ge (tgt := 99) dX11_add_62 (by decide) rfl (by omega) (by omega) (fun c62 => ?_) (fun c62 => ?_)
      · refine aw_aload_n dX11_add_99 rfl rfl ?_
        refine aw_getR dX11_add_100 rfl fl_X11_7 g109 (by rfl) ?_
        refine aw_iload_n dX11_add_103 rfl rfl ?_
        refine aw_iconst dX11_add_104 rfl ?_
        refine aw_iadd dX11_add_105 rfl ?_
        refine aw_iload_n dX11_add_106 rfl rfl ?_
        refine aw_iastore dX11_add_107 rfl g110 (by decide) (by omega) ?_
        rw [mset_mcell]
        refine aw_aload_n dX11_add_108 rfl rfl ?_
        refine aw_getR dX11_add_109 rfl fl_X11_7 g109 (by rfl) ?_
        refine aw_iload_n dX11_add_112 rfl rfl ?_
        refine aw_iconst dX11_add_113 rfl ?_
        refine aw_iadd dX11_add_114 rfl ?_
        refine aw_iload_n dX11_add_115 rfl rfl ?_
        refine aw_iastore dX11_add_116 rfl g110 (by decide) (by omega) ?_
        rw [mset_mcell]
        refine aw_aload_n dX11_add_117 rfl rfl ?_
        refine aw_getR dX11_add_118 rfl fl_X11_7 g109 (by rfl) ?_
        refine aw_bipush dX11_add_121 rfl (by decide) ?_
        refine aw_dup2 dX11_add_123 rfl rfl rfl ?_
        refine aw_iaload dX11_add_124 rfl g110 (by decide) (by omega) ?_
        rw [mcell_same, e47]
        refine aw_iconst dX11_add_125 rfl ?_
        refine aw_iadd dX11_add_126 rfl ?_
        refine aw_iastore dX11_add_127 rfl g110 (by decide) (by omega) ?_
        rw [mset_mcell]
        refine aw_aload_n dX11_add_128 rfl rfl ?_
        refine aw_getR dX11_add_129 rfl fl_X11_7 g109 (by rfl) ?_
        refine aw_bipush dX11_add_132 rfl (by decide) ?_
        refine aw_iaload dX11_add_134 rfl g110 (by decide) (by omega) ?_
        rw [mcell_same, fset_same]
        refine aw_ireturn (ty := .int) dX11_add_135 rfl rfl ?_
        refine q_eq k (by unfold addM; rw [if_pos hok, if_neg hne]) ?_
        unfold addM
        rw [if_pos hok, if_neg hne]
        dsimp only
        congr 1
        funext j
        unfold addF fset
        by_cases e1 : j = 46
        · rw [if_pos e1, if_pos e1]
        · rw [if_neg e1, if_neg e1]
          by_cases e2 : j = 47 + 8 * mem 110 46 + 1
          · rw [if_pos e2, if_neg (by omega), if_pos e2]
          · rw [if_neg e2]
            by_cases e3 : j = 47 + 8 * mem 110 46 + 0
            · rw [if_pos (by omega), if_neg e2, if_pos e3]
            · rw [if_neg e3, if_neg (by omega), if_neg e2]
              dsimp only
              (repeat' split) <;> first | rfl | omega
      · exfalso; omega
    | succ d ih =>
      intro i hi h0 hok hne
      have nxt : ∀ v : Int, v = (if i = 2 ∨ i = 7 then -4 else 0) → AW Γ mX11_add (zF Γ zG Q) zG 0 0 92 [some (vR 109), some (vI s), some (vI w), some (vI (47 + 8 * mem 110 46)), some (vI i)] [vI v, vI (47 + 8 * mem 110 46 + i), vR 110] (mcell mem 110 (fun j => if 47 + 8 * mem 110 46 ≤ j ∧ j < 47 + 8 * mem 110 46 + i then (if j = 47 + 8 * mem 110 46 + 2 ∨ j = 47 + 8 * mem 110 46 + 7 then -4 else 0) else mem 110 j)) := by
        intro v hv
        refine aw_iastore dX11_add_92 rfl g110 (by decide) (by omega) ?_
        rw [mset_mcell]
        refine aw_iinc4 rfl dX11_add_93 rfl (by decide) ?_
        refine aw_goto (tgt := 58) dX11_add_96 (by decide) ?_
        refine (congrArg (fun g => AW Γ mX11_add (zF Γ zG Q) zG 0 0 58 [some (vR 109), some (vI s), some (vI w), some (vI (47 + 8 * mem 110 46)), some (vI (i + 1))] [] (mcell mem 110 g)) ?_).mp (ih (i + 1) (by omega) (by omega) hok hne)
        funext j
        unfold fset
        rw [hv]
        dsimp only
        (repeat' split) <;> first | rfl | omega
      refine aw_iload dX11_add_58 rfl rfl ?_
      refine aw_bipush dX11_add_60 rfl (by decide) ?_
      refine aw_icmp_ge (tgt := 99) dX11_add_62 (by decide) rfl (by omega) (by omega) (fun c62 => ?_) (fun c62 => ?_)
      · exfalso; omega
      · refine aw_aload_n dX11_add_65 rfl rfl ?_
        refine aw_getR dX11_add_66 rfl fl_X11_7 g109 (by rfl) ?_
        refine aw_iload_n dX11_add_69 rfl rfl ?_
        refine aw_iload dX11_add_70 rfl rfl ?_
        refine aw_iadd dX11_add_72 rfl ?_
        refine aw_iload dX11_add_73 rfl rfl ?_
        refine aw_iconst dX11_add_75 rfl ?_
        refine aw_icmp_eq (tgt := 86) dX11_add_76 (by decide) rfl (by omega) (by omega) (fun c76 => ?_) (fun c76 => ?_)
        · refine aw_bipush dX11_add_86 rfl (by decide) ?_
          refine aw_goto (tgt := 92) dX11_add_88 (by decide) ?_
          exact nxt _ (by (repeat' split) <;> omega)
        · refine aw_iload dX11_add_79 rfl rfl ?_
          refine aw_bipush dX11_add_81 rfl (by decide) ?_
          refine aw_icmp_ne (tgt := 91) dX11_add_83 (by decide) rfl (by omega) (by omega) (fun c83 => ?_) (fun c83 => ?_)
          · refine aw_iconst dX11_add_91 rfl ?_
            exact nxt _ (by (repeat' split) <;> omega)
          · refine aw_bipush dX11_add_86 rfl (by decide) ?_
            refine aw_goto (tgt := 92) dX11_add_88 (by decide) ?_
            exact nxt _ (by (repeat' split) <;> omega)
  refine AMet.of' 2 (ls := [some (vR (109)), some (vI (s)), some (vI (w)), none, none]) (by decide) rfl (Nat.le_of_ble_eq_true rfl) ?_
  refine aw_iload_n dX11_add_0 rfl rfl ?_
  refine aw_i2l dX11_add_1 rfl (by omega) ?_
  refine aw_lconst (a := 1) dX11_add_2 rfl (by decide) ?_
  refine aw_ldc2 (a := 9) dX11_add_3 rfl lc_X11_220 (by decide) ?_
  refine aw_callS [_, _, _] _ dX11_add_6 rfl cls_X11_78 (by decide) ⟨Nat.zero_le _, Nat.zero_le _⟩ (Nat.le_of_ble_eq_true rfl) rfl ?_
  refine sR_in (by omega) (by omega) (by omega) (fun c6 => ?_) (fun c6 => ?_)
  · refine aw_if_eq (tgt := 24) dX11_add_9 (by decide) rfl (by omega) (fun c => absurd c (by decide)) (fun _ => ?_)
    refine aw_iload_n dX11_add_12 rfl rfl ?_
    refine aw_i2l dX11_add_13 rfl (by omega) ?_
    refine aw_lconst (a := 0) dX11_add_14 rfl (by decide) ?_
    refine aw_ldc2 (a := 2) dX11_add_15 rfl lc_X11_215 (by decide) ?_
    refine aw_callS [_, _, _] _ dX11_add_18 rfl cls_X11_78 (by decide) ⟨Nat.zero_le _, Nat.zero_le _⟩ (Nat.le_of_ble_eq_true rfl) rfl ?_
    refine sR_in (by omega) (by omega) (by omega) (fun c18 => ?_) (fun c18 => ?_)
    · refine aw_if_ne (tgt := 26) dX11_add_21 (by decide) rfl (by omega) (fun _ => ?_) (fun c => absurd c (by decide))
      refine aw_aload_n dX11_add_26 rfl rfl ?_
      refine aw_getR dX11_add_27 rfl fl_X11_7 g109 (by rfl) ?_
      refine aw_bipush dX11_add_30 rfl (by decide) ?_
      refine aw_iaload dX11_add_32 rfl g110 (by decide) (by omega) ?_
      refine aw_bipush dX11_add_33 rfl (by decide) ?_
      refine aw_icmp_ne (tgt := 41) dX11_add_35 (by decide) rfl (by omega) (by omega) (fun c35 => ?_) (fun c35 => ?_)
      · refine aw_bipush dX11_add_41 rfl (by decide) ?_
        refine aw_bipush dX11_add_43 rfl (by decide) ?_
        refine aw_aload_n dX11_add_45 rfl rfl ?_
        refine aw_getR dX11_add_46 rfl fl_X11_7 g109 (by rfl) ?_
        refine aw_bipush dX11_add_49 rfl (by decide) ?_
        refine aw_iaload dX11_add_51 rfl g110 (by decide) (by omega) ?_
        refine aw_imul dX11_add_52 rfl ?_
        refine aw_iadd dX11_add_53 rfl ?_
        refine aw_istore3 rfl dX11_add_54 rfl (by decide) ?_
        refine aw_iconst dX11_add_55 rfl ?_
        refine aw_istore4 rfl dX11_add_56 rfl (by decide) ?_
        have l0 := loop 8 0 (by omega) (by omega) (by omega) c35
        rw [show (fun j => if 47 + 8 * mem 110 46 ≤ j ∧ j < 47 + 8 * mem 110 46 + 0 then (if j = 47 + 8 * mem 110 46 + 2 ∨ j = 47 + 8 * mem 110 46 + 7 then (-4 : Int) else 0) else mem 110 j) = mem 110 from funext (fun j => if_neg (by omega)), mcell_self] at l0
        exact l0
      · refine aw_bipush dX11_add_38 rfl (by decide) ?_
        refine aw_ireturn (ty := .int) dX11_add_40 rfl rfl ?_
        exact q_eq k (by unfold addM; rw [if_pos (by omega), if_pos c35]) (by unfold addM; rw [if_pos (by omega), if_pos c35, mcell_self])
    · refine aw_if_ne (tgt := 26) dX11_add_21 (by decide) rfl (by omega) (fun c => absurd c (by decide)) (fun _ => ?_)
      refine aw_iconst dX11_add_24 rfl ?_
      refine aw_ireturn (ty := .int) dX11_add_25 rfl rfl ?_
      exact q_eq k (by unfold addM; rw [if_neg (by omega)]) (by unfold addM; rw [if_neg (by omega), mcell_self])
  · refine aw_if_eq (tgt := 24) dX11_add_9 (by decide) rfl (by omega) (fun _ => ?_) (fun c => absurd c (by decide))
    refine aw_iconst dX11_add_24 rfl ?_
    refine aw_ireturn (ty := .int) dX11_add_25 rfl rfl ?_
    exact q_eq k (by unfold addM; rw [if_neg (by omega)]) (by unfold addM; rw [if_neg (by omega), mcell_self])
theorem sR_dig {n p x : Int} (h : Wf n (mem 110)) (hm : mem 109 3 = n) (hp : -2147483648 ≤ p ∧ p ≤ 2147483647) (hx : -2147483648 ≤ x ∧ x ≤ 2147483647) (k : Q (some (vI (digM n (mem 110) p x).1)) (mcell mem 110 (digM n (mem 110) p x).2)) : AMet Γ mX11_dig [vR 109, vI p, vI x] zG mem Q := by
  have h46 := h.2.2.2.2.2.2.1
  have hs := h.2.2.2.2.2.2.2.1
  have hn := h.1
  have loop : ∀ (d i : Nat) (fr : Int), i + d = (mem 110 46).toNat → (0 ≤ p ∧ p < mem 110 46) ∧ (x = -4 ∨ (0 ≤ x ∧ x < 3 * n)) → (fr = 1 ∧ freeB i (mem 110) p x = true) ∨ (fr = 0 ∧ freeB i (mem 110) p x = false) → AW Γ mX11_dig (zF Γ zG Q) zG 0 0 29 [some (vR 109), some (vI p), some (vI x), some (vI fr), some (vI i)] [] mem := by
    intro d
    induction d with
    | zero =>
      intro i fr hi hok hfr
      have e : i = (mem 110 46).toNat := by omega
      subst e
      refine aw_iload dX11_dig_29 rfl rfl ?_
      refine aw_aload_n dX11_dig_31 rfl rfl ?_
      refine aw_getR dX11_dig_32 rfl fl_X11_7 g109 (by rfl) ?_
      refine aw_bipush dX11_dig_35 rfl (by decide) ?_
      refine aw_iaload dX11_dig_37 rfl g110 (by decide) (by omega) ?_
      refine aw_icmp_ge (tgt := 88) dX11_dig_38 (by decide) rfl (by omega) (by omega) (fun c38 => ?_) (fun c38 => ?_)
      · refine aw_iload_n dX11_dig_88 rfl rfl ?_
        refine aw_if_eq (tgt := 109) dX11_dig_89 (by decide) rfl (by omega) (fun c89 => ?_) (fun c89 => ?_)
        · refine aw_bipush dX11_dig_109 rfl (by decide) ?_
          refine aw_ireturn (ty := .int) dX11_dig_111 rfl rfl ?_
          rcases hfr with ⟨e1, e2⟩ | ⟨e1, e2⟩ <;> first | (exfalso; omega) | exact q_eq k (by unfold digM; rw [if_pos hok, if_pos e2]) (by unfold digM; rw [if_pos hok, if_pos e2]; rfl) | exact q_eq k (by unfold digM; rw [if_pos hok, if_neg (by rw [e2]; simp)]) (by unfold digM; rw [if_pos hok, if_neg (by rw [e2]; simp), mcell_self])
        · refine aw_aload_n dX11_dig_92 rfl rfl ?_
          refine aw_bipush dX11_dig_93 rfl (by decide) ?_
          refine aw_bipush dX11_dig_95 rfl (by decide) ?_
          refine aw_iload_n dX11_dig_97 rfl rfl ?_
          refine aw_imul dX11_dig_98 rfl ?_
          refine aw_iadd dX11_dig_99 rfl ?_
          refine aw_iconst dX11_dig_100 rfl ?_
          refine aw_iadd dX11_dig_101 rfl ?_
          refine aw_iload_n dX11_dig_102 rfl rfl ?_
          refine aw_callV [_, _] _ dX11_dig_103 rfl clv_X11_230 (by decide) ⟨Nat.zero_le _, Nat.zero_le _⟩ g109 (by rfl) (Nat.le_of_ble_eq_true rfl) rfl ?_
          refine sR_becomes (by omega) ?_
          refine aw_goto (tgt := 111) dX11_dig_106 (by decide) ?_
          refine aw_ireturn (ty := .int) dX11_dig_111 rfl rfl ?_
          rcases hfr with ⟨e1, e2⟩ | ⟨e1, e2⟩ <;> first | (exfalso; omega) | exact q_eq k (by unfold digM; rw [if_pos hok, if_pos e2]) (by unfold digM; rw [if_pos hok, if_pos e2]; rfl) | exact q_eq k (by unfold digM; rw [if_pos hok, if_neg (by rw [e2]; simp)]) (by unfold digM; rw [if_pos hok, if_neg (by rw [e2]; simp), mcell_self])
      · exfalso; omega
    | succ d ih =>
      intro i fr hi hok hfr
      obtain ⟨s0, s1, s2, s3, s4, s5, s6, s7⟩ := hs i (by omega) (by omega)
      refine aw_iload dX11_dig_29 rfl rfl ?_
      refine aw_aload_n dX11_dig_31 rfl rfl ?_
      refine aw_getR dX11_dig_32 rfl fl_X11_7 g109 (by rfl) ?_
      refine aw_bipush dX11_dig_35 rfl (by decide) ?_
      refine aw_iaload dX11_dig_37 rfl g110 (by decide) (by omega) ?_
      refine aw_icmp_ge (tgt := 88) dX11_dig_38 (by decide) rfl (by omega) (by omega) (fun c38 => ?_) (fun c38 => ?_)
      · exfalso; omega
      · refine aw_iload_n dX11_dig_41 rfl rfl ?_
        refine aw_if_eq (tgt := 80) dX11_dig_42 (by decide) rfl (by omega) (fun c42 => ?_) (fun c42 => ?_)
        · refine aw_iconst dX11_dig_80 rfl ?_
          refine aw_istore3 rfl dX11_dig_81 rfl (by decide) ?_
          refine aw_iinc4 rfl dX11_dig_82 rfl (by decide) ?_
          refine aw_goto (tgt := 29) dX11_dig_85 (by decide) ?_
          refine ih (i + 1) _ (by omega) hok ?_
          rcases hfr with ⟨e1, e2⟩ | ⟨e1, e2⟩ <;> first | (exfalso; omega) | exact Or.inl ⟨rfl, by (simp [freeB, e2]; omega)⟩ | exact Or.inr ⟨rfl, by (simp [freeB, e2]; omega)⟩ | exact Or.inr ⟨rfl, by simp [freeB, e2]⟩
        · refine aw_iload_n dX11_dig_45 rfl rfl ?_
          refine aw_bipush dX11_dig_46 rfl (by decide) ?_
          refine aw_icmp_eq (tgt := 76) dX11_dig_48 (by decide) rfl (by omega) (by omega) (fun c48 => ?_) (fun c48 => ?_)
          · refine aw_iconst dX11_dig_76 rfl ?_
            refine aw_goto (tgt := 81) dX11_dig_77 (by decide) ?_
            refine aw_istore3 rfl dX11_dig_81 rfl (by decide) ?_
            refine aw_iinc4 rfl dX11_dig_82 rfl (by decide) ?_
            refine aw_goto (tgt := 29) dX11_dig_85 (by decide) ?_
            refine ih (i + 1) _ (by omega) hok ?_
            rcases hfr with ⟨e1, e2⟩ | ⟨e1, e2⟩ <;> first | (exfalso; omega) | exact Or.inl ⟨rfl, by (simp [freeB, e2]; omega)⟩ | exact Or.inr ⟨rfl, by (simp [freeB, e2]; omega)⟩ | exact Or.inr ⟨rfl, by simp [freeB, e2]⟩
          · refine aw_iload dX11_dig_51 rfl rfl ?_
            refine aw_iload_n dX11_dig_53 rfl rfl ?_
            refine aw_icmp_eq (tgt := 76) dX11_dig_54 (by decide) rfl (by omega) (by omega) (fun c54 => ?_) (fun c54 => ?_)
            · refine aw_iconst dX11_dig_76 rfl ?_
              refine aw_goto (tgt := 81) dX11_dig_77 (by decide) ?_
              refine aw_istore3 rfl dX11_dig_81 rfl (by decide) ?_
              refine aw_iinc4 rfl dX11_dig_82 rfl (by decide) ?_
              refine aw_goto (tgt := 29) dX11_dig_85 (by decide) ?_
              refine ih (i + 1) _ (by omega) hok ?_
              rcases hfr with ⟨e1, e2⟩ | ⟨e1, e2⟩ <;> first | (exfalso; omega) | exact Or.inl ⟨rfl, by (simp [freeB, e2]; omega)⟩ | exact Or.inr ⟨rfl, by (simp [freeB, e2]; omega)⟩ | exact Or.inr ⟨rfl, by simp [freeB, e2]⟩
            · refine aw_aload_n dX11_dig_57 rfl rfl ?_
              refine aw_getR dX11_dig_58 rfl fl_X11_7 g109 (by rfl) ?_
              refine aw_bipush dX11_dig_61 rfl (by decide) ?_
              refine aw_bipush dX11_dig_63 rfl (by decide) ?_
              refine aw_iload dX11_dig_65 rfl rfl ?_
              refine aw_imul dX11_dig_67 rfl ?_
              refine aw_iadd dX11_dig_68 rfl ?_
              refine aw_iconst dX11_dig_69 rfl ?_
              refine aw_iadd dX11_dig_70 rfl ?_
              refine aw_iaload dX11_dig_71 rfl g110 (by decide) (by omega) ?_
              refine aw_iload_n dX11_dig_72 rfl rfl ?_
              refine aw_icmp_eq (tgt := 80) dX11_dig_73 (by decide) rfl (by omega) (by omega) (fun c73 => ?_) (fun c73 => ?_)
              · refine aw_iconst dX11_dig_80 rfl ?_
                refine aw_istore3 rfl dX11_dig_81 rfl (by decide) ?_
                refine aw_iinc4 rfl dX11_dig_82 rfl (by decide) ?_
                refine aw_goto (tgt := 29) dX11_dig_85 (by decide) ?_
                refine ih (i + 1) _ (by omega) hok ?_
                rcases hfr with ⟨e1, e2⟩ | ⟨e1, e2⟩ <;> first | (exfalso; omega) | exact Or.inl ⟨rfl, by (simp [freeB, e2]; omega)⟩ | exact Or.inr ⟨rfl, by (simp [freeB, e2]; omega)⟩ | exact Or.inr ⟨rfl, by simp [freeB, e2]⟩
              · refine aw_iconst dX11_dig_76 rfl ?_
                refine aw_goto (tgt := 81) dX11_dig_77 (by decide) ?_
                refine aw_istore3 rfl dX11_dig_81 rfl (by decide) ?_
                refine aw_iinc4 rfl dX11_dig_82 rfl (by decide) ?_
                refine aw_goto (tgt := 29) dX11_dig_85 (by decide) ?_
                refine ih (i + 1) _ (by omega) hok ?_
                rcases hfr with ⟨e1, e2⟩ | ⟨e1, e2⟩ <;> first | (exfalso; omega) | exact Or.inl ⟨rfl, by (simp [freeB, e2]; omega)⟩ | exact Or.inr ⟨rfl, by (simp [freeB, e2]; omega)⟩ | exact Or.inr ⟨rfl, by simp [freeB, e2]⟩
  refine AMet.of' 2 (ls := [some (vR (109)), some (vI (p)), some (vI (x)), none, none]) (by decide) rfl (Nat.le_of_ble_eq_true rfl) ?_
  refine aw_aload_n dX11_dig_0 rfl rfl ?_
  refine aw_iload_n dX11_dig_1 rfl rfl ?_
  refine aw_callV [_] _ dX11_dig_2 rfl clv_X11_217 (by decide) ⟨Nat.zero_le _, Nat.zero_le _⟩ g109 (by rfl) (Nat.le_of_ble_eq_true rfl) rfl ?_
  refine sR_isSpud h46 hp (fun c2 => ?_) (fun c2 => ?_)
  · refine aw_if_eq (tgt := 22) dX11_dig_5 (by decide) rfl (by omega) (fun c => absurd c (by decide)) (fun _ => ?_)
    refine aw_iload_n dX11_dig_8 rfl rfl ?_
    refine aw_bipush dX11_dig_9 rfl (by decide) ?_
    refine aw_icmp_eq (tgt := 24) dX11_dig_11 (by decide) rfl (by omega) (by omega) (fun c11 => ?_) (fun c11 => ?_)
    · refine aw_iconst dX11_dig_24 rfl ?_
      refine aw_istore3 rfl dX11_dig_25 rfl (by decide) ?_
      refine aw_iconst dX11_dig_26 rfl ?_
      refine aw_istore4 rfl dX11_dig_27 rfl (by decide) ?_
      exact loop (mem 110 46).toNat 0 1 (by omega) (by omega) (Or.inl ⟨rfl, rfl⟩)
    · refine aw_aload_n dX11_dig_14 rfl rfl ?_
      refine aw_iload_n dX11_dig_15 rfl rfl ?_
      refine aw_callV [_] _ dX11_dig_16 rfl clv_X11_212 (by decide) ⟨Nat.zero_le _, Nat.zero_le _⟩ g109 (by rfl) (Nat.le_of_ble_eq_true rfl) rfl ?_
      refine sR_isPlace (by omega) hx (fun c16 => ?_) (fun c16 => ?_)
      · refine aw_if_ne (tgt := 24) dX11_dig_19 (by decide) rfl (by omega) (fun _ => ?_) (fun c => absurd c (by decide))
        refine aw_iconst dX11_dig_24 rfl ?_
        refine aw_istore3 rfl dX11_dig_25 rfl (by decide) ?_
        refine aw_iconst dX11_dig_26 rfl ?_
        refine aw_istore4 rfl dX11_dig_27 rfl (by decide) ?_
        exact loop (mem 110 46).toNat 0 1 (by omega) (by omega) (Or.inl ⟨rfl, rfl⟩)
      · refine aw_if_ne (tgt := 24) dX11_dig_19 (by decide) rfl (by omega) (fun c => absurd c (by decide)) (fun _ => ?_)
        refine aw_iconst dX11_dig_22 rfl ?_
        refine aw_ireturn (ty := .int) dX11_dig_23 rfl rfl ?_
        exact q_eq k (by unfold digM; rw [if_neg (by omega)]) (by unfold digM; rw [if_neg (by omega), mcell_self])
  · refine aw_if_eq (tgt := 22) dX11_dig_5 (by decide) rfl (by omega) (fun _ => ?_) (fun c => absurd c (by decide))
    refine aw_iconst dX11_dig_22 rfl ?_
    refine aw_ireturn (ty := .int) dX11_dig_23 rfl rfl ?_
    exact q_eq k (by unfold digM; rw [if_neg (by omega)]) (by unfold digM; rw [if_neg (by omega), mcell_self])
theorem sR_go {n c : Int} (h : Wf n (mem 110)) (hm : mem 109 3 = n) (h45 : 0 ≤ mem 110 45 ∧ mem 110 45 ≤ 999) (hc : -2147483648 ≤ c ∧ c ≤ 2147483647) (k : ∀ g, Q (some (vI (goM n (mem 110) c).1)) (mcell (mcell mem 110 (goM n (mem 110) c).2) 111 g)) : AMet Γ mX11_go [vR 109, vI c] zG mem Q := by
  have h46 := h.2.2.2.2.2.2.1
  have hcom : ∀ (f g : Int → Int), mcell (mcell mem 111 g) 110 f = mcell (mcell mem 110 f) 111 g := by
    intro f g
    funext d
    by_cases e1 : d = 110
    · subst e1; rfl
    · by_cases e2 : d = 111
      · subst e2; rfl
      · rw [mcell_ne e1, mcell_ne e2, mcell_ne e2, mcell_ne e1]
  have loop : ∀ (g : Int → Int) (d : Nat) (i : Int), g = roundsF n c.toNat (mem 110) → i + d = 115 → 0 ≤ i → (0 ≤ c ∧ c ≤ 60) → mem 110 45 + c ≤ 999 → AW Γ mX11_go (zF Γ zG Q) zG 0 0 43 [some (vR 109), some (vI c), some (vI i)] [] (mcell (mcell mem 111 g) 110 (fcopy g (mem 110) 0 0 i)) := by
    intro g d
    induction d with
    | zero =>
      intro i hg hi h0 hok h9
      obtain ⟨w1, w2, w3, w4⟩ := roundsF_Wf c.toNat _ h
      obtain rfl : i = 115 := by omega
      refine aw_iload_n dX11_go_43 rfl rfl ?_
      refine aw_bipush dX11_go_44 rfl (by decide) ?_
      refine aw_icmp_ge (tgt := 67) dX11_go_46 (by decide) rfl (by omega) (by omega) (fun c46 => ?_) (fun c46 => ?_)
      · refine aw_aload_n dX11_go_67 rfl rfl ?_
        refine aw_callV [] _ dX11_go_68 rfl clv_X11_241 (by decide) ⟨Nat.zero_le _, Nat.zero_le _⟩ g109 (by rfl) (Nat.le_of_ble_eq_true rfl) rfl ?_
        refine sR_goods (n := n) (by rw [mcell_ne (by decide), mcell_same, hg]; exact w1) ?_
        refine aw_ireturn (ty := .int) dX11_go_71 rfl rfl ?_
        exact q_eq (k g) (by unfold goM; rw [if_pos hok, if_pos h9, mcell_ne (by decide), mcell_same, hg, w2]) (by unfold goM; rw [if_pos hok, if_pos h9, hcom, hg])
      · exfalso; omega
    | succ d ih =>
      intro i hg hi h0 hok h9
      refine aw_iload_n dX11_go_43 rfl rfl ?_
      refine aw_bipush dX11_go_44 rfl (by decide) ?_
      refine aw_icmp_ge (tgt := 67) dX11_go_46 (by decide) rfl (by omega) (by omega) (fun c46 => ?_) (fun c46 => ?_)
      · exfalso; omega
      · refine aw_aload_n dX11_go_49 rfl rfl ?_
        refine aw_getR dX11_go_50 rfl fl_X11_7 g109 (by rfl) ?_
        refine aw_iload_n dX11_go_53 rfl rfl ?_
        refine aw_aload_n dX11_go_54 rfl rfl ?_
        refine aw_getR dX11_go_55 rfl fl_X11_13 g109 (by rfl) ?_
        refine aw_iload_n dX11_go_58 rfl rfl ?_
        refine aw_iaload dX11_go_59 rfl g111 (by decide) (by omega) ?_
        refine aw_iastore dX11_go_60 rfl g110 (by decide) (by omega) ?_
        rw [mset_mcell, show (mcell (mcell mem 111 g) 110 (fcopy g (mem 110) 0 0 i)) 111 i = g i from rfl, fcopy_step h0]
        refine aw_iinc2 rfl dX11_go_61 rfl (by decide) ?_
        refine aw_goto (tgt := 43) dX11_go_64 (by decide) ?_
        exact ih (i + 1) hg (by omega) (by omega) hok h9
  refine AMet.of' 1 (ls := [some (vR (109)), some (vI (c)), none]) (by decide) rfl (Nat.le_of_ble_eq_true rfl) ?_
  refine aw_iload_n dX11_go_0 rfl rfl ?_
  refine aw_i2l dX11_go_1 rfl (by omega) ?_
  refine aw_lconst (a := 0) dX11_go_2 rfl (by decide) ?_
  refine aw_ldc2 (a := 60) dX11_go_3 rfl lc_X11_236 (by decide) ?_
  refine aw_callS [_, _, _] _ dX11_go_6 rfl cls_X11_78 (by decide) ⟨Nat.zero_le _, Nat.zero_le _⟩ (Nat.le_of_ble_eq_true rfl) rfl ?_
  refine sR_in (by omega) (by omega) (by omega) (fun c6 => ?_) (fun c6 => ?_)
  · refine aw_if_ne (tgt := 14) dX11_go_9 (by decide) rfl (by omega) (fun _ => ?_) (fun c => absurd c (by decide))
    refine aw_aload_n dX11_go_14 rfl rfl ?_
    refine aw_getR dX11_go_15 rfl fl_X11_7 g109 (by rfl) ?_
    refine aw_bipush dX11_go_18 rfl (by decide) ?_
    refine aw_iaload dX11_go_20 rfl g110 (by decide) (by omega) ?_
    refine aw_iload_n dX11_go_21 rfl rfl ?_
    refine aw_iadd dX11_go_22 rfl ?_
    refine aw_sipush dX11_go_23 rfl (by decide) ?_
    refine aw_icmp_le (tgt := 32) dX11_go_26 (by decide) rfl (by omega) (by omega) (fun c26 => ?_) (fun c26 => ?_)
    · refine aw_aload_n dX11_go_32 rfl rfl ?_
      refine aw_callV [] _ dX11_go_33 rfl clv_X11_222 (by decide) ⟨Nat.zero_le _, Nat.zero_le _⟩ g109 (by rfl) (Nat.le_of_ble_eq_true rfl) rfl ?_
      refine sR_starts2 ?_
      refine aw_aload_n dX11_go_36 rfl rfl ?_
      refine aw_iload_n dX11_go_37 rfl rfl ?_
      refine aw_callV [_] _ dX11_go_38 rfl clv_X11_238 (by decide) ⟨Nat.zero_le _, Nat.zero_le _⟩ g109 (by rfl) (Nat.le_of_ble_eq_true rfl) rfl ?_
      refine sR_roundsAll (n := n) (by omega) (by rw [mcell_same]; exact h) hm ?_
      rw [mcell_same, mcell_mcell]
      refine aw_iconst dX11_go_41 rfl ?_
      refine aw_istore2 rfl dX11_go_42 rfl (by decide) ?_
      have l0 := loop _ 115 0 rfl (by omega) (by omega) (by omega) (by omega)
      have e0 : mcell (mcell mem 111 (roundsF n c.toNat (mem 110))) 110 (mem 110) = mcell mem 111 (roundsF n c.toNat (mem 110)) := mcell_self
      rw [fcopy_0, e0] at l0
      exact l0
    · refine aw_bipush dX11_go_29 rfl (by decide) ?_
      refine aw_ireturn (ty := .int) dX11_go_31 rfl rfl ?_
      exact q_eq (k (mem 111)) (by unfold goM; rw [if_pos (by omega), if_neg (by omega)]) (by unfold goM; rw [if_pos (by omega), if_neg (by omega), mcell_self, mcell_self])
  · refine aw_if_ne (tgt := 14) dX11_go_9 (by decide) rfl (by omega) (fun c => absurd c (by decide)) (fun _ => ?_)
    refine aw_iconst dX11_go_12 rfl ?_
    refine aw_ireturn (ty := .int) dX11_go_13 rfl rfl ?_
    exact q_eq (k (mem 111)) (by unfold goM; rw [if_neg (by omega)]) (by unfold goM; rw [if_neg (by omega), mcell_self, mcell_self])
theorem sR_ahead {n p c w : Int} (h : Wf n (mem 110)) (hm : mem 109 3 = n) (hp : -2147483648 ≤ p ∧ p ≤ 2147483647) (hc : -2147483648 ≤ c ∧ c ≤ 2147483647) (hw : -2147483648 ≤ w ∧ w ≤ 2147483647) (k : ∀ g, Q (some (vI (aheadM n (mem 110) p c w))) (mcell mem 111 g)) : AMet Γ mX11_ahead [vR 109, vI p, vI c, vI w] zG mem Q := by
  have h46 := h.2.2.2.2.2.2.1
  obtain ⟨w1, w2, w3, w4⟩ := roundsF_Wf c.toNat _ h
  refine AMet.of' 0 (ls := [some (vR (109)), some (vI (p)), some (vI (c)), some (vI (w))]) (by decide) rfl (Nat.le_of_ble_eq_true rfl) ?_
  refine aw_aload_n dX11_ahead_0 rfl rfl ?_
  refine aw_iload_n dX11_ahead_1 rfl rfl ?_
  refine aw_callV [_] _ dX11_ahead_2 rfl clv_X11_217 (by decide) ⟨Nat.zero_le _, Nat.zero_le _⟩ g109 (by rfl) (Nat.le_of_ble_eq_true rfl) rfl ?_
  refine sR_isSpud h46 hp (fun c2 => ?_) (fun c2 => ?_)
  · refine aw_if_eq (tgt := 32) dX11_ahead_5 (by decide) rfl (by omega) (fun c => absurd c (by decide)) (fun _ => ?_)
    refine aw_iload_n dX11_ahead_8 rfl rfl ?_
    refine aw_i2l dX11_ahead_9 rfl (by omega) ?_
    refine aw_lconst (a := 0) dX11_ahead_10 rfl (by decide) ?_
    refine aw_ldc2 (a := 60) dX11_ahead_11 rfl lc_X11_236 (by decide) ?_
    refine aw_callS [_, _, _] _ dX11_ahead_14 rfl cls_X11_78 (by decide) ⟨Nat.zero_le _, Nat.zero_le _⟩ (Nat.le_of_ble_eq_true rfl) rfl ?_
    refine sR_in (by omega) (by omega) (by omega) (fun c14 => ?_) (fun c14 => ?_)
    · refine aw_if_eq (tgt := 32) dX11_ahead_17 (by decide) rfl (by omega) (fun c => absurd c (by decide)) (fun _ => ?_)
      refine aw_iload_n dX11_ahead_20 rfl rfl ?_
      refine aw_i2l dX11_ahead_21 rfl (by omega) ?_
      refine aw_lconst (a := 0) dX11_ahead_22 rfl (by decide) ?_
      refine aw_ldc2 (a := 9) dX11_ahead_23 rfl lc_X11_220 (by decide) ?_
      refine aw_callS [_, _, _] _ dX11_ahead_26 rfl cls_X11_78 (by decide) ⟨Nat.zero_le _, Nat.zero_le _⟩ (Nat.le_of_ble_eq_true rfl) rfl ?_
      refine sR_in (by omega) (by omega) (by omega) (fun c26 => ?_) (fun c26 => ?_)
      · refine aw_if_ne (tgt := 34) dX11_ahead_29 (by decide) rfl (by omega) (fun _ => ?_) (fun c => absurd c (by decide))
        refine aw_aload_n dX11_ahead_34 rfl rfl ?_
        refine aw_callV [] _ dX11_ahead_35 rfl clv_X11_222 (by decide) ⟨Nat.zero_le _, Nat.zero_le _⟩ g109 (by rfl) (Nat.le_of_ble_eq_true rfl) rfl ?_
        refine sR_starts2 ?_
        refine aw_aload_n dX11_ahead_38 rfl rfl ?_
        refine aw_iload_n dX11_ahead_39 rfl rfl ?_
        refine aw_callV [_] _ dX11_ahead_40 rfl clv_X11_238 (by decide) ⟨Nat.zero_le _, Nat.zero_le _⟩ g109 (by rfl) (Nat.le_of_ble_eq_true rfl) rfl ?_
        refine sR_roundsAll (n := n) (by omega) (by rw [mcell_same]; exact h) hm ?_
        rw [mcell_same, mcell_mcell]
        refine aw_aload_n dX11_ahead_43 rfl rfl ?_
        refine aw_iload_n dX11_ahead_44 rfl rfl ?_
        refine aw_iload_n dX11_ahead_45 rfl rfl ?_
        refine aw_callV [_, _] _ dX11_ahead_46 rfl clv_X11_225 (by decide) ⟨Nat.zero_le _, Nat.zero_le _⟩ g109 (by rfl) (Nat.le_of_ble_eq_true rfl) rfl ?_
        refine sR_tells (n := n) (by omega) (by rw [mcell_same]; exact w1.2.2.2.2.2.2.2.1 p (by omega) (by omega)) (by omega) ?_
        refine aw_ireturn (ty := .int) dX11_ahead_49 rfl rfl ?_
        exact q_eq (k _) (by unfold aheadM; rw [if_pos (by omega), mcell_same]) rfl
      · refine aw_if_ne (tgt := 34) dX11_ahead_29 (by decide) rfl (by omega) (fun c => absurd c (by decide)) (fun _ => ?_)
        refine aw_iconst dX11_ahead_32 rfl ?_
        refine aw_ireturn (ty := .int) dX11_ahead_33 rfl rfl ?_
        exact q_eq (k (mem 111)) (by unfold aheadM; rw [if_neg (by omega)]) mcell_self
    · refine aw_if_eq (tgt := 32) dX11_ahead_17 (by decide) rfl (by omega) (fun _ => ?_) (fun c => absurd c (by decide))
      refine aw_iconst dX11_ahead_32 rfl ?_
      refine aw_ireturn (ty := .int) dX11_ahead_33 rfl rfl ?_
      exact q_eq (k (mem 111)) (by unfold aheadM; rw [if_neg (by omega)]) mcell_self
  · refine aw_if_eq (tgt := 32) dX11_ahead_5 (by decide) rfl (by omega) (fun _ => ?_) (fun c => absurd c (by decide))
    refine aw_iconst dX11_ahead_32 rfl ?_
    refine aw_ireturn (ty := .int) dX11_ahead_33 rfl rfl ?_
    exact q_eq (k (mem 111)) (by unfold aheadM; rw [if_neg (by omega)]) mcell_self
theorem sR_later {n x c : Int} (h : Wf n (mem 110)) (hm : mem 109 3 = n) (hx : -2147483648 ≤ x ∧ x ≤ 2147483647) (hc : -2147483648 ≤ c ∧ c ≤ 2147483647) (k : ∀ g, Q (some (vI (laterM n (mem 110) x c))) (mcell mem 111 g)) : AMet Γ mX11_later [vR 109, vI x, vI c] zG mem Q := by
  have hn := h.1
  refine AMet.of' 0 (ls := [some (vR (109)), some (vI (x)), some (vI (c))]) (by decide) rfl (Nat.le_of_ble_eq_true rfl) ?_
  refine aw_aload_n dX11_later_0 rfl rfl ?_
  refine aw_iload_n dX11_later_1 rfl rfl ?_
  refine aw_callV [_] _ dX11_later_2 rfl clv_X11_212 (by decide) ⟨Nat.zero_le _, Nat.zero_le _⟩ g109 (by rfl) (Nat.le_of_ble_eq_true rfl) rfl ?_
  refine sR_isPlace (by omega) hx (fun c2 => ?_) (fun c2 => ?_)
  · refine aw_if_eq (tgt := 20) dX11_later_5 (by decide) rfl (by omega) (fun c => absurd c (by decide)) (fun _ => ?_)
    refine aw_iload_n dX11_later_8 rfl rfl ?_
    refine aw_i2l dX11_later_9 rfl (by omega) ?_
    refine aw_lconst (a := 0) dX11_later_10 rfl (by decide) ?_
    refine aw_ldc2 (a := 60) dX11_later_11 rfl lc_X11_236 (by decide) ?_
    refine aw_callS [_, _, _] _ dX11_later_14 rfl cls_X11_78 (by decide) ⟨Nat.zero_le _, Nat.zero_le _⟩ (Nat.le_of_ble_eq_true rfl) rfl ?_
    refine sR_in (by omega) (by omega) (by omega) (fun c14 => ?_) (fun c14 => ?_)
    · refine aw_if_ne (tgt := 22) dX11_later_17 (by decide) rfl (by omega) (fun _ => ?_) (fun c => absurd c (by decide))
      refine aw_aload_n dX11_later_22 rfl rfl ?_
      refine aw_callV [] _ dX11_later_23 rfl clv_X11_222 (by decide) ⟨Nat.zero_le _, Nat.zero_le _⟩ g109 (by rfl) (Nat.le_of_ble_eq_true rfl) rfl ?_
      refine sR_starts2 ?_
      refine aw_aload_n dX11_later_26 rfl rfl ?_
      refine aw_iload_n dX11_later_27 rfl rfl ?_
      refine aw_callV [_] _ dX11_later_28 rfl clv_X11_238 (by decide) ⟨Nat.zero_le _, Nat.zero_le _⟩ g109 (by rfl) (Nat.le_of_ble_eq_true rfl) rfl ?_
      refine sR_roundsAll (n := n) (by omega) (by rw [mcell_same]; exact h) hm ?_
      rw [mcell_same, mcell_mcell]
      refine aw_aload_n dX11_later_31 rfl rfl ?_
      refine aw_getR dX11_later_32 rfl fl_X11_13 g109 (by rfl) ?_
      refine aw_iconst dX11_later_35 rfl ?_
      refine aw_iload_n dX11_later_36 rfl rfl ?_
      refine aw_iadd dX11_later_37 rfl ?_
      refine aw_iaload dX11_later_38 rfl g111 (by decide) (by omega) ?_
      refine aw_ireturn (ty := .int) dX11_later_39 rfl rfl ?_
      exact q_eq (k _) (by unfold laterM; rw [if_pos (by omega), mcell_same, show (0 : Int) + x = x by omega]) rfl
    · refine aw_if_ne (tgt := 22) dX11_later_17 (by decide) rfl (by omega) (fun c => absurd c (by decide)) (fun _ => ?_)
      refine aw_iconst dX11_later_20 rfl ?_
      refine aw_ireturn (ty := .int) dX11_later_21 rfl rfl ?_
      exact q_eq (k (mem 111)) (by unfold laterM; rw [if_neg (by omega)]) mcell_self
  · refine aw_if_eq (tgt := 20) dX11_later_5 (by decide) rfl (by omega) (fun _ => ?_) (fun c => absurd c (by decide))
    refine aw_iconst dX11_later_20 rfl ?_
    refine aw_ireturn (ty := .int) dX11_later_21 rfl rfl ?_
    exact q_eq (k (mem 111)) (by unfold laterM; rw [if_neg (by omega)]) mcell_self
theorem sR_feel {c x v : Int} (hm : 3 ≤ mem 109 3 ∧ mem 109 3 ≤ 8) (h96 : 0 ≤ mem 110 96 ∧ mem 110 96 ≤ 6) (hc : -2147483648 ≤ c ∧ c ≤ 2147483647) (hx : -2147483648 ≤ x ∧ x ≤ 2147483647) (hv : -2147483648 ≤ v ∧ v ≤ 2147483647) (k : Q (some (vI (feelM (mem 109 3) (mem 110) c x v).1)) (mcell mem 110 (feelM (mem 109 3) (mem 110) c x v).2)) : AMet Γ mX11_feel [vR 109, vI c, vI x, vI v] zG mem Q := by
  refine AMet.of' 1 (ls := [some (vR (109)), some (vI (c)), some (vI (x)), some (vI (v)), none]) (by decide) rfl (Nat.le_of_ble_eq_true rfl) ?_
  refine aw_iload_n dX11_feel_0 rfl rfl ?_
  refine aw_i2l dX11_feel_1 rfl (by omega) ?_
  refine aw_lconst (a := 0) dX11_feel_2 rfl (by decide) ?_
  refine aw_ldc2 (a := 20) dX11_feel_3 rfl lc_X11_250 (by decide) ?_
  refine aw_callS [_, _, _] _ dX11_feel_6 rfl cls_X11_78 (by decide) ⟨Nat.zero_le _, Nat.zero_le _⟩ (Nat.le_of_ble_eq_true rfl) rfl ?_
  refine sR_in (by omega) (by omega) (by omega) (fun c6 => ?_) (fun c6 => ?_)
  · refine aw_if_eq (tgt := 32) dX11_feel_9 (by decide) rfl (by omega) (fun c => absurd c (by decide)) (fun _ => ?_)
    refine aw_aload_n dX11_feel_12 rfl rfl ?_
    refine aw_iload_n dX11_feel_13 rfl rfl ?_
    refine aw_callV [_] _ dX11_feel_14 rfl clv_X11_212 (by decide) ⟨Nat.zero_le _, Nat.zero_le _⟩ g109 (by rfl) (Nat.le_of_ble_eq_true rfl) rfl ?_
    refine sR_isPlace (by omega) hx (fun c14 => ?_) (fun c14 => ?_)
    · refine aw_if_eq (tgt := 32) dX11_feel_17 (by decide) rfl (by omega) (fun c => absurd c (by decide)) (fun _ => ?_)
      refine aw_iload_n dX11_feel_20 rfl rfl ?_
      refine aw_i2l dX11_feel_21 rfl (by omega) ?_
      refine aw_lconst (a := 0) dX11_feel_22 rfl (by decide) ?_
      refine aw_ldc2 (a := 99) dX11_feel_23 rfl lc_X11_228 (by decide) ?_
      refine aw_callS [_, _, _] _ dX11_feel_26 rfl cls_X11_78 (by decide) ⟨Nat.zero_le _, Nat.zero_le _⟩ (Nat.le_of_ble_eq_true rfl) rfl ?_
      refine sR_in (by omega) (by omega) (by omega) (fun c26 => ?_) (fun c26 => ?_)
      · refine aw_if_ne (tgt := 34) dX11_feel_29 (by decide) rfl (by omega) (fun _ => ?_) (fun c => absurd c (by decide))
        refine aw_aload_n dX11_feel_34 rfl rfl ?_
        refine aw_getR dX11_feel_35 rfl fl_X11_7 g109 (by rfl) ?_
        refine aw_bipush dX11_feel_38 rfl (by decide) ?_
        refine aw_iaload dX11_feel_40 rfl g110 (by decide) (by omega) ?_
        refine aw_bipush dX11_feel_41 rfl (by decide) ?_
        refine aw_icmp_ne (tgt := 49) dX11_feel_43 (by decide) rfl (by omega) (by omega) (fun c43 => ?_) (fun c43 => ?_)
        · refine aw_bipush dX11_feel_49 rfl (by decide) ?_
          refine aw_iconst dX11_feel_51 rfl ?_
          refine aw_aload_n dX11_feel_52 rfl rfl ?_
          refine aw_getR dX11_feel_53 rfl fl_X11_7 g109 (by rfl) ?_
          refine aw_bipush dX11_feel_56 rfl (by decide) ?_
          refine aw_iaload dX11_feel_58 rfl g110 (by decide) (by omega) ?_
          refine aw_imul dX11_feel_59 rfl ?_
          refine aw_iadd dX11_feel_60 rfl ?_
          refine aw_istore4 rfl dX11_feel_61 rfl (by decide) ?_
          refine aw_aload_n dX11_feel_63 rfl rfl ?_
          refine aw_getR dX11_feel_64 rfl fl_X11_7 g109 (by rfl) ?_
          refine aw_iload dX11_feel_67 rfl rfl ?_
          refine aw_iload_n dX11_feel_69 rfl rfl ?_
          refine aw_iastore dX11_feel_70 rfl g110 (by decide) (by omega) ?_
          refine aw_aload_n dX11_feel_71 rfl rfl ?_
          refine aw_getR dX11_feel_72 rfl fl_X11_7 g109 (by rfl) ?_
          refine aw_iload dX11_feel_75 rfl rfl ?_
          refine aw_iconst dX11_feel_77 rfl ?_
          refine aw_iadd dX11_feel_78 rfl ?_
          refine aw_iload_n dX11_feel_79 rfl rfl ?_
          refine aw_iastore dX11_feel_80 rfl g110 (by decide) (by omega) ?_
          refine aw_aload_n dX11_feel_81 rfl rfl ?_
          refine aw_getR dX11_feel_82 rfl fl_X11_7 g109 (by rfl) ?_
          refine aw_iload dX11_feel_85 rfl rfl ?_
          refine aw_iconst dX11_feel_87 rfl ?_
          refine aw_iadd dX11_feel_88 rfl ?_
          refine aw_iload_n dX11_feel_89 rfl rfl ?_
          refine aw_iastore dX11_feel_90 rfl g110 (by decide) (by omega) ?_
          refine aw_aload_n dX11_feel_91 rfl rfl ?_
          refine aw_getR dX11_feel_92 rfl fl_X11_7 g109 (by rfl) ?_
          refine aw_bipush dX11_feel_95 rfl (by decide) ?_
          refine aw_dup2 dX11_feel_97 rfl rfl rfl ?_
          refine aw_iaload dX11_feel_98 rfl g110 (by decide) (by omega) ?_
          simp only [mset_eq, mcell_same, mcell_mcell]
          rw [fset_ne (by omega), fset_ne (by omega), fset_ne (by omega)]
          refine aw_iconst dX11_feel_99 rfl ?_
          refine aw_iadd dX11_feel_100 rfl ?_
          refine aw_iastore dX11_feel_101 rfl g110 (by decide) (by omega) ?_
          rw [mset_mcell]
          refine aw_aload_n dX11_feel_102 rfl rfl ?_
          refine aw_getR dX11_feel_103 rfl fl_X11_7 g109 (by rfl) ?_
          refine aw_bipush dX11_feel_106 rfl (by decide) ?_
          refine aw_iaload dX11_feel_108 rfl g110 (by decide) (by omega) ?_
          rw [mcell_same, fset_same]
          refine aw_ireturn (ty := .int) dX11_feel_109 rfl rfl ?_
          exact q_eq k (by unfold feelM; rw [if_pos (by omega), if_neg c43]) (by unfold feelM; rw [if_pos (by omega), if_neg c43]; rfl)
        · refine aw_bipush dX11_feel_46 rfl (by decide) ?_
          refine aw_ireturn (ty := .int) dX11_feel_48 rfl rfl ?_
          exact q_eq k (by unfold feelM; rw [if_pos (by omega), if_pos c43]) (by unfold feelM; rw [if_pos (by omega), if_pos c43, mcell_self])
      · refine aw_if_ne (tgt := 34) dX11_feel_29 (by decide) rfl (by omega) (fun c => absurd c (by decide)) (fun _ => ?_)
        refine aw_iconst dX11_feel_32 rfl ?_
        refine aw_ireturn (ty := .int) dX11_feel_33 rfl rfl ?_
        exact q_eq k (by unfold feelM; rw [if_neg (by omega)]) (by unfold feelM; rw [if_neg (by omega), mcell_self])
    · refine aw_if_eq (tgt := 32) dX11_feel_17 (by decide) rfl (by omega) (fun _ => ?_) (fun c => absurd c (by decide))
      refine aw_iconst dX11_feel_32 rfl ?_
      refine aw_ireturn (ty := .int) dX11_feel_33 rfl rfl ?_
      exact q_eq k (by unfold feelM; rw [if_neg (by omega)]) (by unfold feelM; rw [if_neg (by omega), mcell_self])
  · refine aw_if_eq (tgt := 32) dX11_feel_9 (by decide) rfl (by omega) (fun _ => ?_) (fun c => absurd c (by decide))
    refine aw_iconst dX11_feel_32 rfl ?_
    refine aw_ireturn (ty := .int) dX11_feel_33 rfl rfl ?_
    exact q_eq k (by unfold feelM; rw [if_neg (by omega)]) (by unfold feelM; rw [if_neg (by omega), mcell_self])
theorem sR_forget {c : Int} (h96 : 0 ≤ mem 110 96 ∧ mem 110 96 ≤ 6) (hc : -2147483648 ≤ c ∧ c ≤ 2147483647) (k : Q (some (vI (forgetM (mem 110) c).1)) (mcell mem 110 (forgetM (mem 110) c).2)) : AMet Γ mX11_forget [vR 109, vI c] zG mem Q := by
  refine AMet.of' 0 (ls := [some (vR (109)), some (vI (c))]) (by decide) rfl (Nat.le_of_ble_eq_true rfl) ?_
  refine aw_iload_n dX11_forget_0 rfl rfl ?_
  refine aw_i2l dX11_forget_1 rfl (by omega) ?_
  refine aw_lconst (a := 0) dX11_forget_2 rfl (by decide) ?_
  refine aw_aload_n dX11_forget_3 rfl rfl ?_
  refine aw_getR dX11_forget_4 rfl fl_X11_7 g109 (by rfl) ?_
  refine aw_bipush dX11_forget_7 rfl (by decide) ?_
  refine aw_iaload dX11_forget_9 rfl g110 (by decide) (by omega) ?_
  refine aw_i2l dX11_forget_10 rfl (by omega) ?_
  refine aw_callS [_, _, _] _ dX11_forget_11 rfl cls_X11_78 (by decide) ⟨Nat.zero_le _, Nat.zero_le _⟩ (Nat.le_of_ble_eq_true rfl) rfl ?_
  refine sR_in (by omega) (by omega) (by omega) (fun c11 => ?_) (fun c11 => ?_)
  · refine aw_if_eq (tgt := 27) dX11_forget_14 (by decide) rfl (by omega) (fun c => absurd c (by decide)) (fun _ => ?_)
    refine aw_aload_n dX11_forget_17 rfl rfl ?_
    refine aw_bipush dX11_forget_18 rfl (by decide) ?_
    refine aw_iload_n dX11_forget_20 rfl rfl ?_
    refine aw_callV [_, _] _ dX11_forget_21 rfl clv_X11_230 (by decide) ⟨Nat.zero_le _, Nat.zero_le _⟩ g109 (by rfl) (Nat.le_of_ble_eq_true rfl) rfl ?_
    refine sR_becomes (by omega) ?_
    refine aw_goto (tgt := 28) dX11_forget_24 (by decide) ?_
    refine aw_ireturn (ty := .int) dX11_forget_28 rfl rfl ?_
    first | exact q_eq k (by unfold forgetM; rw [if_pos (by omega)]) (by unfold forgetM; rw [if_pos (by omega)]; rfl) | exact q_eq k (by unfold forgetM; rw [if_neg (by omega)]) (by unfold forgetM; rw [if_neg (by omega), mcell_self])
  · refine aw_if_eq (tgt := 27) dX11_forget_14 (by decide) rfl (by omega) (fun _ => ?_) (fun c => absurd c (by decide))
    refine aw_iconst dX11_forget_27 rfl ?_
    refine aw_ireturn (ty := .int) dX11_forget_28 rfl rfl ?_
    first | exact q_eq k (by unfold forgetM; rw [if_pos (by omega)]) (by unfold forgetM; rw [if_pos (by omega)]; rfl) | exact q_eq k (by unfold forgetM; rw [if_neg (by omega)]) (by unfold forgetM; rw [if_neg (by omega), mcell_self])
end ZRef5
