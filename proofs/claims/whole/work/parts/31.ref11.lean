/-- over by under in lowest terms: the upper one (w 0), the lower one -/
def ratM (over under w : Int) : Int := if w = 0 then over / (Int.gcd under over : Int) else under / (Int.gcd under over : Int)
def liesM (n : Int) (f : Int → Int) (p x w : Int) : Int := if (0 ≤ p ∧ p < f 46) ∧ (0 ≤ x ∧ x < 3 * n) ∧ (0 ≤ w ∧ w ≤ 1) then (if f (47 + 8 * p + 7) = -4 then -2 else if allTo f p (3 * n).toNat = 0 then -4 else ratM (weightF f p x) (allTo f p (3 * n).toNat) w) else -1
def meanTo (n : Int) (f : Int → Int) (x : Int) : Nat → Int
  | 0 => 0
  | p + 1 => meanTo n f x p + (if allTo f p (3 * n).toNat = 0 then 0 else 27720 / allTo f p (3 * n).toNat * weightF f p x)
def nextAt (n : Int) (f : Int → Int) : Nat → Int × Int
  | 0 => (-4, 0)
  | x + 1 => if (nextAt n f x).2 < meanTo n f x (f 46).toNat then ((x : Int), meanTo n f x (f 46).toNat) else nextAt n f x
def nextM (n : Int) (f : Int → Int) (w : Int) : Int := if 0 ≤ w ∧ w ≤ 2 then (if (nextAt n f (3 * n).toNat).1 = -4 then -4 else if w = 0 then (nextAt n f (3 * n).toNat).1 else ratM (nextAt n f (3 * n).toNat).2 27720 (w - 1)) else -1
theorem gcd_step {x y : Int} (hx : 0 ≤ x) (hy : 0 < y) : Int.gcd y (x % y) = Int.gcd x y := by
  obtain ⟨X, rfl⟩ : ∃ X : Nat, x = (X : Int) := ⟨x.toNat, by omega⟩
  obtain ⟨Y, rfl⟩ : ∃ Y : Nat, y = (Y : Int) := ⟨y.toNat, by omega⟩
  rw [← Int.natCast_emod, Int.gcd_natCast_natCast, Int.gcd_natCast_natCast, Nat.gcd_comm X Y, Nat.gcd_rec Y X, Nat.gcd_comm]
section ZRef11
variable {Γ : ZG} {mem : Mem} {Q : Option AV → Mem → Prop}
theorem sR_common {G : List GK} {a b : Int} (ha : 0 ≤ a ∧ a ≤ 1000000000) (hb : 0 ≤ b ∧ b ≤ 1000000000) (k : Q (some (vL (Int.gcd a b : Int))) mem) : AMet Γ mX11_common [vL a, vL b] G mem Q := by
  have loop : ∀ (m : Nat) (x y : Int) (x8 x9 : Option AV), y.toNat < m → 0 ≤ x ∧ x ≤ 1000000000 → 0 ≤ y ∧ y ≤ 1000000000 → Int.gcd x y = Int.gcd a b → AW Γ mX11_common (zF Γ G Q) G 0 0 6 [some (vL a), none, some (vL b), none, some (vL x), none, some (vL y), none, x8, x9] [] mem := by
    intro m
    induction m with
    | zero => intro x y x8 x9 h; omega
    | succ m ih =>
      intro x y x8 x9 hm hx hy hg
      refine aw_lload dX11_common_6 rfl rfl ?_
      refine aw_lconst (a := 0) dX11_common_8 rfl (by decide) ?_
      refine aw_lif_eq (tgt := 31) dX11_common_9 dX11_common_10 rfl (by decide) rfl (by omega) (by omega) (fun c9 => ?_) (fun c9 => ?_)
      · refine aw_lload dX11_common_31 rfl rfl ?_
        refine aw_lreturn dX11_common_33 rfl ?_
        subst c9
        rw [Int.gcd_zero_right] at hg
        exact q_eq k (by rw [← hg]; congr 2; omega) rfl
      · refine aw_lload dX11_common_13 rfl rfl ?_
        refine aw_lload dX11_common_15 rfl rfl ?_
        refine aw_lrem dX11_common_17 rfl (by omega) (by omega) ?_
        refine aw_lstore8 rfl dX11_common_18 rfl (by decide) ?_
        have r1 := Int.emod_nonneg x (show y ≠ 0 by omega)
        have r2 := Int.emod_lt_of_pos x (show 0 < y by omega)
        refine aw_lload dX11_common_20 rfl rfl ?_
        refine aw_lstore4 rfl dX11_common_22 rfl (by decide) ?_
        refine aw_lload dX11_common_24 rfl rfl ?_
        refine aw_lstore6 rfl dX11_common_26 rfl (by decide) ?_
        refine aw_goto (tgt := 6) dX11_common_28 (by decide) ?_
        exact ih _ _ _ _ (by omega) (by omega) (by omega) (by rw [gcd_step hx.1 (by omega)]; exact hg)
  refine AMet.of' 6 (ls := [some (vL (a)), none, some (vL (b)), none, none, none, none, none, none, none]) (by decide) rfl (Nat.le_of_ble_eq_true rfl) ?_
  refine aw_lload_n dX11_common_0 rfl rfl ?_
  refine aw_lstore4 rfl dX11_common_1 rfl (by decide) ?_
  refine aw_lload_n dX11_common_3 rfl rfl ?_
  refine aw_lstore6 rfl dX11_common_4 rfl (by decide) ?_
  exact loop (b.toNat + 1) a b none none (by omega) ha hb rfl
theorem sR_told {G : List GK} {over under w : Int} (ho : 0 ≤ over ∧ over ≤ 1000000000) (hu : 0 < under ∧ under ≤ 1000000000) (hw : 0 ≤ w ∧ w ≤ 1) (k : Q (some (vL (ratM over under (1 - w)))) mem) : AMet Γ mX11_told [vL over, vL under, vI w] G mem Q := by
  have hg : 0 < (Int.gcd under over : Int) ∧ (Int.gcd under over : Int) ≤ 1000000000 := by
    have h1 : 0 < Int.gcd under over := Nat.pos_of_ne_zero (fun z => by have := (Int.gcd_eq_zero_iff.mp z).1; omega)
    have h2 := Int.gcd_dvd_left (a := under) (b := over)
    have h3 := Int.le_of_dvd (by omega) h2
    omega
  refine AMet.of' 2 (ls := [some (vL (over)), none, some (vL (under)), none, some (vI (w)), none, none]) (by decide) rfl (Nat.le_of_ble_eq_true rfl) ?_
  refine aw_lload_n dX11_told_0 rfl rfl ?_
  refine aw_lload_n dX11_told_1 rfl rfl ?_
  refine aw_callS [_, _] _ dX11_told_2 rfl cls_X11_266 (by decide) ⟨Nat.zero_le _, Nat.zero_le _⟩ (Nat.le_of_ble_eq_true rfl) rfl ?_
  refine sR_common (by omega) (by omega) ?_
  refine aw_lstore5 rfl dX11_told_5 rfl (by decide) ?_
  refine aw_iload dX11_told_7 rfl rfl ?_
  refine aw_if_eq (tgt := 19) dX11_told_9 (by decide) rfl (by omega) (fun c9 => ?_) (fun c9 => ?_)
  · refine aw_lload_n dX11_told_19 rfl rfl ?_
    refine aw_lload dX11_told_20 rfl rfl ?_
    refine aw_ldiv dX11_told_22 rfl (by omega) (by omega) ?_
    refine aw_lreturn dX11_told_23 rfl ?_
    first | exact q_eq k (by unfold ratM; rw [if_neg (by omega)]) rfl | exact q_eq k (by unfold ratM; rw [if_pos (by omega)]) rfl
  · refine aw_lload_n dX11_told_12 rfl rfl ?_
    refine aw_lload dX11_told_13 rfl rfl ?_
    refine aw_ldiv dX11_told_15 rfl (by omega) (by omega) ?_
    refine aw_goto (tgt := 23) dX11_told_16 (by decide) ?_
    refine aw_lreturn dX11_told_23 rfl ?_
    first | exact q_eq k (by unfold ratM; rw [if_neg (by omega)]) rfl | exact q_eq k (by unfold ratM; rw [if_pos (by omega)]) rfl
theorem sR_lies {n p x w : Int} (h : Wf n (mem 110)) (hm : mem 109 3 = n) (hp : -2147483648 ≤ p ∧ p ≤ 2147483647) (hx : -2147483648 ≤ x ∧ x ≤ 2147483647) (hw : -2147483648 ≤ w ∧ w ≤ 2147483647) (k : Q (some (vL (liesM n (mem 110) p x w))) mem) : AMet Γ mX11_lies [vR 109, vI p, vI x, vI w] zG mem Q := by
  have h46 := h.2.2.2.2.2.2.1
  have hn := h.1
  have ra := allTo_rng (mem 110) p (3 * n).toNat
  have rw1 := weightF_rng (mem 110) p x
  have fin : ∀ o : Int, (0 ≤ p ∧ p < mem 110 46) ∧ (0 ≤ x ∧ x < 3 * n) ∧ (0 ≤ w ∧ w ≤ 1) → ¬ mem 110 (47 + 8 * p + 7) = -4 → ¬ allTo (mem 110) p (3 * n).toNat = 0 → o = 1 - w → AW Γ mX11_lies (zF Γ zG Q) zG 0 0 91 [some (vR 109), some (vI p), some (vI x), some (vI w), some (vI (allTo (mem 110) p (3 * n).toNat))] [vI o, vL (allTo (mem 110) p (3 * n).toNat), vL (weightF (mem 110) p x)] mem := by
    intro o hok h1 h2 ho
    refine aw_callS [_, _, _] _ dX11_lies_91 rfl cls_X11_279 (by decide) ⟨Nat.zero_le _, Nat.zero_le _⟩ (Nat.le_of_ble_eq_true rfl) rfl ?_
    refine sR_told (by omega) (by omega) (by omega) ?_
    refine aw_lreturn dX11_lies_94 rfl ?_
    exact q_eq k (by unfold liesM; rw [if_pos hok, if_neg h1, if_neg h2, show 1 - o = w by omega]) rfl
  refine AMet.of' 1 (ls := [some (vR (109)), some (vI (p)), some (vI (x)), some (vI (w)), none]) (by decide) rfl (Nat.le_of_ble_eq_true rfl) ?_
  refine aw_aload_n dX11_lies_0 rfl rfl ?_
  refine aw_iload_n dX11_lies_1 rfl rfl ?_
  refine aw_callV [_] _ dX11_lies_2 rfl clv_X11_217 (by decide) ⟨Nat.zero_le _, Nat.zero_le _⟩ g109 (by rfl) (Nat.le_of_ble_eq_true rfl) rfl ?_
  refine sR_isSpud h46 hp (fun c2 => ?_) (fun c2 => ?_)
  · refine aw_if_eq (tgt := 26) dX11_lies_5 (by decide) rfl (by omega) (fun c => absurd c (by decide)) (fun _ => ?_)
    refine aw_aload_n dX11_lies_8 rfl rfl ?_
    refine aw_iload_n dX11_lies_9 rfl rfl ?_
    refine aw_callV [_] _ dX11_lies_10 rfl clv_X11_212 (by decide) ⟨Nat.zero_le _, Nat.zero_le _⟩ g109 (by rfl) (Nat.le_of_ble_eq_true rfl) rfl ?_
    refine sR_isPlace (by omega) hx (fun c10 => ?_) (fun c10 => ?_)
    · refine aw_if_eq (tgt := 26) dX11_lies_13 (by decide) rfl (by omega) (fun c => absurd c (by decide)) (fun _ => ?_)
      refine aw_iload_n dX11_lies_16 rfl rfl ?_
      refine aw_i2l dX11_lies_17 rfl (by omega) ?_
      refine aw_lconst (a := 0) dX11_lies_18 rfl (by decide) ?_
      refine aw_lconst (a := 1) dX11_lies_19 rfl (by decide) ?_
      refine aw_callS [_, _, _] _ dX11_lies_20 rfl cls_X11_78 (by decide) ⟨Nat.zero_le _, Nat.zero_le _⟩ (Nat.le_of_ble_eq_true rfl) rfl ?_
      refine sR_in (by omega) (by omega) (by omega) (fun c20 => ?_) (fun c20 => ?_)
      · refine aw_if_ne (tgt := 30) dX11_lies_23 (by decide) rfl (by omega) (fun _ => ?_) (fun c => absurd c (by decide))
        obtain ⟨s0, s1, s2, s3, s4, s5, s6, s7⟩ := h.2.2.2.2.2.2.2.1 p (by omega) (by omega)
        refine aw_aload_n dX11_lies_30 rfl rfl ?_
        refine aw_getR dX11_lies_31 rfl fl_X11_7 g109 (by rfl) ?_
        refine aw_bipush dX11_lies_34 rfl (by decide) ?_
        refine aw_bipush dX11_lies_36 rfl (by decide) ?_
        refine aw_iload_n dX11_lies_38 rfl rfl ?_
        refine aw_imul dX11_lies_39 rfl ?_
        refine aw_iadd dX11_lies_40 rfl ?_
        refine aw_bipush dX11_lies_41 rfl (by decide) ?_
        refine aw_iadd dX11_lies_43 rfl ?_
        refine aw_iaload dX11_lies_44 rfl g110 (by decide) (by omega) ?_
        refine aw_bipush dX11_lies_45 rfl (by decide) ?_
        refine aw_icmp_ne (tgt := 54) dX11_lies_47 (by decide) rfl (by omega) (by omega) (fun c47 => ?_) (fun c47 => ?_)
        · refine aw_aload_n dX11_lies_54 rfl rfl ?_
          refine aw_iload_n dX11_lies_55 rfl rfl ?_
          refine aw_callV [_] _ dX11_lies_56 rfl clv_X11_274 (by decide) ⟨Nat.zero_le _, Nat.zero_le _⟩ g109 (by rfl) (Nat.le_of_ble_eq_true rfl) rfl ?_
          refine sR_allOf (n := n) hn hm (by omega) (by omega) ?_
          refine aw_istore4 rfl dX11_lies_59 rfl (by decide) ?_
          refine aw_iload dX11_lies_61 rfl rfl ?_
          refine aw_if_ne (tgt := 72) dX11_lies_63 (by decide) rfl (by omega) (fun c63 => ?_) (fun c63 => ?_)
          · refine aw_aload_n dX11_lies_72 rfl rfl ?_
            refine aw_iload_n dX11_lies_73 rfl rfl ?_
            refine aw_iload_n dX11_lies_74 rfl rfl ?_
            refine aw_callV [_, _] _ dX11_lies_75 rfl clv_X11_263 (by decide) ⟨Nat.zero_le _, Nat.zero_le _⟩ g109 (by rfl) (Nat.le_of_ble_eq_true rfl) rfl ?_
            refine sR_weightOf (by omega) (by omega) (by omega) ?_
            refine aw_i2l dX11_lies_78 rfl (by omega) ?_
            refine aw_iload dX11_lies_79 rfl rfl ?_
            refine aw_i2l dX11_lies_81 rfl (by omega) ?_
            refine aw_iload_n dX11_lies_82 rfl rfl ?_
            refine aw_if_ne (tgt := 90) dX11_lies_83 (by decide) rfl (by omega) (fun c83 => ?_) (fun c83 => ?_)
            · refine aw_iconst dX11_lies_90 rfl ?_
              exact fin _ (by omega) c47 c63 (by omega)
            · refine aw_iconst dX11_lies_86 rfl ?_
              refine aw_goto (tgt := 91) dX11_lies_87 (by decide) ?_
              exact fin _ (by omega) c47 c63 (by omega)
          · refine aw_ldc2 (a := -4) dX11_lies_66 rfl lc_X11_277 (by decide) ?_
            refine aw_goto (tgt := 94) dX11_lies_69 (by decide) ?_
            refine aw_lreturn dX11_lies_94 rfl ?_
            exact q_eq k (by unfold liesM; rw [if_pos (by omega), if_neg c47, if_pos c63]) rfl
        · refine aw_ldc2 (a := -2) dX11_lies_50 rfl lc_X11_272 (by decide) ?_
          refine aw_lreturn dX11_lies_53 rfl ?_
          exact q_eq k (by unfold liesM; rw [if_pos (by omega), if_pos c47]) rfl
      · refine aw_if_ne (tgt := 30) dX11_lies_23 (by decide) rfl (by omega) (fun c => absurd c (by decide)) (fun _ => ?_)
        refine aw_ldc2 (a := -1) dX11_lies_26 rfl lc_X11_270 (by decide) ?_
        refine aw_lreturn dX11_lies_29 rfl ?_
        exact q_eq k (by unfold liesM; rw [if_neg (by omega)]) rfl
    · refine aw_if_eq (tgt := 26) dX11_lies_13 (by decide) rfl (by omega) (fun _ => ?_) (fun c => absurd c (by decide))
      refine aw_ldc2 (a := -1) dX11_lies_26 rfl lc_X11_270 (by decide) ?_
      refine aw_lreturn dX11_lies_29 rfl ?_
      exact q_eq k (by unfold liesM; rw [if_neg (by omega)]) rfl
  · refine aw_if_eq (tgt := 26) dX11_lies_5 (by decide) rfl (by omega) (fun _ => ?_) (fun c => absurd c (by decide))
    refine aw_ldc2 (a := -1) dX11_lies_26 rfl lc_X11_270 (by decide) ?_
    refine aw_lreturn dX11_lies_29 rfl ?_
    exact q_eq k (by unfold liesM; rw [if_neg (by omega)]) rfl
end ZRef11
