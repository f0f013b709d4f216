/-! what the calls answer: numbers of a row f with n cells -/
def goodTo : Nat → (Int → Int) → Int
  | 0, _ => 0
  | p + 1, f => goodTo p f + (if isGoodF f p then 1 else 0)
def blackTo : Nat → (Int → Int) → Int
  | 0, _ => 0
  | p + 1, f => blackTo p f + (if isBlackF f p then 1 else 0)
def tellF (f : Int → Int) (p w : Int) : Int :=
  if w = 0 then f (47 + 8 * p + 0) else if w = 1 then f (47 + 8 * p + 1) else if w = 2 then f (47 + 8 * p + 2) else if w = 3 then f (47 + 8 * p + 3)
  else if w = 4 then f (47 + 8 * p + (4 + f (47 + 8 * p + 6))) else if w = 5 then f (47 + 8 * p + (5 - f (47 + 8 * p + 6)))
  else if w = 6 then (if isDoneF f p then 1 else 0) else if w = 7 then (if isBlackF f p then 1 else 0) else if w = 8 then (if isGoodF f p then 1 else 0) else f (47 + 8 * p + 7)
def ruleM (n : Int) (f : Int → Int) (w : Int) : Int := if w = 0 then n else if w = 1 then f 24 else if w = 2 then f 25 else if w = 3 then f 26 else if w = 4 then f 45 else if w = 5 then f 46 else if w = 6 then f 95 else -1
def heatM (n : Int) (f : Int → Int) (x : Int) : Int := if 0 ≤ x ∧ x < 3 * n then f x else -1
def woodM (f : Int → Int) (i w : Int) : Int := if (0 ≤ i ∧ i < f 26) ∧ (0 ≤ w ∧ w ≤ 2) then f (27 + 3 * i + w) else -1
def spudM (f : Int → Int) (p w : Int) : Int := if (0 ≤ p ∧ p < f 46) ∧ (0 ≤ w ∧ w ≤ 9) then tellF f p w else -1
def fanM (n : Int) (f : Int → Int) (x v : Int) : Int × (Int → Int) := if (0 ≤ x ∧ x < 3 * n) ∧ (0 ≤ v ∧ v ≤ 99) then (f x, fset f x v) else (-1, f)
def ashM (f : Int → Int) (w v : Int) : Int × (Int → Int) := if (0 ≤ w ∧ w ≤ 1) ∧ (0 ≤ v ∧ v ≤ 9) then (f (24 + w), fset f (24 + w) v) else (-1, f)
def stokeF (f : Int → Int) (c a r : Int) : Int → Int := fset (fset (fset (fset f (27 + 3 * f 26) c) (27 + 3 * f 26 + 1) a) (27 + 3 * f 26 + 2) r) 26 (f 26 + 1)
def stokeM (n : Int) (f : Int → Int) (c a r : Int) : Int × (Int → Int) := if (0 ≤ c ∧ c < n) ∧ (1 ≤ a ∧ a ≤ 99) ∧ (1 ≤ r ∧ r ≤ 9) then (if f 26 = 6 then (-3, f) else (f 26 + 1, stokeF f c a r)) else (-1, f)
def addF (f : Int → Int) (s w : Int) : Int → Int := fun j => if j = 46 then f 46 + 1 else if j = 47 + 8 * f 46 then s else if j = 47 + 8 * f 46 + 1 then w else if j = 47 + 8 * f 46 + 2 ∨ j = 47 + 8 * f 46 + 7 then -4 else if 47 + 8 * f 46 + 3 ≤ j ∧ j ≤ 47 + 8 * f 46 + 6 then 0 else f j
def addM (f : Int → Int) (s w : Int) : Int × (Int → Int) := if (1 ≤ s ∧ s ≤ 9) ∧ (0 ≤ w ∧ w ≤ 2) then (if f 46 = 6 then (-3, f) else (f 46 + 1, addF f s w)) else (-1, f)
/-- nobody but p lies in x, among the first k -/
def freeTo : Nat → (Int → Int) → Int → Int → Prop
  | 0, _, _, _ => True
  | q + 1, f, p, x => freeTo q f p x ∧ ((q : Int) = p ∨ f (47 + 8 * (q : Int) + 2) ≠ x)
def turnF (f : Int → Int) (p : Int) : Int → Int := fset f (47 + 8 * p + 6) (1 - f (47 + 8 * p + 6))
def turnM (f : Int → Int) (p : Int) : Int × (Int → Int) := if 0 ≤ p ∧ p < f 46 then (f (47 + 8 * p + 4 + (1 - f (47 + 8 * p + 6))), turnF f p) else (-1, f)
def wrapM (f : Int → Int) (p w : Int) : Int × (Int → Int) := if (0 ≤ p ∧ p < f 46) ∧ (0 ≤ w ∧ w ≤ 2) then (f (47 + 8 * p + 1), fset f (47 + 8 * p + 1) w) else (-1, f)
def memoM (n : Int) (f : Int → Int) (p c : Int) : Int × (Int → Int) := if (0 ≤ p ∧ p < f 46) ∧ (c = -4 ∨ (0 ≤ c ∧ c < n)) then (f (47 + 8 * p + 7), fset f (47 + 8 * p + 7) c) else (-1, f)
def rakeM (n : Int) (f : Int → Int) (x b : Int) : Int × (Int → Int) := if 0 ≤ x ∧ x < 3 * n then (zand (zshr (f 95) x) 1, fset f 95 (if b = 0 then zand (f 95) (zxor (zshl 1 x) (-1)) else zor (f 95) (zshl 1 x))) else (-1, f)
section ZRef4
variable {Γ : ZG} {mem : Mem} {Q : Option AV → Mem → Prop}
theorem ite_fst {c : Prop} [Decidable c] {α β : Type} {a b : α × β} (h : c) : (if c then a else b).1 = a.1 := by rw [if_pos h]
theorem sR_goods {n : Int} (h : Wf n (mem 111)) (k : Q (some (vI (goodTo (mem 111 46).toNat (mem 111)))) mem) : AMet Γ mX11_goods [vR 109] zG mem Q := by
  have h46 := h.2.2.2.2.2.2.1
  have loop : ∀ (d i : Nat), i + d = (mem 111 46).toNat → AW Γ mX11_goods (zF Γ zG Q) zG 0 0 4 [some (vR 109), some (vI (goodTo i (mem 111))), some (vI i)] [] mem := by
    intro d
    induction d with
    | zero =>
      intro i hi
      refine aw_iload_n dX11_goods_4 rfl rfl ?_
      refine aw_aload_n dX11_goods_5 rfl rfl ?_
      refine aw_getR dX11_goods_6 rfl fl_X11_13 g109 (by rfl) ?_
      refine aw_bipush dX11_goods_9 rfl (by decide) ?_
      refine aw_iaload dX11_goods_11 rfl g111 (by decide) (by omega) ?_
      refine aw_icmp_ge (tgt := 32) dX11_goods_12 (by decide) rfl (by omega) (by omega) (fun c12 => ?_) (fun c12 => ?_)
      · refine aw_iload_n dX11_goods_32 rfl rfl ?_
        refine aw_ireturn (ty := .int) dX11_goods_33 rfl rfl ?_
        exact q_eq k (by rw [show i = (mem 111 46).toNat by omega]) rfl
      · exfalso; omega
    | succ d ih =>
      intro i hi
      have hs := h.2.2.2.2.2.2.2.1 i (by omega) (by omega)
      have ih2 := ih (i + 1) (by omega)
      rw [show goodTo (i + 1) (mem 111) = goodTo i (mem 111) + (if isGoodF (mem 111) i then 1 else 0) from rfl] at ih2
      refine aw_iload_n dX11_goods_4 rfl rfl ?_
      refine aw_aload_n dX11_goods_5 rfl rfl ?_
      refine aw_getR dX11_goods_6 rfl fl_X11_13 g109 (by rfl) ?_
      refine aw_bipush dX11_goods_9 rfl (by decide) ?_
      refine aw_iaload dX11_goods_11 rfl g111 (by decide) (by omega) ?_
      refine aw_icmp_ge (tgt := 32) dX11_goods_12 (by decide) rfl (by omega) (by omega) (fun c12 => ?_) (fun c12 => ?_)
      · exfalso; omega
      · refine aw_iload_n dX11_goods_15 rfl rfl ?_
        refine aw_aload_n dX11_goods_16 rfl rfl ?_
        refine aw_iload_n dX11_goods_17 rfl rfl ?_
        refine aw_callV [_] _ dX11_goods_18 rfl clv_X11_205 (by decide) ⟨Nat.zero_le _, Nat.zero_le _⟩ g109 (by rfl) (Nat.le_of_ble_eq_true rfl) rfl ?_
        refine sR_isGood (n := n) (by omega) hs (fun c18 => ?_) (fun c18 => ?_)
        · refine aw_callS [_] _ dX11_goods_21 rfl cls_X11_208 (by decide) ⟨Nat.zero_le _, Nat.zero_le _⟩ (Nat.le_of_ble_eq_true rfl) rfl ?_
          refine sR_flag (by omega) ?_
          refine aw_iadd dX11_goods_24 rfl ?_
          refine aw_istore1 rfl dX11_goods_25 rfl (by decide) ?_
          refine aw_iinc2 rfl dX11_goods_26 rfl (by decide) ?_
          refine aw_goto (tgt := 4) dX11_goods_29 (by decide) ?_
          first | (rw [if_pos c18] at ih2; exact ih2) | (rw [if_neg c18] at ih2; exact ih2)
        · refine aw_callS [_] _ dX11_goods_21 rfl cls_X11_208 (by decide) ⟨Nat.zero_le _, Nat.zero_le _⟩ (Nat.le_of_ble_eq_true rfl) rfl ?_
          refine sR_flag (by omega) ?_
          refine aw_iadd dX11_goods_24 rfl ?_
          refine aw_istore1 rfl dX11_goods_25 rfl (by decide) ?_
          refine aw_iinc2 rfl dX11_goods_26 rfl (by decide) ?_
          refine aw_goto (tgt := 4) dX11_goods_29 (by decide) ?_
          first | (rw [if_pos c18] at ih2; exact ih2) | (rw [if_neg c18] at ih2; exact ih2)
  refine AMet.of' 2 (ls := [some (vR (109)), none, none]) (by decide) rfl (Nat.le_of_ble_eq_true rfl) ?_
  refine aw_iconst dX11_goods_0 rfl ?_
  refine aw_istore1 rfl dX11_goods_1 rfl (by decide) ?_
  refine aw_iconst dX11_goods_2 rfl ?_
  refine aw_istore2 rfl dX11_goods_3 rfl (by decide) ?_
  exact loop (mem 111 46).toNat 0 (by omega)
theorem sR_blacks {n : Int} (h : Wf n (mem 111)) (k : Q (some (vI (blackTo (mem 111 46).toNat (mem 111)))) mem) : AMet Γ mX11_blacks [vR 109] zG mem Q := by
  have h46 := h.2.2.2.2.2.2.1
  have loop : ∀ (d i : Nat), i + d = (mem 111 46).toNat → AW Γ mX11_blacks (zF Γ zG Q) zG 0 0 4 [some (vR 109), some (vI (blackTo i (mem 111))), some (vI i)] [] mem := by
    intro d
    induction d with
    | zero =>
      intro i hi
      refine aw_iload_n dX11_blacks_4 rfl rfl ?_
      refine aw_aload_n dX11_blacks_5 rfl rfl ?_
      refine aw_getR dX11_blacks_6 rfl fl_X11_13 g109 (by rfl) ?_
      refine aw_bipush dX11_blacks_9 rfl (by decide) ?_
      refine aw_iaload dX11_blacks_11 rfl g111 (by decide) (by omega) ?_
      refine aw_icmp_ge (tgt := 32) dX11_blacks_12 (by decide) rfl (by omega) (by omega) (fun c12 => ?_) (fun c12 => ?_)
      · refine aw_iload_n dX11_blacks_32 rfl rfl ?_
        refine aw_ireturn (ty := .int) dX11_blacks_33 rfl rfl ?_
        exact q_eq k (by rw [show i = (mem 111 46).toNat by omega]) rfl
      · exfalso; omega
    | succ d ih =>
      intro i hi
      obtain ⟨s0, s1, s2, s3, s4, s5, s6, s7⟩ := h.2.2.2.2.2.2.2.1 i (by omega) (by omega)
      have ih2 := ih (i + 1) (by omega)
      rw [show blackTo (i + 1) (mem 111) = blackTo i (mem 111) + (if isBlackF (mem 111) i then 1 else 0) from rfl] at ih2
      refine aw_iload_n dX11_blacks_4 rfl rfl ?_
      refine aw_aload_n dX11_blacks_5 rfl rfl ?_
      refine aw_getR dX11_blacks_6 rfl fl_X11_13 g109 (by rfl) ?_
      refine aw_bipush dX11_blacks_9 rfl (by decide) ?_
      refine aw_iaload dX11_blacks_11 rfl g111 (by decide) (by omega) ?_
      refine aw_icmp_ge (tgt := 32) dX11_blacks_12 (by decide) rfl (by omega) (by omega) (fun c12 => ?_) (fun c12 => ?_)
      · exfalso; omega
      · refine aw_iload_n dX11_blacks_15 rfl rfl ?_
        refine aw_aload_n dX11_blacks_16 rfl rfl ?_
        refine aw_iload_n dX11_blacks_17 rfl rfl ?_
        refine aw_callV [_] _ dX11_blacks_18 rfl clv_X11_202 (by decide) ⟨Nat.zero_le _, Nat.zero_le _⟩ g109 (by rfl) (Nat.le_of_ble_eq_true rfl) rfl ?_
        refine sR_isBlack (by omega) s4 s5 (fun c18 => ?_) (fun c18 => ?_)
        · refine aw_callS [_] _ dX11_blacks_21 rfl cls_X11_208 (by decide) ⟨Nat.zero_le _, Nat.zero_le _⟩ (Nat.le_of_ble_eq_true rfl) rfl ?_
          refine sR_flag (by omega) ?_
          refine aw_iadd dX11_blacks_24 rfl ?_
          refine aw_istore1 rfl dX11_blacks_25 rfl (by decide) ?_
          refine aw_iinc2 rfl dX11_blacks_26 rfl (by decide) ?_
          refine aw_goto (tgt := 4) dX11_blacks_29 (by decide) ?_
          first | (rw [if_pos c18] at ih2; exact ih2) | (rw [if_neg c18] at ih2; exact ih2)
        · refine aw_callS [_] _ dX11_blacks_21 rfl cls_X11_208 (by decide) ⟨Nat.zero_le _, Nat.zero_le _⟩ (Nat.le_of_ble_eq_true rfl) rfl ?_
          refine sR_flag (by omega) ?_
          refine aw_iadd dX11_blacks_24 rfl ?_
          refine aw_istore1 rfl dX11_blacks_25 rfl (by decide) ?_
          refine aw_iinc2 rfl dX11_blacks_26 rfl (by decide) ?_
          refine aw_goto (tgt := 4) dX11_blacks_29 (by decide) ?_
          first | (rw [if_pos c18] at ih2; exact ih2) | (rw [if_neg c18] at ih2; exact ih2)
  refine AMet.of' 2 (ls := [some (vR (109)), none, none]) (by decide) rfl (Nat.le_of_ble_eq_true rfl) ?_
  refine aw_iconst dX11_blacks_0 rfl ?_
  refine aw_istore1 rfl dX11_blacks_1 rfl (by decide) ?_
  refine aw_iconst dX11_blacks_2 rfl ?_
  refine aw_istore2 rfl dX11_blacks_3 rfl (by decide) ?_
  exact loop (mem 111 46).toNat 0 (by omega)
theorem sR_tells {n p w : Int} (hp : 0 ≤ p ∧ p < 6) (hs : SpW n (mem 111) p) (hw : 0 ≤ w ∧ w ≤ 9) (k : Q (some (vI (tellF (mem 111) p w))) mem) : AMet Γ mX11_tells [vR 109, vI p, vI w] zG mem Q := by
  have hs2 := hs
  obtain ⟨s0, s1, s2, s3, s4, s5, s6, s7⟩ := hs2
  refine AMet.of' 0 (ls := [some (vR (109)), some (vI (p)), some (vI (w))]) (by decide) rfl (Nat.le_of_ble_eq_true rfl) ?_
  refine aw_iload_n dX11_tells_0 rfl rfl ?_
  refine aw_tsw (tgt := 116) dX11_tells_1 (by omega) (by decide) (by decide) (fun c1 => ?_) ?_ (by decide)
  · refine aw_aload_n dX11_tells_116 rfl rfl ?_
    refine aw_iload_n dX11_tells_117 rfl rfl ?_
    refine aw_bipush dX11_tells_118 rfl (by decide) ?_
    refine aw_callV [_, _] _ dX11_tells_120 rfl clv_X11_173 (by decide) ⟨Nat.zero_le _, Nat.zero_le _⟩ g109 (by rfl) (Nat.le_of_ble_eq_true rfl) rfl ?_
    refine sR_of (by omega) ?_
    refine aw_ireturn (ty := .int) dX11_tells_123 rfl rfl ?_
    exact q_eq k (by rw [show tellF (mem 111) p w = mem 111 (47 + 8 * p + 7) by rw [show w = 9 by omega]; rfl]) rfl
  · intro jz offz hoz hj1 tz htz hpz
    match jz, hoz with
    | 0, hoz =>
      obtain rfl : (51 : Int) = offz := Option.some.inj hoz
      obtain rfl : tz = 52 := by omega
      refine aw_aload_n dX11_tells_52 rfl rfl ?_
      refine aw_iload_n dX11_tells_53 rfl rfl ?_
      refine aw_iload_n dX11_tells_54 rfl rfl ?_
      refine aw_callV [_, _] _ dX11_tells_55 rfl clv_X11_173 (by decide) ⟨Nat.zero_le _, Nat.zero_le _⟩ g109 (by rfl) (Nat.le_of_ble_eq_true rfl) rfl ?_
      refine sR_of (by omega) ?_
      refine aw_ireturn (ty := .int) dX11_tells_58 rfl rfl ?_
      exact q_eq k (by rw [show tellF (mem 111) p w = mem 111 (47 + 8 * p + w) by rw [hj1]; rfl]) rfl
    | 1, hoz =>
      obtain rfl : (51 : Int) = offz := Option.some.inj hoz
      obtain rfl : tz = 52 := by omega
      refine aw_aload_n dX11_tells_52 rfl rfl ?_
      refine aw_iload_n dX11_tells_53 rfl rfl ?_
      refine aw_iload_n dX11_tells_54 rfl rfl ?_
      refine aw_callV [_, _] _ dX11_tells_55 rfl clv_X11_173 (by decide) ⟨Nat.zero_le _, Nat.zero_le _⟩ g109 (by rfl) (Nat.le_of_ble_eq_true rfl) rfl ?_
      refine sR_of (by omega) ?_
      refine aw_ireturn (ty := .int) dX11_tells_58 rfl rfl ?_
      exact q_eq k (by rw [show tellF (mem 111) p w = mem 111 (47 + 8 * p + w) by rw [hj1]; rfl]) rfl
    | 2, hoz =>
      obtain rfl : (51 : Int) = offz := Option.some.inj hoz
      obtain rfl : tz = 52 := by omega
      refine aw_aload_n dX11_tells_52 rfl rfl ?_
      refine aw_iload_n dX11_tells_53 rfl rfl ?_
      refine aw_iload_n dX11_tells_54 rfl rfl ?_
      refine aw_callV [_, _] _ dX11_tells_55 rfl clv_X11_173 (by decide) ⟨Nat.zero_le _, Nat.zero_le _⟩ g109 (by rfl) (Nat.le_of_ble_eq_true rfl) rfl ?_
      refine sR_of (by omega) ?_
      refine aw_ireturn (ty := .int) dX11_tells_58 rfl rfl ?_
      exact q_eq k (by rw [show tellF (mem 111) p w = mem 111 (47 + 8 * p + w) by rw [hj1]; rfl]) rfl
    | 3, hoz =>
      obtain rfl : (51 : Int) = offz := Option.some.inj hoz
      obtain rfl : tz = 52 := by omega
      refine aw_aload_n dX11_tells_52 rfl rfl ?_
      refine aw_iload_n dX11_tells_53 rfl rfl ?_
      refine aw_iload_n dX11_tells_54 rfl rfl ?_
      refine aw_callV [_, _] _ dX11_tells_55 rfl clv_X11_173 (by decide) ⟨Nat.zero_le _, Nat.zero_le _⟩ g109 (by rfl) (Nat.le_of_ble_eq_true rfl) rfl ?_
      refine sR_of (by omega) ?_
      refine aw_ireturn (ty := .int) dX11_tells_58 rfl rfl ?_
      exact q_eq k (by rw [show tellF (mem 111) p w = mem 111 (47 + 8 * p + w) by rw [hj1]; rfl]) rfl
    | 4, hoz =>
      obtain rfl : (58 : Int) = offz := Option.some.inj hoz
      obtain rfl : tz = 59 := by omega
      refine aw_aload_n dX11_tells_59 rfl rfl ?_
      refine aw_iload_n dX11_tells_60 rfl rfl ?_
      refine aw_iconst dX11_tells_61 rfl ?_
      refine aw_aload_n dX11_tells_62 rfl rfl ?_
      refine aw_iload_n dX11_tells_63 rfl rfl ?_
      refine aw_bipush dX11_tells_64 rfl (by decide) ?_
      refine aw_callV [_, _] _ dX11_tells_66 rfl clv_X11_173 (by decide) ⟨Nat.zero_le _, Nat.zero_le _⟩ g109 (by rfl) (Nat.le_of_ble_eq_true rfl) rfl ?_
      refine sR_of (by omega) ?_
      refine aw_iadd dX11_tells_69 rfl ?_
      refine aw_callV [_, _] _ dX11_tells_70 rfl clv_X11_173 (by decide) ⟨Nat.zero_le _, Nat.zero_le _⟩ g109 (by rfl) (Nat.le_of_ble_eq_true rfl) rfl ?_
      refine sR_of (by omega) ?_
      refine aw_ireturn (ty := .int) dX11_tells_73 rfl rfl ?_
      exact q_eq k (by rw [show tellF (mem 111) p w = mem 111 (47 + 8 * p + (4 + mem 111 (47 + 8 * p + 6))) by rw [hj1]; rfl]) rfl
    | 5, hoz =>
      obtain rfl : (73 : Int) = offz := Option.some.inj hoz
      obtain rfl : tz = 74 := by omega
      refine aw_aload_n dX11_tells_74 rfl rfl ?_
      refine aw_iload_n dX11_tells_75 rfl rfl ?_
      refine aw_iconst dX11_tells_76 rfl ?_
      refine aw_aload_n dX11_tells_77 rfl rfl ?_
      refine aw_iload_n dX11_tells_78 rfl rfl ?_
      refine aw_bipush dX11_tells_79 rfl (by decide) ?_
      refine aw_callV [_, _] _ dX11_tells_81 rfl clv_X11_173 (by decide) ⟨Nat.zero_le _, Nat.zero_le _⟩ g109 (by rfl) (Nat.le_of_ble_eq_true rfl) rfl ?_
      refine sR_of (by omega) ?_
      refine aw_isub dX11_tells_84 rfl ?_
      refine aw_callV [_, _] _ dX11_tells_85 rfl clv_X11_173 (by decide) ⟨Nat.zero_le _, Nat.zero_le _⟩ g109 (by rfl) (Nat.le_of_ble_eq_true rfl) rfl ?_
      refine sR_of (by omega) ?_
      refine aw_ireturn (ty := .int) dX11_tells_88 rfl rfl ?_
      exact q_eq k (by rw [show tellF (mem 111) p w = mem 111 (47 + 8 * p + (5 - mem 111 (47 + 8 * p + 6))) by rw [hj1]; rfl]) rfl
    | 6, hoz =>
      obtain rfl : (88 : Int) = offz := Option.some.inj hoz
      obtain rfl : tz = 89 := by omega
      refine aw_aload_n dX11_tells_89 rfl rfl ?_
      refine aw_iload_n dX11_tells_90 rfl rfl ?_
      refine aw_callV [_] _ dX11_tells_91 rfl clv_X11_199 (by decide) ⟨Nat.zero_le _, Nat.zero_le _⟩ g109 (by rfl) (Nat.le_of_ble_eq_true rfl) rfl ?_
      refine sR_isDone hp (by omega) (by omega) (fun c91 => ?_) (fun c91 => ?_)
      · refine aw_callS [_] _ dX11_tells_94 rfl cls_X11_208 (by decide) ⟨Nat.zero_le _, Nat.zero_le _⟩ (Nat.le_of_ble_eq_true rfl) rfl ?_
        refine sR_flag (by omega) ?_
        refine aw_ireturn (ty := .int) dX11_tells_97 rfl rfl ?_
        exact q_eq k (by rw [show tellF (mem 111) p w = (if isDoneF (mem 111) p then 1 else 0) by rw [hj1]; rfl]; first | rw [if_pos c91] | rw [if_neg c91]) rfl
      · refine aw_callS [_] _ dX11_tells_94 rfl cls_X11_208 (by decide) ⟨Nat.zero_le _, Nat.zero_le _⟩ (Nat.le_of_ble_eq_true rfl) rfl ?_
        refine sR_flag (by omega) ?_
        refine aw_ireturn (ty := .int) dX11_tells_97 rfl rfl ?_
        exact q_eq k (by rw [show tellF (mem 111) p w = (if isDoneF (mem 111) p then 1 else 0) by rw [hj1]; rfl]; first | rw [if_pos c91] | rw [if_neg c91]) rfl
    | 7, hoz =>
      obtain rfl : (97 : Int) = offz := Option.some.inj hoz
      obtain rfl : tz = 98 := by omega
      refine aw_aload_n dX11_tells_98 rfl rfl ?_
      refine aw_iload_n dX11_tells_99 rfl rfl ?_
      refine aw_callV [_] _ dX11_tells_100 rfl clv_X11_202 (by decide) ⟨Nat.zero_le _, Nat.zero_le _⟩ g109 (by rfl) (Nat.le_of_ble_eq_true rfl) rfl ?_
      refine sR_isBlack hp (by omega) (by omega) (fun c100 => ?_) (fun c100 => ?_)
      · refine aw_callS [_] _ dX11_tells_103 rfl cls_X11_208 (by decide) ⟨Nat.zero_le _, Nat.zero_le _⟩ (Nat.le_of_ble_eq_true rfl) rfl ?_
        refine sR_flag (by omega) ?_
        refine aw_ireturn (ty := .int) dX11_tells_106 rfl rfl ?_
        exact q_eq k (by rw [show tellF (mem 111) p w = (if isBlackF (mem 111) p then 1 else 0) by rw [hj1]; rfl]; first | rw [if_pos c100] | rw [if_neg c100]) rfl
      · refine aw_callS [_] _ dX11_tells_103 rfl cls_X11_208 (by decide) ⟨Nat.zero_le _, Nat.zero_le _⟩ (Nat.le_of_ble_eq_true rfl) rfl ?_
        refine sR_flag (by omega) ?_
        refine aw_ireturn (ty := .int) dX11_tells_106 rfl rfl ?_
        exact q_eq k (by rw [show tellF (mem 111) p w = (if isBlackF (mem 111) p then 1 else 0) by rw [hj1]; rfl]; first | rw [if_pos c100] | rw [if_neg c100]) rfl
    | 8, hoz =>
      obtain rfl : (106 : Int) = offz := Option.some.inj hoz
      obtain rfl : tz = 107 := by omega
      refine aw_aload_n dX11_tells_107 rfl rfl ?_
      refine aw_iload_n dX11_tells_108 rfl rfl ?_
      refine aw_callV [_] _ dX11_tells_109 rfl clv_X11_205 (by decide) ⟨Nat.zero_le _, Nat.zero_le _⟩ g109 (by rfl) (Nat.le_of_ble_eq_true rfl) rfl ?_
      refine sR_isGood (n := n) hp hs (fun c109 => ?_) (fun c109 => ?_)
      · refine aw_callS [_] _ dX11_tells_112 rfl cls_X11_208 (by decide) ⟨Nat.zero_le _, Nat.zero_le _⟩ (Nat.le_of_ble_eq_true rfl) rfl ?_
        refine sR_flag (by omega) ?_
        refine aw_ireturn (ty := .int) dX11_tells_115 rfl rfl ?_
        exact q_eq k (by rw [show tellF (mem 111) p w = (if isGoodF (mem 111) p then 1 else 0) by rw [hj1]; rfl]; first | rw [if_pos c109] | rw [if_neg c109]) rfl
      · refine aw_callS [_] _ dX11_tells_112 rfl cls_X11_208 (by decide) ⟨Nat.zero_le _, Nat.zero_le _⟩ (Nat.le_of_ble_eq_true rfl) rfl ?_
        refine sR_flag (by omega) ?_
        refine aw_ireturn (ty := .int) dX11_tells_115 rfl rfl ?_
        exact q_eq k (by rw [show tellF (mem 111) p w = (if isGoodF (mem 111) p then 1 else 0) by rw [hj1]; rfl]; first | rw [if_pos c109] | rw [if_neg c109]) rfl
    | jz + 9, hoz => exact absurd hoz (by simp)
theorem sR_rule {w : Int} (hw : -2147483648 ≤ w ∧ w ≤ 2147483647) (k : Q (some (vI (ruleM (mem 109 3) (mem 110) w))) mem) : AMet Γ mX11_rule [vR 109, vI w] zG mem Q := by
  refine AMet.of' 0 (ls := [some (vR (109)), some (vI (w))]) (by decide) rfl (Nat.le_of_ble_eq_true rfl) ?_
  refine aw_iload_n dX11_rule_0 rfl rfl ?_
  refine aw_tsw (tgt := 97) dX11_rule_1 (by omega) (by decide) (by decide) (fun c1 => ?_) ?_ (by decide)
  · refine aw_iconst dX11_rule_97 rfl ?_
    refine aw_ireturn (ty := .int) dX11_rule_98 rfl rfl ?_
    exact q_eq k (by unfold ruleM; rw [if_neg (by omega), if_neg (by omega), if_neg (by omega), if_neg (by omega), if_neg (by omega), if_neg (by omega), if_neg (by omega)]) rfl
  · intro jz offz hoz hj1 tz htz hpz
    match jz, hoz with
    | 0, hoz =>
      obtain rfl : (43 : Int) = offz := Option.some.inj hoz
      obtain rfl : tz = 44 := by omega
      refine aw_aload_n dX11_rule_44 rfl rfl ?_
      refine aw_getI (kI := 3) dX11_rule_45 rfl fl_X11_73 g109 (by rfl) rfl ?_
      refine aw_ireturn (ty := .int) dX11_rule_48 rfl rfl ?_
      exact q_eq k (by rw [hj1]; rfl) rfl
    | 1, hoz =>
      obtain rfl : (48 : Int) = offz := Option.some.inj hoz
      obtain rfl : tz = 49 := by omega
      refine aw_aload_n dX11_rule_49 rfl rfl ?_
      refine aw_getR dX11_rule_50 rfl fl_X11_7 g109 (by rfl) ?_
      refine aw_bipush dX11_rule_53 rfl (by decide) ?_
      refine aw_iaload dX11_rule_55 rfl g110 (by decide) (by omega) ?_
      refine aw_ireturn (ty := .int) dX11_rule_56 rfl rfl ?_
      exact q_eq k (by rw [hj1]; rfl) rfl
    | 2, hoz =>
      obtain rfl : (56 : Int) = offz := Option.some.inj hoz
      obtain rfl : tz = 57 := by omega
      refine aw_aload_n dX11_rule_57 rfl rfl ?_
      refine aw_getR dX11_rule_58 rfl fl_X11_7 g109 (by rfl) ?_
      refine aw_bipush dX11_rule_61 rfl (by decide) ?_
      refine aw_iaload dX11_rule_63 rfl g110 (by decide) (by omega) ?_
      refine aw_ireturn (ty := .int) dX11_rule_64 rfl rfl ?_
      exact q_eq k (by rw [hj1]; rfl) rfl
    | 3, hoz =>
      obtain rfl : (64 : Int) = offz := Option.some.inj hoz
      obtain rfl : tz = 65 := by omega
      refine aw_aload_n dX11_rule_65 rfl rfl ?_
      refine aw_getR dX11_rule_66 rfl fl_X11_7 g109 (by rfl) ?_
      refine aw_bipush dX11_rule_69 rfl (by decide) ?_
      refine aw_iaload dX11_rule_71 rfl g110 (by decide) (by omega) ?_
      refine aw_ireturn (ty := .int) dX11_rule_72 rfl rfl ?_
      exact q_eq k (by rw [hj1]; rfl) rfl
    | 4, hoz =>
      obtain rfl : (72 : Int) = offz := Option.some.inj hoz
      obtain rfl : tz = 73 := by omega
      refine aw_aload_n dX11_rule_73 rfl rfl ?_
      refine aw_getR dX11_rule_74 rfl fl_X11_7 g109 (by rfl) ?_
      refine aw_bipush dX11_rule_77 rfl (by decide) ?_
      refine aw_iaload dX11_rule_79 rfl g110 (by decide) (by omega) ?_
      refine aw_ireturn (ty := .int) dX11_rule_80 rfl rfl ?_
      exact q_eq k (by rw [hj1]; rfl) rfl
    | 5, hoz =>
      obtain rfl : (80 : Int) = offz := Option.some.inj hoz
      obtain rfl : tz = 81 := by omega
      refine aw_aload_n dX11_rule_81 rfl rfl ?_
      refine aw_getR dX11_rule_82 rfl fl_X11_7 g109 (by rfl) ?_
      refine aw_bipush dX11_rule_85 rfl (by decide) ?_
      refine aw_iaload dX11_rule_87 rfl g110 (by decide) (by omega) ?_
      refine aw_ireturn (ty := .int) dX11_rule_88 rfl rfl ?_
      exact q_eq k (by rw [hj1]; rfl) rfl
    | 6, hoz =>
      obtain rfl : (88 : Int) = offz := Option.some.inj hoz
      obtain rfl : tz = 89 := by omega
      refine aw_aload_n dX11_rule_89 rfl rfl ?_
      refine aw_getR dX11_rule_90 rfl fl_X11_7 g109 (by rfl) ?_
      refine aw_bipush dX11_rule_93 rfl (by decide) ?_
      refine aw_iaload dX11_rule_95 rfl g110 (by decide) (by omega) ?_
      refine aw_ireturn (ty := .int) dX11_rule_96 rfl rfl ?_
      exact q_eq k (by rw [hj1]; rfl) rfl
    | jz + 7, hoz => exact absurd hoz (by simp)
theorem sR_heat {x : Int} (hn : 3 ≤ mem 109 3 ∧ mem 109 3 ≤ 8) (hx : -2147483648 ≤ x ∧ x ≤ 2147483647) (k : Q (some (vI (heatM (mem 109 3) (mem 110) x))) mem) : AMet Γ mX11_heat [vR 109, vI x] zG mem Q := by
  refine AMet.of' 0 (ls := [some (vR (109)), some (vI (x))]) (by decide) rfl (Nat.le_of_ble_eq_true rfl) ?_
  refine aw_aload_n dX11_heat_0 rfl rfl ?_
  refine aw_iload_n dX11_heat_1 rfl rfl ?_
  refine aw_callV [_] _ dX11_heat_2 rfl clv_X11_212 (by decide) ⟨Nat.zero_le _, Nat.zero_le _⟩ g109 (by rfl) (Nat.le_of_ble_eq_true rfl) rfl ?_
  refine sR_isPlace (by omega) hx (fun c2 => ?_) (fun c2 => ?_)
  · refine aw_if_eq (tgt := 19) dX11_heat_5 (by decide) rfl (by omega) (fun c => absurd c (by decide)) (fun _ => ?_)
    refine aw_aload_n dX11_heat_8 rfl rfl ?_
    refine aw_getR dX11_heat_9 rfl fl_X11_7 g109 (by rfl) ?_
    refine aw_iconst dX11_heat_12 rfl ?_
    refine aw_iload_n dX11_heat_13 rfl rfl ?_
    refine aw_iadd dX11_heat_14 rfl ?_
    refine aw_iaload dX11_heat_15 rfl g110 (by decide) (by omega) ?_
    refine aw_goto (tgt := 20) dX11_heat_16 (by decide) ?_
    refine aw_ireturn (ty := .int) dX11_heat_20 rfl rfl ?_
    first | exact q_eq k (by unfold heatM; rw [if_pos c2, show (0 : Int) + x = x by omega]) rfl | exact q_eq k (by unfold heatM; rw [if_neg c2]) rfl
  · refine aw_if_eq (tgt := 19) dX11_heat_5 (by decide) rfl (by omega) (fun _ => ?_) (fun c => absurd c (by decide))
    refine aw_iconst dX11_heat_19 rfl ?_
    refine aw_ireturn (ty := .int) dX11_heat_20 rfl rfl ?_
    first | exact q_eq k (by unfold heatM; rw [if_pos c2, show (0 : Int) + x = x by omega]) rfl | exact q_eq k (by unfold heatM; rw [if_neg c2]) rfl
theorem sR_wood {i w : Int} (hn : 0 ≤ mem 110 26 ∧ mem 110 26 ≤ 6) (hi : -2147483648 ≤ i ∧ i ≤ 2147483647) (hw : -2147483648 ≤ w ∧ w ≤ 2147483647) (k : Q (some (vI (woodM (mem 110) i w))) mem) : AMet Γ mX11_wood [vR 109, vI i, vI w] zG mem Q := by
  refine AMet.of' 0 (ls := [some (vR (109)), some (vI (i)), some (vI (w))]) (by decide) rfl (Nat.le_of_ble_eq_true rfl) ?_
  refine aw_iload_n dX11_wood_0 rfl rfl ?_
  refine aw_i2l dX11_wood_1 rfl (by omega) ?_
  refine aw_lconst (a := 0) dX11_wood_2 rfl (by decide) ?_
  refine aw_aload_n dX11_wood_3 rfl rfl ?_
  refine aw_getR dX11_wood_4 rfl fl_X11_7 g109 (by rfl) ?_
  refine aw_bipush dX11_wood_7 rfl (by decide) ?_
  refine aw_iaload dX11_wood_9 rfl g110 (by decide) (by omega) ?_
  refine aw_iconst dX11_wood_10 rfl ?_
  refine aw_isub dX11_wood_11 rfl ?_
  refine aw_i2l dX11_wood_12 rfl (by omega) ?_
  refine aw_callS [_, _, _] _ dX11_wood_13 rfl cls_X11_78 (by decide) ⟨Nat.zero_le _, Nat.zero_le _⟩ (Nat.le_of_ble_eq_true rfl) rfl ?_
  refine sR_in (by omega) (by omega) (by omega) (fun c13 => ?_) (fun c13 => ?_)
  · refine aw_if_eq (tgt := 47) dX11_wood_16 (by decide) rfl (by omega) (fun c => absurd c (by decide)) (fun _ => ?_)
    refine aw_iload_n dX11_wood_19 rfl rfl ?_
    refine aw_i2l dX11_wood_20 rfl (by omega) ?_
    refine aw_lconst (a := 0) dX11_wood_21 rfl (by decide) ?_
    refine aw_ldc2 (a := 2) dX11_wood_22 rfl lc_X11_215 (by decide) ?_
    refine aw_callS [_, _, _] _ dX11_wood_25 rfl cls_X11_78 (by decide) ⟨Nat.zero_le _, Nat.zero_le _⟩ (Nat.le_of_ble_eq_true rfl) rfl ?_
    refine sR_in (by omega) (by omega) (by omega) (fun c25 => ?_) (fun c25 => ?_)
    · refine aw_if_eq (tgt := 47) dX11_wood_28 (by decide) rfl (by omega) (fun c => absurd c (by decide)) (fun _ => ?_)
      refine aw_aload_n dX11_wood_31 rfl rfl ?_
      refine aw_getR dX11_wood_32 rfl fl_X11_7 g109 (by rfl) ?_
      refine aw_bipush dX11_wood_35 rfl (by decide) ?_
      refine aw_iconst dX11_wood_37 rfl ?_
      refine aw_iload_n dX11_wood_38 rfl rfl ?_
      refine aw_imul dX11_wood_39 rfl ?_
      refine aw_iadd dX11_wood_40 rfl ?_
      refine aw_iload_n dX11_wood_41 rfl rfl ?_
      refine aw_iadd dX11_wood_42 rfl ?_
      refine aw_iaload dX11_wood_43 rfl g110 (by decide) (by omega) ?_
      refine aw_goto (tgt := 48) dX11_wood_44 (by decide) ?_
      refine aw_ireturn (ty := .int) dX11_wood_48 rfl rfl ?_
      first | exact q_eq k (by unfold woodM; rw [if_pos (by omega)]) rfl | exact q_eq k (by unfold woodM; rw [if_neg (by omega)]) rfl
    · refine aw_if_eq (tgt := 47) dX11_wood_28 (by decide) rfl (by omega) (fun _ => ?_) (fun c => absurd c (by decide))
      refine aw_iconst dX11_wood_47 rfl ?_
      refine aw_ireturn (ty := .int) dX11_wood_48 rfl rfl ?_
      first | exact q_eq k (by unfold woodM; rw [if_pos (by omega)]) rfl | exact q_eq k (by unfold woodM; rw [if_neg (by omega)]) rfl
  · refine aw_if_eq (tgt := 47) dX11_wood_16 (by decide) rfl (by omega) (fun _ => ?_) (fun c => absurd c (by decide))
    refine aw_iconst dX11_wood_47 rfl ?_
    refine aw_ireturn (ty := .int) dX11_wood_48 rfl rfl ?_
    first | exact q_eq k (by unfold woodM; rw [if_pos (by omega)]) rfl | exact q_eq k (by unfold woodM; rw [if_neg (by omega)]) rfl
theorem sR_fan {x v : Int} (hn : 3 ≤ mem 109 3 ∧ mem 109 3 ≤ 8) (hx : -2147483648 ≤ x ∧ x ≤ 2147483647) (hv : -2147483648 ≤ v ∧ v ≤ 2147483647) (k : Q (some (vI (fanM (mem 109 3) (mem 110) x v).1)) (mcell mem 110 (fanM (mem 109 3) (mem 110) x v).2)) : AMet Γ mX11_fan [vR 109, vI x, vI v] zG mem Q := by
  refine AMet.of' 0 (ls := [some (vR (109)), some (vI (x)), some (vI (v))]) (by decide) rfl (Nat.le_of_ble_eq_true rfl) ?_
  refine aw_aload_n dX11_fan_0 rfl rfl ?_
  refine aw_iload_n dX11_fan_1 rfl rfl ?_
  refine aw_callV [_] _ dX11_fan_2 rfl clv_X11_212 (by decide) ⟨Nat.zero_le _, Nat.zero_le _⟩ g109 (by rfl) (Nat.le_of_ble_eq_true rfl) rfl ?_
  refine sR_isPlace (by omega) hx (fun c2 => ?_) (fun c2 => ?_)
  · refine aw_if_eq (tgt := 31) dX11_fan_5 (by decide) rfl (by omega) (fun c => absurd c (by decide)) (fun _ => ?_)
    refine aw_iload_n dX11_fan_8 rfl rfl ?_
    refine aw_i2l dX11_fan_9 rfl (by omega) ?_
    refine aw_lconst (a := 0) dX11_fan_10 rfl (by decide) ?_
    refine aw_ldc2 (a := 99) dX11_fan_11 rfl lc_X11_228 (by decide) ?_
    refine aw_callS [_, _, _] _ dX11_fan_14 rfl cls_X11_78 (by decide) ⟨Nat.zero_le _, Nat.zero_le _⟩ (Nat.le_of_ble_eq_true rfl) rfl ?_
    refine sR_in (by omega) (by omega) (by omega) (fun c14 => ?_) (fun c14 => ?_)
    · refine aw_if_eq (tgt := 31) dX11_fan_17 (by decide) rfl (by omega) (fun c => absurd c (by decide)) (fun _ => ?_)
      refine aw_aload_n dX11_fan_20 rfl rfl ?_
      refine aw_iconst dX11_fan_21 rfl ?_
      refine aw_iload_n dX11_fan_22 rfl rfl ?_
      refine aw_iadd dX11_fan_23 rfl ?_
      refine aw_iload_n dX11_fan_24 rfl rfl ?_
      rw [show (0 : Int) + x = x by omega]
      refine aw_callV [_, _] _ dX11_fan_25 rfl clv_X11_230 (by decide) ⟨Nat.zero_le _, Nat.zero_le _⟩ g109 (by rfl) (Nat.le_of_ble_eq_true rfl) rfl ?_
      refine sR_becomes (by omega) ?_
      refine aw_goto (tgt := 32) dX11_fan_28 (by decide) ?_
      refine aw_ireturn (ty := .int) dX11_fan_32 rfl rfl ?_
      first | exact q_eq k (by unfold fanM; rw [if_pos (by omega)]) (by unfold fanM; rw [if_pos (by omega)]; rfl) | exact q_eq k (by unfold fanM; rw [if_neg (by omega)]) (by unfold fanM; rw [if_neg (by omega), mcell_self])
    · refine aw_if_eq (tgt := 31) dX11_fan_17 (by decide) rfl (by omega) (fun _ => ?_) (fun c => absurd c (by decide))
      refine aw_iconst dX11_fan_31 rfl ?_
      refine aw_ireturn (ty := .int) dX11_fan_32 rfl rfl ?_
      first | exact q_eq k (by unfold fanM; rw [if_pos (by omega)]) (by unfold fanM; rw [if_pos (by omega)]; rfl) | exact q_eq k (by unfold fanM; rw [if_neg (by omega)]) (by unfold fanM; rw [if_neg (by omega), mcell_self])
  · refine aw_if_eq (tgt := 31) dX11_fan_5 (by decide) rfl (by omega) (fun _ => ?_) (fun c => absurd c (by decide))
    refine aw_iconst dX11_fan_31 rfl ?_
    refine aw_ireturn (ty := .int) dX11_fan_32 rfl rfl ?_
    first | exact q_eq k (by unfold fanM; rw [if_pos (by omega)]) (by unfold fanM; rw [if_pos (by omega)]; rfl) | exact q_eq k (by unfold fanM; rw [if_neg (by omega)]) (by unfold fanM; rw [if_neg (by omega), mcell_self])
theorem sR_ash {x v : Int} (hx : -2147483648 ≤ x ∧ x ≤ 2147483647) (hv : -2147483648 ≤ v ∧ v ≤ 2147483647) (k : Q (some (vI (ashM (mem 110) x v).1)) (mcell mem 110 (ashM (mem 110) x v).2)) : AMet Γ mX11_ash [vR 109, vI x, vI v] zG mem Q := by
  refine AMet.of' 0 (ls := [some (vR (109)), some (vI (x)), some (vI (v))]) (by decide) rfl (Nat.le_of_ble_eq_true rfl) ?_
  refine aw_iload_n dX11_ash_0 rfl rfl ?_
  refine aw_i2l dX11_ash_1 rfl (by omega) ?_
  refine aw_lconst (a := 0) dX11_ash_2 rfl (by decide) ?_
  refine aw_lconst (a := 1) dX11_ash_3 rfl (by decide) ?_
  refine aw_callS [_, _, _] _ dX11_ash_4 rfl cls_X11_78 (by decide) ⟨Nat.zero_le _, Nat.zero_le _⟩ (Nat.le_of_ble_eq_true rfl) rfl ?_
  refine sR_in (by omega) (by omega) (by omega) (fun c4 => ?_) (fun c4 => ?_)
  · refine aw_if_eq (tgt := 34) dX11_ash_7 (by decide) rfl (by omega) (fun c => absurd c (by decide)) (fun _ => ?_)
    refine aw_iload_n dX11_ash_10 rfl rfl ?_
    refine aw_i2l dX11_ash_11 rfl (by omega) ?_
    refine aw_lconst (a := 0) dX11_ash_12 rfl (by decide) ?_
    refine aw_ldc2 (a := 9) dX11_ash_13 rfl lc_X11_220 (by decide) ?_
    refine aw_callS [_, _, _] _ dX11_ash_16 rfl cls_X11_78 (by decide) ⟨Nat.zero_le _, Nat.zero_le _⟩ (Nat.le_of_ble_eq_true rfl) rfl ?_
    refine sR_in (by omega) (by omega) (by omega) (fun c16 => ?_) (fun c16 => ?_)
    · refine aw_if_eq (tgt := 34) dX11_ash_19 (by decide) rfl (by omega) (fun c => absurd c (by decide)) (fun _ => ?_)
      refine aw_aload_n dX11_ash_22 rfl rfl ?_
      refine aw_bipush dX11_ash_23 rfl (by decide) ?_
      refine aw_iload_n dX11_ash_25 rfl rfl ?_
      refine aw_iadd dX11_ash_26 rfl ?_
      refine aw_iload_n dX11_ash_27 rfl rfl ?_
      refine aw_callV [_, _] _ dX11_ash_28 rfl clv_X11_230 (by decide) ⟨Nat.zero_le _, Nat.zero_le _⟩ g109 (by rfl) (Nat.le_of_ble_eq_true rfl) rfl ?_
      refine sR_becomes (by omega) ?_
      refine aw_goto (tgt := 35) dX11_ash_31 (by decide) ?_
      refine aw_ireturn (ty := .int) dX11_ash_35 rfl rfl ?_
      first | exact q_eq k (by unfold ashM; rw [if_pos (by omega)]) (by unfold ashM; rw [if_pos (by omega)]; rfl) | exact q_eq k (by unfold ashM; rw [if_neg (by omega)]) (by unfold ashM; rw [if_neg (by omega), mcell_self])
    · refine aw_if_eq (tgt := 34) dX11_ash_19 (by decide) rfl (by omega) (fun _ => ?_) (fun c => absurd c (by decide))
      refine aw_iconst dX11_ash_34 rfl ?_
      refine aw_ireturn (ty := .int) dX11_ash_35 rfl rfl ?_
      first | exact q_eq k (by unfold ashM; rw [if_pos (by omega)]) (by unfold ashM; rw [if_pos (by omega)]; rfl) | exact q_eq k (by unfold ashM; rw [if_neg (by omega)]) (by unfold ashM; rw [if_neg (by omega), mcell_self])
  · refine aw_if_eq (tgt := 34) dX11_ash_7 (by decide) rfl (by omega) (fun _ => ?_) (fun c => absurd c (by decide))
    refine aw_iconst dX11_ash_34 rfl ?_
    refine aw_ireturn (ty := .int) dX11_ash_35 rfl rfl ?_
    first | exact q_eq k (by unfold ashM; rw [if_pos (by omega)]) (by unfold ashM; rw [if_pos (by omega)]; rfl) | exact q_eq k (by unfold ashM; rw [if_neg (by omega)]) (by unfold ashM; rw [if_neg (by omega), mcell_self])
theorem sR_stoke {c a r : Int} (hn : 3 ≤ mem 109 3 ∧ mem 109 3 ≤ 8) (h26 : 0 ≤ mem 110 26 ∧ mem 110 26 ≤ 6) (hc : -2147483648 ≤ c ∧ c ≤ 2147483647) (ha : -2147483648 ≤ a ∧ a ≤ 2147483647) (hr : -2147483648 ≤ r ∧ r ≤ 2147483647) (k : Q (some (vI (stokeM (mem 109 3) (mem 110) c a r).1)) (mcell mem 110 (stokeM (mem 109 3) (mem 110) c a r).2)) : AMet Γ mX11_stoke [vR 109, vI c, vI a, vI r] zG mem Q := by
  refine AMet.of' 1 (ls := [some (vR (109)), some (vI (c)), some (vI (a)), some (vI (r)), none]) (by decide) rfl (Nat.le_of_ble_eq_true rfl) ?_
  refine aw_aload_n dX11_stoke_0 rfl rfl ?_
  refine aw_iload_n dX11_stoke_1 rfl rfl ?_
  refine aw_callV [_] _ dX11_stoke_2 rfl clv_X11_233 (by decide) ⟨Nat.zero_le _, Nat.zero_le _⟩ g109 (by rfl) (Nat.le_of_ble_eq_true rfl) rfl ?_
  refine sR_isCell (by omega) hc (fun c2 => ?_) (fun c2 => ?_)
  · refine aw_if_eq (tgt := 32) dX11_stoke_5 (by decide) rfl (by omega) (fun c => absurd c (by decide)) (fun _ => ?_)
    refine aw_iload_n dX11_stoke_8 rfl rfl ?_
    refine aw_i2l dX11_stoke_9 rfl (by omega) ?_
    refine aw_lconst (a := 1) dX11_stoke_10 rfl (by decide) ?_
    refine aw_ldc2 (a := 99) dX11_stoke_11 rfl lc_X11_228 (by decide) ?_
    refine aw_callS [_, _, _] _ dX11_stoke_14 rfl cls_X11_78 (by decide) ⟨Nat.zero_le _, Nat.zero_le _⟩ (Nat.le_of_ble_eq_true rfl) rfl ?_
    refine sR_in (by omega) (by omega) (by omega) (fun c14 => ?_) (fun c14 => ?_)
    · refine aw_if_eq (tgt := 32) dX11_stoke_17 (by decide) rfl (by omega) (fun c => absurd c (by decide)) (fun _ => ?_)
      refine aw_iload_n dX11_stoke_20 rfl rfl ?_
      refine aw_i2l dX11_stoke_21 rfl (by omega) ?_
      refine aw_lconst (a := 1) dX11_stoke_22 rfl (by decide) ?_
      refine aw_ldc2 (a := 9) dX11_stoke_23 rfl lc_X11_220 (by decide) ?_
      refine aw_callS [_, _, _] _ dX11_stoke_26 rfl cls_X11_78 (by decide) ⟨Nat.zero_le _, Nat.zero_le _⟩ (Nat.le_of_ble_eq_true rfl) rfl ?_
      refine sR_in (by omega) (by omega) (by omega) (fun c26 => ?_) (fun c26 => ?_)
      · refine aw_if_ne (tgt := 34) dX11_stoke_29 (by decide) rfl (by omega) (fun _ => ?_) (fun c => absurd c (by decide))
        refine aw_aload_n dX11_stoke_34 rfl rfl ?_
        refine aw_getR dX11_stoke_35 rfl fl_X11_7 g109 (by rfl) ?_
        refine aw_bipush dX11_stoke_38 rfl (by decide) ?_
        refine aw_iaload dX11_stoke_40 rfl g110 (by decide) (by omega) ?_
        refine aw_bipush dX11_stoke_41 rfl (by decide) ?_
        refine aw_icmp_ne (tgt := 49) dX11_stoke_43 (by decide) rfl (by omega) (by omega) (fun c43 => ?_) (fun c43 => ?_)
        · refine aw_bipush dX11_stoke_49 rfl (by decide) ?_
          refine aw_iconst dX11_stoke_51 rfl ?_
          refine aw_aload_n dX11_stoke_52 rfl rfl ?_
          refine aw_getR dX11_stoke_53 rfl fl_X11_7 g109 (by rfl) ?_
          refine aw_bipush dX11_stoke_56 rfl (by decide) ?_
          refine aw_iaload dX11_stoke_58 rfl g110 (by decide) (by omega) ?_
          refine aw_imul dX11_stoke_59 rfl ?_
          refine aw_iadd dX11_stoke_60 rfl ?_
          refine aw_istore4 rfl dX11_stoke_61 rfl (by decide) ?_
          refine aw_aload_n dX11_stoke_63 rfl rfl ?_
          refine aw_getR dX11_stoke_64 rfl fl_X11_7 g109 (by rfl) ?_
          refine aw_iload dX11_stoke_67 rfl rfl ?_
          refine aw_iload_n dX11_stoke_69 rfl rfl ?_
          refine aw_iastore dX11_stoke_70 rfl g110 (by decide) (by omega) ?_
          refine aw_aload_n dX11_stoke_71 rfl rfl ?_
          refine aw_getR dX11_stoke_72 rfl fl_X11_7 g109 (by rfl) ?_
          refine aw_iload dX11_stoke_75 rfl rfl ?_
          refine aw_iconst dX11_stoke_77 rfl ?_
          refine aw_iadd dX11_stoke_78 rfl ?_
          refine aw_iload_n dX11_stoke_79 rfl rfl ?_
          refine aw_iastore dX11_stoke_80 rfl g110 (by decide) (by omega) ?_
          refine aw_aload_n dX11_stoke_81 rfl rfl ?_
          refine aw_getR dX11_stoke_82 rfl fl_X11_7 g109 (by rfl) ?_
          refine aw_iload dX11_stoke_85 rfl rfl ?_
          refine aw_iconst dX11_stoke_87 rfl ?_
          refine aw_iadd dX11_stoke_88 rfl ?_
          refine aw_iload_n dX11_stoke_89 rfl rfl ?_
          refine aw_iastore dX11_stoke_90 rfl g110 (by decide) (by omega) ?_
          refine aw_aload_n dX11_stoke_91 rfl rfl ?_
          refine aw_getR dX11_stoke_92 rfl fl_X11_7 g109 (by rfl) ?_
          refine aw_bipush dX11_stoke_95 rfl (by decide) ?_
          refine aw_dup2 dX11_stoke_97 rfl rfl rfl ?_
          refine aw_iaload dX11_stoke_98 rfl g110 (by decide) (by omega) ?_
          simp only [mset_eq, mcell_same, mcell_mcell]
          rw [fset_ne (by omega), fset_ne (by omega), fset_ne (by omega)]
          refine aw_iconst dX11_stoke_99 rfl ?_
          refine aw_iadd dX11_stoke_100 rfl ?_
          refine aw_iastore dX11_stoke_101 rfl g110 (by decide) (by omega) ?_
          rw [mset_mcell]
          refine aw_aload_n dX11_stoke_102 rfl rfl ?_
          refine aw_getR dX11_stoke_103 rfl fl_X11_7 g109 (by rfl) ?_
          refine aw_bipush dX11_stoke_106 rfl (by decide) ?_
          refine aw_iaload dX11_stoke_108 rfl g110 (by decide) (by omega) ?_
          rw [mcell_same, fset_same]
          refine aw_ireturn (ty := .int) dX11_stoke_109 rfl rfl ?_
          exact q_eq k (by unfold stokeM; rw [if_pos (by omega), if_neg c43]) (by unfold stokeM; rw [if_pos (by omega), if_neg c43]; rfl)
        · refine aw_bipush dX11_stoke_46 rfl (by decide) ?_
          refine aw_ireturn (ty := .int) dX11_stoke_48 rfl rfl ?_
          exact q_eq k (by unfold stokeM; rw [if_pos (by omega), if_pos c43]) (by unfold stokeM; rw [if_pos (by omega), if_pos c43, mcell_self])
      · refine aw_if_ne (tgt := 34) dX11_stoke_29 (by decide) rfl (by omega) (fun c => absurd c (by decide)) (fun _ => ?_)
        refine aw_iconst dX11_stoke_32 rfl ?_
        refine aw_ireturn (ty := .int) dX11_stoke_33 rfl rfl ?_
        exact q_eq k (by unfold stokeM; rw [if_neg (by omega)]) (by unfold stokeM; rw [if_neg (by omega), mcell_self])
    · refine aw_if_eq (tgt := 32) dX11_stoke_17 (by decide) rfl (by omega) (fun _ => ?_) (fun c => absurd c (by decide))
      refine aw_iconst dX11_stoke_32 rfl ?_
      refine aw_ireturn (ty := .int) dX11_stoke_33 rfl rfl ?_
      exact q_eq k (by unfold stokeM; rw [if_neg (by omega)]) (by unfold stokeM; rw [if_neg (by omega), mcell_self])
  · refine aw_if_eq (tgt := 32) dX11_stoke_5 (by decide) rfl (by omega) (fun _ => ?_) (fun c => absurd c (by decide))
    refine aw_iconst dX11_stoke_32 rfl ?_
    refine aw_ireturn (ty := .int) dX11_stoke_33 rfl rfl ?_
    exact q_eq k (by unfold stokeM; rw [if_neg (by omega)]) (by unfold stokeM; rw [if_neg (by omega), mcell_self])
theorem sR_turn {p : Int} (hs : ∀ p : Int, 0 ≤ p → p < mem 110 46 → 0 ≤ mem 110 (47 + 8 * p + 6) ∧ mem 110 (47 + 8 * p + 6) ≤ 1) (hn : 0 ≤ mem 110 46 ∧ mem 110 46 ≤ 6) (hp : -2147483648 ≤ p ∧ p ≤ 2147483647) (k : Q (some (vI (turnM (mem 110) p).1)) (mcell mem 110 (turnM (mem 110) p).2)) : AMet Γ mX11_turn [vR 109, vI p] zG mem Q := by
  refine AMet.of' 1 (ls := [some (vR (109)), some (vI (p)), none]) (by decide) rfl (Nat.le_of_ble_eq_true rfl) ?_
  refine aw_aload_n dX11_turn_0 rfl rfl ?_
  refine aw_iload_n dX11_turn_1 rfl rfl ?_
  refine aw_callV [_] _ dX11_turn_2 rfl clv_X11_217 (by decide) ⟨Nat.zero_le _, Nat.zero_le _⟩ g109 (by rfl) (Nat.le_of_ble_eq_true rfl) rfl ?_
  refine sR_isSpud hn hp (fun c2 => ?_) (fun c2 => ?_)
  · refine aw_if_ne (tgt := 10) dX11_turn_5 (by decide) rfl (by omega) (fun _ => ?_) (fun c => absurd c (by decide))
    have hB := hs p c2.1 c2.2
    refine aw_bipush dX11_turn_10 rfl (by decide) ?_
    refine aw_bipush dX11_turn_12 rfl (by decide) ?_
    refine aw_iload_n dX11_turn_14 rfl rfl ?_
    refine aw_imul dX11_turn_15 rfl ?_
    refine aw_iadd dX11_turn_16 rfl ?_
    refine aw_istore2 rfl dX11_turn_17 rfl (by decide) ?_
    refine aw_aload_n dX11_turn_18 rfl rfl ?_
    refine aw_getR dX11_turn_19 rfl fl_X11_7 g109 (by rfl) ?_
    refine aw_iload_n dX11_turn_22 rfl rfl ?_
    refine aw_bipush dX11_turn_23 rfl (by decide) ?_
    refine aw_iadd dX11_turn_25 rfl ?_
    refine aw_iconst dX11_turn_26 rfl ?_
    refine aw_aload_n dX11_turn_27 rfl rfl ?_
    refine aw_getR dX11_turn_28 rfl fl_X11_7 g109 (by rfl) ?_
    refine aw_iload_n dX11_turn_31 rfl rfl ?_
    refine aw_bipush dX11_turn_32 rfl (by decide) ?_
    refine aw_iadd dX11_turn_34 rfl ?_
    refine aw_iaload dX11_turn_35 rfl g110 (by decide) (by omega) ?_
    refine aw_isub dX11_turn_36 rfl ?_
    refine aw_iastore dX11_turn_37 rfl g110 (by decide) (by omega) ?_
    rw [mset_eq]
    refine aw_aload_n dX11_turn_38 rfl rfl ?_
    refine aw_getR dX11_turn_39 rfl fl_X11_7 g109 (by rfl) ?_
    refine aw_iload_n dX11_turn_42 rfl rfl ?_
    refine aw_iconst dX11_turn_43 rfl ?_
    refine aw_iadd dX11_turn_44 rfl ?_
    refine aw_aload_n dX11_turn_45 rfl rfl ?_
    refine aw_getR dX11_turn_46 rfl fl_X11_7 g109 (by rfl) ?_
    refine aw_iload_n dX11_turn_49 rfl rfl ?_
    refine aw_bipush dX11_turn_50 rfl (by decide) ?_
    refine aw_iadd dX11_turn_52 rfl ?_
    refine aw_iaload dX11_turn_53 rfl g110 (by decide) (by omega) ?_
    rw [mcell_same, fset_same]
    refine aw_iadd dX11_turn_54 rfl ?_
    refine aw_iaload dX11_turn_55 rfl g110 (by decide) (by omega) ?_
    rw [mcell_same, fset_ne (by omega)]
    refine aw_ireturn (ty := .int) dX11_turn_56 rfl rfl ?_
    exact q_eq k (by unfold turnM; rw [if_pos c2]) (by unfold turnM; rw [if_pos c2]; rfl)
  · refine aw_if_ne (tgt := 10) dX11_turn_5 (by decide) rfl (by omega) (fun c => absurd c (by decide)) (fun _ => ?_)
    refine aw_iconst dX11_turn_8 rfl ?_
    refine aw_ireturn (ty := .int) dX11_turn_9 rfl rfl ?_
    exact q_eq k (by unfold turnM; rw [if_neg c2]) (by unfold turnM; rw [if_neg c2, mcell_self])
theorem sR_wrap {p w : Int} (hn : 0 ≤ mem 110 46 ∧ mem 110 46 ≤ 6) (hp : -2147483648 ≤ p ∧ p ≤ 2147483647) (hw : -2147483648 ≤ w ∧ w ≤ 2147483647) (k : Q (some (vI (wrapM (mem 110) p w).1)) (mcell mem 110 (wrapM (mem 110) p w).2)) : AMet Γ mX11_wrap [vR 109, vI p, vI w] zG mem Q := by
  refine AMet.of' 0 (ls := [some (vR (109)), some (vI (p)), some (vI (w))]) (by decide) rfl (Nat.le_of_ble_eq_true rfl) ?_
  refine aw_aload_n dX11_wrap_0 rfl rfl ?_
  refine aw_iload_n dX11_wrap_1 rfl rfl ?_
  refine aw_callV [_] _ dX11_wrap_2 rfl clv_X11_217 (by decide) ⟨Nat.zero_le _, Nat.zero_le _⟩ g109 (by rfl) (Nat.le_of_ble_eq_true rfl) rfl ?_
  refine sR_isSpud hn hp (fun c2 => ?_) (fun c2 => ?_)
  · refine aw_if_eq (tgt := 37) dX11_wrap_5 (by decide) rfl (by omega) (fun c => absurd c (by decide)) (fun _ => ?_)
    refine aw_iload_n dX11_wrap_8 rfl rfl ?_
    refine aw_i2l dX11_wrap_9 rfl (by omega) ?_
    refine aw_lconst (a := 0) dX11_wrap_10 rfl (by decide) ?_
    refine aw_ldc2 (a := 2) dX11_wrap_11 rfl lc_X11_215 (by decide) ?_
    refine aw_callS [_, _, _] _ dX11_wrap_14 rfl cls_X11_78 (by decide) ⟨Nat.zero_le _, Nat.zero_le _⟩ (Nat.le_of_ble_eq_true rfl) rfl ?_
    refine sR_in (by omega) (by omega) (by omega) (fun c14 => ?_) (fun c14 => ?_)
    · refine aw_if_eq (tgt := 37) dX11_wrap_17 (by decide) rfl (by omega) (fun c => absurd c (by decide)) (fun _ => ?_)
      refine aw_aload_n dX11_wrap_20 rfl rfl ?_
      refine aw_bipush dX11_wrap_21 rfl (by decide) ?_
      refine aw_bipush dX11_wrap_23 rfl (by decide) ?_
      refine aw_iload_n dX11_wrap_25 rfl rfl ?_
      refine aw_imul dX11_wrap_26 rfl ?_
      refine aw_iadd dX11_wrap_27 rfl ?_
      refine aw_iconst dX11_wrap_28 rfl ?_
      refine aw_iadd dX11_wrap_29 rfl ?_
      refine aw_iload_n dX11_wrap_30 rfl rfl ?_
      refine aw_callV [_, _] _ dX11_wrap_31 rfl clv_X11_230 (by decide) ⟨Nat.zero_le _, Nat.zero_le _⟩ g109 (by rfl) (Nat.le_of_ble_eq_true rfl) rfl ?_
      refine sR_becomes (by omega) ?_
      refine aw_goto (tgt := 38) dX11_wrap_34 (by decide) ?_
      refine aw_ireturn (ty := .int) dX11_wrap_38 rfl rfl ?_
      first | exact q_eq k (by unfold wrapM; rw [if_pos (by omega)]) (by unfold wrapM; rw [if_pos (by omega)]; rfl) | exact q_eq k (by unfold wrapM; rw [if_neg (by omega)]) (by unfold wrapM; rw [if_neg (by omega), mcell_self])
    · refine aw_if_eq (tgt := 37) dX11_wrap_17 (by decide) rfl (by omega) (fun _ => ?_) (fun c => absurd c (by decide))
      refine aw_iconst dX11_wrap_37 rfl ?_
      refine aw_ireturn (ty := .int) dX11_wrap_38 rfl rfl ?_
      first | exact q_eq k (by unfold wrapM; rw [if_pos (by omega)]) (by unfold wrapM; rw [if_pos (by omega)]; rfl) | exact q_eq k (by unfold wrapM; rw [if_neg (by omega)]) (by unfold wrapM; rw [if_neg (by omega), mcell_self])
  · refine aw_if_eq (tgt := 37) dX11_wrap_5 (by decide) rfl (by omega) (fun _ => ?_) (fun c => absurd c (by decide))
    refine aw_iconst dX11_wrap_37 rfl ?_
    refine aw_ireturn (ty := .int) dX11_wrap_38 rfl rfl ?_
    first | exact q_eq k (by unfold wrapM; rw [if_pos (by omega)]) (by unfold wrapM; rw [if_pos (by omega)]; rfl) | exact q_eq k (by unfold wrapM; rw [if_neg (by omega)]) (by unfold wrapM; rw [if_neg (by omega), mcell_self])
theorem sR_memo {p c : Int} (hm : 3 ≤ mem 109 3 ∧ mem 109 3 ≤ 8) (hn : 0 ≤ mem 110 46 ∧ mem 110 46 ≤ 6) (hp : -2147483648 ≤ p ∧ p ≤ 2147483647) (hw : -2147483648 ≤ c ∧ c ≤ 2147483647) (k : Q (some (vI (memoM (mem 109 3) (mem 110) p c).1)) (mcell mem 110 (memoM (mem 109 3) (mem 110) p c).2)) : AMet Γ mX11_memo [vR 109, vI p, vI c] zG mem Q := by
  refine AMet.of' 0 (ls := [some (vR (109)), some (vI (p)), some (vI (c))]) (by decide) rfl (Nat.le_of_ble_eq_true rfl) ?_
  refine aw_aload_n dX11_memo_0 rfl rfl ?_
  refine aw_iload_n dX11_memo_1 rfl rfl ?_
  refine aw_callV [_] _ dX11_memo_2 rfl clv_X11_217 (by decide) ⟨Nat.zero_le _, Nat.zero_le _⟩ g109 (by rfl) (Nat.le_of_ble_eq_true rfl) rfl ?_
  refine sR_isSpud hn hp (fun c2 => ?_) (fun c2 => ?_)
  · refine aw_if_eq (tgt := 40) dX11_memo_5 (by decide) rfl (by omega) (fun c => absurd c (by decide)) (fun _ => ?_)
    refine aw_iload_n dX11_memo_8 rfl rfl ?_
    refine aw_bipush dX11_memo_9 rfl (by decide) ?_
    refine aw_icmp_eq (tgt := 22) dX11_memo_11 (by decide) rfl (by omega) (by omega) (fun c11 => ?_) (fun c11 => ?_)
    · refine aw_aload_n dX11_memo_22 rfl rfl ?_
      refine aw_bipush dX11_memo_23 rfl (by decide) ?_
      refine aw_bipush dX11_memo_25 rfl (by decide) ?_
      refine aw_iload_n dX11_memo_27 rfl rfl ?_
      refine aw_imul dX11_memo_28 rfl ?_
      refine aw_iadd dX11_memo_29 rfl ?_
      refine aw_bipush dX11_memo_30 rfl (by decide) ?_
      refine aw_iadd dX11_memo_32 rfl ?_
      refine aw_iload_n dX11_memo_33 rfl rfl ?_
      refine aw_callV [_, _] _ dX11_memo_34 rfl clv_X11_230 (by decide) ⟨Nat.zero_le _, Nat.zero_le _⟩ g109 (by rfl) (Nat.le_of_ble_eq_true rfl) rfl ?_
      refine sR_becomes (by omega) ?_
      refine aw_goto (tgt := 41) dX11_memo_37 (by decide) ?_
      refine aw_ireturn (ty := .int) dX11_memo_41 rfl rfl ?_
      first | exact q_eq k (by unfold memoM; rw [if_pos (by omega)]) (by unfold memoM; rw [if_pos (by omega)]; rfl) | exact q_eq k (by unfold memoM; rw [if_neg (by omega)]) (by unfold memoM; rw [if_neg (by omega), mcell_self])
    · refine aw_aload_n dX11_memo_14 rfl rfl ?_
      refine aw_iload_n dX11_memo_15 rfl rfl ?_
      refine aw_callV [_] _ dX11_memo_16 rfl clv_X11_233 (by decide) ⟨Nat.zero_le _, Nat.zero_le _⟩ g109 (by rfl) (Nat.le_of_ble_eq_true rfl) rfl ?_
      refine sR_isCell (by omega) hw (fun c16 => ?_) (fun c16 => ?_)
      · refine aw_if_eq (tgt := 40) dX11_memo_19 (by decide) rfl (by omega) (fun c => absurd c (by decide)) (fun _ => ?_)
        refine aw_aload_n dX11_memo_22 rfl rfl ?_
        refine aw_bipush dX11_memo_23 rfl (by decide) ?_
        refine aw_bipush dX11_memo_25 rfl (by decide) ?_
        refine aw_iload_n dX11_memo_27 rfl rfl ?_
        refine aw_imul dX11_memo_28 rfl ?_
        refine aw_iadd dX11_memo_29 rfl ?_
        refine aw_bipush dX11_memo_30 rfl (by decide) ?_
        refine aw_iadd dX11_memo_32 rfl ?_
        refine aw_iload_n dX11_memo_33 rfl rfl ?_
        refine aw_callV [_, _] _ dX11_memo_34 rfl clv_X11_230 (by decide) ⟨Nat.zero_le _, Nat.zero_le _⟩ g109 (by rfl) (Nat.le_of_ble_eq_true rfl) rfl ?_
        refine sR_becomes (by omega) ?_
        refine aw_goto (tgt := 41) dX11_memo_37 (by decide) ?_
        refine aw_ireturn (ty := .int) dX11_memo_41 rfl rfl ?_
        first | exact q_eq k (by unfold memoM; rw [if_pos (by omega)]) (by unfold memoM; rw [if_pos (by omega)]; rfl) | exact q_eq k (by unfold memoM; rw [if_neg (by omega)]) (by unfold memoM; rw [if_neg (by omega), mcell_self])
      · refine aw_if_eq (tgt := 40) dX11_memo_19 (by decide) rfl (by omega) (fun _ => ?_) (fun c => absurd c (by decide))
        refine aw_iconst dX11_memo_40 rfl ?_
        refine aw_ireturn (ty := .int) dX11_memo_41 rfl rfl ?_
        first | exact q_eq k (by unfold memoM; rw [if_pos (by omega)]) (by unfold memoM; rw [if_pos (by omega)]; rfl) | exact q_eq k (by unfold memoM; rw [if_neg (by omega)]) (by unfold memoM; rw [if_neg (by omega), mcell_self])
  · refine aw_if_eq (tgt := 40) dX11_memo_5 (by decide) rfl (by omega) (fun _ => ?_) (fun c => absurd c (by decide))
    refine aw_iconst dX11_memo_40 rfl ?_
    refine aw_ireturn (ty := .int) dX11_memo_41 rfl rfl ?_
    first | exact q_eq k (by unfold memoM; rw [if_pos (by omega)]) (by unfold memoM; rw [if_pos (by omega)]; rfl) | exact q_eq k (by unfold memoM; rw [if_neg (by omega)]) (by unfold memoM; rw [if_neg (by omega), mcell_self])
theorem sR_rake {x b : Int} (hm : 3 ≤ mem 109 3 ∧ mem 109 3 ≤ 8) (hx : -2147483648 ≤ x ∧ x ≤ 2147483647) (hb : 0 ≤ b ∧ b ≤ 1) (k : Q (some (vI (rakeM (mem 109 3) (mem 110) x b).1)) (mcell mem 110 (rakeM (mem 109 3) (mem 110) x b).2)) : AMet Γ mX11_rake [vR 109, vI x, vI b] zG mem Q := by
  refine AMet.of' 1 (ls := [some (vR (109)), some (vI (x)), some (vI (b)), none]) (by decide) rfl (Nat.le_of_ble_eq_true rfl) ?_
  refine aw_aload_n dX11_rake_0 rfl rfl ?_
  refine aw_iload_n dX11_rake_1 rfl rfl ?_
  refine aw_callV [_] _ dX11_rake_2 rfl clv_X11_212 (by decide) ⟨Nat.zero_le _, Nat.zero_le _⟩ g109 (by rfl) (Nat.le_of_ble_eq_true rfl) rfl ?_
  refine sR_isPlace (by omega) hx (fun c2 => ?_) (fun c2 => ?_)
  · refine aw_if_ne (tgt := 10) dX11_rake_5 (by decide) rfl (by omega) (fun _ => ?_) (fun c => absurd c (by decide))
    refine aw_aload_n dX11_rake_10 rfl rfl ?_
    refine aw_getR dX11_rake_11 rfl fl_X11_7 g109 (by rfl) ?_
    refine aw_bipush dX11_rake_14 rfl (by decide) ?_
    refine aw_iaload dX11_rake_16 rfl g110 (by decide) (by omega) ?_
    refine aw_iload_n dX11_rake_17 rfl rfl ?_
    refine aw_ishr dX11_rake_18 rfl ?_
    refine aw_iconst dX11_rake_19 rfl ?_
    refine aw_iand dX11_rake_20 rfl ?_
    refine aw_istore3 rfl dX11_rake_21 rfl (by decide) ?_
    refine aw_aload_n dX11_rake_22 rfl rfl ?_
    refine aw_getR dX11_rake_23 rfl fl_X11_7 g109 (by rfl) ?_
    refine aw_bipush dX11_rake_26 rfl (by decide) ?_
    refine aw_iload_n dX11_rake_28 rfl rfl ?_
    refine aw_if_eq (tgt := 46) dX11_rake_29 (by decide) rfl (by omega) (fun c29 => ?_) (fun c29 => ?_)
    · refine aw_aload_n dX11_rake_46 rfl rfl ?_
      refine aw_getR dX11_rake_47 rfl fl_X11_7 g109 (by rfl) ?_
      refine aw_bipush dX11_rake_50 rfl (by decide) ?_
      refine aw_iaload dX11_rake_52 rfl g110 (by decide) (by omega) ?_
      refine aw_iconst dX11_rake_53 rfl ?_
      refine aw_iload_n dX11_rake_54 rfl rfl ?_
      refine aw_ishl dX11_rake_55 rfl ?_
      refine aw_iconst dX11_rake_56 rfl ?_
      refine aw_ixor dX11_rake_57 rfl ?_
      refine aw_iand dX11_rake_58 rfl ?_
      refine aw_iastore dX11_rake_59 rfl g110 (by decide) (by omega) ?_
      refine aw_iload_n dX11_rake_60 rfl rfl ?_
      refine aw_ireturn (ty := .int) dX11_rake_61 rfl rfl ?_
      first | exact q_eq k (by unfold rakeM; rw [if_pos c2]) (by unfold rakeM; rw [if_pos c2, if_pos c29]; rfl) | exact q_eq k (by unfold rakeM; rw [if_pos c2]) (by unfold rakeM; rw [if_pos c2, if_neg c29]; rfl)
    · refine aw_aload_n dX11_rake_32 rfl rfl ?_
      refine aw_getR dX11_rake_33 rfl fl_X11_7 g109 (by rfl) ?_
      refine aw_bipush dX11_rake_36 rfl (by decide) ?_
      refine aw_iaload dX11_rake_38 rfl g110 (by decide) (by omega) ?_
      refine aw_iconst dX11_rake_39 rfl ?_
      refine aw_iload_n dX11_rake_40 rfl rfl ?_
      refine aw_ishl dX11_rake_41 rfl ?_
      refine aw_ior dX11_rake_42 rfl ?_
      refine aw_goto (tgt := 59) dX11_rake_43 (by decide) ?_
      refine aw_iastore dX11_rake_59 rfl g110 (by decide) (by omega) ?_
      refine aw_iload_n dX11_rake_60 rfl rfl ?_
      refine aw_ireturn (ty := .int) dX11_rake_61 rfl rfl ?_
      first | exact q_eq k (by unfold rakeM; rw [if_pos c2]) (by unfold rakeM; rw [if_pos c2, if_pos c29]; rfl) | exact q_eq k (by unfold rakeM; rw [if_pos c2]) (by unfold rakeM; rw [if_pos c2, if_neg c29]; rfl)
  · refine aw_if_ne (tgt := 10) dX11_rake_5 (by decide) rfl (by omega) (fun c => absurd c (by decide)) (fun _ => ?_)
    refine aw_iconst dX11_rake_8 rfl ?_
    refine aw_ireturn (ty := .int) dX11_rake_9 rfl rfl ?_
    exact q_eq k (by unfold rakeM; rw [if_neg c2]) (by unfold rakeM; rw [if_neg c2, mcell_self])
theorem sR_fault (k : Q (some (vI (mem 109 18))) mem) : AMet Γ mX11_fault [vR 109] zG mem Q := by
  refine AMet.of' 0 (ls := [some (vR (109))]) (by decide) rfl (Nat.le_of_ble_eq_true rfl) ?_
  refine aw_aload_n dX11_fault_0 rfl rfl ?_
  refine aw_getI (kI := 18) dX11_fault_1 rfl fl_X11_85 g109 (by rfl) rfl ?_
  refine aw_ireturn (ty := .int) dX11_fault_4 rfl rfl ?_
  exact k
theorem sR_torn (k : Q (some (vI (mem 109 26))) mem) : AMet Γ mX11_torn [vR 109] zG mem Q := by
  refine AMet.of' 0 (ls := [some (vR (109))]) (by decide) rfl (Nat.le_of_ble_eq_true rfl) ?_
  refine aw_aload_n dX11_torn_0 rfl rfl ?_
  refine aw_getI (kI := 26) dX11_torn_1 rfl fl_X11_307 g109 (by rfl) rfl ?_
  refine aw_ireturn (ty := .int) dX11_torn_4 rfl rfl ?_
  exact k
theorem sR_feed {c : Int} (ht : 0 ≤ mem 109 13 ∧ mem 109 13 ≤ 160) (hc : -2147483648 ≤ c ∧ c ≤ 2147483647) (kb : ¬ (0 ≤ c ∧ c ≤ 127) → Q (some (vI (-1))) mem) (kf : (0 ≤ c ∧ c ≤ 127) → mem 109 13 = 160 → Q (some (vI (-3))) mem) (k : (0 ≤ c ∧ c ≤ 127) → ¬ mem 109 13 = 160 → Q (some (vI (mem 109 13 + 1))) (mset (mset mem 114 (mem 109 13) c) 109 13 (mem 109 13 + 1))) : AMet Γ mX11_feed [vR 109, vI c] zG mem Q := by
  refine AMet.of' 0 (ls := [some (vR (109)), some (vI (c))]) (by decide) rfl (Nat.le_of_ble_eq_true rfl) ?_
  refine aw_iload_n dX11_feed_0 rfl rfl ?_
  refine aw_i2l dX11_feed_1 rfl (by omega) ?_
  refine aw_lconst (a := 0) dX11_feed_2 rfl (by decide) ?_
  refine aw_ldc2 (a := 127) dX11_feed_3 rfl lc_X11_76 (by decide) ?_
  refine aw_callS [_, _, _] _ dX11_feed_6 rfl cls_X11_78 (by decide) ⟨Nat.zero_le _, Nat.zero_le _⟩ (Nat.le_of_ble_eq_true rfl) rfl ?_
  refine sR_in (by omega) (by omega) (by omega) (fun c6 => ?_) (fun c6 => ?_)
  · refine aw_if_ne (tgt := 14) dX11_feed_9 (by decide) rfl (by omega) (fun _ => ?_) (fun c => absurd c (by decide))
    refine aw_aload_n dX11_feed_14 rfl rfl ?_
    refine aw_getI (kI := 13) dX11_feed_15 rfl fl_X11_82 g109 (by rfl) rfl ?_
    refine aw_sipush dX11_feed_18 rfl (by decide) ?_
    refine aw_icmp_ne (tgt := 27) dX11_feed_21 (by decide) rfl (by omega) (by omega) (fun c21 => ?_) (fun c21 => ?_)
    · refine aw_aload_n dX11_feed_27 rfl rfl ?_
      refine aw_getR dX11_feed_28 rfl fl_X11_23 g109 (by rfl) ?_
      refine aw_aload_n dX11_feed_31 rfl rfl ?_
      refine aw_getI (kI := 13) dX11_feed_32 rfl fl_X11_82 g109 (by rfl) rfl ?_
      refine aw_iload_n dX11_feed_35 rfl rfl ?_
      refine aw_iastore dX11_feed_36 rfl g114 (by decide) (by omega) ?_
      refine aw_aload_n dX11_feed_37 rfl rfl ?_
      refine aw_dup dX11_feed_38 rfl rfl ?_
      refine aw_getI (kI := 13) dX11_feed_39 rfl fl_X11_82 g109 (by rfl) rfl ?_
      refine aw_iconst dX11_feed_42 rfl ?_
      refine aw_iadd dX11_feed_43 rfl ?_
      refine aw_putI (kI := 13) dX11_feed_44 rfl fp_X11_82 g109 (by rfl) rfl ?_
      refine aw_aload_n dX11_feed_47 rfl rfl ?_
      refine aw_getI (kI := 13) dX11_feed_48 rfl fl_X11_82 g109 (by rfl) rfl ?_
      refine aw_ireturn (ty := .int) dX11_feed_51 rfl rfl ?_
      exact k c6 c21
    · refine aw_bipush dX11_feed_24 rfl (by decide) ?_
      refine aw_ireturn (ty := .int) dX11_feed_26 rfl rfl ?_
      exact kf c6 c21
  · refine aw_if_ne (tgt := 14) dX11_feed_9 (by decide) rfl (by omega) (fun c => absurd c (by decide)) (fun _ => ?_)
    refine aw_iconst dX11_feed_12 rfl ?_
    refine aw_ireturn (ty := .int) dX11_feed_13 rfl rfl ?_
    exact kb c6
theorem sR_end {c : Int} (ht : 0 ≤ mem 109 13 ∧ mem 109 13 ≤ 160) (hc : -2147483648 ≤ c ∧ c ≤ 2147483647) (kb : ¬ (0 ≤ c ∧ c ≤ mem 109 13) → Q (some (vI (-1))) mem) (k : (0 ≤ c ∧ c ≤ mem 109 13) → Q (some (vI (mem 109 13))) (mset mem 109 13 c)) : AMet Γ mX11_end [vR 109, vI c] zG mem Q := by
  refine AMet.of' 1 (ls := [some (vR (109)), some (vI (c)), none]) (by decide) rfl (Nat.le_of_ble_eq_true rfl) ?_
  refine aw_iload_n dX11_end_0 rfl rfl ?_
  refine aw_i2l dX11_end_1 rfl (by omega) ?_
  refine aw_lconst (a := 0) dX11_end_2 rfl (by decide) ?_
  refine aw_aload_n dX11_end_3 rfl rfl ?_
  refine aw_getI (kI := 13) dX11_end_4 rfl fl_X11_82 g109 (by rfl) rfl ?_
  refine aw_i2l dX11_end_7 rfl (by omega) ?_
  refine aw_callS [_, _, _] _ dX11_end_8 rfl cls_X11_78 (by decide) ⟨Nat.zero_le _, Nat.zero_le _⟩ (Nat.le_of_ble_eq_true rfl) rfl ?_
  refine sR_in (by omega) (by omega) (by omega) (fun c8 => ?_) (fun c8 => ?_)
  · refine aw_if_ne (tgt := 16) dX11_end_11 (by decide) rfl (by omega) (fun _ => ?_) (fun c => absurd c (by decide))
    refine aw_aload_n dX11_end_16 rfl rfl ?_
    refine aw_getI (kI := 13) dX11_end_17 rfl fl_X11_82 g109 (by rfl) rfl ?_
    refine aw_istore2 rfl dX11_end_20 rfl (by decide) ?_
    refine aw_aload_n dX11_end_21 rfl rfl ?_
    refine aw_iload_n dX11_end_22 rfl rfl ?_
    refine aw_putI (kI := 13) dX11_end_23 rfl fp_X11_82 g109 (by rfl) rfl ?_
    refine aw_iload_n dX11_end_26 rfl rfl ?_
    refine aw_ireturn (ty := .int) dX11_end_27 rfl rfl ?_
    exact k c8
  · refine aw_if_ne (tgt := 16) dX11_end_11 (by decide) rfl (by omega) (fun c => absurd c (by decide)) (fun _ => ?_)
    refine aw_iconst dX11_end_14 rfl ?_
    refine aw_ireturn (ty := .int) dX11_end_15 rfl rfl ?_
    exact kb c8
end ZRef4
