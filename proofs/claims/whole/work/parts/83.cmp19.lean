theorem place_good {n : Int} {f : Int → Int} (w : Wf n f) {p : Nat} (hp : (p : Int) < f 46) {x : Nat} (hx : (x : Int) < 3 * n) (c : Nat) : gdP n f c p x ↔ (10 * f (47 + 8 * (p : Int) + 0) ≤ f (47 + 8 * (p : Int) + 3) + gain (fun r => roundsF n r f x) (coF (f (47 + 8 * (p : Int) + 1))) c ∧ sdB f p + gain (fun r => roundsF n r f x) (siF (f (47 + 8 * (p : Int) + 1))) c < 40 ∧ sdO f p < 40) := by
  obtain ⟨wg, og⟩ := place_Wf (x := (x : Int)) w ⟨Int.natCast_nonneg p, hp⟩ (by omega)
  have hfl := w.fl hp
  have ne : ∀ j : Int, ¬ j = 47 + 8 * (p : Int) + 2 → fset f (47 + 8 * (p : Int) + 2) (x : Int) j = f j := fun j hj => fset_ne hj
  unfold gdP
  rw [rounds_good wg (by rw [og 46 (by omega)]; exact hp)]
  have eH : spH (fun k => roundsF n k (fset f (47 + 8 * (p : Int) + 2) (x : Int))) p = fun r => roundsF n r f x := by
    funext r
    unfold spH
    show (if fset f (47 + 8 * (p : Int) + 2) (x : Int) (47 + 8 * (p : Int) + 2) = -4 then 0 else roundsF n r (fset f (47 + 8 * (p : Int) + 2) (x : Int)) (fset f (47 + 8 * (p : Int) + 2) (x : Int) (47 + 8 * (p : Int) + 2))) = _
    rw [fset_same, if_neg (by omega)]
    exact heat_congr w wg (fun j hj => ne j (by omega)) (by omega) r
  rw [eH]
  unfold sdB sdO
  rw [ne (47 + 8 * (p : Int) + 6) (by omega), ne (47 + 8 * (p : Int) + 0) (by omega), ne (47 + 8 * (p : Int) + 1) (by omega), ne (47 + 8 * (p : Int) + 3) (by omega), ne (47 + 8 * (p : Int) + (4 + f (47 + 8 * (p : Int) + 6))) (by omega), ne (47 + 8 * (p : Int) + (5 - f (47 + 8 * (p : Int) + 6))) (by omega)]
theorem rcTo_pow {G : Nat → Bool} {p s N : Nat} (hN : N ≤ 6) (hp : p < N) (hs : s < 2 ^ p) : rcTo G (2 ^ p + s) N = (rcTo G s N || G p) := by
  rw [Bool.eq_iff_iff, Bool.or_eq_true, rcTo_iff, rcTo_iff]
  constructor
  · rintro ⟨q, h1, h2, h3⟩
    rw [pow_bit p (by omega) s hs q (by omega), Bool.or_eq_true, decide_eq_true_eq] at h2
    rcases h2 with h2 | h2
    · exact Or.inl ⟨q, h1, h2, h3⟩
    · subst h2; exact Or.inr h3
  · rintro (⟨q, h1, h2, h3⟩ | h)
    · exact ⟨q, h1, by rw [pow_bit p (by omega) s hs q (by omega), h2]; rfl, h3⟩
    · exact ⟨p, hp, by rw [pow_bit p (by omega) s hs p (by omega)]; simp, h⟩
section ZCmp19
variable {Γ : ZG} {mem : Mem} {Q : Option AV → Mem → Prop} {n : Int} {f : Int → Int}
theorem sC_goodIn {R : Nat → Nat → Bool} {go : Nat → Bool} {N X q x : Nat} (hN : N ≤ 6) (hX : X ≤ 24) (hq : q < N) (hx : x < X) (h : Lay mem R go N X) (k : Q (some (vI (b2i (R q x)))) mem) : AMet Γ mX3_goodIn [vR 90, vI q, vI x] zG mem Q := by
  have hb := (h.2.2.1 q hq).2 x (by omega)
  rw [decide_eq_true hx, Bool.true_and] at hb
  have z := zbit (a := mem 91 q) (x := x) (by omega)
  rw [hb] at z
  refine AMet.of' 0 (ls := [some (vR (90)), some (vI ((q : Int))), some (vI ((x : Int)))]) (by decide) rfl (Nat.le_of_ble_eq_true rfl) ?_
  refine aw_aload_n dX3_goodIn_0 rfl rfl ?_
  refine aw_getR dX3_goodIn_1 rfl fl_X3_9 (by first | assumption | rfl) (by rfl) ?_
  refine aw_iload_n dX3_goodIn_4 rfl rfl ?_
  refine aw_iaload dX3_goodIn_5 rfl (by first | assumption | rfl) (by decide) (by omega) ?_
  refine aw_iload_n dX3_goodIn_6 rfl rfl ?_
  refine aw_ishr dX3_goodIn_7 rfl ?_
  refine aw_iconst dX3_goodIn_8 rfl ?_
  refine aw_iand dX3_goodIn_9 rfl ?_
  refine aw_ireturn (ty := .int) dX3_goodIn_10 rfl rfl ?_
  rw [z]; exact k
theorem sC_firstPlace {R : Nat → Nat → Bool} {go tk : Nat → Bool} {N X q : Nat} {taken due : Int} (hN : N ≤ 6) (hX : X ≤ 24) (hq : q < N) (hd : -100 ≤ due ∧ due ≤ 100) (h : Lay mem R go N X) (htk : ∀ x : Nat, x < X → zbt taken x = tk x) (k : Q (some (vI (placeF R go N X q tk due X 0))) mem) : AMet Γ mX3_firstPlace [vR 90, vI q, vI taken, vI due, vI X] zG mem Q := by
  have loop : ∀ (d x : Nat) (x6 : Option AV), x + d = X → placeF R go N X q tk due X 0 = placeF R go N X q tk due d x → AW Γ mX3_firstPlace (zF Γ zG Q) zG 0 0 3 [some (vR 90), some (vI q), some (vI taken), some (vI due), some (vI X), some (vI x), x6] [] mem := by
    intro d
    induction d with
    | zero =>
      intro x x6 hx e
      rw [e] at k
      refine aw_iload dX3_firstPlace_3 rfl rfl ?_
      refine aw_iload dX3_firstPlace_5 rfl rfl ?_
      refine aw_icmp_ge (tgt := 65) dX3_firstPlace_7 (by decide) rfl (by omega) (by omega) (fun c7 => ?_) (fun c7 => ?_)
      · refine aw_bipush dX3_firstPlace_65 rfl (by decide) ?_
        refine aw_ireturn (ty := .int) dX3_firstPlace_67 rfl rfl ?_
        exact k
      · exfalso; omega
    | succ d ih =>
      intro x x6 hx e
      have es : placeF R go N X q tk due (d + 1) x = (if tk x = false ∧ b2i (R q x) + (mostH R go (q + 1) N (fun y => tk y || decide (y = x)) X : Int) = due then (x : Int) else placeF R go N X q tk due d (x + 1)) := rfl
      rw [es] at e
      have zb := zbit2 (a := taken) (x := x) (by omega)
      rw [htk x (by omega)] at zb
      have zr := zand_rng taken (zshl 1 (x : Int))
      have ml := mostH_le R go (q + 1) N (fun y => tk y || decide (y = x)) X hN
      have br : 0 ≤ b2i (R q x) ∧ b2i (R q x) ≤ 1 := by unfold b2i; split <;> omega
      have htk2 : ∀ y : Nat, y < X → zbt (zor taken (zshl 1 (x : Int))) y = (tk y || decide (y = x)) := fun y hy => by rw [zbt_or, htk y hy, zbt_shl1 (by omega) (by omega)]
      have s24 : ∀ b : Int, (b = 1 ∧ tk x = false) ∨ (b = 0 ∧ ¬ tk x = false) → AW Γ mX3_firstPlace (zF Γ zG Q) zG 0 0 24 [some (vR 90), some (vI q), some (vI taken), some (vI due), some (vI X), some (vI x), x6] [vI b] mem := by
        intro b hb
        refine aw_istore6 rfl dX3_firstPlace_24 rfl (by decide) ?_
        refine aw_iload dX3_firstPlace_26 rfl rfl ?_
        refine aw_if_eq (tgt := 59) dX3_firstPlace_28 (by decide) rfl (by omega) (fun c28 => ?_) (fun c28 => ?_)
        · refine aw_iinc5 rfl dX3_firstPlace_59 rfl (by decide) ?_
          refine aw_goto (tgt := 3) dX3_firstPlace_62 (by decide) ?_
          first | (rw [if_neg (fun z => by rcases hb with y | y; omega; exact y.2 z.1)] at e; exact ih (x + 1) _ (by omega) e) | (rw [if_neg (fun z => c53 z.2)] at e; exact ih (x + 1) _ (by omega) e)
        · refine aw_aload_n dX3_firstPlace_31 rfl rfl ?_
          refine aw_iload_n dX3_firstPlace_32 rfl rfl ?_
          refine aw_iload dX3_firstPlace_33 rfl rfl ?_
          refine aw_callV [_, _] _ dX3_firstPlace_35 rfl clv_X3_98 (by decide) ⟨Nat.zero_le _, Nat.zero_le _⟩ (by first | assumption | rfl) (by rfl) (Nat.le_of_ble_eq_true rfl) rfl ?_
          refine sC_goodIn hN hX hq (by omega) h ?_
          refine aw_aload_n dX3_firstPlace_38 rfl rfl ?_
          refine aw_iload_n dX3_firstPlace_39 rfl rfl ?_
          refine aw_iconst dX3_firstPlace_40 rfl ?_
          refine aw_iadd dX3_firstPlace_41 rfl ?_
          refine aw_iload_n dX3_firstPlace_42 rfl rfl ?_
          refine aw_iconst dX3_firstPlace_43 rfl ?_
          refine aw_iload dX3_firstPlace_44 rfl rfl ?_
          refine aw_ishl dX3_firstPlace_46 rfl ?_
          refine aw_ior dX3_firstPlace_47 rfl ?_
          refine aw_callV [_, _] _ dX3_firstPlace_48 rfl clv_X3_91 (by decide) ⟨Nat.zero_le _, Nat.zero_le _⟩ (by first | assumption | rfl) (by rfl) (Nat.le_of_ble_eq_true rfl) rfl ?_
          refine sC_mostGood (fi := q + 1) hN hX (by omega) h htk2 ?_
          refine aw_iadd dX3_firstPlace_51 rfl ?_
          refine aw_iload_n dX3_firstPlace_52 rfl rfl ?_
          refine aw_icmp_ne (tgt := 59) dX3_firstPlace_53 (by decide) rfl (by omega) (by omega) (fun c53 => ?_) (fun c53 => ?_)
          · refine aw_iinc5 rfl dX3_firstPlace_59 rfl (by decide) ?_
            refine aw_goto (tgt := 3) dX3_firstPlace_62 (by decide) ?_
            first | (rw [if_neg (fun z => by rcases hb with y | y; omega; exact y.2 z.1)] at e; exact ih (x + 1) _ (by omega) e) | (rw [if_neg (fun z => c53 z.2)] at e; exact ih (x + 1) _ (by omega) e)
          · refine aw_iload dX3_firstPlace_56 rfl rfl ?_
            refine aw_ireturn (ty := .int) dX3_firstPlace_58 rfl rfl ?_
            rw [if_pos ⟨by rcases hb with z | z; exact z.2; omega, by omega⟩] at e; rw [e] at k; exact k
      refine aw_iload dX3_firstPlace_3 rfl rfl ?_
      refine aw_iload dX3_firstPlace_5 rfl rfl ?_
      refine aw_icmp_ge (tgt := 65) dX3_firstPlace_7 (by decide) rfl (by omega) (by omega) (fun c7 => ?_) (fun c7 => ?_)
      · exfalso; omega
      · refine aw_iload_n dX3_firstPlace_10 rfl rfl ?_
        refine aw_iconst dX3_firstPlace_11 rfl ?_
        refine aw_iload dX3_firstPlace_12 rfl rfl ?_
        refine aw_ishl dX3_firstPlace_14 rfl ?_
        refine aw_iand dX3_firstPlace_15 rfl ?_
        refine aw_if_ne (tgt := 23) dX3_firstPlace_16 (by decide) rfl (by omega) (fun c16 => ?_) (fun c16 => ?_)
        · refine aw_iconst dX3_firstPlace_23 rfl ?_
          first | exact s24 1 (Or.inl ⟨rfl, zb.mp (by omega)⟩) | exact s24 0 (Or.inr ⟨rfl, fun z => c16 (zb.mpr z)⟩)
        · refine aw_iconst dX3_firstPlace_19 rfl ?_
          refine aw_goto (tgt := 24) dX3_firstPlace_20 (by decide) ?_
          first | exact s24 1 (Or.inl ⟨rfl, zb.mp (by omega)⟩) | exact s24 0 (Or.inr ⟨rfl, fun z => c16 (zb.mpr z)⟩)
  refine AMet.of' 2 (ls := [some (vR (90)), some (vI ((q : Int))), some (vI (taken)), some (vI (due)), some (vI ((X : Int))), none, none]) (by decide) rfl (Nat.le_of_ble_eq_true rfl) ?_
  refine aw_iconst dX3_firstPlace_0 rfl ?_
  refine aw_istore5 rfl dX3_firstPlace_1 rfl (by decide) ?_
  exact loop X 0 none (by omega) rfl
theorem Lay.fr {m m' : Mem} {R : Nat → Nat → Bool} {go : Nat → Bool} {N X : Nat} (h : Lay m R go N X) (hF : FrI m' m 93 94) : Lay m' R go N X := by
  unfold Lay
  rw [hF 90 (by omega), hF 91 (by omega), hF 92 (by omega), hF 94 (by omega)]
  exact h
theorem chooseF_rng (R : Nat → Nat → Bool) (go : Nat → Bool) (N X : Nat) (hN : N ≤ 6) : ∀ q : Nat, -(q : Int) ≤ (chooseF R go N X q).2.1 ∧ (chooseF R go N X q).2.1 ≤ 6 := by
  intro q
  induction q with
  | zero => have := mostH_le R go 0 N (fun _ => false) X hN; show -(0 : Int) ≤ (mostH R go 0 N (fun _ => false) X : Int) ∧ (mostH R go 0 N (fun _ => false) X : Int) ≤ 6; omega
  | succ q ih =>
    rw [chooseF]
    dsimp only
    have b1 : ∀ b : Bool, 0 ≤ b2i b ∧ b2i b ≤ 1 := by intro b; unfold b2i; split <;> omega
    have := b1 (go q)
    have := b1 (R q (placeF R go N X q (chooseF R go N X q).1 (chooseF R go N X q).2.1 X 0).toNat)
    push_cast
    split <;> omega
theorem sC_choose {R : Nat → Nat → Bool} {go : Nat → Bool} {N X : Nat} (hN : N ≤ 6) (hX : X ≤ 24) (h : Lay mem R go N X) (k : ∀ m' : Mem, FrI m' mem 93 94 → (∀ q : Nat, q < N → m' 93 q = (chooseF R go N X (q + 1)).2.2) → Q none m') : AMet Γ mX3_choose [vR 90, vI X] zG mem Q := by
  have loop : ∀ (d q : Nat) (m : Mem) (taken : Int), q + d = N → FrI m mem 93 94 → (∀ j : Nat, j < q → m 93 j = (chooseF R go N X (j + 1)).2.2) → (∀ x : Nat, x < X → zbt taken x = (chooseF R go N X q).1 x) → AW Γ mX3_choose (zF Γ zG Q) zG 0 0 12 [some (vR 90), some (vI X), some (vI (chooseF R go N X q).2.1), some (vI taken), some (vI q)] [] m := by
    intro d
    induction d with
    | zero =>
      intro q m taken hd hF hj ht
      have m4 : m 90 4 = N := by rw [hF 90 (by omega)]; exact h.1
      refine aw_iload dX3_choose_12 rfl rfl ?_
      refine aw_aload_n dX3_choose_14 rfl rfl ?_
      refine aw_getI (kI := 4) dX3_choose_15 rfl fl_X3_31 (by first | assumption | rfl) (by rfl) rfl ?_
      rw [m4]
      refine aw_icmp_ge (tgt := 104) dX3_choose_18 (by decide) rfl (by omega) (by omega) (fun c18 => ?_) (fun c18 => ?_)
      · refine aw_return dX3_choose_104 rfl ?_
        exact k m hF (fun q hq => hj q (by omega))
      · exfalso; omega
    | succ d ih =>
      intro q m taken hd hF hj ht
      have hL := h.fr hF
      have m4 : m 90 4 = N := hL.1
      have dr := chooseF_rng R go N X hN q
      have pr := placeF_rng (R := R) (go := go) (N := N) (X := X) (q := q) (tk := (chooseF R go N X q).1) (due := (chooseF R go N X q).2.1) X 0
      have gq := hL.2.1 q (by omega)
      have ihn := fun m taken => ih (q + 1) m taken (by omega)
      have cs : chooseF R go N X (q + 1) = ((fun y => (chooseF R go N X q).1 y || decide ((y : Int) = placeF R go N X q (chooseF R go N X q).1 (chooseF R go N X q).2.1 X 0)), (chooseF R go N X q).2.1 - (if placeF R go N X q (chooseF R go N X q).1 (chooseF R go N X q).2.1 X 0 = -4 then b2i (go q) else b2i (R q (placeF R go N X q (chooseF R go N X q).1 (chooseF R go N X q).2.1 X 0).toNat)), placeF R go N X q (chooseF R go N X q).1 (chooseF R go N X q).2.1 X 0) := rfl
      have h93 : ∀ m2 : Mem, m2 = mset m 93 (q : Int) (placeF R go N X q (chooseF R go N X q).1 (chooseF R go N X q).2.1 X 0) → (FrI m2 mem 93 94 ∧ (∀ j : Nat, j < q + 1 → m2 93 j = (chooseF R go N X (j + 1)).2.2) ∧ m2 93 q = placeF R go N X q (chooseF R go N X q).1 (chooseF R go N X q).2.1 X 0) := by
        intro m2 e
        subst e
        refine ⟨hF.set (by decide), fun j hj2 => ?_, by rw [mset_same, fset_same]⟩
        rw [mset_same]
        by_cases ej : j = q
        · subst ej
          rw [fset_same, cs]
        · rw [fset_ne (by omega)]
          exact hj j (by omega)
      have s70 : ∀ (m2 : Mem) (x : Nat), placeF R go N X q (chooseF R go N X q).1 (chooseF R go N X q).2.1 X 0 = x → x < X → FrI m2 mem 93 94 → (∀ j : Nat, j < q + 1 → m2 93 j = (chooseF R go N X (j + 1)).2.2) → m2 93 q = x → AW Γ mX3_choose (zF Γ zG Q) zG 0 0 70 [some (vR 90), some (vI X), some (vI (chooseF R go N X q).2.1), some (vI taken), some (vI q)] [] m2 := by
        intro m2 x hx hxX f2 j2 e2
        have i2 := ihn m2 (zor taken (zshl 1 (x : Int))) f2 j2 (fun y hy => by
          rw [cs]
          dsimp only
          rw [zbt_or, ht y hy, zbt_shl1 (by omega) (by omega), hx]
          congr 1
          exact decide_eq_decide.mpr (by omega))
        rw [cs] at i2
        dsimp only at i2
        rw [hx, if_neg (by omega), Int.toNat_natCast] at i2
        refine aw_iload_n dX3_choose_70 rfl rfl ?_
        refine aw_aload_n dX3_choose_71 rfl rfl ?_
        refine aw_iload dX3_choose_72 rfl rfl ?_
        refine aw_aload_n dX3_choose_74 rfl rfl ?_
        refine aw_getR dX3_choose_75 rfl fl_X3_19 (by first | assumption | rfl) (by rfl) ?_
        refine aw_iload dX3_choose_78 rfl rfl ?_
        refine aw_iaload dX3_choose_80 rfl g93 (by decide) (by omega) ?_
        rw [e2]
        refine aw_callV [_, _] _ dX3_choose_81 rfl clv_X3_98 (by decide) ⟨Nat.zero_le _, Nat.zero_le _⟩ (by first | assumption | rfl) (by rfl) (Nat.le_of_ble_eq_true rfl) rfl ?_
        refine sC_goodIn hN hX (by omega) hxX (h.fr f2) ?_
        refine aw_isub dX3_choose_84 rfl ?_
        refine aw_istore2 rfl dX3_choose_85 rfl (by decide) ?_
        refine aw_iload_n dX3_choose_86 rfl rfl ?_
        refine aw_iconst dX3_choose_87 rfl ?_
        refine aw_aload_n dX3_choose_88 rfl rfl ?_
        refine aw_getR dX3_choose_89 rfl fl_X3_19 (by first | assumption | rfl) (by rfl) ?_
        refine aw_iload dX3_choose_92 rfl rfl ?_
        refine aw_iaload dX3_choose_94 rfl g93 (by decide) (by omega) ?_
        rw [e2]
        refine aw_ishl dX3_choose_95 rfl ?_
        refine aw_ior dX3_choose_96 rfl ?_
        refine aw_istore3 rfl dX3_choose_97 rfl (by decide) ?_
        refine aw_iinc4 rfl dX3_choose_98 rfl (by decide) ?_
        refine aw_goto (tgt := 12) dX3_choose_101 (by decide) ?_
        exact i2
      have s49 : ∀ (m2 : Mem), placeF R go N X q (chooseF R go N X q).1 (chooseF R go N X q).2.1 X 0 = -4 → FrI m2 mem 93 94 → (∀ j : Nat, j < q + 1 → m2 93 j = (chooseF R go N X (j + 1)).2.2) → AW Γ mX3_choose (zF Γ zG Q) zG 0 0 49 [some (vR 90), some (vI X), some (vI (chooseF R go N X q).2.1), some (vI taken), some (vI q)] [] m2 := by
        intro m2 hx f2 j2
        have g2 : m2 92 q = b2i (go q) := by rw [f2 92 (by omega)]; exact h.2.1 q (by omega)
        have i2 := ihn m2 taken f2 j2 (fun y hy => by
          rw [cs]
          dsimp only
          rw [ht y hy, hx, decide_eq_false (show ¬ ((y : Int) = -4) by omega), Bool.or_false])
        rw [cs] at i2
        dsimp only at i2
        rw [hx, if_pos rfl] at i2
        have br : 0 ≤ b2i (go q) ∧ b2i (go q) ≤ 1 := by unfold b2i; split <;> omega
        have s65 : ∀ v : Int, v = b2i (go q) → AW Γ mX3_choose (zF Γ zG Q) zG 0 0 65 [some (vR 90), some (vI X), some (vI (chooseF R go N X q).2.1), some (vI taken), some (vI q)] [vI v, vI (chooseF R go N X q).2.1] m2 := by
          intro v hv
          rw [← hv] at i2
          refine aw_isub dX3_choose_65 rfl ?_
          refine aw_istore2 rfl dX3_choose_66 rfl (by decide) ?_
          refine aw_goto (tgt := 98) dX3_choose_67 (by decide) ?_
          refine aw_iinc4 rfl dX3_choose_98 rfl (by decide) ?_
          refine aw_goto (tgt := 12) dX3_choose_101 (by decide) ?_
          exact i2
        refine aw_iload_n dX3_choose_49 rfl rfl ?_
        refine aw_aload_n dX3_choose_50 rfl rfl ?_
        refine aw_getR dX3_choose_51 rfl fl_X3_15 (by first | assumption | rfl) (by rfl) ?_
        refine aw_iload dX3_choose_54 rfl rfl ?_
        refine aw_zaload dX3_choose_56 rfl (by first | assumption | rfl) (by decide) (by omega) ?_
        rw [g2]
        refine aw_if_eq (tgt := 64) dX3_choose_57 (by decide) rfl (by omega) (fun c57 => ?_) (fun c57 => ?_)
        · refine aw_iconst dX3_choose_64 rfl ?_
          exact s65 _ (by omega)
        · refine aw_iconst dX3_choose_60 rfl ?_
          refine aw_goto (tgt := 65) dX3_choose_61 (by decide) ?_
          exact s65 _ (by omega)
      refine aw_iload dX3_choose_12 rfl rfl ?_
      refine aw_aload_n dX3_choose_14 rfl rfl ?_
      refine aw_getI (kI := 4) dX3_choose_15 rfl fl_X3_31 (by first | assumption | rfl) (by rfl) rfl ?_
      rw [m4]
      refine aw_icmp_ge (tgt := 104) dX3_choose_18 (by decide) rfl (by omega) (by omega) (fun c18 => ?_) (fun c18 => ?_)
      · exfalso; omega
      · refine aw_aload_n dX3_choose_21 rfl rfl ?_
        refine aw_getR dX3_choose_22 rfl fl_X3_19 (by first | assumption | rfl) (by rfl) ?_
        refine aw_iload dX3_choose_25 rfl rfl ?_
        refine aw_aload_n dX3_choose_27 rfl rfl ?_
        refine aw_iload dX3_choose_28 rfl rfl ?_
        refine aw_iload_n dX3_choose_30 rfl rfl ?_
        refine aw_iload_n dX3_choose_31 rfl rfl ?_
        refine aw_iload_n dX3_choose_32 rfl rfl ?_
        refine aw_callV [_, _, _, _] _ dX3_choose_33 rfl clv_X3_94 (by decide) ⟨Nat.zero_le _, Nat.zero_le _⟩ (by first | assumption | rfl) (by rfl) (Nat.le_of_ble_eq_true rfl) rfl ?_
        refine sC_firstPlace (tk := (chooseF R go N X q).1) hN hX (by omega) (by omega) hL ht ?_
        refine aw_iastore dX3_choose_36 rfl g93 (by omega) (by omega) ?_
        obtain ⟨f2, j2, e2⟩ := h93 _ rfl
        generalize mset m 93 (q : Int) (placeF R go N X q (chooseF R go N X q).1 (chooseF R go N X q).2.1 X 0) = m2 at f2 j2 e2 ⊢
        refine aw_aload_n dX3_choose_37 rfl rfl ?_
        refine aw_getR dX3_choose_38 rfl fl_X3_19 (by first | assumption | rfl) (by rfl) ?_
        refine aw_iload dX3_choose_41 rfl rfl ?_
        refine aw_iaload dX3_choose_43 rfl g93 (by decide) (by omega) ?_
        rw [e2]
        refine aw_bipush dX3_choose_44 rfl (by decide) ?_
        refine aw_icmp_ne (tgt := 70) dX3_choose_46 (by decide) rfl (by omega) (by omega) (fun c46 => ?_) (fun c46 => ?_)
        · obtain ⟨x, hx⟩ : ∃ x : Nat, placeF R go N X q (chooseF R go N X q).1 (chooseF R go N X q).2.1 X 0 = x := ⟨(placeF R go N X q (chooseF R go N X q).1 (chooseF R go N X q).2.1 X 0).toNat, by omega⟩
          exact s70 m2 x hx (by omega) f2 j2 (by rw [e2, hx])
        · exact s49 m2 (by omega) f2 j2
  refine AMet.of' 3 (ls := [some (vR (90)), some (vI ((X : Int))), none, none, none]) (by decide) rfl (Nat.le_of_ble_eq_true rfl) ?_
  refine aw_aload_n dX3_choose_0 rfl rfl ?_
  refine aw_iconst dX3_choose_1 rfl ?_
  refine aw_iconst dX3_choose_2 rfl ?_
  refine aw_callV [_, _] _ dX3_choose_3 rfl clv_X3_91 (by decide) ⟨Nat.zero_le _, Nat.zero_le _⟩ (by first | assumption | rfl) (by rfl) (Nat.le_of_ble_eq_true rfl) rfl ?_
  refine sC_mostGood (fi := 0) (tk := fun _ => false) (taken := 0) hN hX (Nat.zero_le _) h (fun x hx => zbt_0 x) ?_
  refine aw_istore2 rfl dX3_choose_6 rfl (by decide) ?_
  refine aw_iconst dX3_choose_7 rfl ?_
  refine aw_istore3 rfl dX3_choose_8 rfl (by decide) ?_
  refine aw_iconst dX3_choose_9 rfl ?_
  refine aw_istore4 rfl dX3_choose_10 rfl (by decide) ?_
  exact loop N 0 mem 0 (by omega) FrI.rf (fun j hj => by omega) (fun x hx => zbt_0 x)
theorem sC_uniteReached {R : Nat → Nat → Bool} {N X : Nat} (hN : N ≤ 6) (h4 : mem 90 4 = N) (h1 : ∀ p : Nat, p < N → (-2147483648 ≤ mem 91 p ∧ mem 91 p ≤ 2147483647) ∧ ∀ x : Nat, x < 32 → zbt (mem 91 p) x = (decide (x < X) && R p x)) (h0 : mem 94 0 = 0) (k : ∀ m' : Mem, FrI m' mem 94 95 → m' 94 0 = 0 → (∀ T : Nat, T < 2 ^ N → (-2147483648 ≤ m' 94 T ∧ m' 94 T ≤ 2147483647) ∧ ∀ x : Nat, x < 32 → zbt (m' 94 T) x = (decide (x < X) && rcTo (fun q => R q x) T N)) → Q none m') : AMet Γ mX3_uniteReached [vR 90] zG mem Q := by
  have outer : ∀ (d p : Nat) (m : Mem) (x2 : Option AV), p + d = N → FrI m mem 94 95 → m 94 0 = 0 → (∀ T : Nat, T < 2 ^ p → (-2147483648 ≤ m 94 T ∧ m 94 T ≤ 2147483647) ∧ ∀ x : Nat, x < 32 → zbt (m 94 T) x = (decide (x < X) && rcTo (fun q => R q x) T N)) → AW Γ mX3_uniteReached (zF Γ zG Q) zG 0 0 2 [some (vR 90), some (vI p), x2] [] m := by
    intro d
    induction d with
    | zero =>
      intro p m x2 hd hF z0 hT
      obtain rfl : p = N := by omega
      have m4 : m 90 4 = p := by rw [hF 90 (by omega)]; exact h4
      refine aw_iload_n dX3_uniteReached_2 rfl rfl ?_
      refine aw_aload_n dX3_uniteReached_3 rfl rfl ?_
      refine aw_getI (kI := 4) dX3_uniteReached_4 rfl fl_X3_31 (by first | assumption | rfl) (by rfl) rfl ?_
      rw [m4]
      refine aw_icmp_ge (tgt := 54) dX3_uniteReached_7 (by decide) rfl (by omega) (by omega) (fun c7 => ?_) (fun c7 => ?_)
      · refine aw_return dX3_uniteReached_54 rfl ?_
        exact k m hF z0 hT
      · exfalso; omega
    | succ d ih =>
      intro p m x2 hd hF z0 hT
      have m4 : m 90 4 = N := by rw [hF 90 (by omega)]; exact h4
      have pp := shl_pow p (by omega)
      have p32 : ∀ p : Nat, p < 6 → 2 ^ p ≤ 32 ∧ 2 ^ (p + 1) = 2 ^ p + 2 ^ p := by decide
      have pq := p32 p (by omega)
      have inner : ∀ (e s : Nat) (m : Mem), s + e = 2 ^ p → FrI m mem 94 95 → m 94 0 = 0 → (∀ T : Nat, T < 2 ^ p + s → (-2147483648 ≤ m 94 T ∧ m 94 T ≤ 2147483647) ∧ ∀ x : Nat, x < 32 → zbt (m 94 T) x = (decide (x < X) && rcTo (fun q => R q x) T N)) → AW Γ mX3_uniteReached (zF Γ zG Q) zG 0 0 12 [some (vR 90), some (vI p), some (vI s)] [] m := by
        intro e
        induction e with
        | zero =>
          intro s m hs hF z0 hT
          refine aw_iload_n dX3_uniteReached_12 rfl rfl ?_
          refine aw_iconst dX3_uniteReached_13 rfl ?_
          refine aw_iload_n dX3_uniteReached_14 rfl rfl ?_
          refine aw_ishl dX3_uniteReached_15 rfl ?_
          rw [pp.1]
          refine aw_icmp_ge (tgt := 48) dX3_uniteReached_16 (by decide) rfl (by omega) (by omega) (fun c16 => ?_) (fun c16 => ?_)
          · refine aw_iinc1 rfl dX3_uniteReached_48 rfl (by decide) ?_
            refine aw_goto (tgt := 2) dX3_uniteReached_51 (by decide) ?_
            exact ih (p + 1) m _ (by omega) hF z0 (fun T hT2 => hT T (by omega))
          · exfalso; omega
        | succ e ihe =>
          intro s m hs hF z0 hT
          have m91 : m 91 = mem 91 := hF 91 (by omega)
          obtain ⟨g1, g2⟩ := h1 p (by omega)
          obtain ⟨r1, r2⟩ := hT s (by omega)
          have oz := or_pow p (by omega) s (by omega)
          refine aw_iload_n dX3_uniteReached_12 rfl rfl ?_
          refine aw_iconst dX3_uniteReached_13 rfl ?_
          refine aw_iload_n dX3_uniteReached_14 rfl rfl ?_
          refine aw_ishl dX3_uniteReached_15 rfl ?_
          rw [pp.1]
          refine aw_icmp_ge (tgt := 48) dX3_uniteReached_16 (by decide) rfl (by omega) (by omega) (fun c16 => ?_) (fun c16 => ?_)
          · exfalso; omega
          · refine aw_aload_n dX3_uniteReached_19 rfl rfl ?_
            refine aw_getR dX3_uniteReached_20 rfl fl_X3_22 (by first | assumption | rfl) (by rfl) ?_
            refine aw_iconst dX3_uniteReached_23 rfl ?_
            refine aw_iload_n dX3_uniteReached_24 rfl rfl ?_
            refine aw_ishl dX3_uniteReached_25 rfl ?_
            refine aw_iload_n dX3_uniteReached_26 rfl rfl ?_
            refine aw_ior dX3_uniteReached_27 rfl ?_
            rw [oz]
            refine aw_aload_n dX3_uniteReached_28 rfl rfl ?_
            refine aw_getR dX3_uniteReached_29 rfl fl_X3_22 (by first | assumption | rfl) (by rfl) ?_
            refine aw_iload_n dX3_uniteReached_32 rfl rfl ?_
            refine aw_iaload dX3_uniteReached_33 rfl g94 (by decide) (by omega) ?_
            refine aw_aload_n dX3_uniteReached_34 rfl rfl ?_
            refine aw_getR dX3_uniteReached_35 rfl fl_X3_9 (by first | assumption | rfl) (by rfl) ?_
            refine aw_iload_n dX3_uniteReached_38 rfl rfl ?_
            refine aw_iaload dX3_uniteReached_39 rfl g91 (by decide) (by omega) ?_
            rw [m91]
            refine aw_ior dX3_uniteReached_40 rfl ?_
            refine aw_iastore dX3_uniteReached_41 rfl g94 (by omega) (by omega) ?_
            refine aw_iinc2 rfl dX3_uniteReached_42 rfl (by decide) ?_
            refine aw_goto (tgt := 12) dX3_uniteReached_45 (by decide) ?_
            refine ihe (s + 1) _ (by omega) (hF.set (by decide)) ?_ (fun T hT2 => ?_)
            · rw [mset_same, fset_ne (by omega)]; exact z0
            · rw [mset_same]
              by_cases eT : T = 2 ^ p + s
              · subst eT
                rw [fset_same]
                refine ⟨zor_rng _ _, fun x hx => ?_⟩
                rw [zbt_or, r2 x hx, g2 x hx, rcTo_pow hN (by omega) (by omega)]
                cases decide (x < X) <;> simp
              · rw [fset_ne (by omega)]
                exact hT T (by omega)
      refine aw_iload_n dX3_uniteReached_2 rfl rfl ?_
      refine aw_aload_n dX3_uniteReached_3 rfl rfl ?_
      refine aw_getI (kI := 4) dX3_uniteReached_4 rfl fl_X3_31 (by first | assumption | rfl) (by rfl) rfl ?_
      rw [m4]
      refine aw_icmp_ge (tgt := 54) dX3_uniteReached_7 (by decide) rfl (by omega) (by omega) (fun c7 => ?_) (fun c7 => ?_)
      · exfalso; omega
      · refine aw_iconst dX3_uniteReached_10 rfl ?_
        refine aw_istore2 rfl dX3_uniteReached_11 rfl (by decide) ?_
        exact inner (2 ^ p) 0 m (by omega) hF z0 (fun T hT2 => hT T (by omega))
  have rc0 : ∀ (G : Nat → Bool) (N : Nat), rcTo G 0 N = false := by
    intro G N
    induction N with
    | zero => rfl
    | succ N ih => rw [rcTo, ih, Nat.zero_testBit]; rfl
  refine AMet.of' 2 (ls := [some (vR (90)), none, none]) (by decide) rfl (Nat.le_of_ble_eq_true rfl) ?_
  refine aw_iconst dX3_uniteReached_0 rfl ?_
  refine aw_istore1 rfl dX3_uniteReached_1 rfl (by decide) ?_
  refine outer N 0 mem none (by omega) FrI.rf h0 (fun T hT => ?_)
  obtain rfl : T = 0 := by have : (2 : Nat) ^ 0 = 1 := rfl
                           omega
  have z0 : mem 94 ((0 : Nat) : Int) = 0 := h0
  rw [z0]
  refine ⟨by omega, fun x hx => ?_⟩
  rw [zbt_0, rc0]
  cases decide (x < X) <;> rfl
end ZCmp19
