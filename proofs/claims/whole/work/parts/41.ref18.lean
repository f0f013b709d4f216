theorem cntM_congr {ms ms' : Nat → Nat} {T : Nat} : ∀ X : Nat, (∀ x, x < X → ms x = ms' x) → cntM ms T X = cntM ms' T X := by
  intro X
  induction X with
  | zero => intro _; rfl
  | succ X ih =>
    intro h
    rw [cntM, cntM, ih (fun x hx => h x (by omega)), h X (by omega)]
theorem defM_congr {ms ms' : Nat → Nat} {X D : Nat} (h : ∀ x, x < X → ms x = ms' x) : ∀ k : Nat, defM ms X D k = defM ms' X D k := by
  intro k
  induction k with
  | zero => rfl
  | succ k ih => rw [defM, defM, ih, cntM_congr X h]
theorem mk6_congr {P P' : Nat → Bool} (h : ∀ p, p < 6 → P p = P' p) : mk6 P = mk6 P' := six_ext (mk6_lt _) (mk6_lt _) (fun p hp => by rw [mk6_bit _ hp, mk6_bit _ hp, h p hp])
theorem mostH_congr {R R' : Nat → Nat → Bool} {go go' : Nat → Bool} {fi N X : Nat} {tk tk' : Nat → Bool} (h1 : ∀ p, p < N → ∀ x, x < X → R p x = R' p x) (h2 : ∀ p, p < N → go p = go' p) (h3 : ∀ x, x < X → tk x = tk' x) : mostH R go fi N tk X = mostH R' go' fi N tk' X := by
  have e1 : ∀ x, x < X → colB R fi N tk x = colB R' fi N tk' x := by
    intro x hx
    refine mk6_congr (fun p hp => ?_)
    rw [h3 x hx]
    by_cases h : fi ≤ p ∧ p < N
    · rw [h1 p h.2 x hx]
    · simp [h]
  have e2 : needyB go fi N = needyB go' fi N := by
    refine mk6_congr (fun p hp => ?_)
    by_cases h : fi ≤ p ∧ p < N
    · rw [h2 p h.2]
    · simp [h]
  unfold mostH
  rw [e2, defM_congr e1]
theorem mostH_le (R : Nat → Nat → Bool) (go : Nat → Bool) (fi N : Nat) (tk : Nat → Bool) (X : Nat) (h : N ≤ 6) : mostH R go fi N tk X ≤ 6 := by unfold mostH; omega
def b2i (b : Bool) : Int := if b then 1 else 0
/-- the first place from x on (d more) in which q leaves as many good as are due -/
def placeF (R : Nat → Nat → Bool) (go : Nat → Bool) (N X q : Nat) (tk : Nat → Bool) (due : Int) : Nat → Nat → Int
  | 0, _ => -4
  | d + 1, x => if tk x = false ∧ b2i (R q x) + (mostH R go (q + 1) N (fun y => tk y || decide (y = x)) X : Int) = due then (x : Int) else placeF R go N X q tk due d (x + 1)
/-- where the first q lie: what is taken, what is due, the last one's place -/
def chooseF (R : Nat → Nat → Bool) (go : Nat → Bool) (N X : Nat) : Nat → (Nat → Bool) × Int × Int
  | 0 => (fun _ => false, (mostH R go 0 N (fun _ => false) X : Int), -4)
  | q + 1 => ((fun y => (chooseF R go N X q).1 y || decide ((y : Int) = placeF R go N X q (chooseF R go N X q).1 (chooseF R go N X q).2.1 X 0)),
      (chooseF R go N X q).2.1 - (if placeF R go N X q (chooseF R go N X q).1 (chooseF R go N X q).2.1 X 0 = -4 then b2i (go q) else b2i (R q (placeF R go N X q (chooseF R go N X q).1 (chooseF R go N X q).2.1 X 0).toNat)),
      placeF R go N X q (chooseF R go N X q).1 (chooseF R go N X q).2.1 X 0)
def gdB (n : Int) (f : Int → Int) (c : Nat) (p x : Nat) : Bool := decide (gdP n f c p x)
def goB (f : Int → Int) (p : Nat) : Bool := decide (isGoodF f p)
def placesM (n : Int) (f : Int → Int) (c w : Int) : Int := if (0 ≤ c ∧ c ≤ 20) ∧ (w = 0 ∨ (0 ≤ w - 10 ∧ w - 10 < f 46)) then (if w = 0 then (mostH (gdB n f c.toNat) (goB f) 0 (f 46).toNat (fun _ => false) (3 * n).toNat : Int) else (chooseF (gdB n f c.toNat) (goB f) (f 46).toNat (3 * n).toNat (w - 10 + 1).toNat).2.2) else -1
theorem placeF_rng {R : Nat → Nat → Bool} {go : Nat → Bool} {N X q : Nat} {tk : Nat → Bool} {due : Int} : ∀ d x : Nat, placeF R go N X q tk due d x = -4 ∨ ((x : Int) ≤ placeF R go N X q tk due d x ∧ placeF R go N X q tk due d x < x + d) := by
  intro d
  induction d with
  | zero => intro x; exact Or.inl rfl
  | succ d ih =>
    intro x
    rw [placeF]
    split
    · right; push_cast; omega
    · have := ih (x + 1); push_cast at this ⊢; omega
section ZRef18
variable {Γ : ZG} {mem : Mem} {Q : Option AV → Mem → Prop}
theorem aw_top {M : ZM} {F : ZF} {G : List GK} {cs ss pc : Nat} {ls : List (Option AV)} {st : List AV} {a b : Int} (h : Int32.ofInt a = Int32.ofInt b) (k : AW Γ M F G cs ss pc ls (vI b :: st) mem) : AW Γ M F G cs ss pc ls (vI a :: st) mem := by
  intro p e s m args below meth c H locs A lsC hC hK hX hA hP hD hS hL
  have k2 := k p e s m args below meth c H locs A lsC hC hK hX hA hP hD hS hL
  simp only [List.map_cons, cv] at k2 ⊢
  rw [h]
  exact k2
theorem of_wrap (a : Int) : Int32.ofInt a = Int32.ofInt (a + 4294967296) := by
  rw [Int32.ofInt_add, show Int32.ofInt 4294967296 = 0 from rfl]
  simp
theorem of_wrap2 (a : Int) : Int32.ofInt a = Int32.ofInt (a - 4294967296) := by
  rw [Int32.ofInt_sub, show Int32.ofInt 4294967296 = 0 from rfl]
  simp
/-- mostFrom, by Hall's formula -/
theorem sR_mostFrom2 {n taken : Int} {fi N : Nat} {R : Nat → Nat → Bool} {go tk : Nat → Bool} (hn : 3 ≤ n ∧ n ≤ 8) (hm : mem 109 3 = n) (hN : mem 110 46 = N) (hN6 : N ≤ 6) (hfi : fi ≤ 6) (hgo : ∀ p : Nat, p < N → mem 116 p = b2i (go p)) (hR : ∀ p : Nat, p < N → ∀ x : Nat, x < (3 * n).toNat → zbt (mem 115 p) x = R p x) (htk : ∀ x : Nat, x < (3 * n).toNat → zbt taken x = tk x)
    (k : ∀ (m' : Mem), FrX m' mem [117] → Q (some (vI (mostH R go fi N tk (3 * n).toNat : Nat))) m') : AMet Γ mX11_mostFrom [vR 109, vI fi, vI taken] zG mem Q := by
  refine sR_mostFrom hn hm hN hN6 hfi (fun p hp => by rw [hgo p hp]; unfold b2i; split <;> simp) (fun m' r out hF hout hob hr he hu => ?_)
  have e := most_eq (go := go) hN6 hfi hout (fun p hp => by
    rw [hob p hp]
    constructor
    · rintro ⟨a, b, c⟩
      rw [hgo p b] at c
      unfold b2i at c
      cases h : go p
      · rw [h] at c; simp at c
      · exact ⟨a, b, rfl⟩
    · rintro ⟨a, b, c⟩
      exact ⟨a, b, by rw [hgo p b, c]; rfl⟩) he hu
  rw [e, mostH_congr (R' := R) (go' := go) (tk' := tk) hR (fun _ _ => rfl) htk]
  exact k m' hF
theorem sR_placeOf {n taken due : Int} {q N : Nat} {R : Nat → Nat → Bool} {go tk : Nat → Bool} (hn : 3 ≤ n ∧ n ≤ 8) (hm : mem 109 3 = n) (hN : mem 110 46 = N) (hN6 : N ≤ 6) (hq : q < N) (hd : -100 ≤ due ∧ due ≤ 100) (hgo : ∀ p : Nat, p < N → mem 116 p = b2i (go p)) (hR : ∀ p : Nat, p < N → ∀ x : Nat, x < (3 * n).toNat → zbt (mem 115 p) x = R p x) (htk : ∀ x : Nat, x < (3 * n).toNat → zbt taken x = tk x)
    (k : ∀ (m' : Mem), FrX m' mem [117] → Q (some (vI (placeF R go N (3 * n).toNat q tk due (3 * n).toNat 0))) m') : AMet Γ mX11_placeOf [vR 109, vI q, vI taken, vI due] zG mem Q := by
  have loop : ∀ (d x : Nat) (m' : Mem) (x5 : Option AV), (x : Int) + d = 3 * n → FrX m' mem [117] → placeF R go N (3 * n).toNat q tk due d x = placeF R go N (3 * n).toNat q tk due (3 * n).toNat 0 → AW Γ mX11_placeOf (zF Γ zG Q) zG 0 0 3 [some (vR 109), some (vI q), some (vI taken), some (vI due), some (vI x), x5] [] m' := by
    intro d
    induction d with
    | zero =>
      intro x m' x5 hx hF e
      have e109 : m' 109 = mem 109 := hF 109 (by decide)
      refine aw_iload dX11_placeOf_3 rfl rfl ?_
      refine aw_iconst dX11_placeOf_5 rfl ?_
      refine aw_aload_n dX11_placeOf_6 rfl rfl ?_
      refine aw_getI (kI := 3) dX11_placeOf_7 rfl fl_X11_73 g109 (by rfl) rfl ?_
      rw [e109]
      refine aw_imul dX11_placeOf_10 rfl ?_
      refine aw_icmp_ge (tgt := 73) dX11_placeOf_11 (by decide) rfl (by omega) (by omega) (fun c11 => ?_) (fun c11 => ?_)
      · refine aw_bipush dX11_placeOf_73 rfl (by decide) ?_
        refine aw_ireturn (ty := .int) dX11_placeOf_75 rfl rfl ?_
        exact q_eq (k m' hF) (by rw [← e]; rfl) rfl
      · exfalso; omega
    | succ d ih =>
      intro x m' x5 hx hF e
      have e109 : m' 109 = mem 109 := hF 109 (by decide)
      have e110 : m' 110 = mem 110 := hF 110 (by decide)
      have e115 : m' 115 = mem 115 := hF 115 (by decide)
      have e116 : m' 116 = mem 116 := hF 116 (by decide)
      rw [placeF] at e
      have bt : zand (zshr taken x) 1 = b2i (tk x) := by rw [zbit (by omega), htk x (by omega)]; rfl
      have bg : zand (zshr (mem 115 q) x) 1 = b2i (R q x) := by rw [zbit (by omega), hR q hq x (by omega)]; rfl
      have rb : ∀ b : Bool, 0 ≤ b2i b ∧ b2i b ≤ 1 := fun b => by unfold b2i; split <;> omega
      have rt := rb (tk x)
      have rr := rb (R q x)
      have rm := mostH_le R go (q + 1) N (fun y => tk y || decide (y = x)) (3 * n).toNat hN6
      have skip1 : tk x = true → ∀ m2 : Mem, FrX m2 mem [117] → ∀ y5 : Option AV, AW Γ mX11_placeOf (zF Γ zG Q) zG 0 0 67 [some (vR 109), some (vI q), some (vI taken), some (vI due), some (vI x), y5] [] m2 := by
        intro ht m2 hF2 y5
        rw [if_neg (fun z => by rw [ht] at z; cases z.1)] at e
        refine aw_iinc4 rfl dX11_placeOf_67 rfl (by decide) ?_
        refine aw_goto (tgt := 3) dX11_placeOf_70 (by decide) ?_
        exact ih (x + 1) m2 _ (by push_cast; omega) hF2 e
      have skip2 : ¬ b2i (R q x) + (mostH R go (q + 1) N (fun y => tk y || decide (y = x)) (3 * n).toNat : Int) = due → ∀ m2 : Mem, FrX m2 mem [117] → ∀ y5 : Option AV, AW Γ mX11_placeOf (zF Γ zG Q) zG 0 0 67 [some (vR 109), some (vI q), some (vI taken), some (vI due), some (vI x), y5] [] m2 := by
        intro ht m2 hF2 y5
        rw [if_neg (fun z => ht z.2)] at e
        refine aw_iinc4 rfl dX11_placeOf_67 rfl (by decide) ?_
        refine aw_goto (tgt := 3) dX11_placeOf_70 (by decide) ?_
        exact ih (x + 1) m2 _ (by push_cast; omega) hF2 e
      cases htx : tk x
      · have bt0 : zand (zshr taken x) 1 = 0 := by rw [bt, htx]; rfl
        have free : AW Γ mX11_placeOf (zF Γ zG Q) zG 0 0 35 [some (vR 109), some (vI q), some (vI taken), some (vI due), some (vI x), some (vI 1)] [] m' := by
          refine aw_aload_n dX11_placeOf_35 rfl rfl ?_
          refine aw_getR dX11_placeOf_36 rfl fl_X11_26 g109 (by rfl) ?_
          refine aw_iload_n dX11_placeOf_39 rfl rfl ?_
          refine aw_iaload dX11_placeOf_40 rfl g115 (by decide) (by omega) ?_
          rw [e115]
          refine aw_iload dX11_placeOf_41 rfl rfl ?_
          refine aw_ishr dX11_placeOf_43 rfl ?_
          refine aw_iconst dX11_placeOf_44 rfl ?_
          refine aw_iand dX11_placeOf_45 rfl ?_
          rw [bg]
          refine aw_aload_n dX11_placeOf_46 rfl rfl ?_
          refine aw_iload_n dX11_placeOf_47 rfl rfl ?_
          refine aw_iconst dX11_placeOf_48 rfl ?_
          refine aw_iadd dX11_placeOf_49 rfl ?_
          refine aw_iload_n dX11_placeOf_50 rfl rfl ?_
          refine aw_iconst dX11_placeOf_51 rfl ?_
          refine aw_iload dX11_placeOf_52 rfl rfl ?_
          refine aw_ishl dX11_placeOf_54 rfl ?_
          refine aw_ior dX11_placeOf_55 rfl ?_
          rw [show (q : Int) + 1 = ((q + 1 : Nat) : Int) by push_cast; rfl]
          refine aw_callV [_, _] _ dX11_placeOf_56 rfl clv_X11_247 (by decide) ⟨Nat.zero_le _, Nat.zero_le _⟩ g109 (by rfl) (Nat.le_of_ble_eq_true rfl) rfl ?_
          refine sR_mostFrom2 (n := n) (N := N) (R := R) (go := go) (tk := fun y => tk y || decide (y = x)) hn (by rw [e109]; exact hm) (by rw [e110]; exact hN) hN6 (by omega) (by rw [e116]; exact hgo) (by rw [e115]; exact hR) (fun y hy => by rw [zbt_or, htk y hy, zbt_shl1 (by omega) (by omega)]) (fun m2 hF2 => ?_)
          refine aw_iadd dX11_placeOf_59 rfl ?_
          refine aw_iload_n dX11_placeOf_60 rfl rfl ?_
          refine aw_icmp_ne (tgt := 67) dX11_placeOf_61 (by decide) rfl (by omega) (by omega) (fun c61 => ?_) (fun c61 => ?_)
          · exact skip2 c61 _ (hF2.tr hF) _
          · refine aw_iload dX11_placeOf_64 rfl rfl ?_
            refine aw_ireturn (ty := .int) dX11_placeOf_66 rfl rfl ?_
            rw [if_pos ⟨htx, c61⟩] at e
            exact q_eq (k _ (hF2.tr hF)) (by rw [← e]) rfl
        refine aw_iload dX11_placeOf_3 rfl rfl ?_
        refine aw_iconst dX11_placeOf_5 rfl ?_
        refine aw_aload_n dX11_placeOf_6 rfl rfl ?_
        refine aw_getI (kI := 3) dX11_placeOf_7 rfl fl_X11_73 g109 (by rfl) rfl ?_
        rw [e109]
        refine aw_imul dX11_placeOf_10 rfl ?_
        refine aw_icmp_ge (tgt := 73) dX11_placeOf_11 (by decide) rfl (by omega) (by omega) (fun c11 => ?_) (fun c11 => ?_)
        · exfalso; omega
        · refine aw_iload_n dX11_placeOf_14 rfl rfl ?_
          refine aw_iload dX11_placeOf_15 rfl rfl ?_
          refine aw_ishr dX11_placeOf_17 rfl ?_
          refine aw_iconst dX11_placeOf_18 rfl ?_
          refine aw_iand dX11_placeOf_19 rfl ?_
          rw [bt0]
          refine aw_if_ne (tgt := 27) dX11_placeOf_20 (by decide) rfl (by omega) (fun c20 => ?_) (fun c20 => ?_)
          · refine aw_iconst dX11_placeOf_27 rfl ?_
            refine aw_istore5 rfl dX11_placeOf_28 rfl (by decide) ?_
            refine aw_iload dX11_placeOf_30 rfl rfl ?_
            refine aw_if_eq (tgt := 67) dX11_placeOf_32 (by decide) rfl (by omega) (fun c32 => ?_) (fun c32 => ?_)
            · exfalso; omega
            · first | (exfalso; omega) | exact free
          · refine aw_iconst dX11_placeOf_23 rfl ?_
            refine aw_goto (tgt := 28) dX11_placeOf_24 (by decide) ?_
            refine aw_istore5 rfl dX11_placeOf_28 rfl (by decide) ?_
            refine aw_iload dX11_placeOf_30 rfl rfl ?_
            refine aw_if_eq (tgt := 67) dX11_placeOf_32 (by decide) rfl (by omega) (fun c32 => ?_) (fun c32 => ?_)
            · exfalso; omega
            · first | (exfalso; omega) | exact free
      · have bt1 : zand (zshr taken x) 1 = 1 := by rw [bt, htx]; rfl
        refine aw_iload dX11_placeOf_3 rfl rfl ?_
        refine aw_iconst dX11_placeOf_5 rfl ?_
        refine aw_aload_n dX11_placeOf_6 rfl rfl ?_
        refine aw_getI (kI := 3) dX11_placeOf_7 rfl fl_X11_73 g109 (by rfl) rfl ?_
        rw [e109]
        refine aw_imul dX11_placeOf_10 rfl ?_
        refine aw_icmp_ge (tgt := 73) dX11_placeOf_11 (by decide) rfl (by omega) (by omega) (fun c11 => ?_) (fun c11 => ?_)
        · exfalso; omega
        · refine aw_iload_n dX11_placeOf_14 rfl rfl ?_
          refine aw_iload dX11_placeOf_15 rfl rfl ?_
          refine aw_ishr dX11_placeOf_17 rfl ?_
          refine aw_iconst dX11_placeOf_18 rfl ?_
          refine aw_iand dX11_placeOf_19 rfl ?_
          rw [bt1]
          refine aw_if_ne (tgt := 27) dX11_placeOf_20 (by decide) rfl (by omega) (fun c20 => ?_) (fun c20 => ?_)
          · refine aw_iconst dX11_placeOf_27 rfl ?_
            refine aw_istore5 rfl dX11_placeOf_28 rfl (by decide) ?_
            refine aw_iload dX11_placeOf_30 rfl rfl ?_
            refine aw_if_eq (tgt := 67) dX11_placeOf_32 (by decide) rfl (by omega) (fun c32 => ?_) (fun c32 => ?_)
            · first | (exfalso; omega) | exact skip1 htx m' hF _
            · exfalso; omega
          · refine aw_iconst dX11_placeOf_23 rfl ?_
            refine aw_goto (tgt := 28) dX11_placeOf_24 (by decide) ?_
            refine aw_istore5 rfl dX11_placeOf_28 rfl (by decide) ?_
            refine aw_iload dX11_placeOf_30 rfl rfl ?_
            refine aw_if_eq (tgt := 67) dX11_placeOf_32 (by decide) rfl (by omega) (fun c32 => ?_) (fun c32 => ?_)
            · first | (exfalso; omega) | exact skip1 htx m' hF _
            · exfalso; omega
  refine AMet.of' 2 (ls := [some (vR (109)), some (vI (q)), some (vI (taken)), some (vI (due)), none, none]) (by decide) rfl (Nat.le_of_ble_eq_true rfl) ?_
  refine aw_iconst dX11_placeOf_0 rfl ?_
  refine aw_istore4 rfl dX11_placeOf_1 rfl (by decide) ?_
  exact loop (3 * n).toNat 0 mem none (by omega) FrX.rf rfl
theorem sR_places {n c w : Int} (h : Wf n (mem 110)) (hm : mem 109 3 = n) (hc : -2147483648 ≤ c ∧ c ≤ 2147483647) (hw : -2147483648 ≤ w ∧ w ≤ 2147483647) (k : ∀ m' : Mem, FrX m' mem [111, 115, 116, 117] → Q (some (vI (placesM n (mem 110) c w))) m') : AMet Γ mX11_places [vR 109, vI c, vI w] zG mem Q := by
  have h46 := h.2.2.2.2.2.2.1
  have hn := h.1
  obtain ⟨N, hN⟩ : ∃ N : Nat, mem 110 46 = N := ⟨(mem 110 46).toNat, by omega⟩
  have hN6 : N ≤ 6 := by omega
  have eN : (mem 110 46).toNat = N := by omega
  have loop : ∀ (d q : Nat) (tI : Int) (m' : Mem), (q : Int) + d = w - 10 + 1 → (0 ≤ c ∧ c ≤ 20) ∧ (0 ≤ w - 10 ∧ w - 10 < mem 110 46) → ¬ w = 0 → FrX m' mem [111, 115, 116, 117] → (∀ p : Nat, p < N → m' 116 p = b2i (goB (mem 110) p)) → (∀ p : Nat, p < N → ∀ x : Nat, x < (3 * n).toNat → zbt (m' 115 p) x = gdB n (mem 110) c.toNat p x) → (-2147483648 ≤ tI ∧ tI ≤ 2147483647) → (∀ x : Nat, x < 32 → zbt tI x = (chooseF (gdB n (mem 110) c.toNat) (goB (mem 110)) N (3 * n).toNat q).1 x) → (-(q : Int) ≤ (chooseF (gdB n (mem 110) c.toNat) (goB (mem 110)) N (3 * n).toNat q).2.1 ∧ (chooseF (gdB n (mem 110) c.toNat) (goB (mem 110)) N (3 * n).toNat q).2.1 ≤ 6) → AW Γ mX11_places (zF Γ zG Q) zG 0 0 57 [some (vR 109), some (vI c), some (vI w), some (vI (chooseF (gdB n (mem 110) c.toNat) (goB (mem 110)) N (3 * n).toNat q).2.1), some (vI tI), some (vI (chooseF (gdB n (mem 110) c.toNat) (goB (mem 110)) N (3 * n).toNat q).2.2), some (vI q)] [] m' := by
    intro d
    induction d with
    | zero =>
      intro q tI m' hq hok hw0 hF hgo hR htr htk hdue
      refine aw_iload dX11_places_57 rfl rfl ?_
      refine aw_iload_n dX11_places_59 rfl rfl ?_
      refine aw_bipush dX11_places_60 rfl (by decide) ?_
      refine aw_isub dX11_places_62 rfl ?_
      refine aw_icmp_gt (tgt := 138) dX11_places_63 (by decide) rfl (by omega) (by omega) (fun c63 => ?_) (fun c63 => ?_)
      · refine aw_iload dX11_places_138 rfl rfl ?_
        refine aw_ireturn (ty := .int) dX11_places_140 rfl rfl ?_
        exact q_eq (k m' hF) (by unfold placesM; rw [if_pos ⟨hok.1, Or.inr hok.2⟩, if_neg hw0, eN, show (w - 10 + 1).toNat = q by omega]) rfl
      · exfalso; omega
    | succ d ih =>
      intro q tI m' hq hok hw0 hF hgo hR htr htk hdue
      have e109 : m' 109 = mem 109 := hF 109 (by decide)
      have e110 : m' 110 = mem 110 := hF 110 (by decide)
      have rp := placeF_rng (R := gdB n (mem 110) c.toNat) (go := goB (mem 110)) (N := N) (X := (3 * n).toNat) (q := q) (tk := (chooseF (gdB n (mem 110) c.toNat) (goB (mem 110)) N (3 * n).toNat q).1) (due := (chooseF (gdB n (mem 110) c.toNat) (goB (mem 110)) N (3 * n).toNat q).2.1) (3 * n).toNat 0
      have ih2 := fun tI m' => ih (q + 1) tI m' (by push_cast; omega) hok hw0
      rw [chooseF] at ih2
      dsimp only at ih2
      generalize hch : chooseF (gdB n (mem 110) c.toNat) (goB (mem 110)) N (3 * n).toNat q = ch at *
      obtain ⟨tk, due, last⟩ := ch
      dsimp only at *
      generalize hpl : placeF (gdB n (mem 110) c.toNat) (goB (mem 110)) N (3 * n).toNat q tk due (3 * n).toNat 0 = x at *
      have rb : ∀ b : Bool, 0 ≤ b2i b ∧ b2i b ≤ 1 := fun b => by unfold b2i; split <;> omega
      have rb1 := rb (goB (mem 110) q)
      have rb2 := rb (gdB n (mem 110) c.toNat q x.toNat)
      have seg2 : ∀ (due2 : Int) (m2 : Mem), FrX m2 m' [117] → due2 = due - (if x = -4 then b2i (goB (mem 110) q) else b2i (gdB n (mem 110) c.toNat q x.toNat)) → AW Γ mX11_places (zF Γ zG Q) zG 0 0 112 [some (vR 109), some (vI c), some (vI w), some (vI due2), some (vI tI), some (vI x), some (vI q)] [] m2 := by
        intro due2 m2 hF2 hd2
        rw [← hd2] at ih2
        have f115 : m2 115 = m' 115 := hF2 115 (by decide)
        have f116 : m2 116 = m' 116 := hF2 116 (by decide)
        have hb : -((q : Int) + 1) ≤ due2 ∧ due2 ≤ 6 := by rw [hd2]; split <;> omega
        have fin : ∀ b : Int, b = (if x = -4 then 0 else zshl 1 x) → AW Γ mX11_places (zF Γ zG Q) zG 0 0 57 [some (vR 109), some (vI c), some (vI w), some (vI due2), some (vI (zor tI b)), some (vI x), some (vI (q + 1 : Nat))] [] m2 := by
          intro b hbb
          refine ih2 (zor tI b) m2 ((hF2.mono (by decide)).tr hF) (fun p hp => by rw [f116]; exact hgo p hp) (fun p hp y hy => by rw [f115]; exact hR p hp y hy) (zor_rng _ _) (fun y hy => ?_) (by push_cast; omega)
          rw [zbt_or, htk y hy]
          congr 1
          rcases rp with rp | rp
          · rw [hbb, if_pos rp, zbt_0]
            rw [rp]
            symm
            simp
          · obtain ⟨X, rfl⟩ : ∃ X : Nat, x = (X : Int) := ⟨x.toNat, by omega⟩
            rw [hbb, if_neg (by omega), zbt_shl1 (by omega) hy]
            simp
            omega
        refine aw_iload dX11_places_112 rfl rfl ?_
        refine aw_iload dX11_places_114 rfl rfl ?_
        refine aw_bipush dX11_places_116 rfl (by decide) ?_
        refine aw_icmp_ne (tgt := 125) dX11_places_118 (by decide) rfl (by omega) (by omega) (fun c118 => ?_) (fun c118 => ?_)
        · refine aw_iconst dX11_places_125 rfl ?_
          refine aw_iload dX11_places_126 rfl rfl ?_
          refine aw_ishl dX11_places_128 rfl ?_
          refine aw_ior dX11_places_129 rfl ?_
          refine aw_istore4 rfl dX11_places_130 rfl (by decide) ?_
          refine aw_iinc6 rfl dX11_places_132 rfl (by decide) ?_
          refine aw_goto (tgt := 57) dX11_places_135 (by decide) ?_
          first | (have hz := (if_pos c118 : (if x = -4 then (0 : Int) else zshl 1 x) = 0); exact fin _ hz.symm) | (have hz := (if_neg c118 : (if x = -4 then (0 : Int) else zshl 1 x) = zshl 1 x); exact fin _ hz.symm)
        · refine aw_iconst dX11_places_121 rfl ?_
          refine aw_goto (tgt := 129) dX11_places_122 (by decide) ?_
          refine aw_ior dX11_places_129 rfl ?_
          refine aw_istore4 rfl dX11_places_130 rfl (by decide) ?_
          refine aw_iinc6 rfl dX11_places_132 rfl (by decide) ?_
          refine aw_goto (tgt := 57) dX11_places_135 (by decide) ?_
          first | (have hz := (if_pos c118 : (if x = -4 then (0 : Int) else zshl 1 x) = 0); exact fin _ hz.symm) | (have hz := (if_neg c118 : (if x = -4 then (0 : Int) else zshl 1 x) = zshl 1 x); exact fin _ hz.symm)
      refine aw_iload dX11_places_57 rfl rfl ?_
      refine aw_iload_n dX11_places_59 rfl rfl ?_
      refine aw_bipush dX11_places_60 rfl (by decide) ?_
      refine aw_isub dX11_places_62 rfl ?_
      refine aw_icmp_gt (tgt := 138) dX11_places_63 (by decide) rfl (by omega) (by omega) (fun c63 => ?_) (fun c63 => ?_)
      · exfalso; omega
      · refine aw_aload_n dX11_places_66 rfl rfl ?_
        refine aw_iload dX11_places_67 rfl rfl ?_
        refine aw_iload dX11_places_69 rfl rfl ?_
        refine aw_iload_n dX11_places_71 rfl rfl ?_
        refine aw_callV [_, _, _] _ dX11_places_72 rfl clv_X11_255 (by decide) ⟨Nat.zero_le _, Nat.zero_le _⟩ g109 (by rfl) (Nat.le_of_ble_eq_true rfl) rfl ?_
        refine sR_placeOf (n := n) (N := N) (R := gdB n (mem 110) c.toNat) (go := goB (mem 110)) (tk := tk) hn (by rw [e109]; exact hm) (by rw [e110]; exact hN) hN6 (by omega) (by omega) hgo hR (fun y hy => htk y (by omega)) (fun m2 hF2 => ?_)
        have f115 : m2 115 = m' 115 := hF2 115 (by decide)
        have f116 : m2 116 = m' 116 := hF2 116 (by decide)
        rw [hpl]
        refine aw_istore5 rfl dX11_places_75 rfl (by decide) ?_
        refine aw_iload_n dX11_places_77 rfl rfl ?_
        refine aw_iload dX11_places_78 rfl rfl ?_
        refine aw_bipush dX11_places_80 rfl (by decide) ?_
        refine aw_icmp_ne (tgt := 98) dX11_places_82 (by decide) rfl (by omega) (by omega) (fun c82 => ?_) (fun c82 => ?_)
        · refine aw_aload_n dX11_places_98 rfl rfl ?_
          refine aw_getR dX11_places_99 rfl fl_X11_26 g109 (by rfl) ?_
          refine aw_iload dX11_places_102 rfl rfl ?_
          refine aw_iaload dX11_places_104 rfl g115 (by decide) (by omega) ?_
          rw [f115]
          refine aw_iload dX11_places_105 rfl rfl ?_
          refine aw_ishr dX11_places_107 rfl ?_
          refine aw_iconst dX11_places_108 rfl ?_
          refine aw_iand dX11_places_109 rfl ?_
          skip
          refine aw_isub dX11_places_110 rfl ?_
          refine aw_istore3 rfl dX11_places_111 rfl (by decide) ?_
          first | (have hz := (if_pos c82 : (if x = -4 then b2i (goB (mem 110) q) else b2i (gdB n (mem 110) c.toNat q x.toNat)) = _); exact seg2 _ m2 hF2 (by rw [hz])) | (have hz := (if_neg c82 : (if x = -4 then b2i (goB (mem 110) q) else b2i (gdB n (mem 110) c.toNat q x.toNat)) = _); refine seg2 _ m2 hF2 ?_; rw [hz]; congr 1; rw [show x = ((x.toNat : Nat) : Int) by omega, zbit (by omega), hR q (by omega) x.toNat (by omega)]; rfl)
        · refine aw_aload_n dX11_places_85 rfl rfl ?_
          refine aw_getR dX11_places_86 rfl fl_X11_29 g109 (by rfl) ?_
          refine aw_iload dX11_places_89 rfl rfl ?_
          refine aw_zaload dX11_places_91 rfl g116 (by decide) (by omega) ?_
          rw [f116, hgo q (by omega)]
          refine aw_callS [_] _ dX11_places_92 rfl cls_X11_208 (by decide) ⟨Nat.zero_le _, Nat.zero_le _⟩ (Nat.le_of_ble_eq_true rfl) rfl ?_
          refine sR_flag (by omega) ?_
          refine aw_goto (tgt := 110) dX11_places_95 (by decide) ?_
          skip
          refine aw_isub dX11_places_110 rfl ?_
          refine aw_istore3 rfl dX11_places_111 rfl (by decide) ?_
          first | (have hz := (if_pos c82 : (if x = -4 then b2i (goB (mem 110) q) else b2i (gdB n (mem 110) c.toNat q x.toNat)) = _); exact seg2 _ m2 hF2 (by rw [hz])) | (have hz := (if_neg c82 : (if x = -4 then b2i (goB (mem 110) q) else b2i (gdB n (mem 110) c.toNat q x.toNat)) = _); refine seg2 _ m2 hF2 ?_; rw [hz]; congr 1; rw [show x = ((x.toNat : Nat) : Int) by omega, zbit (by omega), hR q (by omega) x.toNat (by omega)]; rfl)
  obtain ⟨b10, t1, t2, t3⟩ : ∃ b : Int, Int32.ofInt (w - 10) = Int32.ofInt b ∧ (-2147483648 ≤ b ∧ b ≤ 2147483647) ∧ ((0 ≤ b ∧ b < mem 110 46) ↔ (0 ≤ w - 10 ∧ w - 10 < mem 110 46)) := by
    by_cases hw10 : -2147483648 ≤ w - 10
    · exact ⟨w - 10, rfl, by omega, Iff.rfl⟩
    · exact ⟨w - 10 + 4294967296, of_wrap _, by omega, by omega⟩
  have go29 : (0 ≤ c ∧ c ≤ 20) ∧ (w = 0 ∨ (0 ≤ w - 10 ∧ w - 10 < mem 110 46)) → AW Γ mX11_places (zF Γ zG Q) zG 0 0 29 [some (vR 109), some (vI c), some (vI w), none, none, none, none] [] mem := by
    intro hok
    refine aw_aload_n dX11_places_29 rfl rfl ?_
    refine aw_iload_n dX11_places_30 rfl rfl ?_
    refine aw_callV [_] _ dX11_places_31 rfl clv_X11_252 (by decide) ⟨Nat.zero_le _, Nat.zero_le _⟩ g109 (by rfl) (Nat.le_of_ble_eq_true rfl) rfl ?_
    refine sR_findGoods (n := n) h hm hok.1 (fun m1 hF1 hg => ?_)
    have e109 : m1 109 = mem 109 := hF1 109 (by decide)
    have e110 : m1 110 = mem 110 := hF1 110 (by decide)
    have hgo : ∀ p : Nat, p < N → m1 116 p = b2i (goB (mem 110) p) := fun p hp => by
      rcases (hg p (by omega)).2.2 with ⟨a, b⟩ | ⟨a, b⟩
      · rw [a]; unfold b2i goB; rw [if_pos (decide_eq_true b)]
      · rw [a]; unfold b2i goB; rw [if_neg (by simp [b])]
    have hR : ∀ p : Nat, p < N → ∀ x : Nat, x < (3 * n).toNat → zbt (m1 115 p) x = gdB n (mem 110) c.toNat p x := fun p hp x hx => by
      have := (hg p (by omega)).2.1 x (by omega)
      cases hz : zbt (m1 115 p) x
      · rw [hz] at this
        unfold gdB
        symm
        exact decide_eq_false (fun y => by have := this.mpr ⟨by omega, y⟩; cases this)
      · unfold gdB
        exact (decide_eq_true (this.mp hz).2).symm
    refine aw_aload_n dX11_places_34 rfl rfl ?_
    refine aw_iconst dX11_places_35 rfl ?_
    refine aw_iconst dX11_places_36 rfl ?_
    refine aw_callV [_, _] _ dX11_places_37 rfl clv_X11_247 (by decide) ⟨Nat.zero_le _, Nat.zero_le _⟩ g109 (by rfl) (Nat.le_of_ble_eq_true rfl) rfl ?_
    refine sR_mostFrom2 (fi := 0) (n := n) (N := N) (R := gdB n (mem 110) c.toNat) (go := goB (mem 110)) (tk := fun _ => false) hn (by rw [e109]; exact hm) (by rw [e110]; exact hN) hN6 (by omega) hgo hR (fun y hy => zbt_0 y) (fun m2 hF2 => ?_)
    have hF3 : FrX m2 mem [111, 115, 116, 117] := (hF2.mono (by decide)).tr (hF1.mono (by decide))
    refine aw_istore3 rfl dX11_places_40 rfl (by decide) ?_
    refine aw_iconst dX11_places_41 rfl ?_
    refine aw_istore4 rfl dX11_places_42 rfl (by decide) ?_
    refine aw_bipush dX11_places_44 rfl (by decide) ?_
    refine aw_istore5 rfl dX11_places_46 rfl (by decide) ?_
    refine aw_iload_n dX11_places_48 rfl rfl ?_
    refine aw_if_ne (tgt := 54) dX11_places_49 (by decide) rfl (by omega) (fun c49 => ?_) (fun c49 => ?_)
    · refine aw_iconst dX11_places_54 rfl ?_
      refine aw_istore6 rfl dX11_places_55 rfl (by decide) ?_
      have f115 : m2 115 = m1 115 := hF2 115 (by decide)
      have f116 : m2 116 = m1 116 := hF2 116 (by decide)
      have rm := mostH_le (gdB n (mem 110) c.toNat) (goB (mem 110)) 0 N (fun _ => false) (3 * n).toNat hN6
      exact loop (w - 10 + 1).toNat 0 0 m2 (by omega) ⟨hok.1, hok.2.resolve_left c49⟩ c49 hF3 (fun p hp => by rw [f116]; exact hgo p hp) (fun p hp x hx => by rw [f115]; exact hR p hp x hx) (by omega) (fun x hx => zbt_0 x) (by show -((0 : Nat) : Int) ≤ ((mostH _ _ 0 N _ _ : Nat) : Int) ∧ ((mostH _ _ 0 N _ _ : Nat) : Int) ≤ 6; omega)
    · refine aw_iload_n dX11_places_52 rfl rfl ?_
      refine aw_ireturn (ty := .int) dX11_places_53 rfl rfl ?_
      exact q_eq (k m2 hF3) (by unfold placesM; rw [if_pos hok, if_pos c49, eN]) rfl
  refine AMet.of' 4 (ls := [some (vR (109)), some (vI (c)), some (vI (w)), none, none, none, none]) (by decide) rfl (Nat.le_of_ble_eq_true rfl) ?_
  refine aw_iload_n dX11_places_0 rfl rfl ?_
  refine aw_i2l dX11_places_1 rfl (by omega) ?_
  refine aw_lconst (a := 0) dX11_places_2 rfl (by decide) ?_
  refine aw_ldc2 (a := 20) dX11_places_3 rfl lc_X11_250 (by decide) ?_
  refine aw_callS [_, _, _] _ dX11_places_6 rfl cls_X11_78 (by decide) ⟨Nat.zero_le _, Nat.zero_le _⟩ (Nat.le_of_ble_eq_true rfl) rfl ?_
  refine sR_in (by omega) (by omega) (by omega) (fun c6 => ?_) (fun c6 => ?_)
  · refine aw_if_eq (tgt := 27) dX11_places_9 (by decide) rfl (by omega) (fun c => absurd c (by decide)) (fun _ => ?_)
    refine aw_iload_n dX11_places_12 rfl rfl ?_
    refine aw_if_eq (tgt := 29) dX11_places_13 (by decide) rfl (by omega) (fun c13 => ?_) (fun c13 => ?_)
    · first | (have hz := c13; exact go29 ⟨c6, Or.inl hz⟩) | (have hz := t3.mp c21; exact go29 ⟨c6, Or.inr hz⟩)
    · refine aw_aload_n dX11_places_16 rfl rfl ?_
      refine aw_iload_n dX11_places_17 rfl rfl ?_
      refine aw_bipush dX11_places_18 rfl (by decide) ?_
      refine aw_isub dX11_places_20 rfl ?_
      refine aw_top t1 ?_
      refine aw_callV [_] _ dX11_places_21 rfl clv_X11_217 (by decide) ⟨Nat.zero_le _, Nat.zero_le _⟩ g109 (by rfl) (Nat.le_of_ble_eq_true rfl) rfl ?_
      refine sR_isSpud h46 t2 (fun c21 => ?_) (fun c21 => ?_)
      · refine aw_if_ne (tgt := 29) dX11_places_24 (by decide) rfl (by omega) (fun _ => ?_) (fun c => absurd c (by decide))
        first | (have hz := c13; exact go29 ⟨c6, Or.inl hz⟩) | (have hz := t3.mp c21; exact go29 ⟨c6, Or.inr hz⟩)
      · refine aw_if_ne (tgt := 29) dX11_places_24 (by decide) rfl (by omega) (fun c => absurd c (by decide)) (fun _ => ?_)
        refine aw_iconst dX11_places_27 rfl ?_
        refine aw_ireturn (ty := .int) dX11_places_28 rfl rfl ?_
        exact q_eq (k mem FrX.rf) (by unfold placesM; rw [if_neg (by omega)]) rfl
  · refine aw_if_eq (tgt := 27) dX11_places_9 (by decide) rfl (by omega) (fun _ => ?_) (fun c => absurd c (by decide))
    refine aw_iconst dX11_places_27 rfl ?_
    refine aw_ireturn (ty := .int) dX11_places_28 rfl rfl ?_
    exact q_eq (k mem FrX.rf) (by unfold placesM; rw [if_neg (by omega)]) rfl
end ZRef18
