/-- but for the cells of L, m' is m -/
def FrX (m' m : Mem) (L : List Nat) : Prop := ∀ c : Nat, c ∉ L → m' c = m c
theorem FrX.rf {m : Mem} {L : List Nat} : FrX m m L := fun _ _ => rfl
theorem FrX.cell {m' m : Mem} {L : List Nat} {c : Nat} {f : Int → Int} (h : FrX m' m L) (hc : c ∈ L) : FrX (mcell m' c f) m L := by
  intro d hd
  have hne : d ≠ c := fun e => hd (by rw [e]; exact hc)
  rw [mcell_ne hne]
  exact h d hd
theorem FrX.set {m' m : Mem} {L : List Nat} {c : Nat} {k v : Int} (h : FrX m' m L) (hc : c ∈ L) : FrX (mset m' c k v) m L := h.cell hc
theorem FrX.tr {m1 m2 m3 : Mem} {L : List Nat} (h : FrX m1 m2 L) (h2 : FrX m2 m3 L) : FrX m1 m3 L := fun c hc => (h c hc).trans (h2 c hc)
theorem FrX.mono {m' m : Mem} {L L' : List Nat} (h : FrX m' m L) (hs : ∀ c ∈ L, c ∈ L') : FrX m' m L' := fun c hc => h c (fun z => hc (hs c z))
/-- potato p, laid in x, is good behind c rounds -/
abbrev gdP (n : Int) (f : Int → Int) (c : Nat) (p x : Int) : Prop := isGoodF (roundsF n c (fset f (47 + 8 * p + 2) x)) p
section ZRef16
variable {Γ : ZG} {mem : Mem} {Q : Option AV → Mem → Prop}
theorem sR_findGoods {n c : Int} (h : Wf n (mem 110)) (hm : mem 109 3 = n) (hc : 0 ≤ c ∧ c ≤ 20)
    (k : ∀ m' : Mem, FrX m' mem [111, 115, 116] → (∀ p : Nat, (p : Int) < mem 110 46 → (-2147483648 ≤ m' 115 p ∧ m' 115 p ≤ 2147483647) ∧ (∀ x : Nat, x < 32 → (zbt (m' 115 p) x = true ↔ (x : Int) < 3 * n ∧ gdP n (mem 110) c.toNat p x)) ∧ ((m' 116 p = 1 ∧ isGoodF (mem 110) p) ∨ (m' 116 p = 0 ∧ ¬ isGoodF (mem 110) p))) → Q none m') : AMet Γ mX11_findGoods [vR 109, vI c] zG mem Q := by
  have h46 := h.2.2.2.2.2.2.1
  have hn := h.1
  have inner : ∀ (p : Nat), (p : Int) < mem 110 46 → (∀ (m' : Mem) (x3 : Option AV), FrX m' mem [111, 115, 116] → (∀ q : Nat, q < p → ((-2147483648 ≤ m' 115 q ∧ m' 115 q ≤ 2147483647) ∧ (∀ x : Nat, x < 32 → (zbt (m' 115 q) x = true ↔ (x : Int) < 3 * n ∧ gdP n (mem 110) c.toNat q x)) ∧ ((m' 116 q = 1 ∧ isGoodF (mem 110) q) ∨ (m' 116 q = 0 ∧ ¬ isGoodF (mem 110) q)))) → (-2147483648 ≤ m' 115 p ∧ m' 115 p ≤ 2147483647) → (∀ x : Nat, x < 32 → (zbt (m' 115 p) x = true ↔ (x : Int) < 3 * n ∧ gdP n (mem 110) c.toNat p x)) → AW Γ mX11_findGoods (zF Γ zG Q) zG 0 0 73 [some (vR 109), some (vI c), some (vI p), x3] [] m') →
      ∀ (d y : Nat) (m' : Mem), (y : Int) + d = 3 * n → FrX m' mem [111, 115, 116] → (∀ q : Nat, q < p → ((-2147483648 ≤ m' 115 q ∧ m' 115 q ≤ 2147483647) ∧ (∀ x : Nat, x < 32 → (zbt (m' 115 q) x = true ↔ (x : Int) < 3 * n ∧ gdP n (mem 110) c.toNat q x)) ∧ ((m' 116 q = 1 ∧ isGoodF (mem 110) q) ∨ (m' 116 q = 0 ∧ ¬ isGoodF (mem 110) q)))) → (-2147483648 ≤ m' 115 p ∧ m' 115 p ≤ 2147483647) → (∀ x : Nat, x < 32 → (zbt (m' 115 p) x = true ↔ x < y ∧ gdP n (mem 110) c.toNat p x)) → AW Γ mX11_findGoods (zF Γ zG Q) zG 0 0 22 [some (vR 109), some (vI c), some (vI p), some (vI y)] [] m' := by
    intro p hp hk d
    induction d with
    | zero =>
      intro y m' hy hF hq hr hb
      have e109 : m' 109 = mem 109 := hF 109 (by decide)
      refine aw_iload_n dX11_findGoods_22 rfl rfl ?_
      refine aw_iconst dX11_findGoods_23 rfl ?_
      refine aw_aload_n dX11_findGoods_24 rfl rfl ?_
      refine aw_getI (kI := 3) dX11_findGoods_25 rfl fl_X11_73 g109 (by rfl) rfl ?_
      rw [e109]
      refine aw_imul dX11_findGoods_28 rfl ?_
      refine aw_icmp_ge (tgt := 73) dX11_findGoods_29 (by decide) rfl (by omega) (by omega) (fun c29 => ?_) (fun c29 => ?_)
      · refine hk m' _ hF hq hr (fun x hx => ?_)
        rw [hb x hx]
        constructor
        · rintro ⟨a, b⟩; exact ⟨by omega, b⟩
        · rintro ⟨a, b⟩; exact ⟨by omega, b⟩
      · exfalso; omega
    | succ d ih =>
      intro y m' hy hF hq hr hb
      have e109 : m' 109 = mem 109 := hF 109 (by decide)
      have e110 : m' 110 = mem 110 := hF 110 (by decide)
      obtain ⟨w1, w2⟩ := place_Wf h (p := p) (x := y) (by omega) (by omega)
      have w46 := w2 46 (by omega)
      obtain ⟨u1, u2, u3, u4⟩ := roundsF_Wf c.toNat _ w1
      have step : ∀ (b : Int) (m2 : Mem), (b = 1 ∧ gdP n (mem 110) c.toNat p y) ∨ (b = 0 ∧ ¬ gdP n (mem 110) c.toNat p y) → FrX m2 m' [111] → AW Γ mX11_findGoods (zF Γ zG Q) zG 0 0 22 [some (vR 109), some (vI c), some (vI p), some (vI (y + 1 : Nat))] [] (mset m2 115 p (zor (m' 115 p) (zshl b y))) := by
        intro b m2 hbb hF2
        have e115 : m2 115 = m' 115 := hF2 115 (by decide)
        have e116 : m2 116 = m' 116 := hF2 116 (by decide)
        refine ih (y + 1) _ (by push_cast; omega) (((hF2.mono (by decide)).tr hF).set (by decide)) (fun q hqp => ?_) ?_ (fun x hx => ?_)
        · rw [mset_same, mset_ne (by decide), e115, e116, fset_ne (by omega)]
          exact hq q hqp
        · rw [mset_same, fset_same]
          exact zor_rng _ _
        · rw [mset_same, fset_same, zbt_or]
          rcases hbb with ⟨rfl, hg⟩ | ⟨rfl, hg⟩
          · rw [zbt_shl1 (by omega) hx]
            simp only [Bool.or_eq_true, decide_eq_true_eq, hb x hx]
            constructor
            · rintro (⟨a, b⟩ | rfl)
              · exact ⟨by omega, b⟩
              · exact ⟨by omega, hg⟩
            · rintro ⟨a, b⟩
              by_cases e : x = y
              · exact Or.inr e
              · exact Or.inl ⟨by omega, b⟩
          · rw [zshl_0, zbt_0]
            simp only [Bool.or_false, hb x hx]
            constructor
            · rintro ⟨a, b⟩
              exact ⟨by omega, b⟩
            · rintro ⟨a, b⟩
              by_cases e : x = y
              · subst e; exact absurd b hg
              · exact ⟨by omega, b⟩
      refine aw_iload_n dX11_findGoods_22 rfl rfl ?_
      refine aw_iconst dX11_findGoods_23 rfl ?_
      refine aw_aload_n dX11_findGoods_24 rfl rfl ?_
      refine aw_getI (kI := 3) dX11_findGoods_25 rfl fl_X11_73 g109 (by rfl) rfl ?_
      rw [e109]
      refine aw_imul dX11_findGoods_28 rfl ?_
      refine aw_icmp_ge (tgt := 73) dX11_findGoods_29 (by decide) rfl (by omega) (by omega) (fun c29 => ?_) (fun c29 => ?_)
      · exfalso; omega
      · refine aw_aload_n dX11_findGoods_32 rfl rfl ?_
        refine aw_callV [] _ dX11_findGoods_33 rfl clv_X11_222 (by decide) ⟨Nat.zero_le _, Nat.zero_le _⟩ g109 (by rfl) (Nat.le_of_ble_eq_true rfl) rfl ?_
        refine sR_starts2 ?_
        rw [e110]
        refine aw_aload_n dX11_findGoods_36 rfl rfl ?_
        refine aw_iload_n dX11_findGoods_37 rfl rfl ?_
        refine aw_iconst dX11_findGoods_38 rfl ?_
        refine aw_iload_n dX11_findGoods_39 rfl rfl ?_
        refine aw_callV [_, _, _] _ dX11_findGoods_40 rfl clv_X11_179 (by decide) ⟨Nat.zero_le _, Nat.zero_le _⟩ g109 (by rfl) (Nat.le_of_ble_eq_true rfl) rfl ?_
        refine sR_becomesOf (by omega) ?_
        rw [mset_mcell]
        refine aw_aload_n dX11_findGoods_43 rfl rfl ?_
        refine aw_iload_n dX11_findGoods_44 rfl rfl ?_
        refine aw_callV [_] _ dX11_findGoods_45 rfl clv_X11_238 (by decide) ⟨Nat.zero_le _, Nat.zero_le _⟩ g109 (by rfl) (Nat.le_of_ble_eq_true rfl) rfl ?_
        refine sR_roundsAll (n := n) (by omega) (by rw [mcell_same]; exact w1) (by rw [mcell_ne (by decide), e109]; exact hm) ?_
        rw [mcell_same, mcell_mcell]
        refine aw_aload_n dX11_findGoods_48 rfl rfl ?_
        refine aw_getR dX11_findGoods_49 rfl fl_X11_26 g109 (by rfl) ?_
        refine aw_iload_n dX11_findGoods_52 rfl rfl ?_
        refine aw_dup2 dX11_findGoods_53 rfl rfl rfl ?_
        refine aw_iaload dX11_findGoods_54 rfl g115 (by decide) (by omega) ?_
        rw [mcell_ne (by decide)]
        refine aw_aload_n dX11_findGoods_55 rfl rfl ?_
        refine aw_iload_n dX11_findGoods_56 rfl rfl ?_
        refine aw_callV [_] _ dX11_findGoods_57 rfl clv_X11_205 (by decide) ⟨Nat.zero_le _, Nat.zero_le _⟩ g109 (by rfl) (Nat.le_of_ble_eq_true rfl) rfl ?_
        refine sR_isGood (n := n) (by omega) (by rw [mcell_same]; exact u1.2.2.2.2.2.2.2.1 p (by omega) (by omega)) (fun c57 => ?_) (fun c57 => ?_)
        · rw [mcell_same] at c57
          refine aw_callS [_] _ dX11_findGoods_60 rfl cls_X11_208 (by decide) ⟨Nat.zero_le _, Nat.zero_le _⟩ (Nat.le_of_ble_eq_true rfl) rfl ?_
          refine sR_flag (by omega) ?_
          refine aw_iload_n dX11_findGoods_63 rfl rfl ?_
          refine aw_ishl dX11_findGoods_64 rfl ?_
          refine aw_ior dX11_findGoods_65 rfl ?_
          refine aw_iastore dX11_findGoods_66 rfl g115 (by decide) (by omega) ?_
          refine aw_iinc3 rfl dX11_findGoods_67 rfl (by decide) ?_
          refine aw_goto (tgt := 22) dX11_findGoods_70 (by decide) ?_
          first | (have hz : gdP n (mem 110) c.toNat p y := c57; exact step 1 _ (Or.inl ⟨rfl, hz⟩) (FrX.rf.cell (by decide))) | (have hz : ¬ gdP n (mem 110) c.toNat p y := c57; exact step 0 _ (Or.inr ⟨rfl, hz⟩) (FrX.rf.cell (by decide)))
        · rw [mcell_same] at c57
          refine aw_callS [_] _ dX11_findGoods_60 rfl cls_X11_208 (by decide) ⟨Nat.zero_le _, Nat.zero_le _⟩ (Nat.le_of_ble_eq_true rfl) rfl ?_
          refine sR_flag (by omega) ?_
          refine aw_iload_n dX11_findGoods_63 rfl rfl ?_
          refine aw_ishl dX11_findGoods_64 rfl ?_
          refine aw_ior dX11_findGoods_65 rfl ?_
          refine aw_iastore dX11_findGoods_66 rfl g115 (by decide) (by omega) ?_
          refine aw_iinc3 rfl dX11_findGoods_67 rfl (by decide) ?_
          refine aw_goto (tgt := 22) dX11_findGoods_70 (by decide) ?_
          first | (have hz : gdP n (mem 110) c.toNat p y := c57; exact step 1 _ (Or.inl ⟨rfl, hz⟩) (FrX.rf.cell (by decide))) | (have hz : ¬ gdP n (mem 110) c.toNat p y := c57; exact step 0 _ (Or.inr ⟨rfl, hz⟩) (FrX.rf.cell (by decide)))
  have outer : ∀ (d p : Nat) (m' : Mem) (x3 : Option AV), p + d = (mem 110 46).toNat → FrX m' mem [111, 115, 116] → (∀ q : Nat, q < p → ((-2147483648 ≤ m' 115 q ∧ m' 115 q ≤ 2147483647) ∧ (∀ x : Nat, x < 32 → (zbt (m' 115 q) x = true ↔ (x : Int) < 3 * n ∧ gdP n (mem 110) c.toNat q x)) ∧ ((m' 116 q = 1 ∧ isGoodF (mem 110) q) ∨ (m' 116 q = 0 ∧ ¬ isGoodF (mem 110) q)))) → AW Γ mX11_findGoods (zF Γ zG Q) zG 0 0 2 [some (vR 109), some (vI c), some (vI p), x3] [] m' := by
    intro d
    induction d with
    | zero =>
      intro p m' x3 hp hF hq
      have e110 : m' 110 = mem 110 := hF 110 (by decide)
      refine aw_iload_n dX11_findGoods_2 rfl rfl ?_
      refine aw_aload_n dX11_findGoods_3 rfl rfl ?_
      refine aw_getR dX11_findGoods_4 rfl fl_X11_7 g109 (by rfl) ?_
      refine aw_bipush dX11_findGoods_7 rfl (by decide) ?_
      refine aw_iaload dX11_findGoods_9 rfl g110 (by decide) (by omega) ?_
      rw [e110]
      refine aw_icmp_ge (tgt := 94) dX11_findGoods_10 (by decide) rfl (by omega) (by omega) (fun c10 => ?_) (fun c10 => ?_)
      · refine aw_return dX11_findGoods_94 rfl ?_
        exact k m' hF (fun q hqp => hq q (by omega))
      · exfalso; omega
    | succ d ih =>
      intro p m' x3 hp hF hq
      have e110 : m' 110 = mem 110 := hF 110 (by decide)
      have hsp := h.2.2.2.2.2.2.2.1 p (by omega) (by omega)
      have tail : ∀ (m' : Mem) (x3 : Option AV), FrX m' mem [111, 115, 116] → (∀ q : Nat, q < p → ((-2147483648 ≤ m' 115 q ∧ m' 115 q ≤ 2147483647) ∧ (∀ x : Nat, x < 32 → (zbt (m' 115 q) x = true ↔ (x : Int) < 3 * n ∧ gdP n (mem 110) c.toNat q x)) ∧ ((m' 116 q = 1 ∧ isGoodF (mem 110) q) ∨ (m' 116 q = 0 ∧ ¬ isGoodF (mem 110) q)))) → (-2147483648 ≤ m' 115 p ∧ m' 115 p ≤ 2147483647) → (∀ x : Nat, x < 32 → (zbt (m' 115 p) x = true ↔ (x : Int) < 3 * n ∧ gdP n (mem 110) c.toNat p x)) → AW Γ mX11_findGoods (zF Γ zG Q) zG 0 0 73 [some (vR 109), some (vI c), some (vI p), x3] [] m' := by
        intro m2 y3 hF2 hq2 hr2 hb2
        have e110b : m2 110 = mem 110 := hF2 110 (by decide)
        have fin : ∀ b : Int, (b = 1 ∧ isGoodF (mem 110) p) ∨ (b = 0 ∧ ¬ isGoodF (mem 110) p) → AW Γ mX11_findGoods (zF Γ zG Q) zG 0 0 2 [some (vR 109), some (vI c), some (vI (p + 1 : Nat)), y3] [] (mset (mcell m2 111 (mem 110)) 116 p b) := by
          intro b hb
          refine ih (p + 1) _ _ (by omega) ((hF2.cell (by decide)).set (by decide)) (fun q hqp => ?_)
          rw [mset_same, mset_ne (show (115 : Nat) ≠ 116 by decide), mcell_ne (show (115 : Nat) ≠ 111 by decide), mcell_ne (show (116 : Nat) ≠ 111 by decide)]
          by_cases e : q = p
          · subst e
            rw [fset_same]
            exact ⟨hr2, hb2, hb⟩
          · rw [fset_ne (by omega)]
            exact hq2 q (by omega)
        refine aw_aload_n dX11_findGoods_73 rfl rfl ?_
        refine aw_callV [] _ dX11_findGoods_74 rfl clv_X11_222 (by decide) ⟨Nat.zero_le _, Nat.zero_le _⟩ g109 (by rfl) (Nat.le_of_ble_eq_true rfl) rfl ?_
        refine sR_starts2 ?_
        rw [e110b]
        refine aw_aload_n dX11_findGoods_77 rfl rfl ?_
        refine aw_getR dX11_findGoods_78 rfl fl_X11_29 g109 (by rfl) ?_
        refine aw_iload_n dX11_findGoods_81 rfl rfl ?_
        refine aw_aload_n dX11_findGoods_82 rfl rfl ?_
        refine aw_iload_n dX11_findGoods_83 rfl rfl ?_
        refine aw_callV [_] _ dX11_findGoods_84 rfl clv_X11_205 (by decide) ⟨Nat.zero_le _, Nat.zero_le _⟩ g109 (by rfl) (Nat.le_of_ble_eq_true rfl) rfl ?_
        refine sR_isGood (n := n) (by omega) (by rw [mcell_same]; exact hsp) (fun c84 => ?_) (fun c84 => ?_)
        · rw [mcell_same] at c84
          refine aw_zastore dX11_findGoods_87 rfl g116 (by decide) (by omega) (by omega) ?_
          refine aw_iinc2 rfl dX11_findGoods_88 rfl (by decide) ?_
          refine aw_goto (tgt := 2) dX11_findGoods_91 (by decide) ?_
          first | (have hz : isGoodF (mem 110) p := c84; exact fin 1 (Or.inl ⟨rfl, hz⟩)) | (have hz : ¬ isGoodF (mem 110) p := c84; exact fin 0 (Or.inr ⟨rfl, hz⟩))
        · rw [mcell_same] at c84
          refine aw_zastore dX11_findGoods_87 rfl g116 (by decide) (by omega) (by omega) ?_
          refine aw_iinc2 rfl dX11_findGoods_88 rfl (by decide) ?_
          refine aw_goto (tgt := 2) dX11_findGoods_91 (by decide) ?_
          first | (have hz : isGoodF (mem 110) p := c84; exact fin 1 (Or.inl ⟨rfl, hz⟩)) | (have hz : ¬ isGoodF (mem 110) p := c84; exact fin 0 (Or.inr ⟨rfl, hz⟩))
      refine aw_iload_n dX11_findGoods_2 rfl rfl ?_
      refine aw_aload_n dX11_findGoods_3 rfl rfl ?_
      refine aw_getR dX11_findGoods_4 rfl fl_X11_7 g109 (by rfl) ?_
      refine aw_bipush dX11_findGoods_7 rfl (by decide) ?_
      refine aw_iaload dX11_findGoods_9 rfl g110 (by decide) (by omega) ?_
      rw [e110]
      refine aw_icmp_ge (tgt := 94) dX11_findGoods_10 (by decide) rfl (by omega) (by omega) (fun c10 => ?_) (fun c10 => ?_)
      · exfalso; omega
      · refine aw_aload_n dX11_findGoods_13 rfl rfl ?_
        refine aw_getR dX11_findGoods_14 rfl fl_X11_26 g109 (by rfl) ?_
        refine aw_iload_n dX11_findGoods_17 rfl rfl ?_
        refine aw_iconst dX11_findGoods_18 rfl ?_
        refine aw_iastore dX11_findGoods_19 rfl g115 (by decide) (by omega) ?_
        refine aw_iconst dX11_findGoods_20 rfl ?_
        refine aw_istore3 rfl dX11_findGoods_21 rfl (by decide) ?_
        refine inner p (by omega) tail (3 * n).toNat 0 _ (by omega) (hF.set (by decide)) (fun q hqp => ?_) ?_ (fun x hx => ?_)
        · rw [mset_same, mset_ne (by decide), fset_ne (by omega)]
          exact hq q hqp
        · rw [mset_same, fset_same]; omega
        · rw [mset_same, fset_same, zbt_0]
          simp
  refine AMet.of' 2 (ls := [some (vR (109)), some (vI (c)), none, none]) (by decide) rfl (Nat.le_of_ble_eq_true rfl) ?_
  refine aw_iconst dX11_findGoods_0 rfl ?_
  refine aw_istore2 rfl dX11_findGoods_1 rfl (by decide) ?_
  exact outer (mem 110 46).toNat 0 mem none (by omega) FrX.rf (fun q hq => by omega)
end ZRef16
