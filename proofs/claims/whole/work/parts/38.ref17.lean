/-- the sets of potatoes (from fi on, below N) that find places below x, each its own -/
def Cn (R : Nat → Nat → Bool) (fi N : Nat) (tk : Nat → Bool) : Nat → Nat → Prop
  | 0, S => S = 0
  | x + 1, S => Cn R fi N tk x S ∨ (tk x = false ∧ ∃ T p : Nat, T < 64 ∧ Cn R fi N tk x T ∧ fi ≤ p ∧ p < N ∧ T.testBit p = false ∧ R p x = true ∧ S = T ||| 1 <<< p)
def pc6 (s : Nat) : Nat := (if s.testBit 0 then 1 else 0) + (if s.testBit 1 then 1 else 0) + (if s.testBit 2 then 1 else 0) + (if s.testBit 3 then 1 else 0) + (if s.testBit 4 then 1 else 0) + (if s.testBit 5 then 1 else 0)
def pcTo (s : Nat) : Nat → Nat
  | 0 => 0
  | k + 1 => pcTo s k + (if s.testBit k then 1 else 0)
theorem pcTo_6 (s : Nat) : pcTo s 6 = pc6 s := by simp [pcTo, pc6]
theorem pc6_le (s : Nat) : pc6 s ≤ 6 := by unfold pc6; (repeat' split) <;> omega
/-- a row of marks is a set of numbers below 64 -/
def Rep (cs : Int → Int) (P : Nat → Prop) : Prop := ∀ t : Nat, t < 64 → (cs t = 1 ∧ P t) ∨ (cs t = 0 ∧ ¬ P t)
theorem Rep.set {cs : Int → Int} {P P' : Nat → Prop} {t0 : Nat} (h : Rep cs P) (hp : ∀ t, t < 64 → (P' t ↔ P t ∨ t = t0)) : Rep (fset cs t0 1) P' := by
  intro t ht
  by_cases e : t = t0
  · subst e
    rw [fset_same]
    exact Or.inl ⟨rfl, (hp t ht).mpr (Or.inr rfl)⟩
  · rw [fset_ne (by omega)]
    rcases h t ht with ⟨a, b⟩ | ⟨a, b⟩
    · exact Or.inl ⟨a, (hp t ht).mpr (Or.inl b)⟩
    · exact Or.inr ⟨a, fun z => ((hp t ht).mp z).elim b e⟩
theorem Rep.iff {cs : Int → Int} {P P' : Nat → Prop} (h : Rep cs P) (hp : ∀ t, t < 64 → (P' t ↔ P t)) : Rep cs P' := by
  intro t ht
  rcases h t ht with ⟨a, b⟩ | ⟨a, b⟩
  · exact Or.inl ⟨a, (hp t ht).mpr b⟩
  · exact Or.inr ⟨a, fun z => b ((hp t ht).mp z)⟩
section ZRef17
variable {Γ : ZG} {mem : Mem} {Q : Option AV → Mem → Prop}
theorem sR_bitsOf {G : List GK} {s : Nat} (hs : s < 64) (k : Q (some (vI (pc6 s : Nat))) mem) : AMet Γ mX11_bitsOf [vI s] G mem Q := by
  have loop : ∀ (d i : Nat), i + d = 6 → AW Γ mX11_bitsOf (zF Γ G Q) G 0 0 4 [some (vI s), some (vI (pcTo s i : Nat)), some (vI i)] [] mem := by
    intro d
    induction d with
    | zero =>
      intro i hi
      obtain rfl : i = 6 := by omega
      refine aw_iload_n dX11_bitsOf_4 rfl rfl ?_
      refine aw_bipush dX11_bitsOf_5 rfl (by decide) ?_
      refine aw_icmp_ge (tgt := 24) dX11_bitsOf_7 (by decide) rfl (by omega) (by omega) (fun c7 => ?_) (fun c7 => ?_)
      · refine aw_iload_n dX11_bitsOf_24 rfl rfl ?_
        refine aw_ireturn (ty := .int) dX11_bitsOf_25 rfl rfl ?_
        exact q_eq k (by rw [pcTo_6]) rfl
      · exfalso; omega
    | succ d ih =>
      intro i hi
      have ih2 := ih (i + 1) (by omega)
      rw [pcTo] at ih2
      have e1 : zand (zshr (s : Int) i) 1 = ((if s.testBit i then 1 else 0 : Nat) : Int) := by
        rw [zbit (by omega), set_bit s hs i (by omega)]
        split <;> rfl
      refine aw_iload_n dX11_bitsOf_4 rfl rfl ?_
      refine aw_bipush dX11_bitsOf_5 rfl (by decide) ?_
      refine aw_icmp_ge (tgt := 24) dX11_bitsOf_7 (by decide) rfl (by omega) (by omega) (fun c7 => ?_) (fun c7 => ?_)
      · exfalso; omega
      · refine aw_iload_n dX11_bitsOf_10 rfl rfl ?_
        refine aw_iload_n dX11_bitsOf_11 rfl rfl ?_
        refine aw_iload_n dX11_bitsOf_12 rfl rfl ?_
        refine aw_ishr dX11_bitsOf_13 rfl ?_
        refine aw_iconst dX11_bitsOf_14 rfl ?_
        refine aw_iand dX11_bitsOf_15 rfl ?_
        rw [e1]
        refine aw_iadd dX11_bitsOf_16 rfl ?_
        refine aw_istore1 rfl dX11_bitsOf_17 rfl (by decide) ?_
        refine aw_iinc2 rfl dX11_bitsOf_18 rfl (by decide) ?_
        refine aw_goto (tgt := 4) dX11_bitsOf_21 (by decide) ?_
        exact ih2
  refine AMet.of' 2 (ls := [some (vI (s)), none, none]) (by decide) rfl (Nat.le_of_ble_eq_true rfl) ?_
  refine aw_iconst dX11_bitsOf_0 rfl ?_
  refine aw_istore1 rfl dX11_bitsOf_1 rfl (by decide) ?_
  refine aw_iconst dX11_bitsOf_2 rfl ?_
  refine aw_istore2 rfl dX11_bitsOf_3 rfl (by decide) ?_
  exact loop 6 0 (by omega)
theorem sR_mostFrom {n taken : Int} {fi N : Nat} (hn : 3 ≤ n ∧ n ≤ 8) (hm : mem 109 3 = n) (hN : mem 110 46 = N) (hN6 : N ≤ 6) (hfi : fi ≤ 6) (hgo : ∀ p : Nat, p < N → mem 116 p = 0 ∨ mem 116 p = 1)
    (k : ∀ (m' : Mem) (r out : Nat), FrX m' mem [117] → out < 64 → (∀ p : Nat, p < 6 → (out.testBit p = true ↔ fi ≤ p ∧ p < N ∧ mem 116 p = 1)) → r ≤ 6 → (∃ S : Nat, S < 64 ∧ Cn (fun p x => zbt (mem 115 p) x) fi N (fun x => zbt taken x) (3 * n).toNat S ∧ r = pc6 (S ||| out)) → (∀ S : Nat, S < 64 → Cn (fun p x => zbt (mem 115 p) x) fi N (fun x => zbt taken x) (3 * n).toNat S → pc6 (S ||| out) ≤ r) → Q (some (vI r)) m') : AMet Γ mX11_mostFrom [vR 109, vI fi, vI taken] zG mem Q := by
  -- the greatest
  have loopF : ∀ (out : Nat) (cs : Int → Int), out < 64 → (∀ p : Nat, p < 6 → (out.testBit p = true ↔ fi ≤ p ∧ p < N ∧ mem 116 p = 1)) → Rep cs (Cn (fun p x => zbt (mem 115 p) x) fi N (fun x => zbt taken x) (3 * n).toNat) → ∀ (d s best : Nat) (x6 x7 : Option AV), s + d = 64 → best ≤ 6 → (best = 0 ∨ ∃ S : Nat, S < 64 ∧ Cn (fun p x => zbt (mem 115 p) x) fi N (fun x => zbt taken x) (3 * n).toNat S ∧ best = pc6 (S ||| out)) → (∀ S : Nat, S < s → Cn (fun p x => zbt (mem 115 p) x) fi N (fun x => zbt taken x) (3 * n).toNat S → pc6 (S ||| out) ≤ best) → AW Γ mX11_mostFrom (zF Γ zG Q) zG 0 0 209 [some (vR 109), some (vI fi), some (vI taken), some (vI out), some (vI best), some (vI s), x6, x7] [] (mcell mem 117 cs) := by
    intro out cs hout hob hR d
    induction d with
    | zero =>
      intro s best x6 x7 hs hb he hu
      obtain rfl : s = 64 := by omega
      have h0 : Cn (fun p x => zbt (mem 115 p) x) fi N (fun x => zbt taken x) (3 * n).toNat 0 := by
        have : ∀ x : Nat, Cn (fun p x => zbt (mem 115 p) x) fi N (fun x => zbt taken x) x 0 := by
          intro x
          induction x with
          | zero => rfl
          | succ x ih => exact Or.inl ih
        exact this _
      have h0b := hu 0 (by omega) h0
      refine aw_iload dX11_mostFrom_209 rfl rfl ?_
      refine aw_bipush dX11_mostFrom_211 rfl (by decide) ?_
      refine aw_icmp_ge (tgt := 261) dX11_mostFrom_213 (by decide) rfl (by omega) (by omega) (fun c213 => ?_) (fun c213 => ?_)
      · refine aw_iload dX11_mostFrom_261 rfl rfl ?_
        refine aw_ireturn (ty := .int) dX11_mostFrom_263 rfl rfl ?_
        refine k _ best out (FrX.rf.cell (by decide)) hout hob hb ?_ hu
        rcases he with rfl | he
        · exact ⟨0, by omega, h0, by omega⟩
        · exact he
      · exfalso; omega
    | succ d ih =>
      intro s best x6 x7 hs hb he hu
      have hsx := hR s (by omega)
      have e1 : zor (s : Int) (out : Int) = ((s ||| out : Nat) : Int) := set_or2 s (by omega) out hout
      have e2 : (s ||| out) < 64 := Nat.or_lt_two_pow (n := 6) (by omega) (by omega)
      have p6 := pc6_le (s ||| out)
      have seg : ∀ (v : Nat) (x7 : Option AV), v ≤ 6 → (v = 0 ∨ (Cn (fun p x => zbt (mem 115 p) x) fi N (fun x => zbt taken x) (3 * n).toNat s ∧ v = pc6 (s ||| out))) → (Cn (fun p x => zbt (mem 115 p) x) fi N (fun x => zbt taken x) (3 * n).toNat s → v = pc6 (s ||| out)) → AW Γ mX11_mostFrom (zF Γ zG Q) zG 0 0 239 [some (vR 109), some (vI fi), some (vI taken), some (vI out), some (vI best), some (vI s), some (vI v), x7] [] (mcell mem 117 cs) := by
        intro v x7 hv h1 h2
        refine aw_iload dX11_mostFrom_239 rfl rfl ?_
        refine aw_iload dX11_mostFrom_241 rfl rfl ?_
        refine aw_icmp_le (tgt := 251) dX11_mostFrom_243 (by decide) rfl (by omega) (by omega) (fun c243 => ?_) (fun c243 => ?_)
        · refine aw_iload dX11_mostFrom_251 rfl rfl ?_
          refine aw_istore4 rfl dX11_mostFrom_253 rfl (by decide) ?_
          refine aw_iinc5 rfl dX11_mostFrom_255 rfl (by decide) ?_
          refine aw_goto (tgt := 209) dX11_mostFrom_258 (by decide) ?_
          first | exact ih (s + 1) v _ _ (by omega) hv (by rcases h1 with rfl | ⟨a, b⟩; exact Or.inl rfl; exact Or.inr ⟨s, by omega, a, b⟩) (fun S hS hC => by by_cases e : S = s; subst e; have := h2 hC; omega; have := hu S (by omega) hC; omega) | exact ih (s + 1) best _ _ (by omega) hb he (fun S hS hC => by by_cases e : S = s; subst e; have := h2 hC; omega; exact hu S (by omega) hC)
        · refine aw_iload dX11_mostFrom_246 rfl rfl ?_
          refine aw_goto (tgt := 253) dX11_mostFrom_248 (by decide) ?_
          refine aw_istore4 rfl dX11_mostFrom_253 rfl (by decide) ?_
          refine aw_iinc5 rfl dX11_mostFrom_255 rfl (by decide) ?_
          refine aw_goto (tgt := 209) dX11_mostFrom_258 (by decide) ?_
          first | exact ih (s + 1) v _ _ (by omega) hv (by rcases h1 with rfl | ⟨a, b⟩; exact Or.inl rfl; exact Or.inr ⟨s, by omega, a, b⟩) (fun S hS hC => by by_cases e : S = s; subst e; have := h2 hC; omega; have := hu S (by omega) hC; omega) | exact ih (s + 1) best _ _ (by omega) hb he (fun S hS hC => by by_cases e : S = s; subst e; have := h2 hC; omega; exact hu S (by omega) hC)
      refine aw_iload dX11_mostFrom_209 rfl rfl ?_
      refine aw_bipush dX11_mostFrom_211 rfl (by decide) ?_
      refine aw_icmp_ge (tgt := 261) dX11_mostFrom_213 (by decide) rfl (by omega) (by omega) (fun c213 => ?_) (fun c213 => ?_)
      · exfalso; omega
      · refine aw_aload_n dX11_mostFrom_216 rfl rfl ?_
        refine aw_getR dX11_mostFrom_217 rfl fl_X11_32 g109 (by rfl) ?_
        refine aw_iload dX11_mostFrom_220 rfl rfl ?_
        refine aw_zaload dX11_mostFrom_222 rfl g117 (by decide) (by omega) ?_
        try simp only [mcell_ap, mset_ap, Nat.reduceEqDiff, reduceIte]
        refine aw_if_eq (tgt := 236) dX11_mostFrom_223 (by decide) rfl (by omega) (fun c223 => ?_) (fun c223 => ?_)
        · refine aw_iconst dX11_mostFrom_236 rfl ?_
          refine aw_istore6 rfl dX11_mostFrom_237 rfl (by decide) ?_
          rcases hsx with ⟨a, b⟩ | ⟨a, b⟩ <;> first | (exfalso; omega) | exact seg (pc6 (s ||| out)) _ p6 (Or.inr ⟨b, rfl⟩) (fun _ => rfl) | exact seg 0 _ (by omega) (Or.inl rfl) (fun z => absurd z b)
        · refine aw_iload dX11_mostFrom_226 rfl rfl ?_
          refine aw_iload_n dX11_mostFrom_228 rfl rfl ?_
          refine aw_ior dX11_mostFrom_229 rfl ?_
          rw [e1]
          refine aw_callS [_] _ dX11_mostFrom_230 rfl cls_X11_244 (by decide) ⟨Nat.zero_le _, Nat.zero_le _⟩ (Nat.le_of_ble_eq_true rfl) rfl ?_
          refine sR_bitsOf e2 ?_
          refine aw_goto (tgt := 237) dX11_mostFrom_233 (by decide) ?_
          refine aw_istore6 rfl dX11_mostFrom_237 rfl (by decide) ?_
          rcases hsx with ⟨a, b⟩ | ⟨a, b⟩ <;> first | (exfalso; omega) | exact seg (pc6 (s ||| out)) _ p6 (Or.inr ⟨b, rfl⟩) (fun _ => rfl) | exact seg 0 _ (by omega) (Or.inl rfl) (fun z => absurd z b)
  -- one set s, one place x: its potatoes
  have loopE : ∀ (out x : Nat) (P : Nat → Prop) (s : Nat), s < 64 → x < 24 → P s → (∀ (cs : Int → Int) (x6 x7 : Option AV), zlong x6 = false → Rep cs (fun t => P t ∨ ∃ q : Nat, fi ≤ q ∧ q < N ∧ s.testBit q = false ∧ zbt (mem 115 q) x = true ∧ t = s ||| 1 <<< q) → AW Γ mX11_mostFrom (zF Γ zG Q) zG 0 0 191 [some (vR 109), some (vI fi), some (vI taken), some (vI out), some (vI x), some (vI s), x6, x7] [] (mcell mem 117 cs)) → ∀ (d p : Nat) (cs : Int → Int) (x7 : Option AV), p + d = max fi N → fi ≤ p → Rep cs (fun t => P t ∨ ∃ q : Nat, fi ≤ q ∧ q < p ∧ q < N ∧ s.testBit q = false ∧ zbt (mem 115 q) x = true ∧ t = s ||| 1 <<< q) → AW Γ mX11_mostFrom (zF Γ zG Q) zG 0 0 107 [some (vR 109), some (vI fi), some (vI taken), some (vI out), some (vI x), some (vI s), some (vI p), x7] [] (mcell mem 117 cs) := by
    intro out x P s hs hx hPs hk d
    induction d with
    | zero =>
      intro p cs x7 hp hfp hR
      refine aw_iload dX11_mostFrom_107 rfl rfl ?_
      refine aw_aload_n dX11_mostFrom_109 rfl rfl ?_
      refine aw_getR dX11_mostFrom_110 rfl fl_X11_7 g109 (by rfl) ?_
      refine aw_bipush dX11_mostFrom_113 rfl (by decide) ?_
      refine aw_iaload dX11_mostFrom_115 rfl g110 (by decide) (by omega) ?_
      try simp only [mcell_ap, mset_ap, Nat.reduceEqDiff, reduceIte]
      refine aw_icmp_ge (tgt := 191) dX11_mostFrom_116 (by decide) rfl (by omega) (by omega) (fun c116 => ?_) (fun c116 => ?_)
      · refine hk cs _ _ rfl (hR.iff (fun t ht => ?_))
        constructor
        · rintro (a | ⟨q, a, b, c⟩)
          · exact Or.inl a
          · exact Or.inr ⟨q, a, by omega, b, c⟩
        · rintro (a | ⟨q, a, b, c⟩)
          · exact Or.inl a
          · exact Or.inr ⟨q, a, c⟩
      · exfalso; omega
    | succ d ih =>
      intro p cs x7 hp hfp hR
      have hsx := hR s hs
      have hone : cs s = 1 := by
        rcases hsx with ⟨a, -⟩ | ⟨-, b⟩
        · exact a
        · exact absurd (Or.inl hPs) b
      have b1 : zand (zshr (s : Int) p) 1 = if s.testBit p then 1 else 0 := by
        rw [zbit (by omega)]
        by_cases hp6 : p < 6
        · rw [set_bit s hs p hp6]
        · omega
      have b2 : zand (zshr (mem 115 p) x) 1 = if zbt (mem 115 p) x then 1 else 0 := zbit (by omega)
      have t1 : (zand (zshr (s : Int) p) 1 = 1 ∧ s.testBit p = true) ∨ (zand (zshr (s : Int) p) 1 = 0 ∧ s.testBit p = false) := by
        cases hz : s.testBit p
        · rw [hz] at b1; exact Or.inr ⟨b1, rfl⟩
        · rw [hz] at b1; exact Or.inl ⟨b1, rfl⟩
      have t2 : (zand (zshr (mem 115 p) x) 1 = 1 ∧ zbt (mem 115 p) x = true) ∨ (zand (zshr (mem 115 p) x) 1 = 0 ∧ zbt (mem 115 p) x = false) := by
        cases hz : zbt (mem 115 p) x
        · rw [hz] at b2; exact Or.inr ⟨b2, rfl⟩
        · rw [hz] at b2; exact Or.inl ⟨b2, rfl⟩
      have r1 := zand_rng (zshr (s : Int) p) 1
      have r2 := zand_rng (zshr (mem 115 p) x) 1
      have yes : s.testBit p = false → zbt (mem 115 p) x = true → p < N → AW Γ mX11_mostFrom (zF Γ zG Q) zG 0 0 107 [some (vR 109), some (vI fi), some (vI taken), some (vI out), some (vI x), some (vI s), some (vI (p + 1 : Nat)), some (vI 1)] [] (mcell mem 117 (fset cs ((s ||| 1 <<< p : Nat) : Int) 1)) := by
        intro h1 h2 h3
        refine ih (p + 1) _ _ (by omega) (by omega) (hR.set (fun t ht => ?_))
        constructor
        · rintro (a | ⟨q, a, b, c, c2, c3, c4⟩)
          · exact Or.inl (Or.inl a)
          · by_cases e : q = p
            · subst e; exact Or.inr c4
            · exact Or.inl (Or.inr ⟨q, a, by omega, c, c2, c3, c4⟩)
        · rintro ((a | ⟨q, a, b, c⟩) | a)
          · exact Or.inl a
          · exact Or.inr ⟨q, a, by omega, c⟩
          · exact Or.inr ⟨p, hfp, by omega, h3, h1, h2, a⟩
      have no : (s.testBit p = true ∨ zbt (mem 115 p) x = false) → AW Γ mX11_mostFrom (zF Γ zG Q) zG 0 0 107 [some (vR 109), some (vI fi), some (vI taken), some (vI out), some (vI x), some (vI s), some (vI (p + 1 : Nat)), some (vI 0)] [] (mcell mem 117 (fset cs (s : Int) 1)) := by
        intro h1
        refine ih (p + 1) _ _ (by omega) (by omega) (hR.set (t0 := s) (fun t ht => ?_))
        constructor
        · rintro (a | ⟨q, a, b, c, c2, c3, c4⟩)
          · exact Or.inl (Or.inl a)
          · by_cases e : q = p
            · subst e
              rcases h1 with h1 | h1
              · rw [h1] at c2; cases c2
              · rw [h1] at c3; cases c3
            · exact Or.inl (Or.inr ⟨q, a, by omega, c, c2, c3, c4⟩)
        · rintro ((a | ⟨q, a, b, c⟩) | a)
          · exact Or.inl a
          · exact Or.inr ⟨q, a, by omega, c⟩
          · subst a; exact Or.inl hPs
      refine aw_iload dX11_mostFrom_107 rfl rfl ?_
      refine aw_aload_n dX11_mostFrom_109 rfl rfl ?_
      refine aw_getR dX11_mostFrom_110 rfl fl_X11_7 g109 (by rfl) ?_
      refine aw_bipush dX11_mostFrom_113 rfl (by decide) ?_
      refine aw_iaload dX11_mostFrom_115 rfl g110 (by decide) (by omega) ?_
      try simp only [mcell_ap, mset_ap, Nat.reduceEqDiff, reduceIte]
      refine aw_icmp_ge (tgt := 191) dX11_mostFrom_116 (by decide) rfl (by omega) (by omega) (fun c116 => ?_) (fun c116 => ?_)
      · exfalso; omega
      · obtain ⟨so1, so2, so3⟩ := set_or s hs p (by omega)
        refine aw_aload_n dX11_mostFrom_119 rfl rfl ?_
        refine aw_getR dX11_mostFrom_120 rfl fl_X11_32 g109 (by rfl) ?_
        refine aw_iload dX11_mostFrom_123 rfl rfl ?_
        refine aw_zaload dX11_mostFrom_125 rfl g117 (by decide) (by omega) ?_
        try simp only [mcell_ap, mset_ap, Nat.reduceEqDiff, reduceIte]
        refine aw_if_eq (tgt := 191) dX11_mostFrom_126 (by decide) rfl (by omega) (fun c126 => ?_) (fun c126 => ?_)
        · exfalso; omega
        · refine aw_iload dX11_mostFrom_129 rfl rfl ?_
          refine aw_iload dX11_mostFrom_131 rfl rfl ?_
          refine aw_ishr dX11_mostFrom_133 rfl ?_
          refine aw_iconst dX11_mostFrom_134 rfl ?_
          refine aw_iand dX11_mostFrom_135 rfl ?_
          refine aw_if_ne (tgt := 159) dX11_mostFrom_136 (by decide) rfl (by omega) (fun c136 => ?_) (fun c136 => ?_)
          · refine aw_iconst dX11_mostFrom_159 rfl ?_
            refine aw_istore7 rfl dX11_mostFrom_160 rfl (by decide) ?_
            refine aw_aload_n dX11_mostFrom_162 rfl rfl ?_
            refine aw_getR dX11_mostFrom_163 rfl fl_X11_32 g109 (by rfl) ?_
            refine aw_iload dX11_mostFrom_166 rfl rfl ?_
            refine aw_if_eq (tgt := 181) dX11_mostFrom_168 (by decide) rfl (by omega) (fun c168 => ?_) (fun c168 => ?_)
            · refine aw_iload dX11_mostFrom_181 rfl rfl ?_
              refine aw_iconst dX11_mostFrom_183 rfl ?_
              refine aw_zastore dX11_mostFrom_184 rfl g117 (by decide) (by omega) (by omega) ?_
              rw [mset_mcell]
              refine aw_iinc6 rfl dX11_mostFrom_185 rfl (by decide) ?_
              refine aw_goto (tgt := 107) dX11_mostFrom_188 (by decide) ?_
              rcases t1 with ⟨u1, v1⟩ | ⟨u1, v1⟩ <;> rcases t2 with ⟨u2, v2⟩ | ⟨u2, v2⟩ <;> first | (exfalso; omega) | (have hz : s.testBit p = true := v1; exact no (Or.inl hz)) | (have hz : zbt (mem 115 p) x = false := v2; exact no (Or.inr hz)) | exact yes v1 v2 (by omega)
            · refine aw_iload dX11_mostFrom_171 rfl rfl ?_
              refine aw_iconst dX11_mostFrom_173 rfl ?_
              skip
              refine aw_iload dX11_mostFrom_174 rfl rfl ?_
              refine aw_ishl dX11_mostFrom_176 rfl ?_
              refine aw_ior dX11_mostFrom_177 rfl ?_
              rw [so1]
              refine aw_goto (tgt := 183) dX11_mostFrom_178 (by decide) ?_
              refine aw_iconst dX11_mostFrom_183 rfl ?_
              refine aw_zastore dX11_mostFrom_184 rfl g117 (by decide) (by omega) (by omega) ?_
              rw [mset_mcell]
              refine aw_iinc6 rfl dX11_mostFrom_185 rfl (by decide) ?_
              refine aw_goto (tgt := 107) dX11_mostFrom_188 (by decide) ?_
              rcases t1 with ⟨u1, v1⟩ | ⟨u1, v1⟩ <;> rcases t2 with ⟨u2, v2⟩ | ⟨u2, v2⟩ <;> first | (exfalso; omega) | (have hz : s.testBit p = true := v1; exact no (Or.inl hz)) | (have hz : zbt (mem 115 p) x = false := v2; exact no (Or.inr hz)) | exact yes v1 v2 (by omega)
          · refine aw_aload_n dX11_mostFrom_139 rfl rfl ?_
            refine aw_getR dX11_mostFrom_140 rfl fl_X11_26 g109 (by rfl) ?_
            refine aw_iload dX11_mostFrom_143 rfl rfl ?_
            refine aw_iaload dX11_mostFrom_145 rfl g115 (by decide) (by omega) ?_
            try simp only [mcell_ap, mset_ap, Nat.reduceEqDiff, reduceIte]
            refine aw_iload dX11_mostFrom_146 rfl rfl ?_
            refine aw_ishr dX11_mostFrom_148 rfl ?_
            refine aw_iconst dX11_mostFrom_149 rfl ?_
            refine aw_iand dX11_mostFrom_150 rfl ?_
            refine aw_iconst dX11_mostFrom_151 rfl ?_
            refine aw_icmp_ne (tgt := 159) dX11_mostFrom_152 (by decide) rfl (by omega) (by omega) (fun c152 => ?_) (fun c152 => ?_)
            · refine aw_iconst dX11_mostFrom_159 rfl ?_
              refine aw_istore7 rfl dX11_mostFrom_160 rfl (by decide) ?_
              refine aw_aload_n dX11_mostFrom_162 rfl rfl ?_
              refine aw_getR dX11_mostFrom_163 rfl fl_X11_32 g109 (by rfl) ?_
              refine aw_iload dX11_mostFrom_166 rfl rfl ?_
              refine aw_if_eq (tgt := 181) dX11_mostFrom_168 (by decide) rfl (by omega) (fun c168 => ?_) (fun c168 => ?_)
              · refine aw_iload dX11_mostFrom_181 rfl rfl ?_
                refine aw_iconst dX11_mostFrom_183 rfl ?_
                refine aw_zastore dX11_mostFrom_184 rfl g117 (by decide) (by omega) (by omega) ?_
                rw [mset_mcell]
                refine aw_iinc6 rfl dX11_mostFrom_185 rfl (by decide) ?_
                refine aw_goto (tgt := 107) dX11_mostFrom_188 (by decide) ?_
                rcases t1 with ⟨u1, v1⟩ | ⟨u1, v1⟩ <;> rcases t2 with ⟨u2, v2⟩ | ⟨u2, v2⟩ <;> first | (exfalso; omega) | (have hz : s.testBit p = true := v1; exact no (Or.inl hz)) | (have hz : zbt (mem 115 p) x = false := v2; exact no (Or.inr hz)) | exact yes v1 v2 (by omega)
              · refine aw_iload dX11_mostFrom_171 rfl rfl ?_
                refine aw_iconst dX11_mostFrom_173 rfl ?_
                skip
                refine aw_iload dX11_mostFrom_174 rfl rfl ?_
                refine aw_ishl dX11_mostFrom_176 rfl ?_
                refine aw_ior dX11_mostFrom_177 rfl ?_
                rw [so1]
                refine aw_goto (tgt := 183) dX11_mostFrom_178 (by decide) ?_
                refine aw_iconst dX11_mostFrom_183 rfl ?_
                refine aw_zastore dX11_mostFrom_184 rfl g117 (by decide) (by omega) (by omega) ?_
                rw [mset_mcell]
                refine aw_iinc6 rfl dX11_mostFrom_185 rfl (by decide) ?_
                refine aw_goto (tgt := 107) dX11_mostFrom_188 (by decide) ?_
                rcases t1 with ⟨u1, v1⟩ | ⟨u1, v1⟩ <;> rcases t2 with ⟨u2, v2⟩ | ⟨u2, v2⟩ <;> first | (exfalso; omega) | (have hz : s.testBit p = true := v1; exact no (Or.inl hz)) | (have hz : zbt (mem 115 p) x = false := v2; exact no (Or.inr hz)) | exact yes v1 v2 (by omega)
            · refine aw_iconst dX11_mostFrom_155 rfl ?_
              refine aw_goto (tgt := 160) dX11_mostFrom_156 (by decide) ?_
              refine aw_istore7 rfl dX11_mostFrom_160 rfl (by decide) ?_
              refine aw_aload_n dX11_mostFrom_162 rfl rfl ?_
              refine aw_getR dX11_mostFrom_163 rfl fl_X11_32 g109 (by rfl) ?_
              refine aw_iload dX11_mostFrom_166 rfl rfl ?_
              refine aw_if_eq (tgt := 181) dX11_mostFrom_168 (by decide) rfl (by omega) (fun c168 => ?_) (fun c168 => ?_)
              · refine aw_iload dX11_mostFrom_181 rfl rfl ?_
                refine aw_iconst dX11_mostFrom_183 rfl ?_
                refine aw_zastore dX11_mostFrom_184 rfl g117 (by decide) (by omega) (by omega) ?_
                rw [mset_mcell]
                refine aw_iinc6 rfl dX11_mostFrom_185 rfl (by decide) ?_
                refine aw_goto (tgt := 107) dX11_mostFrom_188 (by decide) ?_
                rcases t1 with ⟨u1, v1⟩ | ⟨u1, v1⟩ <;> rcases t2 with ⟨u2, v2⟩ | ⟨u2, v2⟩ <;> first | (exfalso; omega) | (have hz : s.testBit p = true := v1; exact no (Or.inl hz)) | (have hz : zbt (mem 115 p) x = false := v2; exact no (Or.inr hz)) | exact yes v1 v2 (by omega)
              · refine aw_iload dX11_mostFrom_171 rfl rfl ?_
                refine aw_iconst dX11_mostFrom_173 rfl ?_
                skip
                refine aw_iload dX11_mostFrom_174 rfl rfl ?_
                refine aw_ishl dX11_mostFrom_176 rfl ?_
                refine aw_ior dX11_mostFrom_177 rfl ?_
                rw [so1]
                refine aw_goto (tgt := 183) dX11_mostFrom_178 (by decide) ?_
                refine aw_iconst dX11_mostFrom_183 rfl ?_
                refine aw_zastore dX11_mostFrom_184 rfl g117 (by decide) (by omega) (by omega) ?_
                rw [mset_mcell]
                refine aw_iinc6 rfl dX11_mostFrom_185 rfl (by decide) ?_
                refine aw_goto (tgt := 107) dX11_mostFrom_188 (by decide) ?_
                rcases t1 with ⟨u1, v1⟩ | ⟨u1, v1⟩ <;> rcases t2 with ⟨u2, v2⟩ | ⟨u2, v2⟩ <;> first | (exfalso; omega) | (have hz : s.testBit p = true := v1; exact no (Or.inl hz)) | (have hz : zbt (mem 115 p) x = false := v2; exact no (Or.inr hz)) | exact yes v1 v2 (by omega)
  -- one place x: all sets, from the greatest on
  have loopD : ∀ (out x : Nat) (C : Nat → Prop), x < 24 → zbt taken x = false → (∀ (cs : Int → Int) (x5 x6 x7 : Option AV), zlong x5 = false → zlong x6 = false → Rep cs (fun t => C t ∨ ∃ s q : Nat, s < 64 ∧ C s ∧ fi ≤ q ∧ q < N ∧ s.testBit q = false ∧ zbt (mem 115 q) x = true ∧ t = s ||| 1 <<< q) → AW Γ mX11_mostFrom (zF Γ zG Q) zG 0 0 197 [some (vR 109), some (vI fi), some (vI taken), some (vI out), some (vI x), x5, x6, x7] [] (mcell mem 117 cs)) → ∀ (j : Nat) (sI : Int) (cs : Int → Int) (x6 x7 : Option AV), zlong x6 = false → j ≤ 64 → sI = (j : Int) - 1 → Rep cs (fun t => C t ∨ ∃ s q : Nat, j ≤ s ∧ s < 64 ∧ C s ∧ fi ≤ q ∧ q < N ∧ s.testBit q = false ∧ zbt (mem 115 q) x = true ∧ t = s ||| 1 <<< q) → AW Γ mX11_mostFrom (zF Γ zG Q) zG 0 0 90 [some (vR 109), some (vI fi), some (vI taken), some (vI out), some (vI x), some (vI sI), x6, x7] [] (mcell mem 117 cs) := by
    intro out x C hx htk hk j
    have bt : zand (zshr taken x) 1 = 0 := by rw [zbit (by omega), htk]; rfl
    induction j with
    | zero =>
      intro sI cs x6 x7 z6 hj hsI hR
      refine aw_iload dX11_mostFrom_90 rfl rfl ?_
      refine aw_if_lt (tgt := 197) dX11_mostFrom_92 (by decide) rfl (by omega) (fun c92 => ?_) (fun c92 => ?_)
      · exact hk cs _ _ _ rfl z6 (hR.iff (fun t ht => by
          constructor
          · rintro (a | ⟨s, q, a⟩)
            · exact Or.inl a
            · exact Or.inr ⟨s, q, Nat.zero_le _, a⟩
          · rintro (a | ⟨s, q, -, a⟩)
            · exact Or.inl a
            · exact Or.inr ⟨s, q, a⟩))
      · exfalso; omega
    | succ j ih =>
      intro sI cs x6 x7 z6 hj hsI hR
      have hsI2 : sI = (j : Int) := by push_cast at hsI; omega
      subst hsI2
      have own : (C j ∨ ∃ s q : Nat, j + 1 ≤ s ∧ s < 64 ∧ C s ∧ fi ≤ q ∧ q < N ∧ s.testBit q = false ∧ zbt (mem 115 q) x = true ∧ j = s ||| 1 <<< q) ↔ C j := by
        constructor
        · rintro (a | ⟨s, q, a1, a2, a3, a4, a5, a6, a7, a8⟩)
          · exact a
          · have := set_gt s a2 q (by omega) a6
            omega
        · exact Or.inl
      have nxt : ∀ (cs : Int → Int) (x6 x7 : Option AV), zlong x6 = false → Rep cs (fun t => (C t ∨ ∃ s q : Nat, j + 1 ≤ s ∧ s < 64 ∧ C s ∧ fi ≤ q ∧ q < N ∧ s.testBit q = false ∧ zbt (mem 115 q) x = true ∧ t = s ||| 1 <<< q) ∨ (C j ∧ ∃ q : Nat, fi ≤ q ∧ q < N ∧ j.testBit q = false ∧ zbt (mem 115 q) x = true ∧ t = j ||| 1 <<< q)) → AW Γ mX11_mostFrom (zF Γ zG Q) zG 0 0 191 [some (vR 109), some (vI fi), some (vI taken), some (vI out), some (vI x), some (vI j), x6, x7] [] (mcell mem 117 cs) := by
        intro cs2 y6 y7 zy hR2
        refine aw_iinc5 rfl dX11_mostFrom_191 rfl (by decide) ?_
        refine aw_goto (tgt := 90) dX11_mostFrom_194 (by decide) ?_
        refine ih _ cs2 _ _ zy (by omega) (by omega) (hR2.iff (fun t ht => ?_))
        constructor
        · rintro (a | ⟨s, q, a1, a2, a3, a4⟩)
          · exact Or.inl (Or.inl a)
          · by_cases e : s = j
            · subst e; exact Or.inr ⟨a3, q, a4⟩
            · exact Or.inl (Or.inr ⟨s, q, by omega, a2, a3, a4⟩)
        · rintro ((a | ⟨s, q, a1, a2, a3, a4⟩) | ⟨a3, q, a4⟩)
          · exact Or.inl a
          · exact Or.inr ⟨s, q, by omega, a2, a3, a4⟩
          · exact Or.inr ⟨j, q, Nat.le_refl _, by omega, a3, a4⟩
      have hsx := hR j (by omega)
      have cut107 : ∀ x7 : Option AV, AW Γ mX11_mostFrom (zF Γ zG Q) zG 0 0 107 [some (vR 109), some (vI fi), some (vI taken), some (vI out), some (vI x), some (vI j), some (vI fi), x7] [] (mcell mem 117 cs) := by
        intro x7
        rcases hsx with ⟨a, b⟩ | ⟨a, b⟩
        · refine loopE out x (fun t => C t ∨ ∃ s q : Nat, j + 1 ≤ s ∧ s < 64 ∧ C s ∧ fi ≤ q ∧ q < N ∧ s.testBit q = false ∧ zbt (mem 115 q) x = true ∧ t = s ||| 1 <<< q) j (by omega) hx b (fun cs2 y6 y7 zy hR2 => ?_) (max fi N - fi) fi cs x7 (by omega) (Nat.le_refl _) (hR.iff (fun t ht => ?_))
          · refine nxt cs2 y6 y7 zy (hR2.iff (fun t ht => ?_))
            constructor
            · rintro (z | ⟨-, z⟩)
              · exact Or.inl z
              · exact Or.inr z
            · rintro (z | z)
              · exact Or.inl z
              · exact Or.inr ⟨own.mp b, z⟩
          · constructor
            · rintro (z | ⟨q, q1, q2, -⟩)
              · exact z
              · omega
            · exact Or.inl
        · have hn107 : ∀ y6 : Option AV, zlong y6 = false → AW Γ mX11_mostFrom (zF Γ zG Q) zG 0 0 191 [some (vR 109), some (vI fi), some (vI taken), some (vI out), some (vI x), some (vI j), y6, x7] [] (mcell mem 117 cs) := fun y6 zy => nxt cs y6 x7 zy (hR.iff (fun t ht => ⟨fun z => z.elim id (fun y => absurd (own.mpr y.1) b), Or.inl⟩))
          refine aw_iload dX11_mostFrom_107 rfl rfl ?_
          refine aw_aload_n dX11_mostFrom_109 rfl rfl ?_
          refine aw_getR dX11_mostFrom_110 rfl fl_X11_7 g109 (by rfl) ?_
          refine aw_bipush dX11_mostFrom_113 rfl (by decide) ?_
          refine aw_iaload dX11_mostFrom_115 rfl g110 (by decide) (by omega) ?_
          try simp only [mcell_ap, mset_ap, Nat.reduceEqDiff, reduceIte]
          refine aw_icmp_ge (tgt := 191) dX11_mostFrom_116 (by decide) rfl (by omega) (by omega) (fun c116 => ?_) (fun c116 => ?_)
          · exact hn107 _ rfl
          · refine aw_aload_n dX11_mostFrom_119 rfl rfl ?_
            refine aw_getR dX11_mostFrom_120 rfl fl_X11_32 g109 (by rfl) ?_
            refine aw_iload dX11_mostFrom_123 rfl rfl ?_
            refine aw_zaload dX11_mostFrom_125 rfl g117 (by decide) (by omega) ?_
            try simp only [mcell_ap, mset_ap, Nat.reduceEqDiff, reduceIte]
            refine aw_if_eq (tgt := 191) dX11_mostFrom_126 (by decide) rfl (by omega) (fun c126 => ?_) (fun c126 => ?_)
            · exact hn107 _ rfl
            · exfalso; omega
      have rtk := zand_rng (zshr taken x) 1
      refine aw_iload dX11_mostFrom_90 rfl rfl ?_
      refine aw_if_lt (tgt := 197) dX11_mostFrom_92 (by decide) rfl (by omega) (fun c92 => ?_) (fun c92 => ?_)
      · exfalso; omega
      · refine aw_iload_n dX11_mostFrom_95 rfl rfl ?_
        refine aw_iload dX11_mostFrom_96 rfl rfl ?_
        refine aw_ishr dX11_mostFrom_98 rfl ?_
        refine aw_iconst dX11_mostFrom_99 rfl ?_
        refine aw_iand dX11_mostFrom_100 rfl ?_
        refine aw_if_ne (tgt := 197) dX11_mostFrom_101 (by decide) rfl (by omega) (fun c101 => ?_) (fun c101 => ?_)
        · exfalso; omega
        · refine aw_iload_n dX11_mostFrom_104 rfl rfl ?_
          refine aw_istore6 rfl dX11_mostFrom_105 rfl (by decide) ?_
          exact cut107 _
  have loopC : ∀ (out : Nat), out < 64 → (∀ p : Nat, p < 6 → (out.testBit p = true ↔ fi ≤ p ∧ p < N ∧ mem 116 p = 1)) → ∀ (d x : Nat) (cs : Int → Int) (x5 x6 x7 : Option AV), zlong x5 = false → zlong x6 = false → (x : Int) + d = 3 * n → Rep cs (Cn (fun p x => zbt (mem 115 p) x) fi N (fun x => zbt taken x) x) → AW Γ mX11_mostFrom (zF Γ zG Q) zG 0 0 75 [some (vR 109), some (vI fi), some (vI taken), some (vI out), some (vI x), x5, x6, x7] [] (mcell mem 117 cs) := by
    intro out hout hob d
    induction d with
    | zero =>
      intro x cs x5 x6 x7 z5 z6 hx hR
      obtain rfl : x = (3 * n).toNat := by omega
      refine aw_iload dX11_mostFrom_75 rfl rfl ?_
      refine aw_iconst dX11_mostFrom_77 rfl ?_
      refine aw_aload_n dX11_mostFrom_78 rfl rfl ?_
      refine aw_getI (kI := 3) dX11_mostFrom_79 rfl fl_X11_73 g109 (by rfl) rfl ?_
      try simp only [mcell_ap, mset_ap, Nat.reduceEqDiff, reduceIte]
      refine aw_imul dX11_mostFrom_82 rfl ?_
      refine aw_icmp_ge (tgt := 203) dX11_mostFrom_83 (by decide) rfl (by omega) (by omega) (fun c83 => ?_) (fun c83 => ?_)
      · refine aw_iconst dX11_mostFrom_203 rfl ?_
        refine aw_istore4 rfl dX11_mostFrom_204 rfl (by decide) ?_
        refine aw_iconst dX11_mostFrom_206 rfl ?_
        refine aw_istore5 rfl dX11_mostFrom_207 rfl (by decide) ?_
        exact loopF out cs hout hob hR 64 0 0 _ _ (by omega) (by omega) (Or.inl rfl) (fun S hS => by omega)
      · exfalso; omega
    | succ d ih =>
      intro x cs x5 x6 x7 z5 z6 hx hR
      have rtk := zand_rng (zshr taken x) 1
      have bt : zand (zshr taken x) 1 = if zbt taken x then 1 else 0 := zbit (by omega)
      have tail : ∀ (cs : Int → Int) (x5 x6 x7 : Option AV), zlong x5 = false → zlong x6 = false → Rep cs (Cn (fun p x => zbt (mem 115 p) x) fi N (fun x => zbt taken x) (x + 1)) → AW Γ mX11_mostFrom (zF Γ zG Q) zG 0 0 197 [some (vR 109), some (vI fi), some (vI taken), some (vI out), some (vI x), x5, x6, x7] [] (mcell mem 117 cs) := by
        intro cs2 y5 y6 y7 zy5 zy6 hR2
        refine aw_iinc4 rfl dX11_mostFrom_197 rfl (by decide) ?_
        refine aw_goto (tgt := 75) dX11_mostFrom_200 (by decide) ?_
        exact ih (x + 1) cs2 _ _ _ zy5 zy6 (by push_cast; omega) hR2
      have at90 : AW Γ mX11_mostFrom (zF Γ zG Q) zG 0 0 90 [some (vR 109), some (vI fi), some (vI taken), some (vI out), some (vI x), some (vI 63), x6, x7] [] (mcell mem 117 cs) := by
        cases htk : zbt taken x
        · refine loopD out x (Cn (fun p x => zbt (mem 115 p) x) fi N (fun x => zbt taken x) x) (by omega) htk (fun cs2 y5 y6 y7 zy5 zy6 hR2 => tail cs2 y5 y6 y7 zy5 zy6 (hR2.iff (fun t ht => ?_))) 64 63 cs x6 x7 z6 (by omega) (by omega) (hR.iff (fun t ht => ?_))
          · constructor
            · rintro (a | ⟨-, s, q, a1, a2, a3, a4, a5, a6, a7⟩)
              · exact Or.inl a
              · exact Or.inr ⟨s, q, a1, a2, a3, a4, a5, a6, a7⟩
            · rintro (a | ⟨s, q, a1, a2, a3, a4, a5, a6, a7⟩)
              · exact Or.inl a
              · exact Or.inr ⟨htk, s, q, a1, a2, a3, a4, a5, a6, a7⟩
          · constructor
            · rintro (a | ⟨s, q, a1, a2, -⟩)
              · exact a
              · omega
            · exact Or.inl
        · rw [htk] at bt
          have bt1 : zand (zshr taken x) 1 = 1 := bt
          have t197 := tail cs (some (vI 63)) x6 x7 rfl z6 (hR.iff (fun t ht => by
            constructor
            · rintro (a | ⟨a, -⟩)
              · exact a
              · have a2 : zbt taken x = false := a
                rw [htk] at a2; cases a2
            · exact Or.inl))
          refine aw_iload dX11_mostFrom_90 rfl rfl ?_
          refine aw_if_lt (tgt := 197) dX11_mostFrom_92 (by decide) rfl (by omega) (fun c92 => ?_) (fun c92 => ?_)
          · first | (exfalso; omega) | exact t197
          · refine aw_iload_n dX11_mostFrom_95 rfl rfl ?_
            refine aw_iload dX11_mostFrom_96 rfl rfl ?_
            refine aw_ishr dX11_mostFrom_98 rfl ?_
            refine aw_iconst dX11_mostFrom_99 rfl ?_
            refine aw_iand dX11_mostFrom_100 rfl ?_
            refine aw_if_ne (tgt := 197) dX11_mostFrom_101 (by decide) rfl (by omega) (fun c101 => ?_) (fun c101 => ?_)
            · first | (exfalso; omega) | exact t197
            · exfalso; omega
      refine aw_iload dX11_mostFrom_75 rfl rfl ?_
      refine aw_iconst dX11_mostFrom_77 rfl ?_
      refine aw_aload_n dX11_mostFrom_78 rfl rfl ?_
      refine aw_getI (kI := 3) dX11_mostFrom_79 rfl fl_X11_73 g109 (by rfl) rfl ?_
      try simp only [mcell_ap, mset_ap, Nat.reduceEqDiff, reduceIte]
      refine aw_imul dX11_mostFrom_82 rfl ?_
      refine aw_icmp_ge (tgt := 203) dX11_mostFrom_83 (by decide) rfl (by omega) (by omega) (fun c83 => ?_) (fun c83 => ?_)
      · exfalso; omega
      · refine aw_bipush dX11_mostFrom_86 rfl (by decide) ?_
        refine aw_istore5 rfl dX11_mostFrom_88 rfl (by decide) ?_
        exact at90
  have loopB : ∀ (cs : Int → Int), Rep cs (fun S => S = 0) → ∀ (d p out : Nat) (x5 x6 x7 : Option AV), zlong x5 = false → zlong x6 = false → p + d = max fi N → fi ≤ p → out < 64 → (∀ q : Nat, q < 6 → (out.testBit q = true ↔ fi ≤ q ∧ q < p ∧ q < N ∧ mem 116 q = 1)) → AW Γ mX11_mostFrom (zF Γ zG Q) zG 0 0 38 [some (vR 109), some (vI fi), some (vI taken), some (vI out), some (vI p), x5, x6, x7] [] (mcell mem 117 cs) := by
    intro cs hR d
    induction d with
    | zero =>
      intro p out x5 x6 x7 z5 z6 hp hfp hout hob
      refine aw_iload dX11_mostFrom_38 rfl rfl ?_
      refine aw_aload_n dX11_mostFrom_40 rfl rfl ?_
      refine aw_getR dX11_mostFrom_41 rfl fl_X11_7 g109 (by rfl) ?_
      refine aw_bipush dX11_mostFrom_44 rfl (by decide) ?_
      refine aw_iaload dX11_mostFrom_46 rfl g110 (by decide) (by omega) ?_
      try simp only [mcell_ap, mset_ap, Nat.reduceEqDiff, reduceIte]
      refine aw_icmp_ge (tgt := 72) dX11_mostFrom_47 (by decide) rfl (by omega) (by omega) (fun c47 => ?_) (fun c47 => ?_)
      · refine aw_iconst dX11_mostFrom_72 rfl ?_
        refine aw_istore4 rfl dX11_mostFrom_73 rfl (by decide) ?_
        exact loopC out hout (fun q hq => by rw [hob q hq]; constructor; (rintro ⟨a, b, c⟩; exact ⟨a, c⟩); (rintro ⟨a, b, c⟩; exact ⟨a, by omega, b, c⟩)) (3 * n).toNat 0 cs _ _ _ z5 z6 (by omega) hR
      · exfalso; omega
    | succ d ih =>
      intro p out x5 x6 x7 z5 z6 hp hfp hout hob
      have nxt : ∀ (b : Int), mem 116 p = b → p < N → AW Γ mX11_mostFrom (zF Γ zG Q) zG 0 0 38 [some (vR 109), some (vI fi), some (vI taken), some (vI (zor out (zshl b p))), some (vI (p + 1 : Nat)), x5, x6, x7] [] (mcell mem 117 cs) := by
        intro b hb hpN
        rcases hgo p hpN with e | e
        · rw [← hb, e, zshl_0, zor_0 (by omega)]
          refine ih (p + 1) out _ _ _ z5 z6 (by omega) (by omega) hout (fun q hq => ?_)
          rw [hob q hq]
          constructor
          · rintro ⟨a, b2, c⟩
            exact ⟨a, by omega, c⟩
          · rintro ⟨a, b2, c1, c2⟩
            by_cases e2 : q = p
            · subst e2; omega
            · exact ⟨a, by omega, c1, c2⟩
        · obtain ⟨so1, so2, so3⟩ := set_or out hout p (by omega)
          rw [← hb, e, so1]
          refine ih (p + 1) _ _ _ _ z5 z6 (by omega) (by omega) so2 (fun q hq => ?_)
          rw [Nat.testBit_or, Nat.one_shiftLeft, Nat.testBit_two_pow]
          simp only [Bool.or_eq_true, decide_eq_true_eq, hob q hq]
          constructor
          · rintro (⟨a, b2, c⟩ | rfl)
            · exact ⟨a, by omega, c⟩
            · exact ⟨hfp, by omega, hpN, e⟩
          · rintro ⟨a, b2, c1, c2⟩
            by_cases e2 : p = q
            · exact Or.inr e2
            · exact Or.inl ⟨a, by omega, c1, c2⟩
      have hg01 : p < N → 0 ≤ mem 116 p ∧ mem 116 p ≤ 1 := fun z => by rcases hgo p z with e | e <;> omega
      refine aw_iload dX11_mostFrom_38 rfl rfl ?_
      refine aw_aload_n dX11_mostFrom_40 rfl rfl ?_
      refine aw_getR dX11_mostFrom_41 rfl fl_X11_7 g109 (by rfl) ?_
      refine aw_bipush dX11_mostFrom_44 rfl (by decide) ?_
      refine aw_iaload dX11_mostFrom_46 rfl g110 (by decide) (by omega) ?_
      try simp only [mcell_ap, mset_ap, Nat.reduceEqDiff, reduceIte]
      refine aw_icmp_ge (tgt := 72) dX11_mostFrom_47 (by decide) rfl (by omega) (by omega) (fun c47 => ?_) (fun c47 => ?_)
      · exfalso; omega
      · refine aw_iload_n dX11_mostFrom_50 rfl rfl ?_
        refine aw_aload_n dX11_mostFrom_51 rfl rfl ?_
        refine aw_getR dX11_mostFrom_52 rfl fl_X11_29 g109 (by rfl) ?_
        refine aw_iload dX11_mostFrom_55 rfl rfl ?_
        refine aw_zaload dX11_mostFrom_57 rfl g116 (by decide) (by omega) ?_
        try simp only [mcell_ap, mset_ap, Nat.reduceEqDiff, reduceIte]
        refine aw_callS [_] _ dX11_mostFrom_58 rfl cls_X11_208 (by decide) ⟨Nat.zero_le _, Nat.zero_le _⟩ (Nat.le_of_ble_eq_true rfl) rfl ?_
        refine sR_flag (hg01 (by omega)) ?_
        refine aw_iload dX11_mostFrom_61 rfl rfl ?_
        refine aw_ishl dX11_mostFrom_63 rfl ?_
        refine aw_ior dX11_mostFrom_64 rfl ?_
        refine aw_istore3 rfl dX11_mostFrom_65 rfl (by decide) ?_
        refine aw_iinc4 rfl dX11_mostFrom_66 rfl (by decide) ?_
        refine aw_goto (tgt := 38) dX11_mostFrom_69 (by decide) ?_
        exact nxt _ rfl (by omega)
  have loopA : ∀ (d i : Nat), i + d = 64 → AW Γ mX11_mostFrom (zF Γ zG Q) zG 0 0 5 [some (vR 109), some (vI fi), some (vI taken), some (vI 0), some (vI i), none, none, none] [] (mcell mem 117 (fun t => if 0 ≤ t ∧ t < i then (if t = 0 then 1 else 0) else mem 117 t)) := by
    intro d
    induction d with
    | zero =>
      intro i hi
      obtain rfl : i = 64 := by omega
      have hR : Rep (fun t => if 0 ≤ t ∧ t < ((64 : Nat) : Int) then (if t = 0 then 1 else 0) else mem 117 t) (fun S => S = 0) := by
        intro t ht
        dsimp only
        rw [if_pos (by omega)]
        by_cases e : t = 0
        · subst e; exact Or.inl ⟨rfl, rfl⟩
        · rw [if_neg (by omega)]; exact Or.inr ⟨rfl, e⟩
      refine aw_iload dX11_mostFrom_5 rfl rfl ?_
      refine aw_bipush dX11_mostFrom_7 rfl (by decide) ?_
      refine aw_icmp_ge (tgt := 35) dX11_mostFrom_9 (by decide) rfl (by omega) (by omega) (fun c9 => ?_) (fun c9 => ?_)
      · refine aw_iload_n dX11_mostFrom_35 rfl rfl ?_
        refine aw_istore4 rfl dX11_mostFrom_36 rfl (by decide) ?_
        exact loopB _ hR (max fi N - fi) fi 0 _ _ _ rfl rfl (by omega) (Nat.le_refl _) (by omega) (fun q hq => by rw [Nat.zero_testBit]; constructor; (intro z; cases z); (rintro ⟨a, b, c⟩; omega))
      · exfalso; omega
    | succ d ih =>
      intro i hi
      have nxt : ∀ b : Int, b = (if (i : Int) = 0 then 1 else 0) → AW Γ mX11_mostFrom (zF Γ zG Q) zG 0 0 28 [some (vR 109), some (vI fi), some (vI taken), some (vI 0), some (vI i), none, none, none] [vI b, vI i, vR 117] (mcell mem 117 (fun t => if 0 ≤ t ∧ t < i then (if t = 0 then 1 else 0) else mem 117 t)) := by
        intro b hb
        have hb2 : 0 ≤ b ∧ b ≤ 1 := by rw [hb]; split <;> omega
        refine aw_zastore dX11_mostFrom_28 rfl g117 (by decide) (by omega) (by omega) ?_
        rw [mset_mcell, show fset (fun t => if 0 ≤ t ∧ t < (i : Int) then (if t = 0 then 1 else 0) else mem 117 t) (i : Int) b = (fun t => if 0 ≤ t ∧ t < ((i + 1 : Nat) : Int) then (if t = 0 then 1 else 0) else mem 117 t) from funext (fun t => by unfold fset; dsimp only; rw [hb]; push_cast; (repeat' split) <;> first | rfl | omega)]
        refine aw_iinc4 rfl dX11_mostFrom_29 rfl (by decide) ?_
        refine aw_goto (tgt := 5) dX11_mostFrom_32 (by decide) ?_
        exact ih (i + 1) (by omega)
      refine aw_iload dX11_mostFrom_5 rfl rfl ?_
      refine aw_bipush dX11_mostFrom_7 rfl (by decide) ?_
      refine aw_icmp_ge (tgt := 35) dX11_mostFrom_9 (by decide) rfl (by omega) (by omega) (fun c9 => ?_) (fun c9 => ?_)
      · exfalso; omega
      · refine aw_aload_n dX11_mostFrom_12 rfl rfl ?_
        refine aw_getR dX11_mostFrom_13 rfl fl_X11_32 g109 (by rfl) ?_
        refine aw_iload dX11_mostFrom_16 rfl rfl ?_
        refine aw_iload dX11_mostFrom_18 rfl rfl ?_
        refine aw_if_ne (tgt := 27) dX11_mostFrom_20 (by decide) rfl (by omega) (fun c20 => ?_) (fun c20 => ?_)
        · refine aw_iconst dX11_mostFrom_27 rfl ?_
          exact nxt _ (by (repeat' split) <;> omega)
        · refine aw_iconst dX11_mostFrom_23 rfl ?_
          refine aw_goto (tgt := 28) dX11_mostFrom_24 (by decide) ?_
          exact nxt _ (by (repeat' split) <;> omega)
  refine AMet.of' 5 (ls := [some (vR (109)), some (vI (fi)), some (vI (taken)), none, none, none, none, none]) (by decide) rfl (Nat.le_of_ble_eq_true rfl) ?_
  refine aw_iconst dX11_mostFrom_0 rfl ?_
  refine aw_istore3 rfl dX11_mostFrom_1 rfl (by decide) ?_
  refine aw_iconst dX11_mostFrom_2 rfl ?_
  refine aw_istore4 rfl dX11_mostFrom_3 rfl (by decide) ?_
  have l0 := loopA 64 0 (by omega)
  rw [show (fun t => if 0 ≤ t ∧ t < ((0 : Nat) : Int) then (if t = 0 then 1 else 0) else mem 117 t) = mem 117 from funext (fun t => if_neg (by omega)), mcell_self] at l0
  exact l0
end ZRef17
