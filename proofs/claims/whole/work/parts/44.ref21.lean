theorem needC_congr {a b : Prop} [Decidable a] [Decidable b] (h : a ↔ b) {c : Int} {g : Int → Int} : needC a c g = needC b c g := by
  unfold needC
  by_cases hb : b
  · rw [if_neg (fun z => z.1 (h.mpr hb)), if_neg (fun z => z.1 hb)]
  · by_cases e : g 18 = 0
    · rw [if_pos ⟨fun z => hb (h.mp z), e⟩, if_pos ⟨hb, e⟩]
    · rw [if_neg (fun z => e z.2), if_neg (fun z => e z.2)]
theorem needC_t {a : Prop} [Decidable a] (h : a) {c : Int} {g : Int → Int} : needC a c g = g := by
  unfold needC
  rw [if_neg (fun z => z.1 h)]
/-- what next() leaves, by the token's own numbers -/
def tokC (b kd e v : Int) (g : Int → Int) : Int → Int := fun j => if j = 14 then e else if j = 15 then b else if j = 16 then kd else if j = 17 then (if kd = 2 then v else g 17) else g j
theorem nextC_eq {t g : Int → Int} (h0 : g 18 = 0) : nextC t g = needC (¬ tkX t (g 13) (g 14)) 1 (tokC (tkB t (g 13) (g 14)) (tkK t (g 13) (g 14)) (tkE t (g 13) (g 14)) (tkV t (g 13) (g 14)) g) := by
  unfold nextC
  rw [if_neg (by omega)]
  rfl
theorem tokC_13 {b kd e v : Int} {g : Int → Int} : tokC b kd e v g 13 = g 13 := rfl
theorem tokC_14 {b kd e v : Int} {g : Int → Int} : tokC b kd e v g 14 = e := rfl
theorem tokC_15 {b kd e v : Int} {g : Int → Int} : tokC b kd e v g 15 = b := rfl
theorem tokC_17 {b e v : Int} {g : Int → Int} : tokC b 2 e v g 17 = v := rfl
theorem tokC_18 {b kd e v : Int} {g : Int → Int} : tokC b kd e v g 18 = g 18 := rfl
theorem tokC_s14 {b kd e v w : Int} {g : Int → Int} : fset (tokC b kd e v g) 14 w = tokC b kd w v g := by
  funext j
  unfold fset tokC
  split <;> rfl
theorem tokC_s17 {b e v w : Int} {g : Int → Int} : fset (tokC b 2 e v g) 17 w = tokC b 2 e w g := by
  funext j
  unfold fset tokC
  by_cases h : j = 17
  · subst h; rfl
  · rw [if_neg h, if_neg h, if_neg h]
theorem tokC_in {b kd : Int} {g : Int → Int} (h : ¬ kd = 2) (v : Int) : fset (fset (fset g 14 b) 15 b) 16 kd = tokC b kd b v g := by
  funext j
  unfold fset tokC
  rw [if_neg h]
  by_cases h14 : j = 14
  · subst h14; rfl
  · rw [if_neg h14, if_neg h14]
    by_cases h16 : j = 16
    · subst h16; rfl
    · rw [if_neg h16, if_neg h16]
      by_cases h17 : j = 17
      · subst h17; rfl
      · rw [if_neg h17]
theorem tokC_in2 {b v : Int} {g : Int → Int} : fset (fset (fset (fset g 14 b) 15 b) 16 2) 17 v = tokC b 2 b v g := by
  funext j
  unfold fset tokC
  by_cases h14 : j = 14
  · subst h14; rfl
  · rw [if_neg h14, if_neg h14]
    by_cases h16 : j = 16
    · subst h16; rfl
    · rw [if_neg h16, if_neg h16]
      by_cases h17 : j = 17
      · subst h17; rfl
      · rw [if_neg h17, if_neg h17]
theorem tokC_v {b kd e v w : Int} {g : Int → Int} (h : ¬ kd = 2) : tokC b kd e v g = tokC b kd e w g := by
  funext j
  unfold tokC
  rw [if_neg h, if_neg h]
theorem needC_s14 {a : Prop} [Decidable a] {c w : Int} {g : Int → Int} : fset (needC a c g) 14 w = needC a c (fset g 14 w) := by
  unfold needC
  by_cases h : ¬ a ∧ g 18 = 0
  · rw [if_pos h, if_pos (show _ ∧ fset g 14 w 18 = 0 from h)]
    funext j
    unfold fset
    by_cases h14 : j = 14
    · subst h14; rfl
    · rw [if_neg h14]
      by_cases h19 : j = 19
      · subst h19; rfl
      · rw [if_neg h19, if_neg h19, if_neg h14]
  · rw [if_neg h, if_neg (show ¬ (_ ∧ fset g 14 w 18 = 0) from h)]
theorem needC_14 {a : Prop} [Decidable a] {c : Int} {g : Int → Int} : needC a c g 14 = g 14 := by
  unfold needC
  split <;> rfl
def vF (t : Int → Int) (b p : Int) : Int := if p ≤ b then 0 else if p - b ≤ 1 then t b - 48 else 10 * (t b - 48) + (t (b + 1) - 48)
theorem vF_s1 {t : Int → Int} {b p : Int} (h : b ≤ p) (h2 : p - b < 2) : 10 * vF t b p + t p - 48 = vF t b (p + 1) := by
  unfold vF
  rw [if_neg (show ¬ p + 1 ≤ b by omega)]
  by_cases e : p = b
  · subst e
    rw [if_pos (by omega), if_pos (by omega)]
    omega
  · obtain rfl : p = b + 1 := by omega
    rw [if_neg (by omega), if_pos (by omega), if_neg (by omega)]
    omega
theorem vF_s2 {t : Int → Int} {b p : Int} (h2 : ¬ p - b < 2) : vF t b p = vF t b (p + 1) := by
  unfold vF
  rw [if_neg (show ¬ p + 1 ≤ b by omega), if_neg (show ¬ p ≤ b by omega), if_neg (by omega), if_neg (by omega)]
section ZRef21
variable {Γ : ZG} {mem : Mem} {Q : Option AV → Mem → Prop}
theorem sR_nextF (h18 : 0 < mem 109 18 ∧ mem 109 18 ≤ 6) (k : Q none mem) : AMet Γ mX11_next [vR 109] zG mem Q := by
  refine AMet.of' 1 (ls := [some (vR (109)), none]) (by decide) rfl (Nat.le_of_ble_eq_true rfl) ?_
  refine aw_aload_n dX11_next_0 rfl rfl ?_
  refine aw_getI (kI := 18) dX11_next_1 rfl fl_X11_85 g109 (by rfl) rfl ?_
  refine aw_if_le (tgt := 8) dX11_next_4 (by decide) rfl (by omega) (fun c4 => ?_) (fun c4 => ?_)
  · exfalso; omega
  · refine aw_return dX11_next_7 rfl ?_
    exact k
theorem sR_next0 (hf : mem 109 18 = 0) (hL : 0 ≤ mem 109 13 ∧ mem 109 13 ≤ 160) (hp : 0 ≤ mem 109 14 ∧ mem 109 14 ≤ mem 109 13) (ht : ∀ i : Int, 0 ≤ i → i < mem 109 13 → 0 ≤ mem 114 i ∧ mem 114 i ≤ 127) (k : Q none (mcell mem 109 (nextC (mem 114) (mem 109)))) : AMet Γ mX11_next [vR 109] zG mem Q := by
  have lk : ∀ p : Int, 0 ≤ p → -1 ≤ lookF (mem 114) (mem 109 13) p ∧ lookF (mem 114) (mem 109 13) p ≤ 127 := by
    intro p h0
    unfold lookF
    split
    · have := ht p h0 (by assumption); omega
    · omega
  have kk := k
  rw [nextC_eq hf] at kk
  have kN : ∀ (good : Prop) [Decidable good] (h : Int → Int), (good ↔ ¬ tkX (mem 114) (mem 109 13) (mem 109 14)) → h = tokC (tkB (mem 114) (mem 109 13) (mem 109 14)) (tkK (mem 114) (mem 109 13) (mem 109 14)) (tkE (mem 114) (mem 109 13) (mem 109 14)) (tkV (mem 114) (mem 109 13) (mem 109 14)) (mem 109) → Q none (mcell mem 109 (needC good 1 h)) := by
    intro good _ h hg hh
    subst hh
    rw [needC_congr hg]
    exact kk
  -- behind the blanks
  have seg : ∀ b : Int, 0 ≤ b ∧ b ≤ mem 109 13 → b = tkB (mem 114) (mem 109 13) (mem 109 14) → AW Γ mX11_next (zF Γ zG Q) zG 0 0 34 [some (vR 109), none] [] (mcell mem 109 (fset (mem 109) 14 b)) := by
    intro b hb hbe
    have lb := lk b hb.1
    have bK : tkK (mem 114) (mem 109 13) (mem 109 14) = (if lookF (mem 114) (mem 109 13) b < 0 then 0 else if 97 ≤ lookF (mem 114) (mem 109 13) b ∧ lookF (mem 114) (mem 109 13) b ≤ 122 then 1 else if 48 ≤ lookF (mem 114) (mem 109 13) b ∧ lookF (mem 114) (mem 109 13) b ≤ 57 then 2 else 3) := by
      unfold tkK; rw [← hbe]
    -- a name
    have loop82 : tkK (mem 114) (mem 109 13) (mem 109 14) = 1 → ∀ (d : Nat) (p : Int), p + d = mem 109 13 → b ≤ p → endF (mem 114) (mem 109 13) 97 122 p = endF (mem 114) (mem 109 13) 97 122 b → ∀ x1 : Option AV, AW Γ mX11_next (zF Γ zG Q) zG 0 0 82 [some (vR 109), x1] [] (mcell mem 109 (tokC b 1 p 0 (mem 109))) := by
      intro hK d
      have fin : ∀ (p : Int) (x1 : Option AV), p = endF (mem 114) (mem 109 13) 97 122 b → AW Γ mX11_next (zF Γ zG Q) zG 0 0 274 [some (vR 109), x1] [] (mcell mem 109 (tokC b 1 p 0 (mem 109))) := by
        intro p x1 hpe
        have hE : tkE (mem 114) (mem 109 13) (mem 109 14) = p := by
          unfold tkE
          rw [if_neg (by omega), if_pos hK, ← hbe, hpe]
        refine aw_return dX11_next_274 rfl ?_
        refine q_eq (kN True (tokC b 1 p 0 (mem 109)) (by unfold tkX; rw [hK]; simp) ?_) rfl (by rw [needC_t trivial])
        rw [hK, hE, ← hbe, tokC_v (by decide)]
      induction d with
      | zero =>
        intro p hpL hbp e x1
        have hlk : lookF (mem 114) (mem 109 13) p = -1 := by unfold lookF; rw [if_neg (by omega)]
        have hpe : p = endF (mem 114) (mem 109 13) 97 122 b := by rw [← e, endF_n (by rw [hlk]; omega)]
        refine aw_aload_n dX11_next_82 rfl rfl ?_
        refine aw_aload_n dX11_next_83 rfl rfl ?_
        refine aw_getI (kI := 14) dX11_next_84 rfl fl_X11_94 g109 (by rfl) rfl ?_
        refine aw_callV [_] _ dX11_next_87 rfl clv_X11_97 (by decide) ⟨Nat.zero_le _, Nat.zero_le _⟩ g109 (by rfl) (Nat.le_of_ble_eq_true rfl) rfl ?_
        refine sR_look (by rw [mcell_same, tokC_14]; omega) (by rw [mcell_same, tokC_13]; exact hL) ?_
        rw [mcell_same, tokC_14, mcell_ne (by decide), tokC_13, hlk]
        refine aw_i2l dX11_next_90 rfl (by omega) ?_
        refine aw_ldc2 (a := 97) dX11_next_91 rfl lc_X11_112 (by decide) ?_
        refine aw_ldc2 (a := 122) dX11_next_94 rfl lc_X11_114 (by decide) ?_
        refine aw_callS [_, _, _] _ dX11_next_97 rfl cls_X11_78 (by decide) ⟨Nat.zero_le _, Nat.zero_le _⟩ (Nat.le_of_ble_eq_true rfl) rfl ?_
        refine sR_in (by omega) (by omega) (by omega) (fun c97 => ?_) (fun c97 => ?_)
        · refine aw_if_eq (tgt := 274) dX11_next_100 (by decide) rfl (by omega) (fun c => absurd c (by decide)) (fun _ => ?_)
          exfalso; omega
        · refine aw_if_eq (tgt := 274) dX11_next_100 (by decide) rfl (by omega) (fun _ => ?_) (fun c => absurd c (by decide))
          exact fin p _ hpe
      | succ d ih =>
        intro p hpL hbp e x1
        have lp := lk p (by omega)
        refine aw_aload_n dX11_next_82 rfl rfl ?_
        refine aw_aload_n dX11_next_83 rfl rfl ?_
        refine aw_getI (kI := 14) dX11_next_84 rfl fl_X11_94 g109 (by rfl) rfl ?_
        refine aw_callV [_] _ dX11_next_87 rfl clv_X11_97 (by decide) ⟨Nat.zero_le _, Nat.zero_le _⟩ g109 (by rfl) (Nat.le_of_ble_eq_true rfl) rfl ?_
        refine sR_look (by rw [mcell_same, tokC_14]; omega) (by rw [mcell_same, tokC_13]; exact hL) ?_
        rw [mcell_same, tokC_14, mcell_ne (by decide), tokC_13]
        refine aw_i2l dX11_next_90 rfl (by omega) ?_
        refine aw_ldc2 (a := 97) dX11_next_91 rfl lc_X11_112 (by decide) ?_
        refine aw_ldc2 (a := 122) dX11_next_94 rfl lc_X11_114 (by decide) ?_
        refine aw_callS [_, _, _] _ dX11_next_97 rfl cls_X11_78 (by decide) ⟨Nat.zero_le _, Nat.zero_le _⟩ (Nat.le_of_ble_eq_true rfl) rfl ?_
        refine sR_in (by omega) (by omega) (by omega) (fun c97 => ?_) (fun c97 => ?_)
        · refine aw_if_eq (tgt := 274) dX11_next_100 (by decide) rfl (by omega) (fun c => absurd c (by decide)) (fun _ => ?_)
          refine aw_aload_n dX11_next_103 rfl rfl ?_
          refine aw_dup dX11_next_104 rfl rfl ?_
          refine aw_getI (kI := 14) dX11_next_105 rfl fl_X11_94 g109 (by rfl) rfl ?_
          rw [mcell_same, tokC_14]
          refine aw_iconst dX11_next_108 rfl ?_
          refine aw_iadd dX11_next_109 rfl ?_
          refine aw_putI (kI := 14) dX11_next_110 rfl fp_X11_94 g109 (by rfl) rfl ?_
          rw [mset_mcell, tokC_s14]
          refine aw_goto (tgt := 82) dX11_next_113 (by decide) ?_
          exact ih (p + 1) (by push_cast at hpL; omega) (by omega) (by rw [← endF_y (by omega) c97]; exact e) _
        · refine aw_if_eq (tgt := 274) dX11_next_100 (by decide) rfl (by omega) (fun _ => ?_) (fun c => absurd c (by decide))
          exact fin p _ (by rw [← e, endF_n c97])
    -- a number
    have loop140 : tkK (mem 114) (mem 109 13) (mem 109 14) = 2 → ∀ (d : Nat) (p : Int), p + d = mem 109 13 → b ≤ p → endF (mem 114) (mem 109 13) 48 57 p = endF (mem 114) (mem 109 13) 48 57 b → ∀ x1 : Option AV, AW Γ mX11_next (zF Γ zG Q) zG 0 0 140 [some (vR 109), x1] [] (mcell mem 109 (tokC b 2 p (vF (mem 114) b p) (mem 109))) := by
      intro hK d
      have hlb : 48 ≤ lookF (mem 114) (mem 109 13) b ∧ lookF (mem 114) (mem 109 13) b ≤ 57 := by
        rw [bK] at hK
        by_cases h : 48 ≤ lookF (mem 114) (mem 109 13) b ∧ lookF (mem 114) (mem 109 13) b ≤ 57
        · exact h
        · exfalso
          rw [if_neg h] at hK
          split at hK
          · omega
          · split at hK <;> omega
      have fin : ∀ (p : Int) (x1 : Option AV), b ≤ p → p ≤ mem 109 13 → p = endF (mem 114) (mem 109 13) 48 57 b → AW Γ mX11_next (zF Γ zG Q) zG 0 0 217 [some (vR 109), x1] [] (mcell mem 109 (tokC b 2 p (vF (mem 114) b p) (mem 109))) := by
        intro p x1 hbp hpL hpe
        have hE : tkE (mem 114) (mem 109 13) (mem 109 14) = p := by
          unfold tkE
          rw [if_neg (by omega), if_neg (by omega), if_pos hK, ← hbe, hpe]
        have hbL : b < mem 109 13 := by
          by_cases h : b < mem 109 13
          · exact h
          · exfalso
            unfold lookF at hlb
            rw [if_neg h] at hlb
            omega
        have hpb : b < p := by
          have := endF_r (t := mem 114) (L := mem 109 13) (lo := 48) (hi := 57) (p := b + 1) (by omega) (by omega)
          rw [← endF_y (by omega) hlb, ← hpe] at this
          omega
        have hV : tkV (mem 114) (mem 109 13) (mem 109 14) = vF (mem 114) b p := by
          unfold tkV vF
          rw [hE, ← hbe, if_neg (show ¬ p ≤ b by omega)]
        have kk2 : ∀ (good : Prop) [Decidable good], (good ↔ p - b ≤ 2) → Q none (mcell mem 109 (needC good 1 (tokC b 2 p (vF (mem 114) b p) (mem 109)))) := by
          intro good _ hg
          refine kN good _ ?_ ?_
          · rw [hg]
            unfold tkX
            rw [hK, hE, ← hbe]
            constructor
            · intro h z
              rcases z with z | z
              · omega
              · exact absurd z.1 (by decide)
            · intro h
              by_cases h2 : p - b ≤ 2
              · exact h2
              · exact absurd (Or.inl ⟨rfl, by omega⟩) h
          · rw [hK, hE, ← hbe, hV]
        refine aw_aload_n dX11_next_217 rfl rfl ?_
        refine aw_aload_n dX11_next_218 rfl rfl ?_
        refine aw_getI (kI := 14) dX11_next_219 rfl fl_X11_94 g109 (by rfl) rfl ?_
        rw [mcell_same, tokC_14]
        refine aw_aload_n dX11_next_222 rfl rfl ?_
        refine aw_getI (kI := 15) dX11_next_223 rfl fl_X11_88 g109 (by rfl) rfl ?_
        rw [mcell_same, tokC_15]
        refine aw_isub dX11_next_226 rfl ?_
        refine aw_iconst dX11_next_227 rfl ?_
        refine aw_icmp_gt (tgt := 235) dX11_next_228 (by decide) rfl (by omega) (by omega) (fun c228 => ?_) (fun c228 => ?_)
        · refine aw_iconst dX11_next_235 rfl ?_
          refine aw_iconst dX11_next_236 rfl ?_
          refine aw_callV [_, _] _ dX11_next_237 rfl clv_X11_123 (by decide) ⟨Nat.zero_le _, Nat.zero_le _⟩ g109 (by rfl) (Nat.le_of_ble_eq_true rfl) rfl ?_
          refine sR_needs (p - b ≤ 2) (by omega) (by rw [mcell_same, tokC_18]; omega) ?_
          rw [mcell_same, mcell_mcell]
          refine aw_goto (tgt := 274) dX11_next_240 (by decide) ?_
          refine aw_return dX11_next_274 rfl ?_
          exact kk2 _ Iff.rfl
        · refine aw_iconst dX11_next_231 rfl ?_
          refine aw_goto (tgt := 236) dX11_next_232 (by decide) ?_
          refine aw_iconst dX11_next_236 rfl ?_
          refine aw_callV [_, _] _ dX11_next_237 rfl clv_X11_123 (by decide) ⟨Nat.zero_le _, Nat.zero_le _⟩ g109 (by rfl) (Nat.le_of_ble_eq_true rfl) rfl ?_
          refine sR_needs (p - b ≤ 2) (by omega) (by rw [mcell_same, tokC_18]; omega) ?_
          rw [mcell_same, mcell_mcell]
          refine aw_goto (tgt := 274) dX11_next_240 (by decide) ?_
          refine aw_return dX11_next_274 rfl ?_
          exact kk2 _ Iff.rfl
      induction d with
      | zero =>
        intro p hpL hbp e x1
        have hlk : lookF (mem 114) (mem 109 13) p = -1 := by unfold lookF; rw [if_neg (by omega)]
        have hpe : p = endF (mem 114) (mem 109 13) 48 57 b := by rw [← e, endF_n (by rw [hlk]; omega)]
        refine aw_aload_n dX11_next_140 rfl rfl ?_
        refine aw_aload_n dX11_next_141 rfl rfl ?_
        refine aw_getI (kI := 14) dX11_next_142 rfl fl_X11_94 g109 (by rfl) rfl ?_
        refine aw_callV [_] _ dX11_next_145 rfl clv_X11_97 (by decide) ⟨Nat.zero_le _, Nat.zero_le _⟩ g109 (by rfl) (Nat.le_of_ble_eq_true rfl) rfl ?_
        refine sR_look (by rw [mcell_same, tokC_14]; omega) (by rw [mcell_same, tokC_13]; exact hL) ?_
        rw [mcell_same, tokC_14, mcell_ne (by decide), tokC_13, hlk]
        refine aw_i2l dX11_next_148 rfl (by omega) ?_
        refine aw_ldc2 (a := 48) dX11_next_149 rfl lc_X11_116 (by decide) ?_
        refine aw_ldc2 (a := 57) dX11_next_152 rfl lc_X11_118 (by decide) ?_
        refine aw_callS [_, _, _] _ dX11_next_155 rfl cls_X11_78 (by decide) ⟨Nat.zero_le _, Nat.zero_le _⟩ (Nat.le_of_ble_eq_true rfl) rfl ?_
        refine sR_in (by omega) (by omega) (by omega) (fun c155 => ?_) (fun c155 => ?_)
        · refine aw_if_eq (tgt := 217) dX11_next_158 (by decide) rfl (by omega) (fun c => absurd c (by decide)) (fun _ => ?_)
          exfalso; omega
        · refine aw_if_eq (tgt := 217) dX11_next_158 (by decide) rfl (by omega) (fun _ => ?_) (fun c => absurd c (by decide))
          exact fin p _ hbp (by omega) hpe
      | succ d ih =>
        intro p hpL hbp e x1
        have lp := lk p (by omega)
        have hlk : lookF (mem 114) (mem 109 13) p = mem 114 p := by unfold lookF; rw [if_pos (by push_cast at hpL; omega)]
        have tail : ∀ v : Int, v = vF (mem 114) b (p + 1) → (48 ≤ lookF (mem 114) (mem 109 13) p ∧ lookF (mem 114) (mem 109 13) p ≤ 57) → AW Γ mX11_next (zF Γ zG Q) zG 0 0 201 [some (vR 109), x1] [vI v, vR 109] (mcell mem 109 (tokC b 2 p (vF (mem 114) b p) (mem 109))) := by
          intro v hv c
          subst hv
          refine aw_putI (kI := 17) dX11_next_201 rfl fp_X11_120 (by first | assumption | rfl) (by rfl) rfl ?_
          rw [mset_mcell, tokC_s17]
          refine aw_aload_n dX11_next_204 rfl rfl ?_
          refine aw_dup dX11_next_205 rfl rfl ?_
          refine aw_getI (kI := 14) dX11_next_206 rfl fl_X11_94 g109 (by rfl) rfl ?_
          rw [mcell_same, tokC_14]
          refine aw_iconst dX11_next_209 rfl ?_
          refine aw_iadd dX11_next_210 rfl ?_
          refine aw_putI (kI := 14) dX11_next_211 rfl fp_X11_94 g109 (by rfl) rfl ?_
          rw [mset_mcell, tokC_s14]
          refine aw_goto (tgt := 140) dX11_next_214 (by decide) ?_
          exact ih (p + 1) (by push_cast at hpL; omega) (by omega) (by rw [← endF_y (by omega) c]; exact e) _
        refine aw_aload_n dX11_next_140 rfl rfl ?_
        refine aw_aload_n dX11_next_141 rfl rfl ?_
        refine aw_getI (kI := 14) dX11_next_142 rfl fl_X11_94 g109 (by rfl) rfl ?_
        refine aw_callV [_] _ dX11_next_145 rfl clv_X11_97 (by decide) ⟨Nat.zero_le _, Nat.zero_le _⟩ g109 (by rfl) (Nat.le_of_ble_eq_true rfl) rfl ?_
        refine sR_look (by rw [mcell_same, tokC_14]; omega) (by rw [mcell_same, tokC_13]; exact hL) ?_
        rw [mcell_same, tokC_14, mcell_ne (by decide), tokC_13]
        refine aw_i2l dX11_next_148 rfl (by omega) ?_
        refine aw_ldc2 (a := 48) dX11_next_149 rfl lc_X11_116 (by decide) ?_
        refine aw_ldc2 (a := 57) dX11_next_152 rfl lc_X11_118 (by decide) ?_
        refine aw_callS [_, _, _] _ dX11_next_155 rfl cls_X11_78 (by decide) ⟨Nat.zero_le _, Nat.zero_le _⟩ (Nat.le_of_ble_eq_true rfl) rfl ?_
        refine sR_in (by omega) (by omega) (by omega) (fun c155 => ?_) (fun c155 => ?_)
        · refine aw_if_eq (tgt := 217) dX11_next_158 (by decide) rfl (by omega) (fun c => absurd c (by decide)) (fun _ => ?_)
          refine aw_aload_n dX11_next_161 rfl rfl ?_
          refine aw_aload_n dX11_next_162 rfl rfl ?_
          refine aw_getI (kI := 14) dX11_next_163 rfl fl_X11_94 g109 (by rfl) rfl ?_
          rw [mcell_same, tokC_14]
          refine aw_aload_n dX11_next_166 rfl rfl ?_
          refine aw_getI (kI := 15) dX11_next_167 rfl fl_X11_88 g109 (by rfl) rfl ?_
          rw [mcell_same, tokC_15]
          refine aw_isub dX11_next_170 rfl ?_
          refine aw_iconst dX11_next_171 rfl ?_
          refine aw_icmp_ge (tgt := 197) dX11_next_172 (by decide) rfl (by omega) (by omega) (fun c172 => ?_) (fun c172 => ?_)
          · refine aw_aload_n dX11_next_197 rfl rfl ?_
            refine aw_getI (kI := 17) dX11_next_198 rfl fl_X11_120 g109 (by rfl) rfl ?_
            first | (have hz := tail (10 * vF (mem 114) b p + mem 114 p - 48) (vF_s1 (by omega) (by omega)) c155; exact hz) | (have hz := tail (vF (mem 114) b p) (vF_s2 (by omega)) c155; exact hz)
          · refine aw_bipush dX11_next_175 rfl (by decide) ?_
            refine aw_aload_n dX11_next_177 rfl rfl ?_
            refine aw_getI (kI := 17) dX11_next_178 rfl fl_X11_120 g109 (by rfl) rfl ?_
            rw [mcell_same, tokC_17]
            refine aw_imul dX11_next_181 rfl ?_
            refine aw_aload_n dX11_next_182 rfl rfl ?_
            refine aw_aload_n dX11_next_183 rfl rfl ?_
            refine aw_getI (kI := 14) dX11_next_184 rfl fl_X11_94 g109 (by rfl) rfl ?_
            refine aw_callV [_] _ dX11_next_187 rfl clv_X11_97 (by decide) ⟨Nat.zero_le _, Nat.zero_le _⟩ g109 (by rfl) (Nat.le_of_ble_eq_true rfl) rfl ?_
            refine sR_look (by rw [mcell_same, tokC_14]; omega) (by rw [mcell_same, tokC_13]; exact hL) ?_
            rw [mcell_same, tokC_14, mcell_ne (by decide), tokC_13, hlk]
            refine aw_iadd dX11_next_190 rfl ?_
            refine aw_bipush dX11_next_191 rfl (by decide) ?_
            refine aw_isub dX11_next_193 rfl ?_
            refine aw_goto (tgt := 201) dX11_next_194 (by decide) ?_
            first | (have hz := tail (10 * vF (mem 114) b p + mem 114 p - 48) (vF_s1 (by omega) (by omega)) c155; exact hz) | (have hz := tail (vF (mem 114) b p) (vF_s2 (by omega)) c155; exact hz)
        · refine aw_if_eq (tgt := 217) dX11_next_158 (by decide) rfl (by omega) (fun _ => ?_) (fun c => absurd c (by decide))
          exact fin p _ hbp (by push_cast at hpL; omega) (by rw [← e, endF_n c155])
    have v0 : vF (mem 114) b b = 0 := by
      unfold vF
      rw [if_pos (by omega)]
    have hEnd : lookF (mem 114) (mem 109 13) b < 0 → Q none (mcell mem 109 (tokC b 0 b 0 (mem 109))) := by
      intro h
      have hK : tkK (mem 114) (mem 109 13) (mem 109 14) = 0 := by rw [bK, if_pos h]
      have hE : tkE (mem 114) (mem 109 13) (mem 109 14) = b := by
        unfold tkE
        rw [if_pos hK, ← hbe]
      refine q_eq (kN True (tokC b 0 b 0 (mem 109)) (by unfold tkX; rw [hK]; simp) ?_) rfl (by rw [needC_t trivial])
      rw [hK, hE, ← hbe, tokC_v (by decide)]
    have hOne : ¬ lookF (mem 114) (mem 109 13) b < 0 → ¬ (97 ≤ lookF (mem 114) (mem 109 13) b ∧ lookF (mem 114) (mem 109 13) b ≤ 122) → ¬ (48 ≤ lookF (mem 114) (mem 109 13) b ∧ lookF (mem 114) (mem 109 13) b ≤ 57) → Q none (mcell mem 109 (needC (lookF (mem 114) (mem 109 13) b = 59) 1 (tokC b 3 (b + 1) 0 (mem 109)))) := by
      intro h1 h2 h3
      have hK : tkK (mem 114) (mem 109 13) (mem 109 14) = 3 := by rw [bK, if_neg h1, if_neg h2, if_neg h3]
      have hE : tkE (mem 114) (mem 109 13) (mem 109 14) = b + 1 := by
        unfold tkE
        rw [if_neg (by omega), if_neg (by omega), if_neg (by omega), ← hbe]
      refine kN _ _ ?_ ?_
      · unfold tkX
        rw [hK, hE, ← hbe]
        constructor
        · intro h z
          rcases z with z | z
          · exact absurd z.1 (by decide)
          · exact z.2 h
        · intro h
          by_cases e : lookF (mem 114) (mem 109 13) b = 59
          · exact e
          · exact absurd (Or.inr ⟨rfl, e⟩) h
      · rw [hK, hE, ← hbe, tokC_v (by decide)]
    refine aw_aload_n dX11_next_34 rfl rfl ?_
    refine aw_aload_n dX11_next_35 rfl rfl ?_
    refine aw_getI (kI := 14) dX11_next_36 rfl fl_X11_94 g109 (by rfl) rfl ?_
    rw [mcell_same, fset_same]
    refine aw_putI (kI := 15) dX11_next_39 rfl fp_X11_88 g109 (by rfl) rfl ?_
    rw [mset_mcell]
    refine aw_aload_n dX11_next_42 rfl rfl ?_
    refine aw_aload_n dX11_next_43 rfl rfl ?_
    refine aw_getI (kI := 14) dX11_next_44 rfl fl_X11_94 g109 (by rfl) rfl ?_
    rw [mcell_same, fset_ne (by decide), fset_same]
    refine aw_callV [_] _ dX11_next_47 rfl clv_X11_97 (by decide) ⟨Nat.zero_le _, Nat.zero_le _⟩ g109 (by rfl) (Nat.le_of_ble_eq_true rfl) rfl ?_
    refine sR_look (by omega) (by rw [mcell_same, fset_ne (by decide), fset_ne (by decide)]; exact hL) ?_
    rw [mcell_same, mcell_ne (by decide), fset_ne (by decide), fset_ne (by decide)]
    refine aw_istore1 rfl dX11_next_50 rfl (by decide) ?_
    refine aw_iload_n dX11_next_51 rfl rfl ?_
    refine aw_if_ge (tgt := 63) dX11_next_52 (by decide) rfl (by omega) (fun c52 => ?_) (fun c52 => ?_)
    · refine aw_iload_n dX11_next_63 rfl rfl ?_
      refine aw_i2l dX11_next_64 rfl (by omega) ?_
      refine aw_ldc2 (a := 97) dX11_next_65 rfl lc_X11_112 (by decide) ?_
      refine aw_ldc2 (a := 122) dX11_next_68 rfl lc_X11_114 (by decide) ?_
      refine aw_callS [_, _, _] _ dX11_next_71 rfl cls_X11_78 (by decide) ⟨Nat.zero_le _, Nat.zero_le _⟩ (Nat.le_of_ble_eq_true rfl) rfl ?_
      refine sR_in (by omega) (by omega) (by omega) (fun c71 => ?_) (fun c71 => ?_)
      · refine aw_if_eq (tgt := 116) dX11_next_74 (by decide) rfl (by omega) (fun c => absurd c (by decide)) (fun _ => ?_)
        refine aw_aload_n dX11_next_77 rfl rfl ?_
        refine aw_iconst dX11_next_78 rfl ?_
        refine aw_putI (kI := 16) dX11_next_79 rfl fp_X11_109 g109 (by rfl) rfl ?_
        rw [mset_mcell, tokC_in (by decide) 0]
        exact loop82 (by rw [bK, if_neg (by omega), if_pos c71]) (mem 109 13 - b).toNat b (by omega) (by omega) rfl _
      · refine aw_if_eq (tgt := 116) dX11_next_74 (by decide) rfl (by omega) (fun _ => ?_) (fun c => absurd c (by decide))
        refine aw_iload_n dX11_next_116 rfl rfl ?_
        refine aw_i2l dX11_next_117 rfl (by omega) ?_
        refine aw_ldc2 (a := 48) dX11_next_118 rfl lc_X11_116 (by decide) ?_
        refine aw_ldc2 (a := 57) dX11_next_121 rfl lc_X11_118 (by decide) ?_
        refine aw_callS [_, _, _] _ dX11_next_124 rfl cls_X11_78 (by decide) ⟨Nat.zero_le _, Nat.zero_le _⟩ (Nat.le_of_ble_eq_true rfl) rfl ?_
        refine sR_in (by omega) (by omega) (by omega) (fun c124 => ?_) (fun c124 => ?_)
        · refine aw_if_eq (tgt := 243) dX11_next_127 (by decide) rfl (by omega) (fun c => absurd c (by decide)) (fun _ => ?_)
          refine aw_aload_n dX11_next_130 rfl rfl ?_
          refine aw_iconst dX11_next_131 rfl ?_
          refine aw_putI (kI := 16) dX11_next_132 rfl fp_X11_109 g109 (by rfl) rfl ?_
          refine aw_aload_n dX11_next_135 rfl rfl ?_
          refine aw_iconst dX11_next_136 rfl ?_
          refine aw_putI (kI := 17) dX11_next_137 rfl fp_X11_120 g109 (by rfl) rfl ?_
          have hz := loop140 (by rw [bK, if_neg (by omega), if_neg c71, if_pos c124]) (mem 109 13 - b).toNat b (by omega) (by omega) rfl
          rw [v0] at hz
          rw [mset_mcell, mset_mcell, tokC_in2]
          exact hz _
        · refine aw_if_eq (tgt := 243) dX11_next_127 (by decide) rfl (by omega) (fun _ => ?_) (fun c => absurd c (by decide))
          refine aw_aload_n dX11_next_243 rfl rfl ?_
          refine aw_iconst dX11_next_244 rfl ?_
          refine aw_putI (kI := 16) dX11_next_245 rfl fp_X11_109 g109 (by rfl) rfl ?_
          rw [mset_mcell, tokC_in (by decide) 0]
          refine aw_aload_n dX11_next_248 rfl rfl ?_
          refine aw_iload_n dX11_next_249 rfl rfl ?_
          refine aw_bipush dX11_next_250 rfl (by decide) ?_
          refine aw_icmp_ne (tgt := 259) dX11_next_252 (by decide) rfl (by omega) (by omega) (fun c252 => ?_) (fun c252 => ?_)
          · refine aw_iconst dX11_next_259 rfl ?_
            refine aw_iconst dX11_next_260 rfl ?_
            refine aw_callV [_, _] _ dX11_next_261 rfl clv_X11_123 (by decide) ⟨Nat.zero_le _, Nat.zero_le _⟩ g109 (by rfl) (Nat.le_of_ble_eq_true rfl) rfl ?_
            refine sR_needs (lookF (mem 114) (mem 109 13) b = 59) (by omega) (by rw [mcell_same, tokC_18]; omega) ?_
            rw [mcell_same, mcell_mcell]
            refine aw_aload_n dX11_next_264 rfl rfl ?_
            refine aw_dup dX11_next_265 rfl rfl ?_
            refine aw_getI (kI := 14) dX11_next_266 rfl fl_X11_94 g109 (by rfl) rfl ?_
            rw [mcell_same, needC_14, tokC_14]
            refine aw_iconst dX11_next_269 rfl ?_
            refine aw_iadd dX11_next_270 rfl ?_
            refine aw_putI (kI := 14) dX11_next_271 rfl fp_X11_94 g109 (by rfl) rfl ?_
            try rw [mset_mcell, needC_s14, tokC_s14]
            refine aw_return dX11_next_274 rfl ?_
            first | exact hOne (by omega) c71 c124 | exact hEnd (by omega)
          · refine aw_iconst dX11_next_255 rfl ?_
            refine aw_goto (tgt := 260) dX11_next_256 (by decide) ?_
            refine aw_iconst dX11_next_260 rfl ?_
            refine aw_callV [_, _] _ dX11_next_261 rfl clv_X11_123 (by decide) ⟨Nat.zero_le _, Nat.zero_le _⟩ g109 (by rfl) (Nat.le_of_ble_eq_true rfl) rfl ?_
            refine sR_needs (lookF (mem 114) (mem 109 13) b = 59) (by omega) (by rw [mcell_same, tokC_18]; omega) ?_
            rw [mcell_same, mcell_mcell]
            refine aw_aload_n dX11_next_264 rfl rfl ?_
            refine aw_dup dX11_next_265 rfl rfl ?_
            refine aw_getI (kI := 14) dX11_next_266 rfl fl_X11_94 g109 (by rfl) rfl ?_
            rw [mcell_same, needC_14, tokC_14]
            refine aw_iconst dX11_next_269 rfl ?_
            refine aw_iadd dX11_next_270 rfl ?_
            refine aw_putI (kI := 14) dX11_next_271 rfl fp_X11_94 g109 (by rfl) rfl ?_
            try rw [mset_mcell, needC_s14, tokC_s14]
            refine aw_return dX11_next_274 rfl ?_
            first | exact hOne (by omega) c71 c124 | exact hEnd (by omega)
    · refine aw_aload_n dX11_next_55 rfl rfl ?_
      refine aw_iconst dX11_next_56 rfl ?_
      refine aw_putI (kI := 16) dX11_next_57 rfl fp_X11_109 g109 (by rfl) rfl ?_
      rw [mset_mcell, tokC_in (by decide) 0]
      refine aw_goto (tgt := 274) dX11_next_60 (by decide) ?_
      try rw [mset_mcell, needC_s14, tokC_s14]
      refine aw_return dX11_next_274 rfl ?_
      first | exact hOne (by omega) c71 c124 | exact hEnd (by omega)
  -- the blanks
  have loop8 : ∀ (d : Nat) (p : Int), p + d = mem 109 13 → 0 ≤ p → endF (mem 114) (mem 109 13) 32 32 p = tkB (mem 114) (mem 109 13) (mem 109 14) → AW Γ mX11_next (zF Γ zG Q) zG 0 0 8 [some (vR 109), none] [] (mcell mem 109 (fset (mem 109) 14 p)) := by
    intro d
    induction d with
    | zero =>
      intro p hpL hp0 e
      have hlk : lookF (mem 114) (mem 109 13) p = -1 := by unfold lookF; rw [if_neg (by omega)]
      refine aw_aload_n dX11_next_8 rfl rfl ?_
      refine aw_aload_n dX11_next_9 rfl rfl ?_
      refine aw_getI (kI := 14) dX11_next_10 rfl fl_X11_94 g109 (by rfl) rfl ?_
      refine aw_callV [_] _ dX11_next_13 rfl clv_X11_97 (by decide) ⟨Nat.zero_le _, Nat.zero_le _⟩ g109 (by rfl) (Nat.le_of_ble_eq_true rfl) rfl ?_
      refine sR_look (by rw [mcell_same, fset_same]; omega) (by rw [mcell_same, fset_ne (by decide)]; exact hL) ?_
      rw [mcell_same, fset_same, mcell_ne (by decide), fset_ne (by decide), hlk]
      refine aw_bipush dX11_next_16 rfl (by decide) ?_
      refine aw_icmp_ne (tgt := 34) dX11_next_18 (by decide) rfl (by omega) (by omega) (fun c18 => ?_) (fun c18 => ?_)
      · exact seg p (by omega) (by rw [← e, endF_n (by rw [hlk]; omega)])
      · exfalso; omega
    | succ d ih =>
      intro p hpL hp0 e
      have lp := lk p (by omega)
      refine aw_aload_n dX11_next_8 rfl rfl ?_
      refine aw_aload_n dX11_next_9 rfl rfl ?_
      refine aw_getI (kI := 14) dX11_next_10 rfl fl_X11_94 g109 (by rfl) rfl ?_
      refine aw_callV [_] _ dX11_next_13 rfl clv_X11_97 (by decide) ⟨Nat.zero_le _, Nat.zero_le _⟩ g109 (by rfl) (Nat.le_of_ble_eq_true rfl) rfl ?_
      refine sR_look (by rw [mcell_same, fset_same]; push_cast at hpL; omega) (by rw [mcell_same, fset_ne (by decide)]; exact hL) ?_
      rw [mcell_same, fset_same, mcell_ne (by decide), fset_ne (by decide)]
      refine aw_bipush dX11_next_16 rfl (by decide) ?_
      refine aw_icmp_ne (tgt := 34) dX11_next_18 (by decide) rfl (by omega) (by omega) (fun c18 => ?_) (fun c18 => ?_)
      · exact seg p (by push_cast at hpL; omega) (by rw [← e, endF_n (by omega)])
      · refine aw_aload_n dX11_next_21 rfl rfl ?_
        refine aw_dup dX11_next_22 rfl rfl ?_
        refine aw_getI (kI := 14) dX11_next_23 rfl fl_X11_94 g109 (by rfl) rfl ?_
        rw [mcell_same, fset_same]
        refine aw_iconst dX11_next_26 rfl ?_
        refine aw_iadd dX11_next_27 rfl ?_
        refine aw_putI (kI := 14) dX11_next_28 rfl fp_X11_94 g109 (by rfl) rfl ?_
        rw [mset_mcell, show fset (fset (mem 109) 14 p) 14 (p + 1) = fset (mem 109) 14 (p + 1) from funext (fun j => by unfold fset; split <;> rfl)]
        refine aw_goto (tgt := 8) dX11_next_31 (by decide) ?_
        exact ih (p + 1) (by push_cast at hpL; omega) (by omega) (by rw [← endF_y (by omega) (by omega)]; exact e)
  have hst := loop8 (mem 109 13 - mem 109 14).toNat (mem 109 14) (by omega) (by omega) rfl
  rw [show mcell mem 109 (fset (mem 109) 14 (mem 109 14)) = mem from by
    rw [show fset (mem 109) 14 (mem 109 14) = mem 109 from funext (fun j => by unfold fset; by_cases h : j = 14; (rw [if_pos h, h]); (rw [if_neg h]))]
    exact mcell_self] at hst
  refine AMet.of' 1 (ls := [some (vR (109)), none]) (by decide) rfl (Nat.le_of_ble_eq_true rfl) ?_
  refine aw_aload_n dX11_next_0 rfl rfl ?_
  refine aw_getI (kI := 18) dX11_next_1 rfl fl_X11_85 g109 (by rfl) rfl ?_
  refine aw_if_le (tgt := 8) dX11_next_4 (by decide) rfl (by omega) (fun c4 => ?_) (fun c4 => ?_)
  · exact hst
  · exfalso; omega
theorem sR_nextV (hf : 0 ≤ mem 109 18 ∧ mem 109 18 ≤ 6) (hL : 0 ≤ mem 109 13 ∧ mem 109 13 ≤ 160) (hp : 0 ≤ mem 109 14 ∧ mem 109 14 ≤ mem 109 13) (ht : ∀ i : Int, 0 ≤ i → i < mem 109 13 → 0 ≤ mem 114 i ∧ mem 114 i ≤ 127) (k : Q none (mcell mem 109 (nextC (mem 114) (mem 109)))) : AMet Γ mX11_next [vR 109] zG mem Q := by
  by_cases h : mem 109 18 = 0
  · exact sR_next0 h hL hp ht k
  · refine sR_nextF (by omega) (q_eq k rfl ?_)
    unfold nextC
    rw [if_pos (by omega)]
    exact mcell_self
end ZRef21
