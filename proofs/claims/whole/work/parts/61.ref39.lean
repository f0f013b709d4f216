def textA (r : Except Int (Int × PSt)) : Int := match r with
  | .error a => -10 - a / 8
  | .ok q => q.1
def TextO (mem : Mem) (r : Except Int (Int × PSt)) (m' : Mem) : Prop := (0 ≤ m' 109 17 ∧ m' 109 17 ≤ 99) ∧ m' 109 13 = 0 ∧ (∀ j : Int, (j < 5 ∧ ¬ j = 3) ∨ j = 12 ∨ 19 < j → m' 109 j = mem 109 j) ∧ match r with
  | .error a => FrX m' mem [109, 113] ∧ m' 109 18 = a % 8 ∧ m' 109 3 = mem 109 3
  | .ok q => FrX m' mem [109, 110, 112, 113] ∧ m' 110 = fcopy q.2.2 (mem 110) 0 0 115 ∧ m' 109 3 = q.2.1 5 ∧ m' 109 18 = 0 ∧ (m' 112 0 = 0 ∧ m' 112 1 = 0)
theorem tkK_0 {t : Int → Int} {L p : Int} (ht : ∀ i : Int, 0 ≤ i → i < L → 0 ≤ t i ∧ t i ≤ 127) (hp : 0 ≤ p ∧ p ≤ L) (h : tkK t L p = 0) : tkB t L p = L := by
  have hb := tkB_rng (t := t) hp
  unfold tkK at h
  split at h
  · next hl =>
    unfold lookF at hl
    split at hl
    · next hlt => have := ht (tkB t L p) (by omega) hlt; omega
    · omega
  · split at h
    · omega
    · split at h <;> omega
theorem textL_s {t : Int → Int} {L : Int} (f : Nat) (n : Int) (s : PSt) : textL t L (f + 1) n s = (if tkX t L s.p then .error (erX t L s.p) else if tkK t L s.p = 0 then .ok (n, s) else match lineP t L s with
    | .error a => .error a
    | .ok s' => textL t L f (n + 1) s') := rfl
section ZRef39
variable {Γ : ZG} {mem : Mem} {Q : Option AV → Mem → Prop}
theorem textStart {m1 : Mem} (tp : TpOK mem) (h17 : 0 ≤ mem 109 17 ∧ mem 109 17 ≤ 99) (hf : FrX m1 mem [109, 113]) (hd : m1 113 = D0) (h5 : m1 109 5 = 3 ∧ m1 109 6 = 0 ∧ m1 109 7 = 0 ∧ m1 109 8 = 0 ∧ m1 109 9 = -4 ∧ m1 109 10 = -4 ∧ m1 109 11 = -4) (h18 : m1 109 18 = 0) (h14 : m1 109 14 = 0) (hg : ∀ j : Int, (j < 5 ∨ 11 < j) → ¬ j = 14 → ¬ j = 18 → m1 109 j = mem 109 j) : RefR mem (.ok P0) (mcell m1 109 (nextC (m1 114) (m1 109))) := by
  have e114 : m1 114 = mem 114 := hf 114 (by decide)
  have e13 : m1 109 13 = mem 109 13 := hg 13 (by omega) (by omega) (by omega)
  have e17 : m1 109 17 = mem 109 17 := hg 17 (by omega) (by omega) (by omega)
  have hp : 0 ≤ m1 109 14 ∧ m1 109 14 ≤ mem 109 13 := by have := tp.1; omega
  rw [nextC_eq h18, e13, e114, h14]
  rw [h14] at hp
  have hB := tkB_rng (t := mem 114) hp
  have hE := tkE_rng (t := mem 114) hp
  have hK := tkK_rng (t := mem 114) (L := mem 109 13) (p := 0)
  have hF : ∀ g : Int → Int, (∀ j : Int, ¬ j = 18 → ¬ j = 19 → g j = tokC (tkB (mem 114) (mem 109 13) 0) (tkK (mem 114) (mem 109 13) 0) (tkE (mem 114) (mem 109 13) 0) (tkV (mem 114) (mem 109 13) 0) (m1 109) j) → RefFr mem (mcell m1 109 g) := by
    intro g hgg
    refine ⟨hf.cell (by decide), ?_, ?_, ?_, ?_, ?_⟩
    · intro j hj
      rw [mcell_same, hgg j (by omega) (by omega)]
      unfold tokC
      rw [if_neg (by omega), if_neg (by omega), if_neg (by omega), if_neg (by omega)]
      exact hg j (by omega) (by omega) (by omega)
    · rw [mcell_same, hgg 14 (by decide) (by decide), tokC_14]
      omega
    · rw [mcell_same, hgg 15 (by decide) (by decide), tokC_15]
      omega
    · rw [mcell_same, hgg 17 (by decide) (by decide)]
      unfold tokC
      rw [if_neg (by decide), if_neg (by decide), if_neg (by decide), if_pos rfl]
      split
      · exact tkV_rng (by assumption)
      · rw [e17]; exact h17
    · rw [mcell_same, hgg 16 (by decide) (by decide)]
      exact hK
  refine ⟨?_, ?_⟩
  · refine hF _ (fun j h18 h19 => ?_)
    unfold needC
    split
    · rw [fset_ne h19, fset_ne h18]
    · rfl
  · dsimp only
    by_cases hx : tkX (mem 114) (mem 109 13) 0
    · rw [if_pos (show tkX (mem 114) (mem 109 13) (PSt.p P0) from hx)]
      have hn : ∀ g : Int → Int, g 18 = 0 → needC (¬ tkX (mem 114) (mem 109 13) 0) 1 g = fset (fset g 18 1) 19 (g 15) := by
        intro g hg
        unfold needC
        rw [if_pos ⟨fun z => z hx, hg⟩]
      rw [hn _ (show tokC _ _ _ _ (m1 109) 18 = 0 from h18)]
      exact ⟨by rw [mcell_same, fset_ne (by decide), fset_same]; omega, by rw [mcell_same, fset_same, fset_ne (by decide), fset_same]; rfl⟩
    · rw [if_neg (show ¬ tkX (mem 114) (mem 109 13) (PSt.p P0) from hx), needC_t hx]
      refine ⟨h18, hx, rfl, rfl, rfl, ?_, ?_, ?_⟩
      · intro hk
        have hk2 : tkK (mem 114) (mem 109 13) 0 = 2 := hk
        rw [mcell_same, hk2]
        rfl
      · intro j a b
        rw [mcell_same]
        unfold tokC
        rw [if_neg (by omega), if_neg (by omega), if_neg (by omega), if_neg (by omega)]
        obtain rfl | rfl | rfl | rfl | rfl | rfl | rfl : j = 5 ∨ j = 6 ∨ j = 7 ∨ j = 8 ∨ j = 9 ∨ j = 10 ∨ j = 11 := by omega
        · exact h5.1
        · exact h5.2.1
        · exact h5.2.2.1
        · exact h5.2.2.2.1
        · exact h5.2.2.2.2.1
        · exact h5.2.2.2.2.2.1
        · exact h5.2.2.2.2.2.2
      · rw [mcell_ne (by decide)]
        exact hd
theorem sR_text (tp : TpOK mem) (h17 : 0 ≤ mem 109 17 ∧ mem 109 17 ≤ 99) (k : ∀ m' : Mem, TextO mem (textP (mem 114) (mem 109 13)) m' → Q (some (vI (textA (textP (mem 114) (mem 109 13))))) m') : AMet Γ mX11_text [vR 109] zG mem Q := by
  have s100b : ∀ (a n : Int) (m : Mem), RefFr mem m → RefBad a m → textP (mem 114) (mem 109 13) = .error a → AW Γ mX11_text (zF Γ zG Q) zG 0 0 100 [some (vR 109), some (vI n)] [] m := by
    intro a n m hF hB he
    rw [he] at k
    have fB := hB.1
    have fa := hB.2
    refine aw_aload_n dX11_text_100 rfl rfl ?_
    refine aw_iconst dX11_text_101 rfl ?_
    refine aw_putI (kI := 13) dX11_text_102 rfl fp_X11_82 g109 (by rfl) rfl ?_
    refine aw_aload_n dX11_text_105 rfl rfl ?_
    refine aw_getI (kI := 18) dX11_text_106 rfl fl_X11_85 g109 (by rfl) rfl ?_
    rw [mset_same, fset_ne (by decide)]
    refine aw_if_le (tgt := 120) dX11_text_109 (by decide) rfl (by omega) (fun c109 => ?_) (fun c109 => ?_)
    · exfalso; omega
    · refine aw_bipush dX11_text_112 rfl (by decide) ?_
      refine aw_aload_n dX11_text_114 rfl rfl ?_
      refine aw_getI (kI := 19) dX11_text_115 rfl fl_X11_91 g109 (by rfl) rfl ?_
      rw [mset_same, fset_ne (by decide)]
      refine aw_isub dX11_text_118 rfl ?_
      refine aw_ireturn (ty := .int) dX11_text_119 rfl rfl ?_
      rw [show -10 - m 109 19 = textA (.error a) by show _ = -10 - a / 8; omega]
      refine k _ ⟨?_, ?_, ?_, ?_⟩
      · exact hF.v
      · rfl
      · intro j hj
        rw [mset_eq, mcell_same, fset_ne (by omega)]
        exact hF.g j (by omega)
      · refine ⟨hF.fr.set (by decide), ?_, ?_⟩
        · show m 109 18 = _
          omega
        · exact hF.g 3 (by omega)
  have s100g : ∀ (n : Int) (s : PSt) (m : Mem), RefFr mem m → RefOk (mem 114) (mem 109 13) s m → textP (mem 114) (mem 109 13) = .ok (n, s) → AW Γ mX11_text (zF Γ zG Q) zG 0 0 100 [some (vR 109), some (vI n)] [] m := by
    intro n s m hF hO he
    rw [he] at k
    have f0 := hO.f
    refine aw_aload_n dX11_text_100 rfl rfl ?_
    refine aw_iconst dX11_text_101 rfl ?_
    refine aw_putI (kI := 13) dX11_text_102 rfl fp_X11_82 g109 (by rfl) rfl ?_
    refine aw_aload_n dX11_text_105 rfl rfl ?_
    refine aw_getI (kI := 18) dX11_text_106 rfl fl_X11_85 g109 (by rfl) rfl ?_
    rw [mset_same, fset_ne (by decide)]
    refine aw_if_le (tgt := 120) dX11_text_109 (by decide) rfl (by omega) (fun c109 => ?_) (fun c109 => ?_)
    · refine aw_aload_n dX11_text_120 rfl rfl ?_
      refine aw_callV [] _ dX11_text_121 rfl clv_X11_47 (by decide) ⟨Nat.zero_le _, Nat.zero_le _⟩ g109 (by rfl) (Nat.le_of_ble_eq_true rfl) rfl ?_
      refine sR_keepDraft (fun m2 f2 e2 e3 g2 h2 => ?_)
      refine aw_iload_n dX11_text_124 rfl rfl ?_
      refine aw_ireturn (ty := .int) dX11_text_125 rfl rfl ?_
      refine k m2 ⟨?_, ?_, ?_, ?_, ?_, ?_, ?_, h2⟩
      · rw [g2 17 (by decide)]; exact hF.v
      · rw [g2 13 (by decide)]; rfl
      · intro j hj
        rw [g2 j (by omega), mset_eq, mcell_same, fset_ne (by omega)]
        exact hF.g j (by omega)
      · intro x hx
        have h1 : x ∉ [109, 110, 112] := fun z => hx (by simp at z ⊢; omega)
        have h3 : x ∉ [109, 113] := fun z => hx (by simp at z ⊢; omega)
        rw [f2 x h1, mset_eq, mcell_ne (fun z => hx (by simp [z]))]
        exact hF.fr x h3
      · rw [e2]
        show fcopy (m 113) (m 110) 0 0 115 = _
        rw [hO.d, hF.fr 110 (by decide)]
      · rw [e3]
        exact hO.g 5 (by omega) (by omega)
      · rw [g2 18 (by decide)]
        exact f0
    · exfalso; omega
  have s44b : ∀ (a n : Int) (m : Mem), RefFr mem m → RefBad a m → textL (mem 114) (mem 109 13) 162 0 P0 = .error a → AW Γ mX11_text (zF Γ zG Q) zG 0 0 44 [some (vR 109), some (vI n)] [] m := by
    intro a n m hF hB he
    have fB := hB.1
    refine aw_aload_n dX11_text_44 rfl rfl ?_
    refine aw_getI (kI := 18) dX11_text_45 rfl fl_X11_85 g109 (by rfl) rfl ?_
    refine aw_if_ne (tgt := 100) dX11_text_48 (by decide) rfl (by omega) (fun c48 => ?_) (fun c48 => ?_)
    · exact s100b a n m hF hB (by unfold textP; rw [he]; rfl)
    · exfalso; omega
  have s44g : ∀ (n : Int) (s : PSt) (m : Mem), RefFr mem m → RefOk (mem 114) (mem 109 13) s m → tkK (mem 114) (mem 109 13) s.p = 0 → PW (mem 109 13) s → DW s → textL (mem 114) (mem 109 13) 162 0 P0 = .ok (n, s) → AW Γ mX11_text (zF Γ zG Q) zG 0 0 44 [some (vR 109), some (vI n)] [] m := by
    intro n s m hF hO hk w dw he
    have f0 := hO.f
    have eP : textP (mem 114) (mem 109 13) = if endC s then .ok (n, s) else .error (8 * mem 109 13 + 6) := by
      unfold textP
      rw [he]
      rfl
    have s95 : ∀ b : Int, (b = 1 ∧ endC s) ∨ (b = 0 ∧ ¬ endC s) → AW Γ mX11_text (zF Γ zG Q) zG 0 0 95 [some (vR 109), some (vI n)] [vI b, vR 109] m := by
      intro b hb
      have s100 : AW Γ mX11_text (zF Γ zG Q) zG 0 0 100 [some (vR 109), some (vI n)] [] (mcell m 109 (needC (endC s) 6 (m 109))) := by
        by_cases hc : endC s
        · rw [needC_t hc, mcell_self]
          exact s100g n s m hF hO (by rw [eP, if_pos hc])
        · have hn : needC (endC s) 6 (m 109) = fset (fset (m 109) 18 6) 19 (m 109 15) := by
            unfold needC
            rw [if_pos ⟨hc, f0⟩]
          rw [hn]
          refine s100b _ n _ ⟨?_, ?_, ?_, ?_, ?_, ?_⟩ ⟨?_, ?_⟩ (by rw [eP, if_neg hc])
          · exact hF.fr.cell (by decide)
          · intro j hj
            rw [mcell_same, fset_ne (by omega), fset_ne (by omega)]
            exact hF.g j hj
          · exact hF.p
          · exact hF.b
          · exact hF.v
          · exact hF.k
          · show (0 : Int) < 6 ∧ (6 : Int) ≤ 6
            omega
          · show 8 * m 109 15 + 6 = _
            rw [hO.b, tkK_0 tp.2 w.2 hk]
      refine aw_bipush dX11_text_95 rfl (by decide) ?_
      refine aw_callV [_, _] _ dX11_text_97 rfl clv_X11_123 (by decide) ⟨Nat.zero_le _, Nat.zero_le _⟩ (by first | assumption | rfl) (by rfl) (Nat.le_of_ble_eq_true rfl) rfl ?_
      refine sR_needs (endC s) hb (by omega) ?_
      exact s100
    have g5 := hO.g 5 (by omega) (by omega)
    have g9 := hO.g 9 (by omega) (by omega)
    have g10 := hO.g 10 (by omega) (by omega)
    have g11 := hO.g 11 (by omega) (by omega)
    have d46 : m 113 46 = s.2 46 := by rw [hO.d]
    have r5 := dw.1
    have r9 := w.1.2.1
    have r10 := w.1.2.2.1
    have r11 := w.1.2.2.2.1
    have r46 := w.1.2.2.2.2.2.1
    refine aw_aload_n dX11_text_44 rfl rfl ?_
    refine aw_getI (kI := 18) dX11_text_45 rfl fl_X11_85 g109 (by rfl) rfl ?_
    refine aw_if_ne (tgt := 100) dX11_text_48 (by decide) rfl (by omega) (fun c48 => ?_) (fun c48 => ?_)
    · exfalso; omega
    · refine aw_aload_n dX11_text_51 rfl rfl ?_
      refine aw_aload_n dX11_text_52 rfl rfl ?_
      refine aw_getI (kI := 9) dX11_text_53 rfl fl_X11_64 g109 (by rfl) rfl ?_
      refine aw_aload_n dX11_text_56 rfl rfl ?_
      refine aw_getI (kI := 5) dX11_text_57 rfl fl_X11_50 g109 (by rfl) rfl ?_
      refine aw_icmp_ge (tgt := 94) dX11_text_60 (by decide) rfl (by omega) (by omega) (fun c60 => ?_) (fun c60 => ?_)
      · refine aw_iconst dX11_text_94 rfl ?_
        exact s95 _ (by first | (left; refine ⟨rfl, ?_⟩; unfold endC; omega) | (right; refine ⟨rfl, ?_⟩; unfold endC; omega))
      · refine aw_aload_n dX11_text_63 rfl rfl ?_
        refine aw_getI (kI := 10) dX11_text_64 rfl fl_X11_67 g109 (by rfl) rfl ?_
        refine aw_iconst dX11_text_67 rfl ?_
        refine aw_aload_n dX11_text_68 rfl rfl ?_
        refine aw_getI (kI := 5) dX11_text_69 rfl fl_X11_50 g109 (by rfl) rfl ?_
        refine aw_imul dX11_text_72 rfl ?_
        refine aw_icmp_ge (tgt := 94) dX11_text_73 (by decide) rfl (by omega) (by omega) (fun c73 => ?_) (fun c73 => ?_)
        · refine aw_iconst dX11_text_94 rfl ?_
          exact s95 _ (by first | (left; refine ⟨rfl, ?_⟩; unfold endC; omega) | (right; refine ⟨rfl, ?_⟩; unfold endC; omega))
        · refine aw_aload_n dX11_text_76 rfl rfl ?_
          refine aw_getI (kI := 11) dX11_text_77 rfl fl_X11_70 g109 (by rfl) rfl ?_
          refine aw_aload_n dX11_text_80 rfl rfl ?_
          refine aw_getR dX11_text_81 rfl fl_X11_20 g109 (by rfl) ?_
          refine aw_bipush dX11_text_84 rfl (by decide) ?_
          refine aw_iaload dX11_text_86 rfl g113 (by decide) (by omega) ?_
          refine aw_icmp_ge (tgt := 94) dX11_text_87 (by decide) rfl (by omega) (by omega) (fun c87 => ?_) (fun c87 => ?_)
          · refine aw_iconst dX11_text_94 rfl ?_
            exact s95 _ (by first | (left; refine ⟨rfl, ?_⟩; unfold endC; omega) | (right; refine ⟨rfl, ?_⟩; unfold endC; omega))
          · refine aw_iconst dX11_text_90 rfl ?_
            refine aw_goto (tgt := 95) dX11_text_91 (by decide) ?_
            exact s95 _ (by first | (left; refine ⟨rfl, ?_⟩; unfold endC; omega) | (right; refine ⟨rfl, ?_⟩; unfold endC; omega))
  have loop : ∀ (f : Nat) (n : Int) (r : Except Int PSt) (m : Mem), RefR mem r m → (∀ s, r = .ok s → PW (mem 109 13) s ∧ DW s ∧ mem 109 13 - s.p < f) → (∀ a, r = .error a → textL (mem 114) (mem 109 13) 162 0 P0 = .error a) → (∀ s, r = .ok s → textL (mem 114) (mem 109 13) 162 0 P0 = textL (mem 114) (mem 109 13) f n s) → AW Γ mX11_text (zF Γ zG Q) zG 0 0 20 [some (vR 109), some (vI n)] [] m := by
    intro f
    induction f with
    | zero =>
      intro n r m hR hw hE hO
      have fl := hR.flt
      cases r with
      | error a =>
        have fB := hR.2.1
        refine aw_aload_n dX11_text_20 rfl rfl ?_
        refine aw_getI (kI := 18) dX11_text_21 rfl fl_X11_85 g109 (by rfl) rfl ?_
        refine aw_if_ne (tgt := 44) dX11_text_24 (by decide) rfl (by omega) (fun c24 => ?_) (fun c24 => ?_)
        · exact s44b a n m hR.1 hR.2 (hE a rfl)
        · exfalso; omega
      | ok s =>
        exfalso
        have := hw s rfl
        have := this.1.2
        omega
    | succ f ih =>
      intro n r m hR hw hE hO
      have fl := hR.flt
      cases r with
      | error a =>
        have fB := hR.2.1
        refine aw_aload_n dX11_text_20 rfl rfl ?_
        refine aw_getI (kI := 18) dX11_text_21 rfl fl_X11_85 g109 (by rfl) rfl ?_
        refine aw_if_ne (tgt := 44) dX11_text_24 (by decide) rfl (by omega) (fun c24 => ?_) (fun c24 => ?_)
        · exact s44b a n m hR.1 hR.2 (hE a rfl)
        · exfalso; omega
      | ok s =>
        obtain ⟨w, dw, hf⟩ := hw s rfl
        have e := hO s rfl
        rw [textL_s f n s] at e
        by_cases hx : tkX (mem 114) (mem 109 13) s.p
        · rw [if_pos hx] at e
          have h2 := hR.2
          dsimp only at h2
          rw [if_pos hx] at h2
          have fB := h2.1
          refine aw_aload_n dX11_text_20 rfl rfl ?_
          refine aw_getI (kI := 18) dX11_text_21 rfl fl_X11_85 g109 (by rfl) rfl ?_
          refine aw_if_ne (tgt := 44) dX11_text_24 (by decide) rfl (by omega) (fun c24 => ?_) (fun c24 => ?_)
          · exact s44b _ n m hR.1 h2 e
          · exfalso; omega
        · rw [if_neg hx] at e
          have ho := hR.ok hx
          have f0 := ho.f
          have ek := ho.k
          have kr := hR.1.k
          refine aw_aload_n dX11_text_20 rfl rfl ?_
          refine aw_getI (kI := 18) dX11_text_21 rfl fl_X11_85 g109 (by rfl) rfl ?_
          refine aw_if_ne (tgt := 44) dX11_text_24 (by decide) rfl (by omega) (fun c24 => ?_) (fun c24 => ?_)
          · first | (exfalso; omega) | exact s44g n s m hR.1 ho (by omega) w dw (by rw [if_pos (by omega)] at e; exact e)
          · refine aw_aload_n dX11_text_27 rfl rfl ?_
            refine aw_getI (kI := 16) dX11_text_28 rfl fl_X11_109 g109 (by rfl) rfl ?_
            refine aw_if_eq (tgt := 44) dX11_text_31 (by decide) rfl (by omega) (fun c31 => ?_) (fun c31 => ?_)
            · first | (exfalso; omega) | exact s44g n s m hR.1 ho (by omega) w dw (by rw [if_pos (by omega)] at e; exact e)
            · refine aw_aload_n dX11_text_34 rfl rfl ?_
              refine aw_callV [] _ dX11_text_35 rfl clv_X11_170 (by decide) ⟨Nat.zero_le _, Nat.zero_le _⟩ g109 (by rfl) (Nat.le_of_ble_eq_true rfl) rfl ?_
              refine sR_readLineR s tp hR f0 w.1 (fun m2 h2 => ?_)
              refine aw_iinc1 rfl dX11_text_38 rfl (by decide) ?_
              refine aw_goto (tgt := 20) dX11_text_41 (by decide) ?_
              rw [if_neg (by omega)] at e
              refine ih (n + 1) _ m2 h2 (fun s' es => ?_) (fun a ea => ?_) (fun s' es => ?_)
              · obtain ⟨w2, p2⟩ := lineP_keep w es
                exact ⟨w2, lineP_DW dw es, by omega⟩
              · rw [ea] at e
                exact e
              · rw [es] at e
                exact e
  refine AMet.of' 1 (ls := [some (vR (109)), none]) (by decide) rfl (Nat.le_of_ble_eq_true rfl) ?_
  refine aw_iconst dX11_text_0 rfl ?_
  refine aw_istore1 rfl dX11_text_1 rfl (by decide) ?_
  refine aw_aload_n dX11_text_2 rfl rfl ?_
  refine aw_iconst dX11_text_3 rfl ?_
  refine aw_putI (kI := 18) dX11_text_4 rfl fp_X11_85 g109 (by rfl) rfl ?_
  refine aw_aload_n dX11_text_7 rfl rfl ?_
  refine aw_iconst dX11_text_8 rfl ?_
  refine aw_putI (kI := 14) dX11_text_9 rfl fp_X11_94 g109 (by rfl) rfl ?_
  refine aw_aload_n dX11_text_12 rfl rfl ?_
  refine aw_callV [] _ dX11_text_13 rfl clv_X11_44 (by decide) ⟨Nat.zero_le _, Nat.zero_le _⟩ g109 (by rfl) (Nat.le_of_ble_eq_true rfl) rfl ?_
  refine sR_firstDraft (fun m1 f1 d1 g1 n1 => ?_)
  have a14 : m1 109 14 = 0 := by rw [n1 14 (by omega)]; rfl
  have a18 : m1 109 18 = 0 := by rw [n1 18 (by omega)]; rfl
  have fm : FrX m1 mem [109, 113] := by
    intro x hx
    rw [f1 x hx, mset_eq, mset_eq, mcell_ne (fun z => hx (by simp [z])), mcell_ne (fun z => hx (by simp [z]))]
  have gm : ∀ j : Int, (j < 5 ∨ 11 < j) → ¬ j = 14 → ¬ j = 18 → m1 109 j = mem 109 j := by
    intro j h1 h2 h3
    rw [n1 j h1, mset_eq, mset_eq, mcell_same, fset_ne h2, mcell_same, fset_ne h3]
  have e13 := gm 13 (by omega) (by omega) (by omega)
  have e114 := fm 114 (by decide)
  have tpr := tp.1
  refine aw_aload_n dX11_text_16 rfl rfl ?_
  refine aw_callV [] _ dX11_text_17 rfl clv_X11_131 (by decide) ⟨Nat.zero_le _, Nat.zero_le _⟩ g109 (by rfl) (Nat.le_of_ble_eq_true rfl) rfl ?_
  refine sR_nextV (by omega) (by omega) (by omega) (by rw [e13, e114]; exact tp.2) ?_
  exact loop 162 0 (.ok P0) _ (textStart tp h17 fm d1 g1 a18 a14 gm) (fun s es => by cases es; exact ⟨P0_PW tpr.1, P0_DW, by show mem 109 13 - 0 < _; push_cast; omega⟩) (fun a ea => by cases ea) (fun s es => by cases es; rfl)
end ZRef39
