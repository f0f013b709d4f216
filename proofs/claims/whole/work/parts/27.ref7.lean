def countM (n : Int) (f : Int → Int) (kp tp l0 s0 w : Int) : Int := if w = 0 then doneTo (f 46).toNat f else if w = 1 then blackTo (f 46).toNat f else if w = 2 then goodTo (f 46).toNat f else if w = 3 then outTo (f 46).toNat f else if w = 4 then f 96 else if w = 5 then kp else if w = 6 then tp else if w = 7 then (if l0 = -4 then -4 else s0) else if w = 8 then heatTo (3 * n).toNat f else -1
theorem mcell_ap {mem : Mem} {c d : Nat} {f : Int → Int} : mcell mem c f d = if d = c then f else mem d := rfl
theorem mset_ap {mem : Mem} {c d : Nat} {k v : Int} : mset mem c k v d = if d = c then fset (mem c) k v else mem d := rfl
section ZRef7
variable {Γ : ZG} {mem : Mem} {Q : Option AV → Mem → Prop}
theorem addF_46 {f : Int → Int} {s w : Int} : addF f s w 46 = f 46 + 1 := by unfold addF; rw [if_pos rfl]
theorem addM_46 {f : Int → Int} {s w : Int} (h : 0 ≤ f 46 ∧ f 46 ≤ 6) : 0 ≤ (addM f s w).2 46 ∧ (addM f s w).2 46 ≤ 6 := by
  unfold addM
  split
  · split
    · exact h
    · dsimp only; rw [addF_46]; omega
  · exact h
theorem addM_rng {f : Int → Int} {s w : Int} (h : 0 ≤ f 46 ∧ f 46 ≤ 6) : -3 ≤ (addM f s w).1 ∧ (addM f s w).1 ≤ 7 := by
  unfold addM
  split
  · split
    · dsimp only; omega
    · dsimp only; omega
  · dsimp only; omega
theorem reason_0 {lane lk sz c re : Int} (h : re = (if lk = -4 then 1 else if ¬ lk = lane then 3 else if 0 ≤ c + 0 ∧ c + 0 < sz then 0 else 2)) (hr : ¬ re = 0) : re = reasonF lane lk sz c := by
  unfold reasonF
  by_cases h1 : lk = -4
  · rw [if_pos h1] at h ⊢; exact h
  · rw [if_neg h1] at h ⊢
    by_cases h2 : ¬ lk = lane
    · rw [if_pos h2] at h ⊢; exact h
    · rw [if_neg h2] at h ⊢
      by_cases h3 : 0 ≤ c + 0 ∧ c + 0 < sz
      · rw [if_pos h3] at h; exact absurd h hr
      · rw [if_neg h3] at h; rw [if_neg (by omega)]; exact h
theorem reason_1 {lane lk sz c : Int} (h : (0 : Int) = (if lk = -4 then 1 else if ¬ lk = lane then 3 else if 0 ≤ c + 0 ∧ c + 0 < sz then 0 else 2)) : (if lk = -4 then 1 else if ¬ lk = lane then 3 else if 0 ≤ c + 1 ∧ c + 1 < sz then 0 else 2) = reasonF lane lk sz c := by
  unfold reasonF
  by_cases h1 : lk = -4
  · rw [if_pos h1] at h; omega
  · rw [if_neg h1] at h ⊢; rw [if_neg h1]
    by_cases h2 : ¬ lk = lane
    · rw [if_pos h2] at h; omega
    · rw [if_neg h2] at h ⊢; rw [if_neg h2]
      by_cases h3 : 0 ≤ c + 0 ∧ c + 0 < sz
      · by_cases h4 : c + 1 < sz
        · rw [if_pos (by omega), if_pos (by omega)]
        · rw [if_neg (by omega), if_neg (by omega)]
      · rw [if_neg h3] at h; omega
/-- read(): the answer r, the fault (if it came to an end), the row -/
theorem sR_read {j l f0 n : Int} (h46 : 0 ≤ mem 110 46 ∧ mem 110 46 ≤ 6) (hs : ∀ x : Int, 0 ≤ x → x ≤ 3 → (-4 ≤ mem 118 x ∧ mem 118 x ≤ 2) ∧ (¬ mem 118 x = -4 → 0 ≤ mem 119 x ∧ mem 119 x ≤ 40)) (hcl : ∀ x : Int, 0 ≤ x → x < 160 → -2147483648 ≤ mem 120 x ∧ mem 120 x ≤ 2147483647) (hj : -2147483648 ≤ j ∧ j ≤ 2147483647) (hl : -2147483648 ≤ l ∧ l ≤ 2147483647) (hf : -2147483648 ≤ f0 ∧ f0 ≤ 2147483647) (hn : -2147483648 ≤ n ∧ n ≤ 2147483647)
    (kb : ¬ (((0 ≤ j ∧ j ≤ 3) ∧ (0 ≤ l ∧ l ≤ 2)) ∧ (0 ≤ n ∧ n ≤ 13)) → Q (some (vI (-1))) mem)
    (k : ((0 ≤ j ∧ j ≤ 3) ∧ (0 ≤ l ∧ l ≤ 2)) ∧ (0 ≤ n ∧ n ≤ 13) → ∀ (r : Int) (t : Option Int) (g : Int → Int), readGo l (mem 118 j) (mem 119 j) (fun i => mem 120 (40 * j + i)) f0 (mem 110 46) n.toNat 0 (mem 110) = (r, t, g) → Q (some (vI r)) (match t with
      | some v => mset (mcell mem 110 g) 109 26 v
      | none => mcell mem 110 g)) : AMet Γ mX11_read [vR 109, vI j, vI l, vI f0, vI n] zG mem Q := by
  have loop : ∀ (d : Nat) (i : Int) (g : Int → Int) (x9 x10 x11 : Option AV), zlong x9 = false → i + d = n → 0 ≤ i → (0 ≤ g 46 ∧ g 46 ≤ 6) → ((0 ≤ j ∧ j ≤ 3) ∧ (0 ≤ l ∧ l ≤ 2)) ∧ (0 ≤ n ∧ n ≤ 13) → readGo l (mem 118 j) (mem 119 j) (fun i => mem 120 (40 * j + i)) f0 (mem 110 46) d i g = readGo l (mem 118 j) (mem 119 j) (fun i => mem 120 (40 * j + i)) f0 (mem 110 46) n.toNat 0 (mem 110) → AW Γ mX11_read (zF Γ zG Q) zG 0 0 41 [some (vR 109), some (vI j), some (vI l), some (vI f0), some (vI n), some (vI (mem 110 46)), some (vI 0), some (vI i), some (vI i), x9, x10, x11] [] (mcell mem 110 g) := by
    intro d
    induction d with
    | zero =>
      intro i g x9 x10 x11 z9 hi h0 hg hok e
      refine aw_iload dX11_read_41 rfl rfl ?_
      refine aw_iload dX11_read_43 rfl rfl ?_
      refine aw_icmp_ge (tgt := 208) dX11_read_45 (by decide) rfl (by omega) (by omega) (fun c45 => ?_) (fun c45 => ?_)
      · refine aw_aload_n dX11_read_208 rfl rfl ?_
        refine aw_iload dX11_read_209 rfl rfl ?_
        refine aw_putI (kI := 26) dX11_read_211 rfl fp_X11_307 g109 (by rfl) rfl ?_
        refine aw_iload dX11_read_214 rfl rfl ?_
        refine aw_ireturn (ty := .int) dX11_read_216 rfl rfl ?_
        exact k hok i (some 0) g e.symm
      · exfalso; omega
    | succ d ih =>
      intro i g x9 x10 x11 z9 hi h0 hg hok e
      obtain ⟨hs1, hs2⟩ := hs j hok.1.1.1 hok.1.1.2
      have fin : ∀ (re : Int) (y9 y10 y11 : Option AV), re = reasonF l (mem 118 j) (mem 119 j) (f0 + 2 * i) → zlong y9 = false → AW Γ mX11_read (zF Γ zG Q) zG 0 0 143 [some (vR 109), some (vI j), some (vI l), some (vI f0), some (vI n), some (vI (mem 110 46)), some (vI re), some (vI i), some (vI i), y9, y10, y11] [] (mcell mem 110 g) := by
        intro re y9 y10 y11 hre z
        have hrr : 0 ≤ re ∧ re ≤ 3 := by rw [hre]; unfold reasonF; ((repeat' split) <;> omega)
        have st0 : re = 0 → (0 ≤ f0 + 2 * i ∧ f0 + 2 * i + 1 < mem 119 j) ∧ mem 119 j ≤ 40 := by
          intro h
          rw [h] at hre
          unfold reasonF at hre
          split at hre
          · omega
          · split at hre
            · omega
            · have := hs2 (by omega)
              split at hre <;> omega
        have bad : ¬ re = 0 → AW Γ mX11_read (zF Γ zG Q) zG 0 0 41 [some (vR 109), some (vI j), some (vI l), some (vI f0), some (vI n), some (vI (mem 110 46)), some (vI re), some (vI i), some (vI (i + 1)), y9, y10, y11] [] (mcell mem 110 g) := by
          intro hne
          rw [readGo, if_pos (by rw [← hre]; exact hne)] at e
          refine aw_iload dX11_read_41 rfl rfl ?_
          refine aw_iload dX11_read_43 rfl rfl ?_
          refine aw_icmp_ge (tgt := 208) dX11_read_45 (by decide) rfl (by omega) (by omega) (fun c45 => ?_) (fun c45 => ?_)
          · refine aw_aload_n dX11_read_208 rfl rfl ?_
            refine aw_iload dX11_read_209 rfl rfl ?_
            refine aw_putI (kI := 26) dX11_read_211 rfl fp_X11_307 g109 (by rfl) rfl ?_
            refine aw_iload dX11_read_214 rfl rfl ?_
            refine aw_ireturn (ty := .int) dX11_read_216 rfl rfl ?_
            exact k hok i (some re) g (by rw [← hre] at e; exact e.symm)
          · refine aw_iload dX11_read_48 rfl rfl ?_
            refine aw_if_ne (tgt := 208) dX11_read_50 (by decide) rfl (by omega) (fun c50 => ?_) (fun c50 => ?_)
            · refine aw_aload_n dX11_read_208 rfl rfl ?_
              refine aw_iload dX11_read_209 rfl rfl ?_
              refine aw_putI (kI := 26) dX11_read_211 rfl fp_X11_307 g109 (by rfl) rfl ?_
              refine aw_iload dX11_read_214 rfl rfl ?_
              refine aw_ireturn (ty := .int) dX11_read_216 rfl rfl ?_
              exact k hok i (some re) g (by rw [← hre] at e; exact e.symm)
            · exfalso; omega
        have e2 := e
        rw [readGo] at e2
        refine aw_iload dX11_read_143 rfl rfl ?_
        refine aw_if_ne (tgt := 202) dX11_read_145 (by decide) rfl (by omega) (fun c145 => ?_) (fun c145 => ?_)
        · refine aw_iinc8 rfl dX11_read_202 rfl (by decide) ?_
          refine aw_goto (tgt := 41) dX11_read_205 (by decide) ?_
          first | (have hbad := c145; exact bad hbad) | (rw [if_neg (by omega)] at e2; exact ih (i + 1) _ _ _ _ rfl (by omega) (by omega) hag hok e2)
        · have st1 := st0 (by omega)
          rw [if_neg (by rw [← hre]; omega)] at e2
          have ea : 40 * j + f0 + 2 * i = 40 * j + (f0 + 2 * i) := by omega
          subst c145
          refine aw_bipush dX11_read_148 rfl (by decide) ?_
          refine aw_iload_n dX11_read_150 rfl rfl ?_
          refine aw_imul dX11_read_151 rfl ?_
          refine aw_iload_n dX11_read_152 rfl rfl ?_
          refine aw_iadd dX11_read_153 rfl ?_
          refine aw_iconst dX11_read_154 rfl ?_
          refine aw_iload dX11_read_155 rfl rfl ?_
          refine aw_imul dX11_read_157 rfl ?_
          refine aw_iadd dX11_read_158 rfl ?_
          refine aw_istore9 rfl dX11_read_159 rfl (by decide) ?_
          refine aw_aload_n dX11_read_161 rfl rfl ?_
          refine aw_aload_n dX11_read_162 rfl rfl ?_
          refine aw_getR dX11_read_163 rfl fl_X11_41 g109 (by rfl) ?_
          refine aw_iload dX11_read_166 rfl rfl ?_
          refine aw_iaload dX11_read_168 rfl g120 (by decide) (by omega) ?_
          refine aw_aload_n dX11_read_169 rfl rfl ?_
          refine aw_getR dX11_read_170 rfl fl_X11_41 g109 (by rfl) ?_
          refine aw_iload dX11_read_173 rfl rfl ?_
          refine aw_iconst dX11_read_175 rfl ?_
          refine aw_iadd dX11_read_176 rfl ?_
          refine aw_iaload dX11_read_177 rfl g120 (by decide) (by omega) ?_
          refine aw_callV [_, _] _ dX11_read_178 rfl clv_X11_304 (by decide) ⟨Nat.zero_le _, Nat.zero_le _⟩ g109 (by rfl) (Nat.le_of_ble_eq_true rfl) rfl ?_
          refine sR_add (by rw [mcell_same]; exact hg) (hcl _ (by omega) (by omega)) (hcl _ (by omega) (by omega)) ?_
          rw [mcell_same, mcell_mcell, show mcell mem 110 g 120 = mem 120 from rfl, ea, show 40 * j + (f0 + 2 * i) + 1 = 40 * j + (f0 + 2 * i + 1) by omega]
          have hrg := addM_rng (s := mem 120 (40 * j + (f0 + 2 * i))) (w := mem 120 (40 * j + (f0 + 2 * i + 1))) hg
          have hag := addM_46 (s := mem 120 (40 * j + (f0 + 2 * i))) (w := mem 120 (40 * j + (f0 + 2 * i + 1))) hg
          refine aw_if_ge (tgt := 199) dX11_read_181 (by decide) rfl (by omega) (fun c181 => ?_) (fun c181 => ?_)
          · refine aw_iinc7 rfl dX11_read_199 rfl (by decide) ?_
            refine aw_iinc8 rfl dX11_read_202 rfl (by decide) ?_
            refine aw_goto (tgt := 41) dX11_read_205 (by decide) ?_
            first | (have hbad := c145; exact bad hbad) | (rw [if_neg (by omega)] at e2; exact ih (i + 1) _ _ _ _ rfl (by omega) (by omega) hag hok e2)
          · refine aw_aload_n dX11_read_184 rfl rfl ?_
            refine aw_getR dX11_read_185 rfl fl_X11_7 g109 (by rfl) ?_
            refine aw_bipush dX11_read_188 rfl (by decide) ?_
            refine aw_iload dX11_read_190 rfl rfl ?_
            refine aw_iastore dX11_read_192 rfl g110 (by decide) (by omega) ?_
            refine aw_bipush dX11_read_193 rfl (by decide) ?_
            refine aw_iload dX11_read_195 rfl rfl ?_
            refine aw_isub dX11_read_197 rfl ?_
            refine aw_ireturn (ty := .int) dX11_read_198 rfl rfl ?_
            rw [if_pos (by omega)] at e2
            rw [mset_mcell]
            exact k hok (-20 - i) none _ e2.symm
      have it : ∀ (c : Int) (y10 y11 : Option AV), 0 ≤ c ∧ c < 2 → (∀ re : Int, re = (if mem 118 j = -4 then 1 else if ¬ mem 118 j = l then 3 else if 0 ≤ f0 + 2 * i + c ∧ f0 + 2 * i + c < mem 119 j then 0 else 2) → AW Γ mX11_read (zF Γ zG Q) zG 0 0 56 [some (vR 109), some (vI j), some (vI l), some (vI f0), some (vI n), some (vI (mem 110 46)), some (vI re), some (vI i), some (vI i), some (vI (c + 1)), some (vL (f0 + 2 * i + c)), none] [] (mcell mem 110 g)) → AW Γ mX11_read (zF Γ zG Q) zG 0 0 56 [some (vR 109), some (vI j), some (vI l), some (vI f0), some (vI n), some (vI (mem 110 46)), some (vI 0), some (vI i), some (vI i), some (vI c), y10, y11] [] (mcell mem 110 g) := by
        intro c y10 y11 hc hk
        refine aw_iload dX11_read_56 rfl rfl ?_
        refine aw_iconst dX11_read_58 rfl ?_
        refine aw_icmp_ge (tgt := 143) dX11_read_59 (by decide) rfl (by omega) (by omega) (fun c59 => ?_) (fun c59 => ?_)
        · exfalso; omega
        · refine aw_iload dX11_read_62 rfl rfl ?_
          refine aw_if_ne (tgt := 143) dX11_read_64 (by decide) rfl (by omega) (fun c64 => ?_) (fun c64 => ?_)
          · exfalso; omega
          · refine aw_iload_n dX11_read_67 rfl rfl ?_
            refine aw_i2l dX11_read_68 rfl (by omega) ?_
            refine aw_iconst dX11_read_69 rfl ?_
            refine aw_iload dX11_read_70 rfl rfl ?_
            refine aw_imul dX11_read_72 rfl ?_
            refine aw_i2l dX11_read_73 rfl (by omega) ?_
            refine aw_ladd dX11_read_74 rfl ?_
            refine aw_iload dX11_read_75 rfl rfl ?_
            refine aw_i2l dX11_read_77 rfl (by omega) ?_
            refine aw_ladd dX11_read_78 rfl ?_
            refine aw_lstore10 rfl dX11_read_79 rfl (by decide) ?_
            refine aw_aload_n dX11_read_81 rfl rfl ?_
            refine aw_getR dX11_read_82 rfl fl_X11_35 g109 (by rfl) ?_
            refine aw_iload_n dX11_read_85 rfl rfl ?_
            refine aw_iaload dX11_read_86 rfl g118 (by decide) (by omega) ?_
            try simp only [mcell_ap, mset_ap, Nat.reduceEqDiff, reduceIte]
            refine aw_bipush dX11_read_87 rfl (by decide) ?_
            refine aw_icmp_ne (tgt := 96) dX11_read_89 (by decide) rfl (by omega) (by omega) (fun c89 => ?_) (fun c89 => ?_)
            · refine aw_aload_n dX11_read_96 rfl rfl ?_
              refine aw_getR dX11_read_97 rfl fl_X11_35 g109 (by rfl) ?_
              refine aw_iload_n dX11_read_100 rfl rfl ?_
              refine aw_iaload dX11_read_101 rfl g118 (by decide) (by omega) ?_
              try simp only [mcell_ap, mset_ap, Nat.reduceEqDiff, reduceIte]
              refine aw_iload_n dX11_read_102 rfl rfl ?_
              refine aw_icmp_eq (tgt := 110) dX11_read_103 (by decide) rfl (by omega) (by omega) (fun c103 => ?_) (fun c103 => ?_)
              · have hs3 := hs2 (by omega)
                refine aw_lload dX11_read_110 rfl rfl ?_
                refine aw_lconst (a := 0) dX11_read_112 rfl (by decide) ?_
                refine aw_lif_lt (tgt := 130) dX11_read_113 dX11_read_114 rfl (by decide) rfl (by omega) (by omega) (fun c113 => ?_) (fun c113 => ?_)
                · refine aw_iconst dX11_read_130 rfl ?_
                  refine aw_goto (tgt := 135) dX11_read_131 (by decide) ?_
                  refine aw_istore6 rfl dX11_read_135 rfl (by decide) ?_
                  refine aw_iinc9 rfl dX11_read_137 rfl (by decide) ?_
                  refine aw_goto (tgt := 56) dX11_read_140 (by decide) ?_
                  exact hk _ (by (repeat' split) <;> omega)
                · refine aw_lload dX11_read_117 rfl rfl ?_
                  refine aw_aload_n dX11_read_119 rfl rfl ?_
                  refine aw_getR dX11_read_120 rfl fl_X11_38 g109 (by rfl) ?_
                  refine aw_iload_n dX11_read_123 rfl rfl ?_
                  refine aw_iaload dX11_read_124 rfl g119 (by decide) (by omega) ?_
                  try simp only [mcell_ap, mset_ap, Nat.reduceEqDiff, reduceIte]
                  refine aw_i2l dX11_read_125 rfl (by omega) ?_
                  refine aw_lif_lt (tgt := 134) dX11_read_126 dX11_read_127 rfl (by decide) rfl (by omega) (by omega) (fun c126 => ?_) (fun c126 => ?_)
                  · refine aw_iconst dX11_read_134 rfl ?_
                    refine aw_istore6 rfl dX11_read_135 rfl (by decide) ?_
                    refine aw_iinc9 rfl dX11_read_137 rfl (by decide) ?_
                    refine aw_goto (tgt := 56) dX11_read_140 (by decide) ?_
                    exact hk _ (by (repeat' split) <;> omega)
                  · refine aw_iconst dX11_read_130 rfl ?_
                    refine aw_goto (tgt := 135) dX11_read_131 (by decide) ?_
                    refine aw_istore6 rfl dX11_read_135 rfl (by decide) ?_
                    refine aw_iinc9 rfl dX11_read_137 rfl (by decide) ?_
                    refine aw_goto (tgt := 56) dX11_read_140 (by decide) ?_
                    exact hk _ (by (repeat' split) <;> omega)
              · refine aw_iconst dX11_read_106 rfl ?_
                refine aw_goto (tgt := 135) dX11_read_107 (by decide) ?_
                refine aw_istore6 rfl dX11_read_135 rfl (by decide) ?_
                refine aw_iinc9 rfl dX11_read_137 rfl (by decide) ?_
                refine aw_goto (tgt := 56) dX11_read_140 (by decide) ?_
                exact hk _ (by (repeat' split) <;> omega)
            · refine aw_iconst dX11_read_92 rfl ?_
              refine aw_goto (tgt := 135) dX11_read_93 (by decide) ?_
              refine aw_istore6 rfl dX11_read_135 rfl (by decide) ?_
              refine aw_iinc9 rfl dX11_read_137 rfl (by decide) ?_
              refine aw_goto (tgt := 56) dX11_read_140 (by decide) ?_
              exact hk _ (by (repeat' split) <;> omega)
      have go143 : ∀ (c re : Int) (y10 y11 : Option AV), 0 ≤ c ∧ c ≤ 2 → 0 ≤ re ∧ re ≤ 3 → c = 2 ∨ ¬ re = 0 → re = reasonF l (mem 118 j) (mem 119 j) (f0 + 2 * i) → AW Γ mX11_read (zF Γ zG Q) zG 0 0 56 [some (vR 109), some (vI j), some (vI l), some (vI f0), some (vI n), some (vI (mem 110 46)), some (vI re), some (vI i), some (vI i), some (vI c), y10, y11] [] (mcell mem 110 g) := by
        intro c re y10 y11 hc hrr h hre
        refine aw_iload dX11_read_56 rfl rfl ?_
        refine aw_iconst dX11_read_58 rfl ?_
        refine aw_icmp_ge (tgt := 143) dX11_read_59 (by decide) rfl (by omega) (by omega) (fun c59 => ?_) (fun c59 => ?_)
        · exact fin re _ _ _ hre rfl
        · refine aw_iload dX11_read_62 rfl rfl ?_
          refine aw_if_ne (tgt := 143) dX11_read_64 (by decide) rfl (by omega) (fun c64 => ?_) (fun c64 => ?_)
          · exact fin re _ _ _ hre rfl
          · exfalso; omega
      refine aw_iload dX11_read_41 rfl rfl ?_
      refine aw_iload dX11_read_43 rfl rfl ?_
      refine aw_icmp_ge (tgt := 208) dX11_read_45 (by decide) rfl (by omega) (by omega) (fun c45 => ?_) (fun c45 => ?_)
      · exfalso; omega
      · refine aw_iload dX11_read_48 rfl rfl ?_
        refine aw_if_ne (tgt := 208) dX11_read_50 (by decide) rfl (by omega) (fun c50 => ?_) (fun c50 => ?_)
        · exfalso; omega
        · refine aw_iconst dX11_read_53 rfl ?_
          refine aw_istore9 rfl dX11_read_54 rfl (by decide) ?_
          refine it 0 _ _ (by omega) (fun re hre => ?_)
          by_cases hr0 : re = 0
          · subst hr0
            refine it 1 _ _ (by omega) (fun re2 hre2 => ?_)
            exact go143 2 re2 _ _ (by omega) (by rw [hre2]; ((repeat' split) <;> omega)) (Or.inl rfl) (by rw [hre2]; exact reason_1 hre)
          · exact go143 (0 + 1) re _ _ (by omega) (by rw [hre]; ((repeat' split) <;> omega)) (Or.inr hr0) (reason_0 hre hr0)
  refine AMet.of' 7 (ls := [some (vR (109)), some (vI (j)), some (vI (l)), some (vI (f0)), some (vI (n)), none, none, none, none, none, none, none]) (by decide) rfl (Nat.le_of_ble_eq_true rfl) ?_
  refine aw_iload_n dX11_read_0 rfl rfl ?_
  refine aw_iload_n dX11_read_1 rfl rfl ?_
  refine aw_callS [_, _] _ dX11_read_2 rfl cls_X11_299 (by decide) ⟨Nat.zero_le _, Nat.zero_le _⟩ (Nat.le_of_ble_eq_true rfl) rfl ?_
  refine sR_isSheet hj hl (fun c2 => ?_) (fun c2 => ?_)
  · refine aw_if_eq (tgt := 21) dX11_read_5 (by decide) rfl (by omega) (fun c => absurd c (by decide)) (fun _ => ?_)
    refine aw_iload dX11_read_8 rfl rfl ?_
    refine aw_i2l dX11_read_10 rfl (by omega) ?_
    refine aw_lconst (a := 0) dX11_read_11 rfl (by decide) ?_
    refine aw_ldc2 (a := 13) dX11_read_12 rfl lc_X11_302 (by decide) ?_
    refine aw_callS [_, _, _] _ dX11_read_15 rfl cls_X11_78 (by decide) ⟨Nat.zero_le _, Nat.zero_le _⟩ (Nat.le_of_ble_eq_true rfl) rfl ?_
    refine sR_in (by omega) (by omega) (by omega) (fun c15 => ?_) (fun c15 => ?_)
    · refine aw_if_ne (tgt := 23) dX11_read_18 (by decide) rfl (by omega) (fun _ => ?_) (fun c => absurd c (by decide))
      refine aw_aload_n dX11_read_23 rfl rfl ?_
      refine aw_getR dX11_read_24 rfl fl_X11_7 g109 (by rfl) ?_
      refine aw_bipush dX11_read_27 rfl (by decide) ?_
      refine aw_iaload dX11_read_29 rfl g110 (by decide) (by omega) ?_
      refine aw_istore5 rfl dX11_read_30 rfl (by decide) ?_
      refine aw_iconst dX11_read_32 rfl ?_
      refine aw_istore6 rfl dX11_read_33 rfl (by decide) ?_
      refine aw_iconst dX11_read_35 rfl ?_
      refine aw_istore7 rfl dX11_read_36 rfl (by decide) ?_
      refine aw_iconst dX11_read_38 rfl ?_
      refine aw_istore8 rfl dX11_read_39 rfl (by decide) ?_
      have l0 := loop n.toNat 0 (mem 110) none none none rfl (by omega) (by omega) h46 (by omega) rfl
      rw [mcell_self] at l0
      exact l0
    · refine aw_if_ne (tgt := 23) dX11_read_18 (by decide) rfl (by omega) (fun c => absurd c (by decide)) (fun _ => ?_)
      refine aw_iconst dX11_read_21 rfl ?_
      refine aw_ireturn (ty := .int) dX11_read_22 rfl rfl ?_
      exact kb (by omega)
  · refine aw_if_eq (tgt := 21) dX11_read_5 (by decide) rfl (by omega) (fun _ => ?_) (fun c => absurd c (by decide))
    refine aw_iconst dX11_read_21 rfl ?_
    refine aw_ireturn (ty := .int) dX11_read_22 rfl rfl ?_
    exact kb (by omega)
end ZRef7
