/-- behind how many rounds a potato is done, black first; how often good: the first i rounds looked at -/
def doneAt (n : Int) (f : Int → Int) (p : Int) : Nat → Int
  | 0 => -4
  | i + 1 => if doneAt n f p i = -4 ∧ isDoneF (roundsF n i f) p then i else doneAt n f p i
def blackAt (n : Int) (f : Int → Int) (p : Int) : Nat → Int
  | 0 => -4
  | i + 1 => if blackAt n f p i = -4 ∧ isBlackF (roundsF n i f) p then i else blackAt n f p i
def goodCnt (n : Int) (f : Int → Int) (p : Int) : Nat → Int
  | 0 => 0
  | i + 1 => goodCnt n f p i + (if isGoodF (roundsF n i f) p then 1 else 0)
def whenM (n : Int) (f : Int → Int) (p w : Int) : Int := if (0 ≤ p ∧ p < f 46) ∧ (0 ≤ w ∧ w ≤ 2) then (if w = 0 then doneAt n f p 41 else if w = 1 then blackAt n f p 41 else goodCnt n f p 41) else -1
/-- the round with most good ones, how many: the first i looked at -/
def bestAt (n : Int) (f : Int → Int) : Nat → Int × Int
  | 0 => (0, -1)
  | i + 1 => if (bestAt n f i).2 < goodTo (f 46).toNat (roundsF n i f) then ((i : Int), goodTo (f 46).toNat (roundsF n i f)) else bestAt n f i
def bestM (n : Int) (f : Int → Int) (w : Int) : Int := if 0 ≤ w ∧ w ≤ 1 then (if w = 0 then (bestAt n f 21).1 else (bestAt n f 21).2) else -1
theorem roundsF_s (n : Int) : ∀ (k : Nat) (f : Int → Int), roundsF n (k + 1) f = roundF n (roundsF n k f) := by
  intro k
  induction k with
  | zero => intro f; rfl
  | succ k ih => intro f; exact ih (roundF n f)
theorem goodTo_rng (f : Int → Int) : ∀ k : Nat, 0 ≤ goodTo k f ∧ goodTo k f ≤ k := by
  intro k
  induction k with
  | zero => exact ⟨Int.le_refl _, Int.le_refl _⟩
  | succ k ih =>
    show 0 ≤ goodTo k f + _ ∧ goodTo k f + _ ≤ _
    push_cast
    split <;> omega
theorem bestAt_rng (n : Int) (f : Int → Int) (h : 0 ≤ f 46 ∧ f 46 ≤ 6) : ∀ i : Nat, -1 ≤ (bestAt n f i).2 ∧ (bestAt n f i).2 ≤ 6 := by
  intro i
  induction i with
  | zero => show (-1 : Int) ≤ -1 ∧ (-1 : Int) ≤ 6; omega
  | succ i ih =>
    unfold bestAt
    have := goodTo_rng (roundsF n i f) (f 46).toNat
    split
    · dsimp only; omega
    · exact ih
theorem doneAt_rng (n : Int) (f : Int → Int) (p : Int) : ∀ i : Nat, -4 ≤ doneAt n f p i ∧ doneAt n f p i ≤ i := by
  intro i
  induction i with
  | zero => show (-4 : Int) ≤ -4 ∧ (-4 : Int) ≤ 0; omega
  | succ i ih =>
    unfold doneAt
    split
    · push_cast; omega
    · push_cast; omega
theorem blackAt_rng (n : Int) (f : Int → Int) (p : Int) : ∀ i : Nat, -4 ≤ blackAt n f p i ∧ blackAt n f p i ≤ i := by
  intro i
  induction i with
  | zero => show (-4 : Int) ≤ -4 ∧ (-4 : Int) ≤ 0; omega
  | succ i ih =>
    unfold blackAt
    split
    · push_cast; omega
    · push_cast; omega
theorem doneAt_n1 {n : Int} {f : Int → Int} {p : Int} {i : Nat} (h : ¬ doneAt n f p i = -4) : doneAt n f p i = doneAt n f p (i + 1) := by
  rw [show doneAt n f p (i + 1) = if doneAt n f p i = -4 ∧ isDoneF (roundsF n i f) p then (i : Int) else doneAt n f p i from rfl, if_neg (fun z => h z.1)]
theorem doneAt_n2 {n : Int} {f : Int → Int} {p : Int} {i : Nat} (h : ¬ isDoneF (roundsF n i f) p) : doneAt n f p i = doneAt n f p (i + 1) := by
  rw [show doneAt n f p (i + 1) = if doneAt n f p i = -4 ∧ isDoneF (roundsF n i f) p then (i : Int) else doneAt n f p i from rfl, if_neg (fun z => h z.2)]
theorem doneAt_y {n : Int} {f : Int → Int} {p : Int} {i : Nat} (h : doneAt n f p i = -4) (h2 : isDoneF (roundsF n i f) p) : (i : Int) = doneAt n f p (i + 1) := by
  rw [show doneAt n f p (i + 1) = if doneAt n f p i = -4 ∧ isDoneF (roundsF n i f) p then (i : Int) else doneAt n f p i from rfl, if_pos ⟨h, h2⟩]
theorem blackAt_n1 {n : Int} {f : Int → Int} {p : Int} {i : Nat} (h : ¬ blackAt n f p i = -4) : blackAt n f p i = blackAt n f p (i + 1) := by
  rw [show blackAt n f p (i + 1) = if blackAt n f p i = -4 ∧ isBlackF (roundsF n i f) p then (i : Int) else blackAt n f p i from rfl, if_neg (fun z => h z.1)]
theorem blackAt_n2 {n : Int} {f : Int → Int} {p : Int} {i : Nat} (h : ¬ isBlackF (roundsF n i f) p) : blackAt n f p i = blackAt n f p (i + 1) := by
  rw [show blackAt n f p (i + 1) = if blackAt n f p i = -4 ∧ isBlackF (roundsF n i f) p then (i : Int) else blackAt n f p i from rfl, if_neg (fun z => h z.2)]
theorem blackAt_y {n : Int} {f : Int → Int} {p : Int} {i : Nat} (h : blackAt n f p i = -4) (h2 : isBlackF (roundsF n i f) p) : (i : Int) = blackAt n f p (i + 1) := by
  rw [show blackAt n f p (i + 1) = if blackAt n f p i = -4 ∧ isBlackF (roundsF n i f) p then (i : Int) else blackAt n f p i from rfl, if_pos ⟨h, h2⟩]
section ZRef8
variable {Γ : ZG} {mem : Mem} {Q : Option AV → Mem → Prop}
theorem sR_count {n w : Int} (h : Wf n (mem 110)) (hm : mem 109 3 = n) (hk : ∀ i : Int, 0 ≤ i → i ≤ 1 → 0 ≤ mem 112 i ∧ mem 112 i ≤ 1) (hl : -4 ≤ mem 118 0 ∧ mem 118 0 ≤ 2) (hw : -2147483648 ≤ w ∧ w ≤ 2147483647) (k : ∀ g, Q (some (vI (countM n (mem 110) (mem 112 0 + mem 112 1) (mem 109 13) (mem 118 0) (mem 119 0) w))) (mcell mem 111 g)) : AMet Γ mX11_count [vR 109, vI w] zG mem Q := by
  have h46 := h.2.2.2.2.2.2.1
  have hn := h.1
  have hk0 := hk 0 (by omega) (by omega)
  have hk1 := hk 1 (by omega) (by omega)
  have fin : AW Γ mX11_count (zF Γ zG Q) zG 0 0 101 [some (vR 109), some (vI w), some (vI (doneTo (mem 110 46).toNat (mem 110))), some (vI (outTo (mem 110 46).toNat (mem 110))), some (vI (heatTo (3 * n).toNat (mem 110))), some (vI (3 * n))] [] (mcell mem 111 (mem 110)) := by
    refine aw_iload_n dX11_count_101 rfl rfl ?_
    refine aw_tsw (tgt := 225) dX11_count_102 (by omega) (by decide) (by decide) (fun c102 => ?_) ?_ (by decide)
    · refine aw_iconst dX11_count_225 rfl ?_
      refine aw_ireturn (ty := .int) dX11_count_226 rfl rfl ?_
      exact q_eq (k _) (by unfold countM; rw [if_neg (by omega), if_neg (by omega), if_neg (by omega), if_neg (by omega), if_neg (by omega), if_neg (by omega), if_neg (by omega), if_neg (by omega), if_neg (by omega)]) rfl
    · intro jz offz hoz hj102 tz htz hpz
      match jz, hoz with
      | 0, hoz =>
        obtain rfl : (50 : Int) = offz := Option.some.inj hoz
        obtain rfl : tz = 152 := by omega
        refine aw_iload_n dX11_count_152 rfl rfl ?_
        refine aw_ireturn (ty := .int) dX11_count_153 rfl rfl ?_
        exact q_eq (k _) (by rw [hj102]; rfl) rfl
      | 1, hoz =>
        obtain rfl : (52 : Int) = offz := Option.some.inj hoz
        obtain rfl : tz = 154 := by omega
        refine aw_aload_n dX11_count_154 rfl rfl ?_
        refine aw_callV [] _ dX11_count_155 rfl clv_X11_293 (by decide) ⟨Nat.zero_le _, Nat.zero_le _⟩ g109 (by rfl) (Nat.le_of_ble_eq_true rfl) rfl ?_
        refine sR_blacks (n := n) (by rw [mcell_same]; exact h) ?_
        refine aw_ireturn (ty := .int) dX11_count_158 rfl rfl ?_
        exact q_eq (k _) (by rw [hj102, mcell_same]; rfl) rfl
      | 2, hoz =>
        obtain rfl : (57 : Int) = offz := Option.some.inj hoz
        obtain rfl : tz = 159 := by omega
        refine aw_aload_n dX11_count_159 rfl rfl ?_
        refine aw_callV [] _ dX11_count_160 rfl clv_X11_241 (by decide) ⟨Nat.zero_le _, Nat.zero_le _⟩ g109 (by rfl) (Nat.le_of_ble_eq_true rfl) rfl ?_
        refine sR_goods (n := n) (by rw [mcell_same]; exact h) ?_
        refine aw_ireturn (ty := .int) dX11_count_163 rfl rfl ?_
        exact q_eq (k _) (by rw [hj102, mcell_same]; rfl) rfl
      | 3, hoz =>
        obtain rfl : (62 : Int) = offz := Option.some.inj hoz
        obtain rfl : tz = 164 := by omega
        refine aw_iload_n dX11_count_164 rfl rfl ?_
        refine aw_ireturn (ty := .int) dX11_count_165 rfl rfl ?_
        exact q_eq (k _) (by rw [hj102]; rfl) rfl
      | 4, hoz =>
        obtain rfl : (64 : Int) = offz := Option.some.inj hoz
        obtain rfl : tz = 166 := by omega
        refine aw_aload_n dX11_count_166 rfl rfl ?_
        refine aw_getR dX11_count_167 rfl fl_X11_7 g109 (by rfl) ?_
        refine aw_bipush dX11_count_170 rfl (by decide) ?_
        refine aw_iaload dX11_count_172 rfl g110 (by decide) (by omega) ?_
        try simp only [mcell_ap, mset_ap, Nat.reduceEqDiff, reduceIte]
        refine aw_ireturn (ty := .int) dX11_count_173 rfl rfl ?_
        exact q_eq (k _) (by rw [hj102]; rfl) rfl
      | 5, hoz =>
        obtain rfl : (72 : Int) = offz := Option.some.inj hoz
        obtain rfl : tz = 174 := by omega
        refine aw_aload_n dX11_count_174 rfl rfl ?_
        refine aw_getR dX11_count_175 rfl fl_X11_16 g109 (by rfl) ?_
        refine aw_iconst dX11_count_178 rfl ?_
        refine aw_zaload dX11_count_179 rfl g112 (by decide) (by omega) ?_
        try simp only [mcell_ap, mset_ap, Nat.reduceEqDiff, reduceIte]
        refine aw_callS [_] _ dX11_count_180 rfl cls_X11_208 (by decide) ⟨Nat.zero_le _, Nat.zero_le _⟩ (Nat.le_of_ble_eq_true rfl) rfl ?_
        refine sR_flag (by omega) ?_
        refine aw_aload_n dX11_count_183 rfl rfl ?_
        refine aw_getR dX11_count_184 rfl fl_X11_16 g109 (by rfl) ?_
        refine aw_iconst dX11_count_187 rfl ?_
        refine aw_zaload dX11_count_188 rfl g112 (by decide) (by omega) ?_
        try simp only [mcell_ap, mset_ap, Nat.reduceEqDiff, reduceIte]
        refine aw_callS [_] _ dX11_count_189 rfl cls_X11_208 (by decide) ⟨Nat.zero_le _, Nat.zero_le _⟩ (Nat.le_of_ble_eq_true rfl) rfl ?_
        refine sR_flag (by omega) ?_
        refine aw_iadd dX11_count_192 rfl ?_
        refine aw_ireturn (ty := .int) dX11_count_193 rfl rfl ?_
        exact q_eq (k _) (by rw [hj102]; rfl) rfl
      | 6, hoz =>
        obtain rfl : (92 : Int) = offz := Option.some.inj hoz
        obtain rfl : tz = 194 := by omega
        refine aw_aload_n dX11_count_194 rfl rfl ?_
        refine aw_getI (kI := 13) dX11_count_195 rfl fl_X11_82 g109 (by rfl) rfl ?_
        try simp only [mcell_ap, mset_ap, Nat.reduceEqDiff, reduceIte]
        refine aw_ireturn (ty := .int) dX11_count_198 rfl rfl ?_
        exact q_eq (k _) (by rw [hj102]; rfl) rfl
      | 7, hoz =>
        obtain rfl : (97 : Int) = offz := Option.some.inj hoz
        obtain rfl : tz = 199 := by omega
        refine aw_aload_n dX11_count_199 rfl rfl ?_
        refine aw_getR dX11_count_200 rfl fl_X11_35 g109 (by rfl) ?_
        refine aw_iconst dX11_count_203 rfl ?_
        refine aw_iaload dX11_count_204 rfl g118 (by decide) (by omega) ?_
        try simp only [mcell_ap, mset_ap, Nat.reduceEqDiff, reduceIte]
        refine aw_bipush dX11_count_205 rfl (by decide) ?_
        refine aw_icmp_ne (tgt := 215) dX11_count_207 (by decide) rfl (by omega) (by omega) (fun c207 => ?_) (fun c207 => ?_)
        · refine aw_aload_n dX11_count_215 rfl rfl ?_
          refine aw_getR dX11_count_216 rfl fl_X11_38 g109 (by rfl) ?_
          refine aw_iconst dX11_count_219 rfl ?_
          refine aw_iaload dX11_count_220 rfl g119 (by decide) (by omega) ?_
          try simp only [mcell_ap, mset_ap, Nat.reduceEqDiff, reduceIte]
          refine aw_ireturn (ty := .int) dX11_count_221 rfl rfl ?_
          exact q_eq (k _) (by rw [hj102, show countM n (mem 110) (mem 112 0 + mem 112 1) (mem 109 13) (mem 118 0) (mem 119 0) (0 + ((7 : Nat) : Int)) = (if mem 118 0 = -4 then -4 else mem 119 0) from rfl]; first | rw [if_pos c207] | rw [if_neg c207]) rfl
        · refine aw_bipush dX11_count_210 rfl (by decide) ?_
          refine aw_goto (tgt := 221) dX11_count_212 (by decide) ?_
          refine aw_ireturn (ty := .int) dX11_count_221 rfl rfl ?_
          exact q_eq (k _) (by rw [hj102, show countM n (mem 110) (mem 112 0 + mem 112 1) (mem 109 13) (mem 118 0) (mem 119 0) (0 + ((7 : Nat) : Int)) = (if mem 118 0 = -4 then -4 else mem 119 0) from rfl]; first | rw [if_pos c207] | rw [if_neg c207]) rfl
      | 8, hoz =>
        obtain rfl : (120 : Int) = offz := Option.some.inj hoz
        obtain rfl : tz = 222 := by omega
        refine aw_iload dX11_count_222 rfl rfl ?_
        refine aw_ireturn (ty := .int) dX11_count_224 rfl rfl ?_
        exact q_eq (k _) (by rw [hj102]; rfl) rfl
      | jz + 9, hoz => exact absurd hoz (by simp)
  have loop2 : ∀ (d : Nat) (i : Nat), (i : Int) + d = 3 * n → AW Γ mX11_count (zF Γ zG Q) zG 0 0 70 [some (vR 109), some (vI w), some (vI (doneTo (mem 110 46).toNat (mem 110))), some (vI (outTo (mem 110 46).toNat (mem 110))), some (vI (heatTo i (mem 110))), some (vI i)] [] (mcell mem 111 (mem 110)) := by
    intro d
    induction d with
    | zero =>
      intro i hi
      have e : 3 * n = (i : Int) := by omega
      rw [e] at fin
      rw [show ((i : Int)).toNat = i by omega] at fin
      refine aw_iload dX11_count_70 rfl rfl ?_
      refine aw_iconst dX11_count_72 rfl ?_
      refine aw_aload_n dX11_count_73 rfl rfl ?_
      refine aw_getI (kI := 3) dX11_count_74 rfl fl_X11_73 g109 (by rfl) rfl ?_
      try simp only [mcell_ap, mset_ap, Nat.reduceEqDiff, reduceIte]
      refine aw_imul dX11_count_77 rfl ?_
      refine aw_icmp_ge (tgt := 101) dX11_count_78 (by decide) rfl (by omega) (by omega) (fun c78 => ?_) (fun c78 => ?_)
      · exact fin
      · exfalso; omega
    | succ d ih =>
      intro i hi
      have ih2 := ih (i + 1) (by push_cast; omega)
      refine aw_iload dX11_count_70 rfl rfl ?_
      refine aw_iconst dX11_count_72 rfl ?_
      refine aw_aload_n dX11_count_73 rfl rfl ?_
      refine aw_getI (kI := 3) dX11_count_74 rfl fl_X11_73 g109 (by rfl) rfl ?_
      try simp only [mcell_ap, mset_ap, Nat.reduceEqDiff, reduceIte]
      refine aw_imul dX11_count_77 rfl ?_
      refine aw_icmp_ge (tgt := 101) dX11_count_78 (by decide) rfl (by omega) (by omega) (fun c78 => ?_) (fun c78 => ?_)
      · exfalso; omega
      · refine aw_iload dX11_count_81 rfl rfl ?_
        refine aw_aload_n dX11_count_83 rfl rfl ?_
        refine aw_getR dX11_count_84 rfl fl_X11_7 g109 (by rfl) ?_
        refine aw_iconst dX11_count_87 rfl ?_
        refine aw_iload dX11_count_88 rfl rfl ?_
        refine aw_iadd dX11_count_90 rfl ?_
        refine aw_iaload dX11_count_91 rfl g110 (by decide) (by omega) ?_
        try simp only [mcell_ap, mset_ap, Nat.reduceEqDiff, reduceIte]
        rw [show (0 : Int) + (i : Int) = (i : Int) by omega]
        refine aw_iadd dX11_count_92 rfl ?_
        refine aw_istore4 rfl dX11_count_93 rfl (by decide) ?_
        refine aw_iinc5 rfl dX11_count_95 rfl (by decide) ?_
        refine aw_goto (tgt := 70) dX11_count_98 (by decide) ?_
        exact ih2
  have loop1 : ∀ (d i : Nat), i + d = (mem 110 46).toNat → AW Γ mX11_count (zF Γ zG Q) zG 0 0 14 [some (vR 109), some (vI w), some (vI (doneTo i (mem 110))), some (vI (outTo i (mem 110))), some (vI 0), some (vI i)] [] (mcell mem 111 (mem 110)) := by
    intro d
    induction d with
    | zero =>
      intro i hi
      obtain rfl : i = (mem 110 46).toNat := by omega
      refine aw_iload dX11_count_14 rfl rfl ?_
      refine aw_aload_n dX11_count_16 rfl rfl ?_
      refine aw_getR dX11_count_17 rfl fl_X11_7 g109 (by rfl) ?_
      refine aw_bipush dX11_count_20 rfl (by decide) ?_
      refine aw_iaload dX11_count_22 rfl g110 (by decide) (by omega) ?_
      try simp only [mcell_ap, mset_ap, Nat.reduceEqDiff, reduceIte]
      refine aw_icmp_ge (tgt := 67) dX11_count_23 (by decide) rfl (by omega) (by omega) (fun c23 => ?_) (fun c23 => ?_)
      · refine aw_iconst dX11_count_67 rfl ?_
        refine aw_istore5 rfl dX11_count_68 rfl (by decide) ?_
        exact loop2 (3 * n).toNat 0 (by omega)
      · exfalso; omega
    | succ d ih =>
      intro i hi
      obtain ⟨s0, s1, s2, s3, s4, s5, s6, s7⟩ := h.2.2.2.2.2.2.2.1 i (by omega) (by omega)
      have ih2 := ih (i + 1) (by omega)
      rw [show doneTo (i + 1) (mem 110) = doneTo i (mem 110) + (if isDoneF (mem 110) i then 1 else 0) from rfl, show outTo (i + 1) (mem 110) = outTo i (mem 110) + (if mem 110 (47 + 8 * (i : Int) + 2) = -4 then 1 else 0) from rfl] at ih2
      refine aw_iload dX11_count_14 rfl rfl ?_
      refine aw_aload_n dX11_count_16 rfl rfl ?_
      refine aw_getR dX11_count_17 rfl fl_X11_7 g109 (by rfl) ?_
      refine aw_bipush dX11_count_20 rfl (by decide) ?_
      refine aw_iaload dX11_count_22 rfl g110 (by decide) (by omega) ?_
      try simp only [mcell_ap, mset_ap, Nat.reduceEqDiff, reduceIte]
      refine aw_icmp_ge (tgt := 67) dX11_count_23 (by decide) rfl (by omega) (by omega) (fun c23 => ?_) (fun c23 => ?_)
      · exfalso; omega
      · refine aw_iload_n dX11_count_26 rfl rfl ?_
        refine aw_aload_n dX11_count_27 rfl rfl ?_
        refine aw_iload dX11_count_28 rfl rfl ?_
        refine aw_callV [_] _ dX11_count_30 rfl clv_X11_199 (by decide) ⟨Nat.zero_le _, Nat.zero_le _⟩ g109 (by rfl) (Nat.le_of_ble_eq_true rfl) rfl ?_
        refine sR_isDone (by omega) (by rw [mcell_same]; exact ⟨by omega, by omega⟩) (by rw [mcell_same]; exact s3) (fun c30 => ?_) (fun c30 => ?_)
        · rw [mcell_same] at c30
          refine aw_callS [_] _ dX11_count_33 rfl cls_X11_208 (by decide) ⟨Nat.zero_le _, Nat.zero_le _⟩ (Nat.le_of_ble_eq_true rfl) rfl ?_
          refine sR_flag (by omega) ?_
          refine aw_iadd dX11_count_36 rfl ?_
          refine aw_istore2 rfl dX11_count_37 rfl (by decide) ?_
          refine aw_iload_n dX11_count_38 rfl rfl ?_
          refine aw_aload_n dX11_count_39 rfl rfl ?_
          refine aw_iload dX11_count_40 rfl rfl ?_
          refine aw_iconst dX11_count_42 rfl ?_
          refine aw_callV [_, _] _ dX11_count_43 rfl clv_X11_173 (by decide) ⟨Nat.zero_le _, Nat.zero_le _⟩ g109 (by rfl) (Nat.le_of_ble_eq_true rfl) rfl ?_
          refine sR_of (by omega) ?_
          rw [mcell_same]
          refine aw_bipush dX11_count_46 rfl (by decide) ?_
          refine aw_icmp_ne (tgt := 55) dX11_count_48 (by decide) rfl (by omega) (by omega) (fun c48 => ?_) (fun c48 => ?_)
          · refine aw_iconst dX11_count_55 rfl ?_
            refine aw_callS [_] _ dX11_count_56 rfl cls_X11_208 (by decide) ⟨Nat.zero_le _, Nat.zero_le _⟩ (Nat.le_of_ble_eq_true rfl) rfl ?_
            refine sR_flag (by omega) ?_
            refine aw_iadd dX11_count_59 rfl ?_
            refine aw_istore3 rfl dX11_count_60 rfl (by decide) ?_
            refine aw_iinc5 rfl dX11_count_61 rfl (by decide) ?_
            refine aw_goto (tgt := 14) dX11_count_64 (by decide) ?_
            first | (rw [if_pos c30] at ih2; first | (rw [if_pos c48] at ih2; exact ih2) | (rw [if_neg c48] at ih2; exact ih2)) | (rw [if_neg c30] at ih2; first | (rw [if_pos c48] at ih2; exact ih2) | (rw [if_neg c48] at ih2; exact ih2))
          · refine aw_iconst dX11_count_51 rfl ?_
            refine aw_goto (tgt := 56) dX11_count_52 (by decide) ?_
            refine aw_callS [_] _ dX11_count_56 rfl cls_X11_208 (by decide) ⟨Nat.zero_le _, Nat.zero_le _⟩ (Nat.le_of_ble_eq_true rfl) rfl ?_
            refine sR_flag (by omega) ?_
            refine aw_iadd dX11_count_59 rfl ?_
            refine aw_istore3 rfl dX11_count_60 rfl (by decide) ?_
            refine aw_iinc5 rfl dX11_count_61 rfl (by decide) ?_
            refine aw_goto (tgt := 14) dX11_count_64 (by decide) ?_
            first | (rw [if_pos c30] at ih2; first | (rw [if_pos c48] at ih2; exact ih2) | (rw [if_neg c48] at ih2; exact ih2)) | (rw [if_neg c30] at ih2; first | (rw [if_pos c48] at ih2; exact ih2) | (rw [if_neg c48] at ih2; exact ih2))
        · rw [mcell_same] at c30
          refine aw_callS [_] _ dX11_count_33 rfl cls_X11_208 (by decide) ⟨Nat.zero_le _, Nat.zero_le _⟩ (Nat.le_of_ble_eq_true rfl) rfl ?_
          refine sR_flag (by omega) ?_
          refine aw_iadd dX11_count_36 rfl ?_
          refine aw_istore2 rfl dX11_count_37 rfl (by decide) ?_
          refine aw_iload_n dX11_count_38 rfl rfl ?_
          refine aw_aload_n dX11_count_39 rfl rfl ?_
          refine aw_iload dX11_count_40 rfl rfl ?_
          refine aw_iconst dX11_count_42 rfl ?_
          refine aw_callV [_, _] _ dX11_count_43 rfl clv_X11_173 (by decide) ⟨Nat.zero_le _, Nat.zero_le _⟩ g109 (by rfl) (Nat.le_of_ble_eq_true rfl) rfl ?_
          refine sR_of (by omega) ?_
          rw [mcell_same]
          refine aw_bipush dX11_count_46 rfl (by decide) ?_
          refine aw_icmp_ne (tgt := 55) dX11_count_48 (by decide) rfl (by omega) (by omega) (fun c48 => ?_) (fun c48 => ?_)
          · refine aw_iconst dX11_count_55 rfl ?_
            refine aw_callS [_] _ dX11_count_56 rfl cls_X11_208 (by decide) ⟨Nat.zero_le _, Nat.zero_le _⟩ (Nat.le_of_ble_eq_true rfl) rfl ?_
            refine sR_flag (by omega) ?_
            refine aw_iadd dX11_count_59 rfl ?_
            refine aw_istore3 rfl dX11_count_60 rfl (by decide) ?_
            refine aw_iinc5 rfl dX11_count_61 rfl (by decide) ?_
            refine aw_goto (tgt := 14) dX11_count_64 (by decide) ?_
            first | (rw [if_pos c30] at ih2; first | (rw [if_pos c48] at ih2; exact ih2) | (rw [if_neg c48] at ih2; exact ih2)) | (rw [if_neg c30] at ih2; first | (rw [if_pos c48] at ih2; exact ih2) | (rw [if_neg c48] at ih2; exact ih2))
          · refine aw_iconst dX11_count_51 rfl ?_
            refine aw_goto (tgt := 56) dX11_count_52 (by decide) ?_
            refine aw_callS [_] _ dX11_count_56 rfl cls_X11_208 (by decide) ⟨Nat.zero_le _, Nat.zero_le _⟩ (Nat.le_of_ble_eq_true rfl) rfl ?_
            refine sR_flag (by omega) ?_
            refine aw_iadd dX11_count_59 rfl ?_
            refine aw_istore3 rfl dX11_count_60 rfl (by decide) ?_
            refine aw_iinc5 rfl dX11_count_61 rfl (by decide) ?_
            refine aw_goto (tgt := 14) dX11_count_64 (by decide) ?_
            first | (rw [if_pos c30] at ih2; first | (rw [if_pos c48] at ih2; exact ih2) | (rw [if_neg c48] at ih2; exact ih2)) | (rw [if_neg c30] at ih2; first | (rw [if_pos c48] at ih2; exact ih2) | (rw [if_neg c48] at ih2; exact ih2))
  refine AMet.of' 4 (ls := [some (vR (109)), some (vI (w)), none, none, none, none]) (by decide) rfl (Nat.le_of_ble_eq_true rfl) ?_
  refine aw_iconst dX11_count_0 rfl ?_
  refine aw_istore2 rfl dX11_count_1 rfl (by decide) ?_
  refine aw_iconst dX11_count_2 rfl ?_
  refine aw_istore3 rfl dX11_count_3 rfl (by decide) ?_
  refine aw_iconst dX11_count_4 rfl ?_
  refine aw_istore4 rfl dX11_count_5 rfl (by decide) ?_
  refine aw_aload_n dX11_count_7 rfl rfl ?_
  refine aw_callV [] _ dX11_count_8 rfl clv_X11_222 (by decide) ⟨Nat.zero_le _, Nat.zero_le _⟩ g109 (by rfl) (Nat.le_of_ble_eq_true rfl) rfl ?_
  refine sR_starts2 ?_
  refine aw_iconst dX11_count_11 rfl ?_
  refine aw_istore5 rfl dX11_count_12 rfl (by decide) ?_
  exact loop1 (mem 110 46).toNat 0 (by omega)
theorem sR_when {n p w : Int} (h : Wf n (mem 110)) (hm : mem 109 3 = n) (hp : -2147483648 ≤ p ∧ p ≤ 2147483647) (hw : -2147483648 ≤ w ∧ w ≤ 2147483647) (k : ∀ g, Q (some (vI (whenM n (mem 110) p w))) (mcell mem 111 g)) : AMet Γ mX11_when [vR 109, vI p, vI w] zG mem Q := by
  have h46 := h.2.2.2.2.2.2.1
  have loop : ∀ (d i : Nat), i + d = 41 → (0 ≤ p ∧ p < mem 110 46) ∧ (0 ≤ w ∧ w ≤ 2) → AW Γ mX11_when (zF Γ zG Q) zG 0 0 39 [some (vR 109), some (vI p), some (vI w), some (vI (doneAt n (mem 110) p i)), some (vI (blackAt n (mem 110) p i)), some (vI (goodCnt n (mem 110) p i)), some (vI i)] [] (mcell mem 111 (roundsF n i (mem 110))) := by
    intro d
    induction d with
    | zero =>
      intro i hi hok
      obtain rfl : i = 41 := by omega
      refine aw_iload dX11_when_39 rfl rfl ?_
      refine aw_bipush dX11_when_41 rfl (by decide) ?_
      refine aw_icmp_gt (tgt := 114) dX11_when_43 (by decide) rfl (by omega) (by omega) (fun c43 => ?_) (fun c43 => ?_)
      · refine aw_iload_n dX11_when_114 rfl rfl ?_
        refine aw_if_ne (tgt := 122) dX11_when_115 (by decide) rfl (by omega) (fun c115 => ?_) (fun c115 => ?_)
        · refine aw_iload_n dX11_when_122 rfl rfl ?_
          refine aw_iconst dX11_when_123 rfl ?_
          refine aw_icmp_ne (tgt := 132) dX11_when_124 (by decide) rfl (by omega) (by omega) (fun c124 => ?_) (fun c124 => ?_)
          · refine aw_iload dX11_when_132 rfl rfl ?_
            refine aw_ireturn (ty := .int) dX11_when_134 rfl rfl ?_
            first | exact q_eq (k _) (by unfold whenM; rw [if_pos hok, if_pos c115]) rfl | exact q_eq (k _) (by unfold whenM; rw [if_pos hok, if_neg c115, if_pos c124]) rfl | exact q_eq (k _) (by unfold whenM; rw [if_pos hok, if_neg c115, if_neg c124]) rfl
          · refine aw_iload dX11_when_127 rfl rfl ?_
            refine aw_goto (tgt := 134) dX11_when_129 (by decide) ?_
            refine aw_ireturn (ty := .int) dX11_when_134 rfl rfl ?_
            first | exact q_eq (k _) (by unfold whenM; rw [if_pos hok, if_pos c115]) rfl | exact q_eq (k _) (by unfold whenM; rw [if_pos hok, if_neg c115, if_pos c124]) rfl | exact q_eq (k _) (by unfold whenM; rw [if_pos hok, if_neg c115, if_neg c124]) rfl
        · refine aw_iload_n dX11_when_118 rfl rfl ?_
          refine aw_goto (tgt := 134) dX11_when_119 (by decide) ?_
          refine aw_ireturn (ty := .int) dX11_when_134 rfl rfl ?_
          first | exact q_eq (k _) (by unfold whenM; rw [if_pos hok, if_pos c115]) rfl | exact q_eq (k _) (by unfold whenM; rw [if_pos hok, if_neg c115, if_pos c124]) rfl | exact q_eq (k _) (by unfold whenM; rw [if_pos hok, if_neg c115, if_neg c124]) rfl
      · exfalso; omega
    | succ d ih =>
      intro i hi hok
      obtain ⟨w1, w2, w3, w4⟩ := roundsF_Wf i _ h
      have hsp := w1.2.2.2.2.2.2.2.1 p (by omega) (by omega)
      obtain ⟨s0, s1, s2, s3, s4, s5, s6, s7⟩ := hsp
      have r1 := doneAt_rng n (mem 110) p i
      have r2 := blackAt_rng n (mem 110) p i
      have ih2 := ih (i + 1) (by omega) hok
      rw [roundsF_s] at ih2
      have seg3 : ∀ dn bl : Int, dn = doneAt n (mem 110) p (i + 1) → bl = blackAt n (mem 110) p (i + 1) → AW Γ mX11_when (zF Γ zG Q) zG 0 0 91 [some (vR 109), some (vI p), some (vI w), some (vI dn), some (vI bl), some (vI (goodCnt n (mem 110) p i)), some (vI i)] [] (mcell mem 111 (roundsF n i (mem 110))) := by
        intro dn bl e1 e2
        rw [← e1, ← e2, show goodCnt n (mem 110) p (i + 1) = goodCnt n (mem 110) p i + (if isGoodF (roundsF n i (mem 110)) p then 1 else 0) from rfl] at ih2
        refine aw_iload dX11_when_91 rfl rfl ?_
        refine aw_aload_n dX11_when_93 rfl rfl ?_
        refine aw_iload_n dX11_when_94 rfl rfl ?_
        refine aw_callV [_] _ dX11_when_95 rfl clv_X11_205 (by decide) ⟨Nat.zero_le _, Nat.zero_le _⟩ g109 (by rfl) (Nat.le_of_ble_eq_true rfl) rfl ?_
        refine sR_isGood (n := n) (by omega) (by rw [mcell_same]; exact ⟨s0, s1, s2, s3, s4, s5, s6, s7⟩) (fun c95 => ?_) (fun c95 => ?_)
        · rw [mcell_same] at c95
          refine aw_callS [_] _ dX11_when_98 rfl cls_X11_208 (by decide) ⟨Nat.zero_le _, Nat.zero_le _⟩ (Nat.le_of_ble_eq_true rfl) rfl ?_
          refine sR_flag (by omega) ?_
          refine aw_iadd dX11_when_101 rfl ?_
          refine aw_istore5 rfl dX11_when_102 rfl (by decide) ?_
          refine aw_aload_n dX11_when_104 rfl rfl ?_
          refine aw_callV [] _ dX11_when_105 rfl clv_X11_196 (by decide) ⟨Nat.zero_le _, Nat.zero_le _⟩ g109 (by rfl) (Nat.le_of_ble_eq_true rfl) rfl ?_
          refine sR_rounds (n := n) (by rw [mcell_same]; exact w1) hm ?_
          rw [mcell_same, mcell_mcell]
          refine aw_iinc6 rfl dX11_when_108 rfl (by decide) ?_
          refine aw_goto (tgt := 39) dX11_when_111 (by decide) ?_
          first | (rw [if_pos c95] at ih2; exact ih2) | (rw [if_neg c95] at ih2; exact ih2)
        · rw [mcell_same] at c95
          refine aw_callS [_] _ dX11_when_98 rfl cls_X11_208 (by decide) ⟨Nat.zero_le _, Nat.zero_le _⟩ (Nat.le_of_ble_eq_true rfl) rfl ?_
          refine sR_flag (by omega) ?_
          refine aw_iadd dX11_when_101 rfl ?_
          refine aw_istore5 rfl dX11_when_102 rfl (by decide) ?_
          refine aw_aload_n dX11_when_104 rfl rfl ?_
          refine aw_callV [] _ dX11_when_105 rfl clv_X11_196 (by decide) ⟨Nat.zero_le _, Nat.zero_le _⟩ g109 (by rfl) (Nat.le_of_ble_eq_true rfl) rfl ?_
          refine sR_rounds (n := n) (by rw [mcell_same]; exact w1) hm ?_
          rw [mcell_same, mcell_mcell]
          refine aw_iinc6 rfl dX11_when_108 rfl (by decide) ?_
          refine aw_goto (tgt := 39) dX11_when_111 (by decide) ?_
          first | (rw [if_pos c95] at ih2; exact ih2) | (rw [if_neg c95] at ih2; exact ih2)
      have seg2 : ∀ dn : Int, dn = doneAt n (mem 110) p (i + 1) → AW Γ mX11_when (zF Γ zG Q) zG 0 0 67 [some (vR 109), some (vI p), some (vI w), some (vI dn), some (vI (blackAt n (mem 110) p i)), some (vI (goodCnt n (mem 110) p i)), some (vI i)] [] (mcell mem 111 (roundsF n i (mem 110))) := by
        intro dn e1
        refine aw_iload dX11_when_67 rfl rfl ?_
        refine aw_bipush dX11_when_69 rfl (by decide) ?_
        refine aw_icmp_ne (tgt := 87) dX11_when_71 (by decide) rfl (by omega) (by omega) (fun c71 => ?_) (fun c71 => ?_)
        · refine aw_iload dX11_when_87 rfl rfl ?_
          refine aw_istore4 rfl dX11_when_89 rfl (by decide) ?_
          first | (have hz := blackAt_n1 c71; exact seg3 _ _ e1 hz) | (have hz := blackAt_y c71 c76; exact seg3 _ _ e1 hz) | (have hz := blackAt_n2 (i := i) c76; exact seg3 _ _ e1 hz)
        · refine aw_aload_n dX11_when_74 rfl rfl ?_
          refine aw_iload_n dX11_when_75 rfl rfl ?_
          refine aw_callV [_] _ dX11_when_76 rfl clv_X11_202 (by decide) ⟨Nat.zero_le _, Nat.zero_le _⟩ g109 (by rfl) (Nat.le_of_ble_eq_true rfl) rfl ?_
          refine sR_isBlack (by omega) (by rw [mcell_same]; exact s4) (by rw [mcell_same]; exact s5) (fun c76 => ?_) (fun c76 => ?_)
          · rw [mcell_same] at c76
            refine aw_if_eq (tgt := 87) dX11_when_79 (by decide) rfl (by omega) (fun c => absurd c (by decide)) (fun _ => ?_)
            refine aw_iload dX11_when_82 rfl rfl ?_
            refine aw_goto (tgt := 89) dX11_when_84 (by decide) ?_
            refine aw_istore4 rfl dX11_when_89 rfl (by decide) ?_
            first | (have hz := blackAt_n1 c71; exact seg3 _ _ e1 hz) | (have hz := blackAt_y c71 c76; exact seg3 _ _ e1 hz) | (have hz := blackAt_n2 (i := i) c76; exact seg3 _ _ e1 hz)
          · rw [mcell_same] at c76
            refine aw_if_eq (tgt := 87) dX11_when_79 (by decide) rfl (by omega) (fun _ => ?_) (fun c => absurd c (by decide))
            refine aw_iload dX11_when_87 rfl rfl ?_
            refine aw_istore4 rfl dX11_when_89 rfl (by decide) ?_
            first | (have hz := blackAt_n1 c71; exact seg3 _ _ e1 hz) | (have hz := blackAt_y c71 c76; exact seg3 _ _ e1 hz) | (have hz := blackAt_n2 (i := i) c76; exact seg3 _ _ e1 hz)
      refine aw_iload dX11_when_39 rfl rfl ?_
      refine aw_bipush dX11_when_41 rfl (by decide) ?_
      refine aw_icmp_gt (tgt := 114) dX11_when_43 (by decide) rfl (by omega) (by omega) (fun c43 => ?_) (fun c43 => ?_)
      · exfalso; omega
      · refine aw_iload_n dX11_when_46 rfl rfl ?_
        refine aw_bipush dX11_when_47 rfl (by decide) ?_
        refine aw_icmp_ne (tgt := 65) dX11_when_49 (by decide) rfl (by omega) (by omega) (fun c49 => ?_) (fun c49 => ?_)
        · refine aw_iload_n dX11_when_65 rfl rfl ?_
          refine aw_istore3 rfl dX11_when_66 rfl (by decide) ?_
          first | (have hz := doneAt_n1 c49; exact seg2 _ hz) | (have hz := doneAt_y c49 c54; exact seg2 _ hz) | (have hz := doneAt_n2 (i := i) c54; exact seg2 _ hz)
        · refine aw_aload_n dX11_when_52 rfl rfl ?_
          refine aw_iload_n dX11_when_53 rfl rfl ?_
          refine aw_callV [_] _ dX11_when_54 rfl clv_X11_199 (by decide) ⟨Nat.zero_le _, Nat.zero_le _⟩ g109 (by rfl) (Nat.le_of_ble_eq_true rfl) rfl ?_
          refine sR_isDone (by omega) (by rw [mcell_same]; exact ⟨by omega, by omega⟩) (by rw [mcell_same]; exact s3) (fun c54 => ?_) (fun c54 => ?_)
          · rw [mcell_same] at c54
            refine aw_if_eq (tgt := 65) dX11_when_57 (by decide) rfl (by omega) (fun c => absurd c (by decide)) (fun _ => ?_)
            refine aw_iload dX11_when_60 rfl rfl ?_
            refine aw_goto (tgt := 66) dX11_when_62 (by decide) ?_
            refine aw_istore3 rfl dX11_when_66 rfl (by decide) ?_
            first | (have hz := doneAt_n1 c49; exact seg2 _ hz) | (have hz := doneAt_y c49 c54; exact seg2 _ hz) | (have hz := doneAt_n2 (i := i) c54; exact seg2 _ hz)
          · rw [mcell_same] at c54
            refine aw_if_eq (tgt := 65) dX11_when_57 (by decide) rfl (by omega) (fun _ => ?_) (fun c => absurd c (by decide))
            refine aw_iload_n dX11_when_65 rfl rfl ?_
            refine aw_istore3 rfl dX11_when_66 rfl (by decide) ?_
            first | (have hz := doneAt_n1 c49; exact seg2 _ hz) | (have hz := doneAt_y c49 c54; exact seg2 _ hz) | (have hz := doneAt_n2 (i := i) c54; exact seg2 _ hz)
  refine AMet.of' 4 (ls := [some (vR (109)), some (vI (p)), some (vI (w)), none, none, none, none]) (by decide) rfl (Nat.le_of_ble_eq_true rfl) ?_
  refine aw_aload_n dX11_when_0 rfl rfl ?_
  refine aw_iload_n dX11_when_1 rfl rfl ?_
  refine aw_callV [_] _ dX11_when_2 rfl clv_X11_217 (by decide) ⟨Nat.zero_le _, Nat.zero_le _⟩ g109 (by rfl) (Nat.le_of_ble_eq_true rfl) rfl ?_
  refine sR_isSpud h46 hp (fun c2 => ?_) (fun c2 => ?_)
  · refine aw_if_eq (tgt := 20) dX11_when_5 (by decide) rfl (by omega) (fun c => absurd c (by decide)) (fun _ => ?_)
    refine aw_iload_n dX11_when_8 rfl rfl ?_
    refine aw_i2l dX11_when_9 rfl (by omega) ?_
    refine aw_lconst (a := 0) dX11_when_10 rfl (by decide) ?_
    refine aw_ldc2 (a := 2) dX11_when_11 rfl lc_X11_215 (by decide) ?_
    refine aw_callS [_, _, _] _ dX11_when_14 rfl cls_X11_78 (by decide) ⟨Nat.zero_le _, Nat.zero_le _⟩ (Nat.le_of_ble_eq_true rfl) rfl ?_
    refine sR_in (by omega) (by omega) (by omega) (fun c14 => ?_) (fun c14 => ?_)
    · refine aw_if_ne (tgt := 22) dX11_when_17 (by decide) rfl (by omega) (fun _ => ?_) (fun c => absurd c (by decide))
      refine aw_bipush dX11_when_22 rfl (by decide) ?_
      refine aw_istore3 rfl dX11_when_24 rfl (by decide) ?_
      refine aw_bipush dX11_when_25 rfl (by decide) ?_
      refine aw_istore4 rfl dX11_when_27 rfl (by decide) ?_
      refine aw_iconst dX11_when_29 rfl ?_
      refine aw_istore5 rfl dX11_when_30 rfl (by decide) ?_
      refine aw_aload_n dX11_when_32 rfl rfl ?_
      refine aw_callV [] _ dX11_when_33 rfl clv_X11_222 (by decide) ⟨Nat.zero_le _, Nat.zero_le _⟩ g109 (by rfl) (Nat.le_of_ble_eq_true rfl) rfl ?_
      refine sR_starts2 ?_
      refine aw_iconst dX11_when_36 rfl ?_
      refine aw_istore6 rfl dX11_when_37 rfl (by decide) ?_
      exact loop 41 0 (by omega) (by omega)
    · refine aw_if_ne (tgt := 22) dX11_when_17 (by decide) rfl (by omega) (fun c => absurd c (by decide)) (fun _ => ?_)
      refine aw_iconst dX11_when_20 rfl ?_
      refine aw_ireturn (ty := .int) dX11_when_21 rfl rfl ?_
      exact q_eq (k (mem 111)) (by unfold whenM; rw [if_neg (by omega)]) mcell_self
  · refine aw_if_eq (tgt := 20) dX11_when_5 (by decide) rfl (by omega) (fun _ => ?_) (fun c => absurd c (by decide))
    refine aw_iconst dX11_when_20 rfl ?_
    refine aw_ireturn (ty := .int) dX11_when_21 rfl rfl ?_
    exact q_eq (k (mem 111)) (by unfold whenM; rw [if_neg (by omega)]) mcell_self
theorem sR_best {n w : Int} (h : Wf n (mem 110)) (hm : mem 109 3 = n) (hw : -2147483648 ≤ w ∧ w ≤ 2147483647) (k : ∀ g, Q (some (vI (bestM n (mem 110) w))) (mcell mem 111 g)) : AMet Γ mX11_best [vR 109, vI w] zG mem Q := by
  have h46 := h.2.2.2.2.2.2.1
  have loop : ∀ (d i : Nat) (x5 : Option AV), i + d = 21 → 0 ≤ w ∧ w ≤ 1 → AW Γ mX11_best (zF Γ zG Q) zG 0 0 23 [some (vR 109), some (vI w), some (vI (bestAt n (mem 110) i).1), some (vI (bestAt n (mem 110) i).2), some (vI i), x5] [] (mcell mem 111 (roundsF n i (mem 110))) := by
    intro d
    induction d with
    | zero =>
      intro i x5 hi hok
      obtain rfl : i = 21 := by omega
      refine aw_iload dX11_best_23 rfl rfl ?_
      refine aw_bipush dX11_best_25 rfl (by decide) ?_
      refine aw_icmp_gt (tgt := 72) dX11_best_27 (by decide) rfl (by omega) (by omega) (fun c27 => ?_) (fun c27 => ?_)
      · refine aw_iload_n dX11_best_72 rfl rfl ?_
        refine aw_if_ne (tgt := 80) dX11_best_73 (by decide) rfl (by omega) (fun c73 => ?_) (fun c73 => ?_)
        · refine aw_iload_n dX11_best_80 rfl rfl ?_
          refine aw_ireturn (ty := .int) dX11_best_81 rfl rfl ?_
          first | exact q_eq (k _) (by unfold bestM; rw [if_pos hok, if_pos c73]) rfl | exact q_eq (k _) (by unfold bestM; rw [if_pos hok, if_neg c73]) rfl
        · refine aw_iload_n dX11_best_76 rfl rfl ?_
          refine aw_goto (tgt := 81) dX11_best_77 (by decide) ?_
          refine aw_ireturn (ty := .int) dX11_best_81 rfl rfl ?_
          first | exact q_eq (k _) (by unfold bestM; rw [if_pos hok, if_pos c73]) rfl | exact q_eq (k _) (by unfold bestM; rw [if_pos hok, if_neg c73]) rfl
      · exfalso; omega
    | succ d ih =>
      intro i x5 hi hok
      obtain ⟨w1, w2, w3, w4⟩ := roundsF_Wf i _ h
      have r1 := bestAt_rng n (mem 110) h46 i
      have r2 := goodTo_rng (roundsF n i (mem 110)) (mem 110 46).toNat
      have ih2 := fun x => ih (i + 1) x (by omega) hok
      rw [roundsF_s, bestAt] at ih2
      refine aw_iload dX11_best_23 rfl rfl ?_
      refine aw_bipush dX11_best_25 rfl (by decide) ?_
      refine aw_icmp_gt (tgt := 72) dX11_best_27 (by decide) rfl (by omega) (by omega) (fun c27 => ?_) (fun c27 => ?_)
      · exfalso; omega
      · refine aw_aload_n dX11_best_30 rfl rfl ?_
        refine aw_callV [] _ dX11_best_31 rfl clv_X11_241 (by decide) ⟨Nat.zero_le _, Nat.zero_le _⟩ g109 (by rfl) (Nat.le_of_ble_eq_true rfl) rfl ?_
        refine sR_goods (n := n) (by rw [mcell_same]; exact w1) ?_
        rw [mcell_same, w2]
        refine aw_istore5 rfl dX11_best_34 rfl (by decide) ?_
        refine aw_iload dX11_best_36 rfl rfl ?_
        refine aw_iload_n dX11_best_38 rfl rfl ?_
        refine aw_icmp_le (tgt := 47) dX11_best_39 (by decide) rfl (by omega) (by omega) (fun c39 => ?_) (fun c39 => ?_)
        · refine aw_iload_n dX11_best_47 rfl rfl ?_
          refine aw_istore2 rfl dX11_best_48 rfl (by decide) ?_
          first | (exfalso; omega) | skip
          refine aw_iload dX11_best_49 rfl rfl ?_
          refine aw_iload_n dX11_best_51 rfl rfl ?_
          refine aw_icmp_le (tgt := 60) dX11_best_52 (by decide) rfl (by omega) (by omega) (fun c52 => ?_) (fun c52 => ?_)
          · refine aw_iload_n dX11_best_60 rfl rfl ?_
            refine aw_istore3 rfl dX11_best_61 rfl (by decide) ?_
            refine aw_aload_n dX11_best_62 rfl rfl ?_
            refine aw_callV [] _ dX11_best_63 rfl clv_X11_196 (by decide) ⟨Nat.zero_le _, Nat.zero_le _⟩ g109 (by rfl) (Nat.le_of_ble_eq_true rfl) rfl ?_
            refine sR_rounds (n := n) (by rw [mcell_same]; exact w1) hm ?_
            rw [mcell_same, mcell_mcell]
            refine aw_iinc4 rfl dX11_best_66 rfl (by decide) ?_
            refine aw_goto (tgt := 23) dX11_best_69 (by decide) ?_
            first | (exfalso; omega) | (rw [if_pos (by omega)] at ih2; exact ih2 _) | (rw [if_neg (by omega)] at ih2; exact ih2 _)
          · refine aw_iload dX11_best_55 rfl rfl ?_
            refine aw_goto (tgt := 61) dX11_best_57 (by decide) ?_
            refine aw_istore3 rfl dX11_best_61 rfl (by decide) ?_
            refine aw_aload_n dX11_best_62 rfl rfl ?_
            refine aw_callV [] _ dX11_best_63 rfl clv_X11_196 (by decide) ⟨Nat.zero_le _, Nat.zero_le _⟩ g109 (by rfl) (Nat.le_of_ble_eq_true rfl) rfl ?_
            refine sR_rounds (n := n) (by rw [mcell_same]; exact w1) hm ?_
            rw [mcell_same, mcell_mcell]
            refine aw_iinc4 rfl dX11_best_66 rfl (by decide) ?_
            refine aw_goto (tgt := 23) dX11_best_69 (by decide) ?_
            first | (exfalso; omega) | (rw [if_pos (by omega)] at ih2; exact ih2 _) | (rw [if_neg (by omega)] at ih2; exact ih2 _)
        · refine aw_iload dX11_best_42 rfl rfl ?_
          refine aw_goto (tgt := 48) dX11_best_44 (by decide) ?_
          refine aw_istore2 rfl dX11_best_48 rfl (by decide) ?_
          first | (exfalso; omega) | skip
          refine aw_iload dX11_best_49 rfl rfl ?_
          refine aw_iload_n dX11_best_51 rfl rfl ?_
          refine aw_icmp_le (tgt := 60) dX11_best_52 (by decide) rfl (by omega) (by omega) (fun c52 => ?_) (fun c52 => ?_)
          · refine aw_iload_n dX11_best_60 rfl rfl ?_
            refine aw_istore3 rfl dX11_best_61 rfl (by decide) ?_
            refine aw_aload_n dX11_best_62 rfl rfl ?_
            refine aw_callV [] _ dX11_best_63 rfl clv_X11_196 (by decide) ⟨Nat.zero_le _, Nat.zero_le _⟩ g109 (by rfl) (Nat.le_of_ble_eq_true rfl) rfl ?_
            refine sR_rounds (n := n) (by rw [mcell_same]; exact w1) hm ?_
            rw [mcell_same, mcell_mcell]
            refine aw_iinc4 rfl dX11_best_66 rfl (by decide) ?_
            refine aw_goto (tgt := 23) dX11_best_69 (by decide) ?_
            first | (exfalso; omega) | (rw [if_pos (by omega)] at ih2; exact ih2 _) | (rw [if_neg (by omega)] at ih2; exact ih2 _)
          · refine aw_iload dX11_best_55 rfl rfl ?_
            refine aw_goto (tgt := 61) dX11_best_57 (by decide) ?_
            refine aw_istore3 rfl dX11_best_61 rfl (by decide) ?_
            refine aw_aload_n dX11_best_62 rfl rfl ?_
            refine aw_callV [] _ dX11_best_63 rfl clv_X11_196 (by decide) ⟨Nat.zero_le _, Nat.zero_le _⟩ g109 (by rfl) (Nat.le_of_ble_eq_true rfl) rfl ?_
            refine sR_rounds (n := n) (by rw [mcell_same]; exact w1) hm ?_
            rw [mcell_same, mcell_mcell]
            refine aw_iinc4 rfl dX11_best_66 rfl (by decide) ?_
            refine aw_goto (tgt := 23) dX11_best_69 (by decide) ?_
            first | (exfalso; omega) | (rw [if_pos (by omega)] at ih2; exact ih2 _) | (rw [if_neg (by omega)] at ih2; exact ih2 _)
  refine AMet.of' 4 (ls := [some (vR (109)), some (vI (w)), none, none, none, none]) (by decide) rfl (Nat.le_of_ble_eq_true rfl) ?_
  refine aw_iload_n dX11_best_0 rfl rfl ?_
  refine aw_i2l dX11_best_1 rfl (by omega) ?_
  refine aw_lconst (a := 0) dX11_best_2 rfl (by decide) ?_
  refine aw_lconst (a := 1) dX11_best_3 rfl (by decide) ?_
  refine aw_callS [_, _, _] _ dX11_best_4 rfl cls_X11_78 (by decide) ⟨Nat.zero_le _, Nat.zero_le _⟩ (Nat.le_of_ble_eq_true rfl) rfl ?_
  refine sR_in (by omega) (by omega) (by omega) (fun c4 => ?_) (fun c4 => ?_)
  · refine aw_if_ne (tgt := 12) dX11_best_7 (by decide) rfl (by omega) (fun _ => ?_) (fun c => absurd c (by decide))
    refine aw_iconst dX11_best_12 rfl ?_
    refine aw_istore2 rfl dX11_best_13 rfl (by decide) ?_
    refine aw_iconst dX11_best_14 rfl ?_
    refine aw_istore3 rfl dX11_best_15 rfl (by decide) ?_
    refine aw_aload_n dX11_best_16 rfl rfl ?_
    refine aw_callV [] _ dX11_best_17 rfl clv_X11_222 (by decide) ⟨Nat.zero_le _, Nat.zero_le _⟩ g109 (by rfl) (Nat.le_of_ble_eq_true rfl) rfl ?_
    refine sR_starts2 ?_
    refine aw_iconst dX11_best_20 rfl ?_
    refine aw_istore4 rfl dX11_best_21 rfl (by decide) ?_
    exact loop 21 0 none (by omega) (by omega)
  · refine aw_if_ne (tgt := 12) dX11_best_7 (by decide) rfl (by omega) (fun c => absurd c (by decide)) (fun _ => ?_)
    refine aw_iconst dX11_best_10 rfl ?_
    refine aw_ireturn (ty := .int) dX11_best_11 rfl rfl ?_
    exact q_eq (k (mem 111)) (by unfold bestM; rw [if_neg (by omega)]) mcell_self
end ZRef8
