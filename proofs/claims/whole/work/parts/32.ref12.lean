/-- lost by morning: the sum of tenths, the ways that none is, all ways -/
def mornAt (f : Int → Int) : Nat → Int × Int × Int
  | 0 => (0, 1, 1)
  | p + 1 => ((mornAt f p).1 + (if f (47 + 8 * (p : Int) + 2) = -4 then 0 else 1 + 2 * (f (47 + 8 * (p : Int) + 2) % 3)), (mornAt f p).2.1 * (10 - (if f (47 + 8 * (p : Int) + 2) = -4 then 0 else 1 + 2 * (f (47 + 8 * (p : Int) + 2) % 3))), (mornAt f p).2.2 * 10)
def morningM (f : Int → Int) (w : Int) : Int := if 0 ≤ w ∧ w ≤ 3 then (if w < 2 then ratM (mornAt f (f 46).toNat).1 10 w else ratM (mornAt f (f 46).toNat).2.1 (mornAt f (f 46).toNat).2.2 (w - 2)) else -1
def seedF (v : Int) : Int := v * 1103515245 + 12345
def bitsF (v : Int) : Int := zand (zshr v 16) 32767
def meddleF (f : Int → Int) (p d : Int) : Int → Int := if d = 0 then turnF f p else if d = 1 ∧ isDoneF f p then fset f (47 + 8 * p + 2) (-4) else f
def driftAt (n : Int) (f : Int → Int) (seed : Int) : Nat → Int × (Int → Int)
  | 0 => (seed, f)
  | k + 1 => (seedF (seedF (driftAt n f seed k).1), roundF n (meddleF (driftAt n f seed k).2 (bitsF (seedF (driftAt n f seed k).1) % f 46) (bitsF (seedF (seedF (driftAt n f seed k).1)) % 3)))
def driftM (n : Int) (f : Int → Int) (seed c w : Int) : Int := if (1 ≤ c ∧ c ≤ 60) ∧ (0 ≤ w ∧ w ≤ 1) then (if f 46 = 0 then -2 else if w = 0 then goodTo (f 46).toNat (driftAt n f seed c.toNat).2 else blackTo (f 46).toNat (driftAt n f seed c.toNat).2) else -1
theorem meanTo_rng (n : Int) (f : Int → Int) (x : Int) : ∀ p : Nat, 0 ≤ meanTo n f x p ∧ meanTo n f x p ≤ 55440 * p := by
  intro p
  induction p with
  | zero => exact ⟨Int.le_refl _, Int.le_refl _⟩
  | succ p ih =>
    have h1 := weightF_rng f p x
    have h2 := allTo_rng f p (3 * n).toNat
    rw [meanTo]
    push_cast
    split
    · omega
    · have h3 : 0 ≤ 27720 / allTo f p (3 * n).toNat ∧ 27720 / allTo f p (3 * n).toNat ≤ 27720 := ⟨Int.ediv_nonneg (by decide) h2.1, Int.ediv_le_self _ (by decide)⟩
      generalize 27720 / allTo f p (3 * n).toNat = q at *
      obtain e | e | e : weightF f p x = 0 ∨ weightF f p x = 1 ∨ weightF f p x = 2 := by omega
      · rw [e]; omega
      · rw [e]; omega
      · rw [e]; omega
theorem nextAt_rng (n : Int) (f : Int → Int) (h : 0 ≤ f 46 ∧ f 46 ≤ 6) : ∀ x : Nat, (0 ≤ (nextAt n f x).2 ∧ (nextAt n f x).2 ≤ 400000) ∧ (-4 ≤ (nextAt n f x).1 ∧ (nextAt n f x).1 ≤ x) := by
  intro x
  induction x with
  | zero => show ((0 : Int) ≤ 0 ∧ (0 : Int) ≤ 400000) ∧ ((-4 : Int) ≤ -4 ∧ (-4 : Int) ≤ 0); omega
  | succ x ih =>
    have h1 := meanTo_rng n f x (f 46).toNat
    rw [nextAt]
    push_cast
    split
    · dsimp only; omega
    · omega
theorem mornAt_rng (f : Int → Int) (hs : ∀ p : Nat, p < 6 → -4 ≤ f (47 + 8 * (p : Int) + 2)) : ∀ p : Nat, p ≤ 6 → (0 ≤ (mornAt f p).1 ∧ (mornAt f p).1 ≤ 5 * p) ∧ (1 ≤ (mornAt f p).2.1 ∧ (mornAt f p).2.1 ≤ (10 : Int) ^ p) ∧ (mornAt f p).2.2 = (10 : Int) ^ p := by
  intro p
  induction p with
  | zero => intro _; show ((0 : Int) ≤ 0 ∧ (0 : Int) ≤ 0) ∧ ((1 : Int) ≤ 1 ∧ (1 : Int) ≤ 1) ∧ (1 : Int) = 1; omega
  | succ p ih =>
    intro hp
    obtain ⟨a, b, c⟩ := ih (by omega)
    have h1 := hs p (by omega)
    have h2 : 0 ≤ (if f (47 + 8 * (p : Int) + 2) = -4 then (0 : Int) else 1 + 2 * (f (47 + 8 * (p : Int) + 2) % 3)) ∧ (if f (47 + 8 * (p : Int) + 2) = -4 then (0 : Int) else 1 + 2 * (f (47 + 8 * (p : Int) + 2) % 3)) ≤ 5 := by split <;> omega
    rw [mornAt]
    generalize (if f (47 + 8 * (p : Int) + 2) = -4 then (0 : Int) else 1 + 2 * (f (47 + 8 * (p : Int) + 2) % 3)) = q at *
    dsimp only
    rw [Int.pow_succ]
    push_cast
    refine ⟨by omega, ⟨?_, ?_⟩, by rw [c]⟩
    · have := Int.mul_le_mul b.1 (show (1 : Int) ≤ 10 - q by omega) (by decide) (by omega)
      omega
    · exact Int.mul_le_mul b.2 (by omega) (by omega) (by omega)
section ZRef12
variable {Γ : ZG} {mem : Mem} {Q : Option AV → Mem → Prop}
theorem sR_next {n w : Int} (h : Wf n (mem 110)) (hm : mem 109 3 = n) (hw : -2147483648 ≤ w ∧ w ≤ 2147483647) (k : Q (some (vL (nextM n (mem 110) w))) mem) : AMet Γ mX11_next_ [vR 109, vI w] zG mem Q := by
  have h46 := h.2.2.2.2.2.2.1
  have hn := h.1
  have told : ∀ (o : Int) (x5 x6 x7 x8 x9 : Option AV), 0 ≤ w ∧ w ≤ 2 → ¬ (nextAt n (mem 110) (3 * n).toNat).1 = -4 → ¬ w = 0 → o = 1 - (w - 1) → AW Γ mX11_next_ (zF Γ zG Q) zG 0 0 164 [some (vR 109), some (vI w), some (vI (nextAt n (mem 110) (3 * n).toNat).1), some (vL (nextAt n (mem 110) (3 * n).toNat).2), none, x5, x6, x7, x8, x9] [vI o, vL 27720, vL (nextAt n (mem 110) (3 * n).toNat).2] mem := by
    intro o x5 x6 x7 x8 x9 hok h1 h2 ho
    have r := nextAt_rng n (mem 110) h46 (3 * n).toNat
    refine aw_callS [_, _, _] _ dX11_next__164 rfl cls_X11_279 (by decide) ⟨Nat.zero_le _, Nat.zero_le _⟩ (Nat.le_of_ble_eq_true rfl) rfl ?_
    refine sR_told (by omega) (by omega) (by omega) ?_
    refine aw_lreturn dX11_next__167 rfl ?_
    exact q_eq k (by unfold nextM; rw [if_pos hok, if_neg h1, if_neg h2, show 1 - o = w - 1 by omega]) rfl
  have inner : ∀ (x : Nat), (x : Int) < 3 * n → (∀ (x8 x9 : Option AV), AW Γ mX11_next_ (zF Γ zG Q) zG 0 0 97 [some (vR 109), some (vI w), some (vI (nextAt n (mem 110) x).1), some (vL (nextAt n (mem 110) x).2), none, some (vI x), some (vL (meanTo n (mem 110) x (mem 110 46).toNat)), none, x8, x9] [] mem) → ∀ (d p : Nat) (x9 : Option AV), p + d = (mem 110 46).toNat → AW Γ mX11_next_ (zF Γ zG Q) zG 0 0 41 [some (vR 109), some (vI w), some (vI (nextAt n (mem 110) x).1), some (vL (nextAt n (mem 110) x).2), none, some (vI x), some (vL (meanTo n (mem 110) x p)), none, some (vI p), x9] [] mem := by
    intro x hx hk d
    induction d with
    | zero =>
      intro p x9 hp
      obtain rfl : p = (mem 110 46).toNat := by omega
      refine aw_iload dX11_next__41 rfl rfl ?_
      refine aw_aload_n dX11_next__43 rfl rfl ?_
      refine aw_getR dX11_next__44 rfl fl_X11_7 g109 (by rfl) ?_
      refine aw_bipush dX11_next__47 rfl (by decide) ?_
      refine aw_iaload dX11_next__49 rfl g110 (by decide) (by omega) ?_
      refine aw_icmp_ge (tgt := 97) dX11_next__50 (by decide) rfl (by omega) (by omega) (fun c50 => ?_) (fun c50 => ?_)
      · exact hk _ _
      · exfalso; omega
    | succ d ih =>
      intro p x9 hp
      obtain ⟨s0, s1, s2, s3, s4, s5, s6, s7⟩ := h.2.2.2.2.2.2.2.1 p (by omega) (by omega)
      have ra := allTo_rng (mem 110) p (3 * n).toNat
      have rw1 := weightF_rng (mem 110) p x
      have rm := meanTo_rng n (mem 110) x p
      have ih2 := fun x9 => ih (p + 1) x9 (by omega)
      rw [meanTo] at ih2
      have h3 : 0 ≤ 27720 / allTo (mem 110) p (3 * n).toNat ∧ 27720 / allTo (mem 110) p (3 * n).toNat ≤ 27720 := ⟨Int.ediv_nonneg (by decide) ra.1, Int.ediv_le_self _ (by decide)⟩
      have h4 : 0 ≤ 27720 / allTo (mem 110) p (3 * n).toNat * weightF (mem 110) p x ∧ 27720 / allTo (mem 110) p (3 * n).toNat * weightF (mem 110) p x ≤ 55440 := by
        generalize 27720 / allTo (mem 110) p (3 * n).toNat = q at *
        obtain e | e | e : weightF (mem 110) p x = 0 ∨ weightF (mem 110) p x = 1 ∨ weightF (mem 110) p x = 2 := by omega
        · rw [e]; omega
        · rw [e]; omega
        · rw [e]; omega
      refine aw_iload dX11_next__41 rfl rfl ?_
      refine aw_aload_n dX11_next__43 rfl rfl ?_
      refine aw_getR dX11_next__44 rfl fl_X11_7 g109 (by rfl) ?_
      refine aw_bipush dX11_next__47 rfl (by decide) ?_
      refine aw_iaload dX11_next__49 rfl g110 (by decide) (by omega) ?_
      refine aw_icmp_ge (tgt := 97) dX11_next__50 (by decide) rfl (by omega) (by omega) (fun c50 => ?_) (fun c50 => ?_)
      · exfalso; omega
      · refine aw_aload_n dX11_next__53 rfl rfl ?_
        refine aw_iload dX11_next__54 rfl rfl ?_
        refine aw_callV [_] _ dX11_next__56 rfl clv_X11_274 (by decide) ⟨Nat.zero_le _, Nat.zero_le _⟩ g109 (by rfl) (Nat.le_of_ble_eq_true rfl) rfl ?_
        refine sR_allOf (n := n) hn hm (by omega) (by omega) ?_
        refine aw_istore9 rfl dX11_next__59 rfl (by decide) ?_
        refine aw_lload dX11_next__61 rfl rfl ?_
        refine aw_iload dX11_next__63 rfl rfl ?_
        refine aw_if_ne (tgt := 72) dX11_next__65 (by decide) rfl (by omega) (fun c65 => ?_) (fun c65 => ?_)
        · refine aw_sipush dX11_next__72 rfl (by decide) ?_
          refine aw_iload dX11_next__75 rfl rfl ?_
          refine aw_idiv dX11_next__77 rfl (by omega) (by omega) ?_
          refine aw_aload_n dX11_next__78 rfl rfl ?_
          refine aw_iload dX11_next__79 rfl rfl ?_
          refine aw_iload dX11_next__81 rfl rfl ?_
          refine aw_callV [_, _] _ dX11_next__83 rfl clv_X11_263 (by decide) ⟨Nat.zero_le _, Nat.zero_le _⟩ g109 (by rfl) (Nat.le_of_ble_eq_true rfl) rfl ?_
          refine sR_weightOf (by omega) (by omega) (by omega) ?_
          refine aw_imul dX11_next__86 rfl ?_
          refine aw_i2l dX11_next__87 rfl (by omega) ?_
          refine aw_ladd dX11_next__88 rfl ?_
          refine aw_lstore6 rfl dX11_next__89 rfl (by decide) ?_
          refine aw_iinc8 rfl dX11_next__91 rfl (by decide) ?_
          refine aw_goto (tgt := 41) dX11_next__94 (by decide) ?_
          first | (rw [if_pos c65] at ih2; exact ih2 _) | (rw [if_neg c65] at ih2; exact ih2 _)
        · refine aw_lconst (a := 0) dX11_next__68 rfl (by decide) ?_
          refine aw_goto (tgt := 88) dX11_next__69 (by decide) ?_
          refine aw_ladd dX11_next__88 rfl ?_
          refine aw_lstore6 rfl dX11_next__89 rfl (by decide) ?_
          refine aw_iinc8 rfl dX11_next__91 rfl (by decide) ?_
          refine aw_goto (tgt := 41) dX11_next__94 (by decide) ?_
          first | (rw [if_pos c65] at ih2; exact ih2 _) | (rw [if_neg c65] at ih2; exact ih2 _)
  have outer : ∀ (d x : Nat) (x6 x7 x8 x9 : Option AV), zlong x7 = false → (x : Int) + d = 3 * n → 0 ≤ w ∧ w ≤ 2 → AW Γ mX11_next_ (zF Γ zG Q) zG 0 0 24 [some (vR 109), some (vI w), some (vI (nextAt n (mem 110) x).1), some (vL (nextAt n (mem 110) x).2), none, some (vI x), x6, x7, x8, x9] [] mem := by
    intro d
    induction d with
    | zero =>
      intro x x6 x7 x8 x9 z7 hx hok
      have r := nextAt_rng n (mem 110) h46 x
      have e : x = (3 * n).toNat := by omega
      refine aw_iload dX11_next__24 rfl rfl ?_
      refine aw_iconst dX11_next__26 rfl ?_
      refine aw_aload_n dX11_next__27 rfl rfl ?_
      refine aw_getI (kI := 3) dX11_next__28 rfl fl_X11_73 g109 (by rfl) rfl ?_
      refine aw_imul dX11_next__31 rfl ?_
      refine aw_icmp_ge (tgt := 131) dX11_next__32 (by decide) rfl (by omega) (by omega) (fun c32 => ?_) (fun c32 => ?_)
      · refine aw_iload_n dX11_next__131 rfl rfl ?_
        refine aw_bipush dX11_next__132 rfl (by decide) ?_
        refine aw_icmp_ne (tgt := 141) dX11_next__134 (by decide) rfl (by omega) (by omega) (fun c134 => ?_) (fun c134 => ?_)
        · refine aw_iload_n dX11_next__141 rfl rfl ?_
          refine aw_if_ne (tgt := 150) dX11_next__142 (by decide) rfl (by omega) (fun c142 => ?_) (fun c142 => ?_)
          · refine aw_lload_n dX11_next__150 rfl rfl ?_
            refine aw_ldc2 (a := 27720) dX11_next__151 rfl lc_X11_283 (by decide) ?_
            refine aw_iload_n dX11_next__154 rfl rfl ?_
            refine aw_iconst dX11_next__155 rfl ?_
            refine aw_icmp_ne (tgt := 163) dX11_next__156 (by decide) rfl (by omega) (by omega) (fun c156 => ?_) (fun c156 => ?_)
            · refine aw_iconst dX11_next__163 rfl ?_
              subst e
              exact told _ _ _ _ _ _ hok c134 c142 (by omega)
            · refine aw_iconst dX11_next__159 rfl ?_
              refine aw_goto (tgt := 164) dX11_next__160 (by decide) ?_
              subst e
              exact told _ _ _ _ _ _ hok c134 c142 (by omega)
          · refine aw_iload_n dX11_next__145 rfl rfl ?_
            refine aw_i2l dX11_next__146 rfl (by omega) ?_
            refine aw_goto (tgt := 167) dX11_next__147 (by decide) ?_
            refine aw_lreturn dX11_next__167 rfl ?_
            exact q_eq k (by unfold nextM; rw [if_pos hok, ← e, if_neg c134, if_pos c142]) rfl
        · refine aw_ldc2 (a := -4) dX11_next__137 rfl lc_X11_277 (by decide) ?_
          refine aw_lreturn dX11_next__140 rfl ?_
          exact q_eq k (by unfold nextM; rw [if_pos hok, ← e, if_pos c134]) rfl
      · exfalso; omega
    | succ d ih =>
      intro x x6 x7 x8 x9 z7 hx hok
      have r := nextAt_rng n (mem 110) h46 x
      have rm := meanTo_rng n (mem 110) x (mem 110 46).toNat
      have ih2 := fun x6 x7 x8 x9 z => ih (x + 1) x6 x7 x8 x9 z (by push_cast; omega) hok
      rw [nextAt] at ih2
      have key : ∀ (x8 x9 : Option AV), AW Γ mX11_next_ (zF Γ zG Q) zG 0 0 97 [some (vR 109), some (vI w), some (vI (nextAt n (mem 110) x).1), some (vL (nextAt n (mem 110) x).2), none, some (vI x), some (vL (meanTo n (mem 110) x (mem 110 46).toNat)), none, x8, x9] [] mem := by
        intro x8 x9
        refine aw_lload dX11_next__97 rfl rfl ?_
        refine aw_lload_n dX11_next__99 rfl rfl ?_
        refine aw_lif_le (tgt := 109) dX11_next__100 dX11_next__101 rfl (by decide) rfl (by omega) (by omega) (fun c100 => ?_) (fun c100 => ?_)
        · refine aw_iload_n dX11_next__109 rfl rfl ?_
          refine aw_istore2 rfl dX11_next__110 rfl (by decide) ?_
          first | (exfalso; omega) | skip
          refine aw_lload dX11_next__111 rfl rfl ?_
          refine aw_lload_n dX11_next__113 rfl rfl ?_
          refine aw_lif_le (tgt := 123) dX11_next__114 dX11_next__115 rfl (by decide) rfl (by omega) (by omega) (fun c114 => ?_) (fun c114 => ?_)
          · refine aw_lload_n dX11_next__123 rfl rfl ?_
            refine aw_lstore3 rfl dX11_next__124 rfl (by decide) ?_
            refine aw_iinc5 rfl dX11_next__125 rfl (by decide) ?_
            refine aw_goto (tgt := 24) dX11_next__128 (by decide) ?_
            first | (exfalso; omega) | (rw [if_pos (by omega)] at ih2; exact ih2 _ _ _ _ rfl) | (rw [if_neg (by omega)] at ih2; exact ih2 _ _ _ _ rfl)
          · refine aw_lload dX11_next__118 rfl rfl ?_
            refine aw_goto (tgt := 124) dX11_next__120 (by decide) ?_
            refine aw_lstore3 rfl dX11_next__124 rfl (by decide) ?_
            refine aw_iinc5 rfl dX11_next__125 rfl (by decide) ?_
            refine aw_goto (tgt := 24) dX11_next__128 (by decide) ?_
            first | (exfalso; omega) | (rw [if_pos (by omega)] at ih2; exact ih2 _ _ _ _ rfl) | (rw [if_neg (by omega)] at ih2; exact ih2 _ _ _ _ rfl)
        · refine aw_iload dX11_next__104 rfl rfl ?_
          refine aw_goto (tgt := 110) dX11_next__106 (by decide) ?_
          refine aw_istore2 rfl dX11_next__110 rfl (by decide) ?_
          first | (exfalso; omega) | skip
          refine aw_lload dX11_next__111 rfl rfl ?_
          refine aw_lload_n dX11_next__113 rfl rfl ?_
          refine aw_lif_le (tgt := 123) dX11_next__114 dX11_next__115 rfl (by decide) rfl (by omega) (by omega) (fun c114 => ?_) (fun c114 => ?_)
          · refine aw_lload_n dX11_next__123 rfl rfl ?_
            refine aw_lstore3 rfl dX11_next__124 rfl (by decide) ?_
            refine aw_iinc5 rfl dX11_next__125 rfl (by decide) ?_
            refine aw_goto (tgt := 24) dX11_next__128 (by decide) ?_
            first | (exfalso; omega) | (rw [if_pos (by omega)] at ih2; exact ih2 _ _ _ _ rfl) | (rw [if_neg (by omega)] at ih2; exact ih2 _ _ _ _ rfl)
          · refine aw_lload dX11_next__118 rfl rfl ?_
            refine aw_goto (tgt := 124) dX11_next__120 (by decide) ?_
            refine aw_lstore3 rfl dX11_next__124 rfl (by decide) ?_
            refine aw_iinc5 rfl dX11_next__125 rfl (by decide) ?_
            refine aw_goto (tgt := 24) dX11_next__128 (by decide) ?_
            first | (exfalso; omega) | (rw [if_pos (by omega)] at ih2; exact ih2 _ _ _ _ rfl) | (rw [if_neg (by omega)] at ih2; exact ih2 _ _ _ _ rfl)
      refine aw_iload dX11_next__24 rfl rfl ?_
      refine aw_iconst dX11_next__26 rfl ?_
      refine aw_aload_n dX11_next__27 rfl rfl ?_
      refine aw_getI (kI := 3) dX11_next__28 rfl fl_X11_73 g109 (by rfl) rfl ?_
      refine aw_imul dX11_next__31 rfl ?_
      refine aw_icmp_ge (tgt := 131) dX11_next__32 (by decide) rfl (by omega) (by omega) (fun c32 => ?_) (fun c32 => ?_)
      · exfalso; omega
      · refine aw_lconst (a := 0) dX11_next__35 rfl (by decide) ?_
        refine aw_lstore6 rfl dX11_next__36 rfl (by decide) ?_
        refine aw_iconst dX11_next__38 rfl ?_
        refine aw_istore8 rfl dX11_next__39 rfl (by decide) ?_
        exact inner x (by omega) key (mem 110 46).toNat 0 _ (by omega)
  refine AMet.of' 8 (ls := [some (vR (109)), some (vI (w)), none, none, none, none, none, none, none, none]) (by decide) rfl (Nat.le_of_ble_eq_true rfl) ?_
  refine aw_iload_n dX11_next__0 rfl rfl ?_
  refine aw_i2l dX11_next__1 rfl (by omega) ?_
  refine aw_lconst (a := 0) dX11_next__2 rfl (by decide) ?_
  refine aw_ldc2 (a := 2) dX11_next__3 rfl lc_X11_215 (by decide) ?_
  refine aw_callS [_, _, _] _ dX11_next__6 rfl cls_X11_78 (by decide) ⟨Nat.zero_le _, Nat.zero_le _⟩ (Nat.le_of_ble_eq_true rfl) rfl ?_
  refine sR_in (by omega) (by omega) (by omega) (fun c6 => ?_) (fun c6 => ?_)
  · refine aw_if_ne (tgt := 16) dX11_next__9 (by decide) rfl (by omega) (fun _ => ?_) (fun c => absurd c (by decide))
    refine aw_bipush dX11_next__16 rfl (by decide) ?_
    refine aw_istore2 rfl dX11_next__18 rfl (by decide) ?_
    refine aw_lconst (a := 0) dX11_next__19 rfl (by decide) ?_
    refine aw_lstore3 rfl dX11_next__20 rfl (by decide) ?_
    refine aw_iconst dX11_next__21 rfl ?_
    refine aw_istore5 rfl dX11_next__22 rfl (by decide) ?_
    exact outer (3 * n).toNat 0 none none none none rfl (by omega) (by omega)
  · refine aw_if_ne (tgt := 16) dX11_next__9 (by decide) rfl (by omega) (fun c => absurd c (by decide)) (fun _ => ?_)
    refine aw_ldc2 (a := -1) dX11_next__12 rfl lc_X11_270 (by decide) ?_
    refine aw_lreturn dX11_next__15 rfl ?_
    exact q_eq k (by unfold nextM; rw [if_neg (by omega)]) rfl
end ZRef12
