/-! the least wood -/
theorem round0_sp {n : Int} {f : Int → Int} (w : Wf n f) {p : Nat} (hp : (p : Int) < f 46) {t : Int} (ht : 0 ≤ t ∧ t < 8) : round0 n f (47 + 8 * (p : Int) + t) = bakeF p f (47 + 8 * (p : Int) + t) := by
  rw [← round_sp w hp ht]
  unfold roundF round0
  rw [fset_ne (by omega)]
theorem roundE_sp {n c v : Int} {f : Int → Int} (w : Wf n f) (hc : 0 ≤ c ∧ c < 8) (hv : 0 ≤ v) {p : Nat} (hp : (p : Int) < f 46) {t : Int} (ht : 0 ≤ t ∧ t < 8) : roundE n f c v (47 + 8 * (p : Int) + t) = bakeF p f (47 + 8 * (p : Int) + t) := by
  have w46 := w.n46
  obtain ⟨w1, w2, w3⟩ := bakeTo_Wf w (f 46).toNat (by omega)
  obtain ⟨w4, w5⟩ := burnF_Wf w1
  obtain ⟨w6, w7⟩ := emberF_Wf w4 hc hv
  obtain ⟨w8, w9⟩ := coolF_Wf w6
  unfold roundE
  rw [w9 _ (by omega), w7 _ (by omega), w5 _ (by omega)]
  exact bake_at w hp ht _ (by omega) (by omega)
theorem least_ok {n c v : Int} {f : Int → Int} (w : Wf n f) (hc : 0 ≤ c ∧ c < 8) (hv : 0 ≤ v) {p : Nat} (hp : (p : Int) < f 46) : (∀ k, Wf n (leastRow n f c v k)) ∧ (∀ (k : Nat) (t : Int), 0 ≤ t → t < 8 → leastRow n f c v (k + 1) (47 + 8 * (p : Int) + t) = bakeF p (leastRow n f c v k) (47 + 8 * (p : Int) + t)) := by
  refine ⟨fun k => (leastRow_Wf w hc hv k).1, fun k t t0 t1 => ?_⟩
  cases k with
  | zero => exact roundE_sp w hc hv hp ⟨t0, t1⟩
  | succ k =>
    obtain ⟨w1, w2⟩ := leastRow_Wf w hc hv (k + 1)
    exact round0_sp w1 (by rw [w2]; exact hp) ⟨t0, t1⟩
theorem least_low {n c v : Int} {f : Int → Int} (w : Wf n f) (hc : 0 ≤ c ∧ c < 8) (hv : 0 ≤ v) : ∀ k : Nat, (leastRow n f c v k 24 = f 24 ∧ leastRow n f c v k 25 = f 25) ∧ (0 < k → ∀ x r : Int, 1 ≤ r → embS (leastRow n f c v k) x r = embS f x (r + k)) := by
  intro k
  have w46 := w.n46
  have w26 := w.2.2.2.2.1
  induction k with
  | zero => exact ⟨⟨rfl, rfl⟩, fun h => by omega⟩
  | succ k ih =>
    cases k with
    | zero =>
      have e : leastRow n f c v (0 + 1) = roundE n f c v := rfl
      rw [e]
      obtain ⟨w1, w2, w3⟩ := bakeTo_Wf w (f 46).toNat (by omega)
      obtain ⟨w4, w5⟩ := burnF_Wf w1
      obtain ⟨w6, w7⟩ := emberF_Wf w4 hc hv
      obtain ⟨w8, w9⟩ := coolF_Wf w6
      refine ⟨⟨?_, ?_⟩, fun _ x r hr => ?_⟩
      · unfold roundE; rw [w9 24 (by omega), w7 24 (by omega), w5 24 (by omega), w3 24 (by omega)]
      · unfold roundE; rw [w9 25 (by omega), w7 25 (by omega), w5 25 (by omega), w3 25 (by omega)]
      · unfold roundE
        rw [embS_congr w6.2.2.2.2.1 (fun j j0 j1 => w9 j (by omega)), embS_congr w4.2.2.2.2.1 (fun j j0 j1 => w7 j (by omega)), burn_emb w1 hr, embS_congr w26 (fun j _ _ => bake_low w (by omega))]
        rfl
    | succ k =>
      have e : leastRow n f c v (k + 1 + 1) = round0 n (leastRow n f c v (k + 1)) := rfl
      rw [e]
      obtain ⟨⟨i1, i2⟩, i3⟩ := ih
      obtain ⟨v1, v2⟩ := leastRow_Wf w hc hv (k + 1)
      have v46 := v1.n46
      obtain ⟨w1, w2, w3⟩ := bakeTo_Wf v1 (leastRow n f c v (k + 1) 46).toNat (by omega)
      obtain ⟨w4, w5⟩ := burnF_Wf w1
      obtain ⟨w8, w9⟩ := coolF_Wf w4
      refine ⟨⟨?_, ?_⟩, fun _ x r hr => ?_⟩
      · unfold round0; rw [w9 24 (by omega), w5 24 (by omega), w3 24 (by omega)]; exact i1
      · unfold round0; rw [w9 25 (by omega), w5 25 (by omega), w3 25 (by omega)]; exact i2
      · unfold round0
        rw [embS_congr w4.2.2.2.2.1 (fun j j0 j1 => w9 j (by omega)), burn_emb w1 hr, embS_congr v1.2.2.2.2.1 (fun j _ _ => bake_low v1 (by omega)), i3 (by omega) x (r + 1) (by omega)]
        push_cast
        rw [show r + 1 + ((k : Int) + 1) = r + (k + 1 + 1) by omega]
theorem least_heat {n v : Int} {f : Int → Int} (w : Wf n f) {x : Int} (hx : 0 ≤ x ∧ x < 3 * n) (hv : 0 ≤ v ∧ v ≤ 99) : ∀ k : Nat, leastRow n f (x / 3) v k x = trk (fun r => embS f x r + (if r = 1 then shr v x else 0)) (f x) (lessF n f x) k := by
  have hn := w.1
  have w46 := w.n46
  have w26 := w.2.2.2.2.1
  have hc : 0 ≤ x / 3 ∧ x / 3 < 8 := by omega
  intro k
  induction k with
  | zero => rfl
  | succ k ih =>
    cases k with
    | zero =>
      have e : leastRow n f (x / 3) v (0 + 1) = roundE n f (x / 3) v := rfl
      rw [e, trk, trk]
      obtain ⟨w1, w2, w3⟩ := bakeTo_Wf w (f 46).toNat (by omega)
      obtain ⟨w4, w5⟩ := burnF_Wf w1
      obtain ⟨w6, w7⟩ := emberF_Wf w4 hc hv.1
      have sr := shr_rng (v := v) (x := x) hv.1
      unfold roundE coolF coolTo
      rw [if_pos hx, ember_at hx.1, if_pos rfl, burn_heat w1 (by omega), bake_low w (by omega), embS_congr w26 (fun j _ _ => bake_low w (by omega))]
      unfold lessF
      rw [w7 24 (by omega), w7 25 (by omega), w5 24 (by omega), w5 25 (by omega), bake_low w (by omega), bake_low w (by omega)]
      rw [show (((0 : Nat) : Int) + 1) = 1 by omega, if_pos rfl]
      generalize (if x / 3 = 0 ∨ x / 3 = n - 1 then f 25 else 0) = q
      omega
    | succ k =>
      have e : leastRow n f (x / 3) v (k + 1 + 1) = round0 n (leastRow n f (x / 3) v (k + 1)) := rfl
      obtain ⟨v1, v2⟩ := leastRow_Wf w hc hv.1 (k + 1)
      obtain ⟨⟨l1, l2⟩, l3⟩ := least_low w hc hv.1 (k + 1)
      have v46 := v1.n46
      obtain ⟨w1, w2, w3⟩ := bakeTo_Wf v1 (leastRow n f (x / 3) v (k + 1) 46).toNat (by omega)
      rw [e, trk]
      unfold round0
      rw [cool_burn w1 hx, bake_low v1 (by omega), embS_congr v1.2.2.2.2.1 (fun j _ _ => bake_low v1 (by omega)), l3 (by omega) x 1 (by omega), ih]
      unfold lessF
      rw [bake_low v1 (by omega), bake_low v1 (by omega), l1, l2]
      rw [if_neg (show ¬ (((k + 1 : Nat) : Int) + 1 = 1) by push_cast; omega), Int.add_zero, Int.add_comm 1]
theorem least_done {n v : Int} {f : Int → Int} (w : Wf n f) {p : Nat} (hp : (p : Int) < f 46) (hne : ¬ f (47 + 8 * (p : Int) + 2) = -4) (hv : 0 ≤ v ∧ v ≤ 99) (k : Nat) : isDoneF (leastRow n f (f (47 + 8 * (p : Int) + 2) / 3) v k) p ↔ 10 * f (47 + 8 * (p : Int) + 0) ≤ f (47 + 8 * (p : Int) + 3) + gain (trk (fun r => embS f (f (47 + 8 * (p : Int) + 2)) r + (if r = 1 then shr v (f (47 + 8 * (p : Int) + 2)) else 0)) (f (f (47 + 8 * (p : Int) + 2))) (lessF n f (f (47 + 8 * (p : Int) + 2)))) (coF (f (47 + 8 * (p : Int) + 1))) k := by
  have hn := w.1
  have hpl := (w.sp hp).2.2.1
  obtain ⟨h1, h3⟩ := least_ok (c := f (47 + 8 * (p : Int) + 2) / 3) w (by omega) hv.1 hp
  have d : isDoneF (leastRow n f (f (47 + 8 * (p : Int) + 2) / 3) v k) p ↔ 10 * f (47 + 8 * (p : Int) + 0) ≤ f (47 + 8 * (p : Int) + 3) + gain (spH (fun k => leastRow n f (f (47 + 8 * (p : Int) + 2) / 3) v k) p) (coF (f (47 + 8 * (p : Int) + 1))) k := seq_done (R := fun k => leastRow n f (f (47 + 8 * (p : Int) + 2) / 3) v k) h1 hp h3 k
  rw [d]
  have e : gain (spH (fun k => leastRow n f (f (47 + 8 * (p : Int) + 2) / 3) v k) p) (coF (f (47 + 8 * (p : Int) + 1))) k = gain (trk (fun r => embS f (f (47 + 8 * (p : Int) + 2)) r + (if r = 1 then shr v (f (47 + 8 * (p : Int) + 2)) else 0)) (f (f (47 + 8 * (p : Int) + 2))) (lessF n f (f (47 + 8 * (p : Int) + 2)))) (coF (f (47 + 8 * (p : Int) + 1))) k := by
    refine gain_congr k (fun r _ => ?_)
    rw [← least_heat w (by omega) hv]
    unfold spH
    show (if f (47 + 8 * (p : Int) + 2) = -4 then 0 else _) = _
    rw [if_neg hne]
    rfl
  rw [e]
section ZCmp15
variable {Γ : ZG} {mem : Mem} {Q : Option AV → Mem → Prop} {n : Int} {f : Int → Int}
theorem sC_flip {p c : Int} (wf : Wf n f) (h : Ev mem 1 n f) (hp : -2147483648 ≤ p ∧ p ≤ 2147483647) (hc : -2147483648 ≤ c ∧ c ≤ 2147483647) (k : ∀ m' : Mem, FrI m' mem 88 90 → Q (some (vI (flipM n f p c))) m') : AMet Γ mX10_flip [vR 0, vI p, vI c] zG mem Q := by
  have a2 : mem 1 2 = f 46 := h.2.1.1
  have w46 := wf.n46
  have hn := wf.1
  unfold flipM at k
  have s24 : (0 ≤ p ∧ p < f 46) ∧ (1 ≤ c ∧ c ≤ 20) → AW Γ mX10_flip (zF Γ zG Q) zG 0 0 24 [some (vR 0), some (vI p), some (vI c), none, none, none, none, none] [] mem := by
    intro hz
    rw [if_pos hz] at k
    obtain ⟨q, rfl⟩ : ∃ q : Nat, p = q := ⟨p.toNat, by omega⟩
    obtain ⟨z, rfl⟩ : ∃ z : Nat, c = z := ⟨c.toNat, by omega⟩
    rw [Int.toNat_natCast] at k
    have gp := E1.2.2.2.2.2.2 q (by omega)
    have gp0 := gp
    unfold SpG at gp0
    have hsp := h.2.2.1 q hz.1.2
    have wsp := wf.sp hz.1.2
    have hpl : mem (1 + 10 + q) 2 = f (47 + 8 * (q : Int) + 2) := hsp.2.2.1
    have hwr : mem (1 + 10 + q) 1 = f (47 + 8 * (q : Int) + 1) := hsp.2.1
    have rwr := wsp.2.1
    obtain ⟨o1, o2, o3⟩ := rounds_ok wf hz.1.2
    have hH := fun r => spH_rng (R := fun k => roundsF n k f) o1 hz.1.2 r
    have co := coF_r (f (47 + 8 * (q : Int) + 1))
    have si := siF_r (f (47 + 8 * (q : Int) + 1))
    have loop : ∀ (m : Mem), FrI m mem 88 90 → (∀ r : Nat, (r : Int) ≤ z → m 88 r = spH (fun k => roundsF n k f) q r) → ∀ (d i : Nat) (x6 x7 : Option AV), i + d = z → flipFrom n f q z z 0 = flipFrom n f q z d i → AW Γ mX10_flip (zF Γ zG Q) zG 0 0 70 [some (vR 0), some (vI q), some (vI z), some (vR (1 + 10 + q)), some (vI (gain (spH (fun k => roundsF n k f) q) (coF (f (47 + 8 * (q : Int) + 1))) z)), some (vI i), x6, x7] [] m := by
      intro m hF hm d
      have ms : m (1 + 10 + q) = mem (1 + 10 + q) := hF _ (by omega)
      induction d with
      | zero =>
        intro i x6 x7 hi e
        rw [e] at k
        refine aw_iload dX10_flip_70 rfl rfl ?_
        refine aw_iload_n dX10_flip_72 rfl rfl ?_
        refine aw_icmp_ge (tgt := 130) dX10_flip_73 (by decide) rfl (by omega) (by omega) (fun c73 => ?_) (fun c73 => ?_)
        · refine aw_bipush dX10_flip_130 rfl (by decide) ?_
          refine aw_ireturn (ty := .int) dX10_flip_132 rfl rfl ?_
          exact k m hF
        · exfalso; omega
      | succ d ih =>
        intro i x6 x7 hi e
        rw [flipFrom] at e
        have fg := flip_good wf hz.1.2 (i := i) (c := z) (by omega)
        have hr : ∀ r : Nat, (r : Int) < z → 0 ≤ m 88 r ∧ m 88 r ≤ 99 := fun r hr => by rw [hm r (by omega)]; exact hH r
        have g1 : gain (fun s => m 88 ((0 + s : Nat) : Int)) (siF (f (47 + 8 * (q : Int) + 1))) ((i : Int) - ((0 : Nat) : Int)).toNat = gain (spH (fun k => roundsF n k f) q) (siF (f (47 + 8 * (q : Int) + 1))) i := by
          rw [show ((i : Int) - ((0 : Nat) : Int)).toNat = i by omega]
          refine gain_congr i (fun r hr => ?_)
          rw [Nat.zero_add]
          exact hm r (by omega)
        have g2 : gain (fun s => m 88 ((i + s : Nat) : Int)) (siF (f (47 + 8 * (q : Int) + 1))) ((z : Int) - ((i : Nat) : Int)).toNat = gain (fun s => spH (fun k => roundsF n k f) q (i + s)) (siF (f (47 + 8 * (q : Int) + 1))) (z - i) := by
          rw [show ((z : Int) - ((i : Nat) : Int)).toNat = z - i by omega]
          exact gain_congr _ (fun r hr => hm (i + r) (by omega))
        have n0 := gain_nonneg (H := spH (fun k => roundsF n k f) q) (q := coF (f (47 + 8 * (q : Int) + 1))) (by omega) (fun r => (hH r).1) z
        have n1 := gain_nonneg (H := spH (fun k => roundsF n k f) q) (q := siF (f (47 + 8 * (q : Int) + 1))) (by omega) (fun r => (hH r).1) i
        have n2 := gain_nonneg (H := fun s => spH (fun k => roundsF n k f) q (i + s)) (q := siF (f (47 + 8 * (q : Int) + 1))) (by omega) (fun r => (hH (i + r)).1) (z - i)
        have l0 := gain_le (H := spH (fun k => roundsF n k f) q) (q := coF (f (47 + 8 * (q : Int) + 1))) (by omega) hH z
        have l1 := gain_le (H := spH (fun k => roundsF n k f) q) (q := siF (f (47 + 8 * (q : Int) + 1))) (by omega) hH i
        have l2 := gain_le (H := fun s => spH (fun k => roundsF n k f) q (i + s)) (q := siF (f (47 + 8 * (q : Int) + 1))) (by omega) (fun r => hH (i + r)) (z - i)
        have hspc : SpC (m (1 + 10 + q)) := by rw [ms]; exact hsp.c hn wsp
        obtain ⟨y0, y1, y2, y3, y4, y5, y6⟩ := id hsp
        have gd : (dnC (m (1 + 10 + q)) (gain (spH (fun k => roundsF n k f) q) (coF (f (47 + 8 * (q : Int) + 1))) z) ∧ m (1 + 10 + q) 4 + gain (spH (fun k => roundsF n k f) q) (siF (f (47 + 8 * (q : Int) + 1))) i < 40 ∧ m (1 + 10 + q) 5 + gain (fun s => spH (fun k => roundsF n k f) q (i + s)) (siF (f (47 + 8 * (q : Int) + 1))) (z - i) < 40) ↔ isGoodF (roundsF n (z - i) (turnF (roundsF n i f) q)) q := by
          rw [fg, ms]
          unfold dnC sdB sdO
          rw [y0, y3, y4, y5]
        have hm1 : m (1 + 10 + q) 1 = f (47 + 8 * (q : Int) + 1) := by rw [ms]; exact hwr
        refine aw_iload dX10_flip_70 rfl rfl ?_
        refine aw_iload_n dX10_flip_72 rfl rfl ?_
        refine aw_icmp_ge (tgt := 130) dX10_flip_73 (by decide) rfl (by omega) (by omega) (fun c73 => ?_) (fun c73 => ?_)
        · exfalso; omega
        · refine aw_aload_n dX10_flip_76 rfl rfl ?_
          refine aw_getR dX10_flip_77 rfl fl_X10_37 g0 (by rfl) ?_
          refine aw_aload_n dX10_flip_80 rfl rfl ?_
          refine aw_getI (kI := 1) dX10_flip_81 rfl fl_X10_190 (by first | assumption | rfl) (by rfl) rfl ?_
          rw [hm1]
          refine aw_iconst dX10_flip_84 rfl ?_
          refine aw_iload dX10_flip_85 rfl rfl ?_
          refine aw_callV [_, _, _] _ dX10_flip_87 rfl clv_X10_241 (by decide) ⟨Nat.zero_le _, Nat.zero_le _⟩ g87 (by rfl) (Nat.le_of_ble_eq_true rfl) rfl ?_
          refine sC_sideGain (b := 0) rwr (by omega) (fun r hr2 => hr r (by omega)) ?_
          rw [g1]
          refine aw_istore6 rfl dX10_flip_90 rfl (by decide) ?_
          refine aw_aload_n dX10_flip_92 rfl rfl ?_
          refine aw_getR dX10_flip_93 rfl fl_X10_37 g0 (by rfl) ?_
          refine aw_aload_n dX10_flip_96 rfl rfl ?_
          refine aw_getI (kI := 1) dX10_flip_97 rfl fl_X10_190 (by first | assumption | rfl) (by rfl) rfl ?_
          rw [hm1]
          refine aw_iload dX10_flip_100 rfl rfl ?_
          refine aw_iload_n dX10_flip_102 rfl rfl ?_
          refine aw_callV [_, _, _] _ dX10_flip_103 rfl clv_X10_241 (by decide) ⟨Nat.zero_le _, Nat.zero_le _⟩ g87 (by rfl) (Nat.le_of_ble_eq_true rfl) rfl ?_
          refine sC_sideGain (b := i) rwr (by omega) hr ?_
          rw [g2]
          refine aw_istore7 rfl dX10_flip_106 rfl (by decide) ?_
          refine aw_aload_n dX10_flip_108 rfl rfl ?_
          refine aw_iload dX10_flip_109 rfl rfl ?_
          refine aw_iload dX10_flip_111 rfl rfl ?_
          refine aw_iload dX10_flip_113 rfl rfl ?_
          refine aw_callV [_, _, _] _ dX10_flip_115 rfl clv_X10_245 (by decide) ⟨Nat.zero_le _, Nat.zero_le _⟩ (by first | assumption | rfl) (by rfl) (Nat.le_of_ble_eq_true rfl) rfl ?_
          refine sC_wouldBeGood gp hspc (by omega) (by omega) (by omega) (fun c115 => ?_) (fun c115 => ?_)
          · refine aw_if_eq (tgt := 124) dX10_flip_118 (by decide) rfl (by omega) (fun c => absurd c (by decide)) (fun _ => ?_)
            refine aw_iload dX10_flip_121 rfl rfl ?_
            refine aw_ireturn (ty := .int) dX10_flip_123 rfl rfl ?_
            rw [if_pos (gd.mp c115)] at e; rw [e] at k; exact k m hF
          · refine aw_if_eq (tgt := 124) dX10_flip_118 (by decide) rfl (by omega) (fun _ => ?_) (fun c => absurd c (by decide))
            refine aw_iinc5 rfl dX10_flip_124 rfl (by decide) ?_
            refine aw_goto (tgt := 70) dX10_flip_127 (by decide) ?_
            rw [if_neg (fun y => c115 (gd.mpr y))] at e
            exact ih (i + 1) _ _ (by omega) e
    refine aw_aload_n dX10_flip_24 rfl rfl ?_
    refine aw_getR dX10_flip_25 rfl fl_X10_12 g0 (by rfl) ?_
    refine aw_getR dX10_flip_28 rfl fl_X10_151 g1 (by rfl) ?_
    refine aw_iload_n dX10_flip_31 rfl rfl ?_
    refine aw_aaload dX10_flip_32 rfl g7 six_len (by omega) (six_getN (b := 1) (by omega)) ?_
    refine aw_astore3 rfl dX10_flip_33 rfl (by decide) ?_
    refine aw_aload_n dX10_flip_34 rfl rfl ?_
    refine aw_getR dX10_flip_35 rfl fl_X10_37 g0 (by rfl) ?_
    refine aw_aload_n dX10_flip_38 rfl rfl ?_
    refine aw_getR dX10_flip_39 rfl fl_X10_12 g0 (by rfl) ?_
    refine aw_getR dX10_flip_42 rfl fl_X10_105 g1 (by rfl) ?_
    refine aw_aload_n dX10_flip_45 rfl rfl ?_
    refine aw_getI (kI := 2) dX10_flip_46 rfl fl_X10_181 (by first | assumption | rfl) (by rfl) rfl ?_
    rw [hpl]
    refine aw_iload_n dX10_flip_49 rfl rfl ?_
    refine aw_callV [_, _, _] _ dX10_flip_50 rfl clv_X10_234 (by decide) ⟨Nat.zero_le _, Nat.zero_le _⟩ g87 (by rfl) (Nat.le_of_ble_eq_true rfl) rfl ?_
    refine sC_followFor wf h.1 (by have := wsp.2.2.1; omega) (by omega) (fun m1 f1 e1 => ?_)
    have em : ∀ r : Nat, (r : Int) ≤ z → m1 88 r = spH (fun k => roundsF n k f) q r := fun r hr => e1 r hr
    have ms1 : m1 (1 + 10 + q) 1 = f (47 + 8 * (q : Int) + 1) := by rw [f1 _ (by omega)]; exact hwr
    refine aw_aload_n dX10_flip_53 rfl rfl ?_
    refine aw_getR dX10_flip_54 rfl fl_X10_37 g0 (by rfl) ?_
    refine aw_aload_n dX10_flip_57 rfl rfl ?_
    refine aw_getI (kI := 1) dX10_flip_58 rfl fl_X10_190 (by first | assumption | rfl) (by rfl) rfl ?_
    rw [ms1]
    refine aw_iload_n dX10_flip_61 rfl rfl ?_
    refine aw_callV [_, _] _ dX10_flip_62 rfl clv_X10_238 (by decide) ⟨Nat.zero_le _, Nat.zero_le _⟩ g87 (by rfl) (Nat.le_of_ble_eq_true rfl) rfl ?_
    refine sC_coreGain rwr (by omega) (fun r hr => by rw [em r (by omega)]; exact hH r) ?_
    rw [Int.toNat_natCast, gain_congr z (fun r hr => em r (by omega))]
    refine aw_istore4 rfl dX10_flip_65 rfl (by decide) ?_
    refine aw_iconst dX10_flip_67 rfl ?_
    refine aw_istore5 rfl dX10_flip_68 rfl (by decide) ?_
    exact loop m1 f1 em z 0 _ _ (by omega) rfl
  refine AMet.of' 5 (ls := [some (vR (0)), some (vI (p)), some (vI (c)), none, none, none, none, none]) (by decide) rfl (Nat.le_of_ble_eq_true rfl) ?_
  refine aw_aload_n dX10_flip_0 rfl rfl ?_
  refine aw_getR dX10_flip_1 rfl fl_X10_12 g0 (by rfl) ?_
  refine aw_iload_n dX10_flip_4 rfl rfl ?_
  refine aw_callV [_] _ dX10_flip_5 rfl clv_X10_148 (by decide) ⟨Nat.zero_le _, Nat.zero_le _⟩ g1 (by rfl) (Nat.le_of_ble_eq_true rfl) rfl ?_
  refine sC_hasSpud E1 (by rw [a2]; exact w46) hp (fun c5 => ?_) (fun c5 => ?_)
  · refine aw_if_eq (tgt := 22) dX10_flip_8 (by decide) rfl (by omega) (fun c => absurd c (by decide)) (fun _ => ?_)
    refine aw_iload_n dX10_flip_11 rfl rfl ?_
    refine aw_iconst dX10_flip_12 rfl ?_
    refine aw_icmp_lt (tgt := 22) dX10_flip_13 (by decide) rfl (by omega) (by omega) (fun c13 => ?_) (fun c13 => ?_)
    · refine aw_iconst dX10_flip_22 rfl ?_
      refine aw_ireturn (ty := .int) dX10_flip_23 rfl rfl ?_
      rw [a2] at c5; rw [if_neg (by omega)] at k; exact k _ FrI.rf
    · refine aw_iload_n dX10_flip_16 rfl rfl ?_
      refine aw_bipush dX10_flip_17 rfl (by decide) ?_
      refine aw_icmp_le (tgt := 24) dX10_flip_19 (by decide) rfl (by omega) (by omega) (fun c19 => ?_) (fun c19 => ?_)
      · exact s24 (by rw [a2] at c5; omega)
      · refine aw_iconst dX10_flip_22 rfl ?_
        refine aw_ireturn (ty := .int) dX10_flip_23 rfl rfl ?_
        rw [a2] at c5; rw [if_neg (by omega)] at k; exact k _ FrI.rf
  · refine aw_if_eq (tgt := 22) dX10_flip_8 (by decide) rfl (by omega) (fun _ => ?_) (fun c => absurd c (by decide))
    refine aw_iconst dX10_flip_22 rfl ?_
    refine aw_ireturn (ty := .int) dX10_flip_23 rfl rfl ?_
    rw [a2] at c5; rw [if_neg (by omega)] at k; exact k _ FrI.rf
end ZCmp15
