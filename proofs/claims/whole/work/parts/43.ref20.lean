/-! tokens: the tape's bytes t, its length L -/
def lookF (t : Int → Int) (L p : Int) : Int := if p < L then t p else -1
def whF (t : Int → Int) (L lo hi : Int) : Nat → Int → Int
  | 0, p => p
  | d + 1, p => if lo ≤ lookF t L p ∧ lookF t L p ≤ hi then whF t L lo hi d (p + 1) else p
/-- behind the run of bytes lo .. hi that begins at p -/
def endF (t : Int → Int) (L lo hi p : Int) : Int := whF t L lo hi (L - p).toNat p
theorem endF_y {t : Int → Int} {L lo hi p : Int} (hlo : 0 ≤ lo) (h : lo ≤ lookF t L p ∧ lookF t L p ≤ hi) : endF t L lo hi p = endF t L lo hi (p + 1) := by
  have hp : p < L := by
    unfold lookF at h
    split at h
    · assumption
    · omega
  unfold endF
  obtain ⟨k, hk⟩ : ∃ k, (L - p).toNat = k + 1 := ⟨(L - p).toNat - 1, by omega⟩
  rw [hk, whF, if_pos h, show (L - (p + 1)).toNat = k by omega]
theorem endF_n {t : Int → Int} {L lo hi p : Int} (h : ¬ (lo ≤ lookF t L p ∧ lookF t L p ≤ hi)) : endF t L lo hi p = p := by
  unfold endF
  cases (L - p).toNat with
  | zero => rfl
  | succ k => rw [whF, if_neg h]
theorem endF_rng {t : Int → Int} {L lo hi : Int} (hlo : 0 ≤ lo) : ∀ (d : Nat) (p : Int), p + d = L → p ≤ endF t L lo hi p ∧ endF t L lo hi p ≤ L := by
  intro d
  induction d with
  | zero =>
    intro p hp
    rw [endF_n (by unfold lookF; rw [if_neg (by omega)]; omega)]
    omega
  | succ d ih =>
    intro p hp
    by_cases h : lo ≤ lookF t L p ∧ lookF t L p ≤ hi
    · rw [endF_y hlo h]
      have := ih (p + 1) (by push_cast at hp; omega)
      omega
    · rw [endF_n h]; push_cast at hp; omega
theorem endF_r {t : Int → Int} {L lo hi p : Int} (hlo : 0 ≤ lo) (h : p ≤ L) : p ≤ endF t L lo hi p ∧ endF t L lo hi p ≤ L := endF_rng hlo (L - p).toNat p (by omega)
/-- the token at p: where it begins, its kind (0 end, 1 name, 2 number, 3 one sign), what lies behind it, its number, whether it is none -/
def tkB (t : Int → Int) (L p : Int) : Int := endF t L 32 32 p
def tkK (t : Int → Int) (L p : Int) : Int := if lookF t L (tkB t L p) < 0 then 0 else if 97 ≤ lookF t L (tkB t L p) ∧ lookF t L (tkB t L p) ≤ 122 then 1 else if 48 ≤ lookF t L (tkB t L p) ∧ lookF t L (tkB t L p) ≤ 57 then 2 else 3
def tkE (t : Int → Int) (L p : Int) : Int := if tkK t L p = 0 then tkB t L p else if tkK t L p = 1 then endF t L 97 122 (tkB t L p) else if tkK t L p = 2 then endF t L 48 57 (tkB t L p) else tkB t L p + 1
def tkV (t : Int → Int) (L p : Int) : Int := if tkE t L p - tkB t L p ≤ 1 then t (tkB t L p) - 48 else 10 * (t (tkB t L p) - 48) + (t (tkB t L p + 1) - 48)
abbrev tkX (t : Int → Int) (L p : Int) : Prop := (tkK t L p = 2 ∧ 2 < tkE t L p - tkB t L p) ∨ (tkK t L p = 3 ∧ ¬ lookF t L (tkB t L p) = 59)
/-- needs(good, code), over the reference's own numbers -/
def needC (good : Prop) [Decidable good] (code : Int) (g : Int → Int) : Int → Int := if ¬ good ∧ g 18 = 0 then fset (fset g 18 code) 19 (g 15) else g
/-- next() -/
def nextC (t : Int → Int) (g : Int → Int) : Int → Int := if 0 < g 18 then g else needC (¬ tkX t (g 13) (g 14)) 1 (fun j => if j = 14 then tkE t (g 13) (g 14) else if j = 15 then tkB t (g 13) (g 14) else if j = 16 then tkK t (g 13) (g 14) else if j = 17 then (if tkK t (g 13) (g 14) = 2 then tkV t (g 13) (g 14) else g 17) else g j)
section ZRef20
variable {Γ : ZG} {mem : Mem} {Q : Option AV → Mem → Prop}
theorem sR_needs {b c : Int} (good : Prop) [Decidable good] (hb : (b = 1 ∧ good) ∨ (b = 0 ∧ ¬ good)) (h18 : 0 ≤ mem 109 18 ∧ mem 109 18 ≤ 6) (k : Q none (mcell mem 109 (needC good c (mem 109)))) : AMet Γ mX11_needs [vR 109, vI b, vI c] zG mem Q := by
  refine AMet.of' 0 (ls := [some (vR (109)), some (vI (b)), some (vI (c))]) (by decide) rfl (Nat.le_of_ble_eq_true rfl) ?_
  refine aw_iload_n dX11_needs_0 rfl rfl ?_
  refine aw_if_ne (tgt := 24) dX11_needs_1 (by decide) rfl (by omega) (fun c1 => ?_) (fun c1 => ?_)
  · refine aw_return dX11_needs_24 rfl ?_
    first | (have hz : (¬ good) ∧ mem 109 18 = 0 := ⟨fun y => by rcases hb with ⟨e, -⟩ | ⟨e, z⟩; omega; exact z y, c8⟩; exact q_eq k rfl (by unfold needC; rw [if_pos hz]; simp only [mset_eq, mcell_same, mcell_mcell]; rw [fset_ne (by decide)])) | (have hz : ¬ ((¬ good) ∧ mem 109 18 = 0) := (fun y => by rcases hb with ⟨e, z⟩ | ⟨e, z⟩; exact y.1 z; omega); exact q_eq k rfl (by unfold needC; rw [if_neg hz, mcell_self]))
  · refine aw_aload_n dX11_needs_4 rfl rfl ?_
    refine aw_getI (kI := 18) dX11_needs_5 rfl fl_X11_85 g109 (by rfl) rfl ?_
    refine aw_if_ne (tgt := 24) dX11_needs_8 (by decide) rfl (by omega) (fun c8 => ?_) (fun c8 => ?_)
    · refine aw_return dX11_needs_24 rfl ?_
      first | (have hz : (¬ good) ∧ mem 109 18 = 0 := ⟨fun y => by rcases hb with ⟨e, -⟩ | ⟨e, z⟩; omega; exact z y, c8⟩; exact q_eq k rfl (by unfold needC; rw [if_pos hz]; simp only [mset_eq, mcell_same, mcell_mcell]; rw [fset_ne (by decide)])) | (have hz : ¬ ((¬ good) ∧ mem 109 18 = 0) := (fun y => by rcases hb with ⟨e, z⟩ | ⟨e, z⟩; exact y.1 z; omega); exact q_eq k rfl (by unfold needC; rw [if_neg hz, mcell_self]))
    · refine aw_aload_n dX11_needs_11 rfl rfl ?_
      refine aw_iload_n dX11_needs_12 rfl rfl ?_
      refine aw_putI (kI := 18) dX11_needs_13 rfl fp_X11_85 g109 (by rfl) rfl ?_
      refine aw_aload_n dX11_needs_16 rfl rfl ?_
      refine aw_aload_n dX11_needs_17 rfl rfl ?_
      refine aw_getI (kI := 15) dX11_needs_18 rfl fl_X11_88 g109 (by rfl) rfl ?_
      refine aw_putI (kI := 19) dX11_needs_21 rfl fp_X11_91 g109 (by rfl) rfl ?_
      refine aw_return dX11_needs_24 rfl ?_
      first | (have hz : (¬ good) ∧ mem 109 18 = 0 := ⟨fun y => by rcases hb with ⟨e, -⟩ | ⟨e, z⟩; omega; exact z y, c8⟩; exact q_eq k rfl (by unfold needC; rw [if_pos hz]; simp only [mset_eq, mcell_same, mcell_mcell]; rw [fset_ne (by decide)])) | (have hz : ¬ ((¬ good) ∧ mem 109 18 = 0) := (fun y => by rcases hb with ⟨e, z⟩ | ⟨e, z⟩; exact y.1 z; omega); exact q_eq k rfl (by unfold needC; rw [if_neg hz, mcell_self]))
theorem sR_look {p : Int} (hp : 0 ≤ p ∧ p ≤ 1000) (hL : 0 ≤ mem 109 13 ∧ mem 109 13 ≤ 160) (k : Q (some (vI (lookF (mem 114) (mem 109 13) p))) mem) : AMet Γ mX11_look [vR 109, vI p] zG mem Q := by
  refine AMet.of' 0 (ls := [some (vR (109)), some (vI (p))]) (by decide) rfl (Nat.le_of_ble_eq_true rfl) ?_
  refine aw_iload_n dX11_look_0 rfl rfl ?_
  refine aw_aload_n dX11_look_1 rfl rfl ?_
  refine aw_getI (kI := 13) dX11_look_2 rfl fl_X11_82 g109 (by rfl) rfl ?_
  refine aw_icmp_ge (tgt := 17) dX11_look_5 (by decide) rfl (by omega) (by omega) (fun c5 => ?_) (fun c5 => ?_)
  · refine aw_iconst dX11_look_17 rfl ?_
    refine aw_ireturn (ty := .int) dX11_look_18 rfl rfl ?_
    first | exact q_eq k (by unfold lookF; rw [if_pos (by omega)]) rfl | exact q_eq k (by unfold lookF; rw [if_neg (by omega)]) rfl
  · refine aw_aload_n dX11_look_8 rfl rfl ?_
    refine aw_getR dX11_look_9 rfl fl_X11_23 g109 (by rfl) ?_
    refine aw_iload_n dX11_look_12 rfl rfl ?_
    refine aw_iaload dX11_look_13 rfl g114 (by decide) (by omega) ?_
    refine aw_goto (tgt := 18) dX11_look_14 (by decide) ?_
    refine aw_ireturn (ty := .int) dX11_look_18 rfl rfl ?_
    first | exact q_eq k (by unfold lookF; rw [if_pos (by omega)]) rfl | exact q_eq k (by unfold lookF; rw [if_neg (by omega)]) rfl
end ZRef20
