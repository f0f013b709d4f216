section ZMore
variable {Γ : ZG} {M : ZM} {F : ZF} {G : List GK} {cs ss pc q : Nat} {ls : List (Option AV)} {st : List AV} {mem : Mem}
theorem AW.weakL {ls' : List (Option AV)} (h : ∀ (i : Nat) (v : AV), ls'[i]? = some (some v) → ls[i]? = some (some v)) (k : AW Γ M F G cs ss pc ls' st mem) : AW Γ M F G cs ss pc ls st mem := by
  intro p e s m args below meth c H locs A lsC hC hK hX hA hP hD hS hL
  exact k p e s m args below meth c H locs A lsC hC hK hX hA hP hD hS ⟨hL.1, hL.2.1, fun i v hi => hL.2.2 i v (h i v hi)⟩
theorem AMet.of' {as : List AV} {Q : Option AV → Mem → Prop} (n : Nat) {ls : List (Option AV)} (hy : plainName M.1.cls = true) (hls : zent as ++ List.replicate n none = ls) (hlen : ls.length ≤ M.2.2.1) (k : AW Γ M (zF Γ G Q) G 0 0 0 ls [] mem) : AMet Γ M as G mem Q := by
  subst hls
  refine AMet.of hy rfl (by simp at hlen; omega) (AW.weakL (fun i v h => ?_) k)
  by_cases hi : i < (zent as).length
  · rwa [List.getElem?_append_left hi] at h
  · rw [List.getElem?_append_right (by omega)] at h
    have := List.eq_of_mem_replicate (List.mem_of_getElem? h)
    cases this
theorem AMet.mono {as : List AV} {Q Q' : Option AV → Mem → Prop} (h : AMet Γ M as G mem Q) (hQ : ∀ r m, Q r m → Q' r m) : AMet Γ M as G mem Q' := by
  intro sz p e ha hc hk s m args below hf happ hpre ht
  obtain ⟨k, o, h1, h2, h3, ⟨⟨r, mem', e1, e2, e3, e4⟩, h5⟩⟩ := h sz p e ha hc hk s m args below hf happ hpre ht
  exact ⟨k, o, h1, h2, h3, ⟨⟨r, mem', e1, hQ _ _ e2, e3, e4⟩, h5⟩⟩
theorem q_eq {Q : Option AV → Mem → Prop} {r r' : Option AV} {m m' : Mem} (h : Q r m) (hr : r = r') (hm : m = m') : Q r' m' := hr ▸ hm ▸ h
theorem cmp_lt (a b : Int) : ((if b < a then (1 : Int) else if a = b then 0 else -1) < 0) ↔ a < b := by
  split
  · omega
  · split <;> omega
theorem cmp_le (a b : Int) : ((if b < a then (1 : Int) else if a = b then 0 else -1) ≤ 0) ↔ a ≤ b := by
  split
  · omega
  · split <;> omega
theorem cmp_gt (a b : Int) : (0 < (if b < a then (1 : Int) else if a = b then 0 else -1)) ↔ b < a := by
  split
  · omega
  · split <;> omega
theorem cmp_ge (a b : Int) : (0 ≤ (if b < a then (1 : Int) else if a = b then 0 else -1)) ↔ b ≤ a := by
  split
  · omega
  · split <;> omega
theorem cmp_eq (a b : Int) : ((if b < a then (1 : Int) else if a = b then 0 else -1) = 0) ↔ a = b := by
  split
  · omega
  · split <;> omega
theorem cmp_rg (a b : Int) : -2147483648 ≤ (if b < a then (1 : Int) else if a = b then 0 else -1) ∧ (if b < a then (1 : Int) else if a = b then 0 else -1) ≤ 2147483647 := by
  split
  · omega
  · split <;> omega
theorem aw_lif_lt {a b off : Int} {tgt q1 : Nat} (hdg : decode M.2.1 pc = .ok (.lcmp, 1)) (hdg2 : decode M.2.1 q1 = .ok (.ifCond .lt off, 3)) (hq : pc + 1 = q1) (ht : (q1 : Int) + off = (tgt : Int)) (hq2 : q1 + 3 = q) (ha : -9223372036854775808 ≤ a ∧ a ≤ 9223372036854775807) (hb : -9223372036854775808 ≤ b ∧ b ≤ 9223372036854775807) (kt : a < b → AW Γ M F G cs ss tgt ls st mem) (kf : ¬ a < b → AW Γ M F G cs ss q ls st mem) : AW Γ M F G cs ss pc ls (vL b :: vL a :: st) mem :=
  aw_lcmp hdg hq ha hb (aw_if_lt hdg2 ht hq2 (cmp_rg a b) (fun c => kt ((cmp_lt a b).mp c)) (fun c => kf (fun z => c ((cmp_lt a b).mpr z))))
theorem aw_lif_le {a b off : Int} {tgt q1 : Nat} (hdg : decode M.2.1 pc = .ok (.lcmp, 1)) (hdg2 : decode M.2.1 q1 = .ok (.ifCond .le off, 3)) (hq : pc + 1 = q1) (ht : (q1 : Int) + off = (tgt : Int)) (hq2 : q1 + 3 = q) (ha : -9223372036854775808 ≤ a ∧ a ≤ 9223372036854775807) (hb : -9223372036854775808 ≤ b ∧ b ≤ 9223372036854775807) (kt : a ≤ b → AW Γ M F G cs ss tgt ls st mem) (kf : ¬ a ≤ b → AW Γ M F G cs ss q ls st mem) : AW Γ M F G cs ss pc ls (vL b :: vL a :: st) mem :=
  aw_lcmp hdg hq ha hb (aw_if_le hdg2 ht hq2 (cmp_rg a b) (fun c => kt ((cmp_le a b).mp c)) (fun c => kf (fun z => c ((cmp_le a b).mpr z))))
theorem aw_lif_gt {a b off : Int} {tgt q1 : Nat} (hdg : decode M.2.1 pc = .ok (.lcmp, 1)) (hdg2 : decode M.2.1 q1 = .ok (.ifCond .gt off, 3)) (hq : pc + 1 = q1) (ht : (q1 : Int) + off = (tgt : Int)) (hq2 : q1 + 3 = q) (ha : -9223372036854775808 ≤ a ∧ a ≤ 9223372036854775807) (hb : -9223372036854775808 ≤ b ∧ b ≤ 9223372036854775807) (kt : b < a → AW Γ M F G cs ss tgt ls st mem) (kf : ¬ b < a → AW Γ M F G cs ss q ls st mem) : AW Γ M F G cs ss pc ls (vL b :: vL a :: st) mem :=
  aw_lcmp hdg hq ha hb (aw_if_gt hdg2 ht hq2 (cmp_rg a b) (fun c => kt ((cmp_gt a b).mp c)) (fun c => kf (fun z => c ((cmp_gt a b).mpr z))))
theorem aw_lif_ge {a b off : Int} {tgt q1 : Nat} (hdg : decode M.2.1 pc = .ok (.lcmp, 1)) (hdg2 : decode M.2.1 q1 = .ok (.ifCond .ge off, 3)) (hq : pc + 1 = q1) (ht : (q1 : Int) + off = (tgt : Int)) (hq2 : q1 + 3 = q) (ha : -9223372036854775808 ≤ a ∧ a ≤ 9223372036854775807) (hb : -9223372036854775808 ≤ b ∧ b ≤ 9223372036854775807) (kt : b ≤ a → AW Γ M F G cs ss tgt ls st mem) (kf : ¬ b ≤ a → AW Γ M F G cs ss q ls st mem) : AW Γ M F G cs ss pc ls (vL b :: vL a :: st) mem :=
  aw_lcmp hdg hq ha hb (aw_if_ge hdg2 ht hq2 (cmp_rg a b) (fun c => kt ((cmp_ge a b).mp c)) (fun c => kf (fun z => c ((cmp_ge a b).mpr z))))
theorem aw_lif_eq {a b off : Int} {tgt q1 : Nat} (hdg : decode M.2.1 pc = .ok (.lcmp, 1)) (hdg2 : decode M.2.1 q1 = .ok (.ifCond .eq off, 3)) (hq : pc + 1 = q1) (ht : (q1 : Int) + off = (tgt : Int)) (hq2 : q1 + 3 = q) (ha : -9223372036854775808 ≤ a ∧ a ≤ 9223372036854775807) (hb : -9223372036854775808 ≤ b ∧ b ≤ 9223372036854775807) (kt : a = b → AW Γ M F G cs ss tgt ls st mem) (kf : ¬ a = b → AW Γ M F G cs ss q ls st mem) : AW Γ M F G cs ss pc ls (vL b :: vL a :: st) mem :=
  aw_lcmp hdg hq ha hb (aw_if_eq hdg2 ht hq2 (cmp_rg a b) (fun c => kt ((cmp_eq a b).mp c)) (fun c => kf (fun z => c ((cmp_eq a b).mpr z))))
theorem aw_lif_ne {a b off : Int} {tgt q1 : Nat} (hdg : decode M.2.1 pc = .ok (.lcmp, 1)) (hdg2 : decode M.2.1 q1 = .ok (.ifCond .ne off, 3)) (hq : pc + 1 = q1) (ht : (q1 : Int) + off = (tgt : Int)) (hq2 : q1 + 3 = q) (ha : -9223372036854775808 ≤ a ∧ a ≤ 9223372036854775807) (hb : -9223372036854775808 ≤ b ∧ b ≤ 9223372036854775807) (kt : ¬ a = b → AW Γ M F G cs ss tgt ls st mem) (kf : a = b → AW Γ M F G cs ss q ls st mem) : AW Γ M F G cs ss pc ls (vL b :: vL a :: st) mem :=
  aw_lcmp hdg hq ha hb (aw_if_ne hdg2 ht hq2 (cmp_rg a b) (fun c => kt (fun z => c ((cmp_eq a b).mpr z))) (fun c => kf ((cmp_eq a b).mp c)))
theorem fset_same {f : Int → Int} {k v : Int} : fset f k v k = v := if_pos rfl
theorem fset_ne {f : Int → Int} {k v j : Int} (h : j ≠ k) : fset f k v j = f j := if_neg h
theorem mset_same {c : Nat} {k v : Int} : mset mem c k v c = fset (mem c) k v := if_pos rfl
theorem mset_ne {c d : Nat} {k v : Int} (h : d ≠ c) : mset mem c k v d = mem d := if_neg h
theorem mcell_same {c : Nat} {f : Int → Int} : mcell mem c f c = f := if_pos rfl
theorem mcell_ne {c d : Nat} {f : Int → Int} (h : d ≠ c) : mcell mem c f d = mem d := if_neg h
end ZMore
