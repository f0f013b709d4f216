/-- the words that hold wherever the machine stands -/
def zT : List Cond := lw_tbl.filter goodWord
theorem zin {w : Cond} (i : Nat) (h : lw_tbl[i]? = some w) (hg : goodWord w = true) : w ∈ zT := List.mem_filter.mpr ⟨List.mem_of_getElem? h, hg⟩
theorem zT_good : ∀ w ∈ zT, (w.onTables && w.keeps) = true ∨ ∃ ty, w = .arrayClass ty := fun _ hw => good_of_word (List.mem_filter.mp hw).2
/-! THE ABSTRACT MACHINE: one world of numbered cells, ints as integers; a row an instruction, over the kit's rows -/
abbrev AV : Type := Int ⊕ (Int ⊕ Nat)
abbrev vI (a : Int) : AV := Sum.inl a
abbrev vL (a : Int) : AV := Sum.inr (Sum.inl a)
abbrev vR (n : Nat) : AV := Sum.inr (Sum.inr n)
abbrev Mem : Type := Nat → Int → Int
/-- a cell's shape: a row of numbers; a row of references; an object (its class's number; each slot a number or a reference) -/
abbrev GK : Type := (FieldType × Nat) ⊕ ((String × List (Option Nat)) ⊕ (Nat × List (Option (Option Nat))))
/-- a method: name, code, locals, return type, room -/
abbrev ZM : Type := MethodName × ByteArray × Nat × Option FieldType × Room
/-- launch, class numbers, classes of rows, addresses of cells, the script's length and ints -/
abbrev ZG : Type := Launch × va_G × (Nat → ClassId) × (Nat → Nat) × Nat × (Nat → Int32)
abbrev ZF : Type := State → Array Value → List Frame → (Nat → Prop) → State → Prop
def fset (f : Int → Int) (k v : Int) : Int → Int := fun j => if j = k then v else f j
def mcell (mem : Mem) (c : Nat) (f : Int → Int) : Mem := fun d => if d = c then f else mem d
def mset (mem : Mem) (c : Nat) (k v : Int) : Mem := mcell mem c (fset (mem c) k v)
def cv (ad : Nat → Nat) : AV → Value
  | .inl a => .int (Int32.ofInt a)
  | .inr (.inl a) => .long (Int64.ofInt a)
  | .inr (.inr n) => .ref (ad n)
def zcat : AV → Nat
  | .inr (.inl _) => 2
  | _ => 1
theorem cv_cat (ad : Nat → Nat) (v : AV) : (cv ad v).category = zcat v := by
  rcases v with a | a | a <;> rfl
def zsl (ad : Nat → Nat) (f : Int → Int) (k : Nat) (o : Option (Option Nat)) : Value := match o with
  | none => .int (Int32.ofInt (f k))
  | some r => va_rf (r.map ad)
def zE (kA : Nat → ClassId) (ad : Nat → Nat) (c : Nat) (g : GK) (f : Int → Int) : va_E := match g with
  | .inl (_, n) => .inl (kA c, n, .inl (fun k => Int32.ofInt (f k)))
  | .inr (.inl (_, rs)) => .inl (kA c, rs.length, .inr (.inr (.inr (.inr (fun k => (rs.getD k none).map ad)))))
  | .inr (.inr (ci, ps)) => .inr (ci, ps.mapIdx (zsl ad f))
def wz (Γ : ZG) (G : List GK) (mem : Mem) : va_W := G.mapIdx (fun c g => (Γ.2.2.2.1 c, zE Γ.2.2.1 Γ.2.2.2.1 c g (mem c)))
theorem wz_get {Γ : ZG} {G : List GK} {mem : Mem} {c : Nat} {g : GK} (h : G[c]? = some g) : (wz Γ G mem)[c]? = some (Γ.2.2.2.1 c, zE Γ.2.2.1 Γ.2.2.2.1 c g (mem c)) := by
  simp [wz, List.getElem?_mapIdx, h]
theorem wz_set {Γ : ZG} {G : List GK} {mem : Mem} {c : Nat} {g : GK} {f : Int → Int} (h : G[c]? = some g) : (wz Γ G mem).set c (Γ.2.2.2.1 c, zE Γ.2.2.1 Γ.2.2.2.1 c g f) = wz Γ G (mcell mem c f) := by
  have hl : c < G.length := (List.getElem?_eq_some_iff.mp h).1
  apply List.ext_getElem?
  intro j
  by_cases hj : c = j
  · subst hj
    rw [List.getElem?_set_self (by simpa [wz] using hl), wz_get h]
    simp [mcell]
  · rw [List.getElem?_set_ne hj]
    simp only [wz, List.getElem?_mapIdx]
    cases G[j]? with
    | none => rfl
    | some g2 => simp [mcell, Ne.symm hj]
def zty (G : List GK) (c : Nat) : Option FieldType := match G[c]? with
  | some (.inl (ty, _)) => some ty
  | some (.inr (.inl (C, _))) => some (.object C)
  | _ => none
/-- what the tables say of the world's classes and rows -/
def zK (Γ : ZG) (G : List GK) (s : State) : Prop := (∀ (c : Nat) (q : vw_C), vwCl[c]? = some q → u_Kn s q.1 q.2.1 q.2.2 (Γ.2.1.1 c) (Γ.2.1.2 c)) ∧ ∀ (c : Nat) (ty : FieldType), zty G c = some ty → ArrOfT s (Γ.2.2.1 c) ty ∧ va_RA s (Γ.2.2.1 c) ty
theorem zK.moved {Γ : ZG} {G : List GK} {u U : State} (hvm : u.vm.Alike U.vm) (h : zK Γ G u) : zK Γ G U :=
  ⟨fun c q hq => u_Kn_moved hvm (h.1 c q hq), fun c ty hc => ⟨arrOfT_moved hvm (h.2 c ty hc).1, (h.2 c ty hc).2.moved hvm⟩⟩
theorem zK.K0 {Γ : ZG} {G : List GK} {s : State} (h : zK Γ G s) : va_K Γ.2.1 vwCl [] s := ⟨h.1, fun k q hk => by simp at hk⟩
theorem zK.K1 {Γ : ZG} {G : List GK} {s : State} (h : zK Γ G s) {c : Nat} {ty : FieldType} (hc : zty G c = some ty) : va_K Γ.2.1 vwCl [(Γ.2.2.1 c, ty)] s := by
  refine ⟨h.1, fun k q hk => ?_⟩
  cases k with
  | zero => cases hk; exact h.2 c ty hc
  | succ k => simp at hk
theorem zK.K2 {Γ : ZG} {G : List GK} {s : State} (h : zK Γ G s) {c d : Nat} {ty ty' : FieldType} (hc : zty G c = some ty) (hd : zty G d = some ty') : va_K Γ.2.1 vwCl [(Γ.2.2.1 c, ty), (Γ.2.2.1 d, ty')] s := by
  refine ⟨h.1, fun k q hk => ?_⟩
  match k, hk with
  | 0, hk => cases hk; exact h.2 c ty hc
  | 1, hk => cases hk; exact h.2 d ty' hd
  | k + 2, hk => simp at hk
/-- the literals: class, entry, text, length, bytes -/
def zstr : List (String × Nat × String × List Int32) := [("EmberSpuds$Reader", 112, "fire", [102, 105, 114, 101]), ("EmberSpuds$Reader", 120, "heat", [104, 101, 97, 116]), ("EmberSpuds$Reader", 125, "wood", [119, 111, 111, 100]), ("EmberSpuds$Reader", 130, "spud", [115, 112, 117, 100]), ("EmberSpuds$Reader", 136, "out", [111, 117, 116]), ("EmberSpuds$Reader", 138, "memo", [109, 101, 109, 111]), ("EmberSpuds$Tape", 69, "bare", [98, 97, 114, 101]), ("EmberSpuds$Tape", 75, "clay", [99, 108, 97, 121]), ("EmberSpuds$Tape", 77, "foil", [102, 111, 105, 108])]
def zlen : List Nat := [4, 4, 4, 4, 3, 4, 4, 4, 4]
def zbyt : List (List Int32) := zstr.map (fun q => q.2.2.2)
def znest : List (String × Nat × MethodName) := [("EmberSpuds", 29, ⟨"EmberSpuds$Reader", "<init>", "()V"⟩), ("EmberSpuds", 36, ⟨"EmberSpuds$Track", "<init>", "()V"⟩), ("EmberSpuds", 43, ⟨"EmberSpuds$Layout", "<init>", "()V"⟩), ("EmberSpuds", 50, ⟨"EmberSpuds$Sheet", "<init>", "()V"⟩), ("EmberSpuds", 57, ⟨"EmberSpuds$FallSearch", "<init>", "()V"⟩), ("EmberSpuds", 64, ⟨"EmberSpuds$Memory", "<init>", "()V"⟩), ("EmberSpuds$Evening", 11, ⟨"EmberSpuds$Fire", "<init>", "()V"⟩), ("EmberSpuds$Evening", 34, ⟨"EmberSpuds$Spud", "<init>", "()V"⟩), ("EmberSpuds$Reader", 11, ⟨"EmberSpuds$Tape", "<init>", "()V"⟩)]
def zover : List String := ["EmberSpuds$Evening", "EmberSpuds$Sheet", "EmberSpuds$Spud"]
def zNO (U : State) : Prop := (∀ x ∈ znest, va_Nw (.methodLinkNest x.1 x.2.1 x.2.2 "EmberSpuds") U) ∧ ∀ C ∈ zover, va_AO C U
theorem zNO.warm {s U : State} (hW : s.WarmedH U.vm) (h : zNO s) : zNO U := ⟨fun x hx => va_Nw.warmM hW (h.1 x hx), fun C hc => (h.2 C hc).moved hW.alike⟩
theorem zNO.same {u U : State} (hv : U.vm = u.vm) (h : zNO u) : zNO U := ⟨fun x hx => va_Nw.same rfl hv.symm (h.1 x hx), fun C hc => (h.2 C hc).moved (by rw [hv]; exact Vm.Alike.refl _)⟩
/-- what lies outside the world: literals (references 9000 on, their rows 9100 on), String's own statics, the script (reference 9999) -/
def zX (Γ : ZG) (A : Nat → Prop) (U : State) (H : Heap) : Prop :=
  vk_S 9 zlen zbyt (fun j => Γ.2.2.2.1 (9000 + j)) (fun j => Γ.2.2.2.1 (9100 + j)) A U H ∧
  (∀ (j : Nat) (q : String × Nat × String × List Int32), zstr[j]? = some q → vk_R q.1 q.2.1 q.2.2.1 (Γ.2.2.2.1 (9000 + j)) U) ∧ zNO U ∧
  va_Z "java/lang/String" "COMPACT_STRINGS" "Z" (.int 1) A U H ∧ va_Zq "jdk/internal/util/Preconditions" "SIOOBE_FORMATTER" "Ljava/util/function/BiFunction;" A U H ∧
  va_X (Γ.2.2.2.1 9999) Γ.2.2.2.2.1 Γ.2.2.2.2.2 U H ∧ Γ.2.2.2.1 9999 < H.size ∧ ¬ A (Γ.2.2.2.1 9999)
theorem zX.kept {Γ : ZG} {A : Nat → Prop} {U : State} {H H1 : Heap} (h : zX Γ A U H) (hz : H.size ≤ H1.size) (hq : ∀ a : Nat, a < H.size → ¬ A a → H1[a]? = H[a]?) : zX Γ A U H1 := by
  obtain ⟨h1, h2, h3, h4, h5, h6, h7, h8⟩ := h
  exact ⟨h1.kept hq, h2, h3, h4.kept hq, h5.kept hq, h6.kept (hq _ h7 h8), Nat.lt_of_lt_of_le h7 hz, h8⟩
theorem zX.narrow {Γ : ZG} {A B : Nat → Prop} {U : State} {H : Heap} (h : zX Γ A U H) (hAB : ∀ q, B q → A q) : zX Γ B U H := by
  obtain ⟨h1, h2, h3, h4, h5, h6, h7, h8⟩ := h
  exact ⟨h1.narrow hAB, h2, h3, h4.narrow hAB, h5.narrow hAB, h6, h7, fun z => h8 (hAB _ z)⟩
theorem zX.warm {Γ : ZG} {A : Nat → Prop} {s U : State} {H : Heap} (hW : s.WarmedH U.vm) (h : zX Γ A s H) : zX Γ A U H := by
  obtain ⟨h1, h2, h3, h4, h5, h6, h7, h8⟩ := h
  exact ⟨h1.moved hW.alike, fun j q hj => (h2 j q hj).warm hW, h3.warm hW, h4.moved hW.alike, h5.moved hW.alike, h6.moved hW.alike, h7, h8⟩
theorem zX.same {Γ : ZG} {A : Nat → Prop} {u U : State} {H : Heap} (hv : U.vm = u.vm) (h : zX Γ A u H) : zX Γ A U H := by
  have hal : u.vm.Alike U.vm := by rw [hv]; exact Vm.Alike.refl _
  obtain ⟨h1, h2, h3, h4, h5, h6, h7, h8⟩ := h
  exact ⟨h1.moved hal, fun j q hj => (h2 j q hj).same hv, h3.same hv, h4.moved hal, h5.moved hal, h6.moved hal, h7, h8⟩
/-- the locals: what the list has at each place -/
def zL (Γ : ZG) (lsC : Array Slot) (nL : Nat) (ls : List (Option AV)) : Prop := lsC.size = nL ∧ lv_wf lsC ∧ ∀ (i : Nat) (v : AV), ls[i]? = some (some v) → lsC[i]? = some (.val (cv Γ.2.2.2.1 v))
def zlong (o : Option AV) : Bool := match o with
  | some (.inr (.inl _)) => true
  | _ => false
def zp (ad : Nat → Nat) (ls : List (Option AV)) : List (Nat × Value) := (List.range ls.length).filterMap (fun j => match ls[j]? with
  | some (some v) => some (j, cv ad v)
  | _ => none)
theorem zp_mem {ad : Nat → Nat} {ls : List (Option AV)} {j : Nat} {v : AV} (h : ls[j]? = some (some v)) : (j, cv ad v) ∈ zp ad ls :=
  List.mem_filterMap.mpr ⟨j, List.mem_range.mpr (List.getElem?_eq_some_iff.mp h).1, by rw [h]⟩
theorem zL.has {Γ : ZG} {lsC : Array Slot} {nL : Nat} {ls : List (Option AV)} (h : zL Γ lsC nL ls) : lv_has lsC nL (zp Γ.2.2.2.1 ls) := by
  refine ⟨h.1, h.2.1, fun q hq => ?_⟩
  obtain ⟨j, -, hj⟩ := List.mem_filterMap.mp hq
  split at hj
  · next v hv => cases hj; exact h.2.2 _ _ hv
  · cases hj
/-- behind a store of one slot at i: the list ls' -/
theorem zL.st1 {Γ : ZG} {lsC : Array Slot} {nL i : Nat} {ls ls' : List (Option AV)} {v : AV} (h : lv_has lsC nL ((i, cv Γ.2.2.2.1 v) :: (zp Γ.2.2.2.1 ls).filter (fun q => !(q.1 == i) && !(q.1 + 1 == i && q.2.category == 2))))
    (hls : ∀ (j : Nat) (w : AV), ls'[j]? = some (some w) → (j = i ∧ w = v) ∨ (j ≠ i ∧ ls[j]? = some (some w) ∧ ¬ (j + 1 = i ∧ zcat w = 2))) : zL Γ lsC nL ls' := by
  refine ⟨h.1, h.2.1, fun j w hj => ?_⟩
  rcases hls j w hj with ⟨rfl, rfl⟩ | ⟨h1, h2, h3⟩
  · exact h.2.2 (j, cv Γ.2.2.2.1 w) List.mem_cons_self
  · refine h.2.2 (j, cv Γ.2.2.2.1 w) (List.mem_cons_of_mem _ (List.mem_filter.mpr ⟨zp_mem h2, ?_⟩))
    simp only [cv_cat, Bool.and_eq_true, Bool.not_eq_true', beq_eq_false_iff_ne, ne_eq, Bool.and_eq_false_iff]
    refine ⟨h1, ?_⟩
    by_cases hji : j + 1 = i
    · exact Or.inr (fun z => h3 ⟨hji, z⟩)
    · exact Or.inl hji
theorem zL.st2 {Γ : ZG} {lsC : Array Slot} {nL i : Nat} {ls ls' : List (Option AV)} {v : AV} (h : lv_has lsC nL ((i, cv Γ.2.2.2.1 v) :: (zp Γ.2.2.2.1 ls).filter (fun q => !(q.1 == i) && (!(q.1 == i + 1) && !(q.1 + 1 == i && q.2.category == 2)))))
    (hls : ∀ (j : Nat) (w : AV), ls'[j]? = some (some w) → (j = i ∧ w = v) ∨ (j ≠ i ∧ j ≠ i + 1 ∧ ls[j]? = some (some w) ∧ ¬ (j + 1 = i ∧ zcat w = 2))) : zL Γ lsC nL ls' := by
  refine ⟨h.1, h.2.1, fun j w hj => ?_⟩
  rcases hls j w hj with ⟨rfl, rfl⟩ | ⟨h1, h1', h2, h3⟩
  · exact h.2.2 (j, cv Γ.2.2.2.1 w) List.mem_cons_self
  · refine h.2.2 (j, cv Γ.2.2.2.1 w) (List.mem_cons_of_mem _ (List.mem_filter.mpr ⟨zp_mem h2, ?_⟩))
    simp only [cv_cat, Bool.and_eq_true, Bool.not_eq_true', beq_eq_false_iff_ne, ne_eq, Bool.and_eq_false_iff]
    refine ⟨h1, h1', ?_⟩
    by_cases hji : j + 1 = i
    · exact Or.inr (fun z => h3 ⟨hji, z⟩)
    · exact Or.inl hji
/-- the machine and the method's words -/
def zC (M : ZM) (p : Program) (s : State) (m : MethodId) (args : Array Value) (meth : Method) (c : Code) : Prop :=
  p.tables.exec = Jvm.exec ∧ c.code = M.2.1 ∧ c.maxLocals = M.2.2.1 ∧ meth.sig.returnType = M.2.2.2.1 ∧ s.vm.findClass M.1.cls = some m.cls ∧ (∀ w ∈ zT, w.before args s = true) ∧ meth.locks = false ∧ (M.1.name = "<init>" → meth.name = "<init>")
/-- the judgement: at pc, with locals ls, stack st and the world (G, mem), method M comes to an end with F -/
def AW (Γ : ZG) (M : ZM) (F : ZF) (G : List GK) (cs ss pc : Nat) (ls : List (Option AV)) (st : List AV) (mem : Mem) : Prop :=
  ∀ (p : Program) (e : Env) (s : State) (m : MethodId) (args : Array Value) (below : List Frame) (meth : Method) (c : Code) (H : Heap) (locs : List Loc) (A : Nat → Prop) (lsC : Array Slot),
    zC M p s m args meth c → zK Γ G s → zX Γ A s s.heap → (∀ q, s.heap.size ≤ q → A q) → va_P Γ.2.1 vwCl (wz Γ G mem) H → va_D A (wz Γ G mem) → va_S A s.heap H locs → zL Γ lsC M.2.2.1 ls →
    W p Γ.1 e M.2.2.2.2 s m args below meth c H locs cs ss (F s args below A) (F0 m pc lsC (st.map (cv Γ.2.2.2.1)))
def zQ (Γ : ZG) (G : List GK) (A : Nat → Prop) (Q : Option AV → Mem → Prop) : Array Value → State → Outcome → State → Prop := fun _ st o t =>
  ∃ (r : Option AV) (mem : Mem), o = .returned (r.map (cv Γ.2.2.2.1)) ∧ Q r mem ∧ va_P Γ.2.1 vwCl (wz Γ G mem) t.heap ∧ va_F A st t
abbrev zF (Γ : ZG) (G : List GK) (Q : Option AV → Mem → Prop) : ZF := fun s args below A => MQ below (zQ Γ G A Q) args s 0 0 A
def zws (M : ZM) : List Cond := .code M.1 M.2.1 M.2.2.1 M.2.2.2.1 :: zT
/-- a method's contract that makes no cells: from the world (G, mem), with arguments as, it ends with Q -/
def AMet (Γ : ZG) (M : ZM) (as : List AV) (G : List GK) (mem : Mem) (Q : Option AV → Mem → Prop) : Prop :=
  ∀ sz : Nat, Met Γ.1 M.1 (zws M) M.2.2.2.2 (va_Pc (as.map (cv Γ.2.2.2.1)) (fun U => U.heap.size = sz ∧ zK Γ G U ∧ zX Γ (va_A (wz Γ G mem) sz) U U.heap ∧ va_P Γ.2.1 vwCl (wz Γ G mem) U.heap ∧ va_D (fun _ => True) (wz Γ G mem)))
    (zQ Γ G (va_A (wz Γ G mem) sz) Q) 0 0 (va_A (wz Γ G mem) sz)
/-- a method's locals at its entry -/
def zent : List AV → List (Option AV)
  | [] => []
  | .inr (.inl a) :: vs => some (.inr (.inl a)) :: none :: zent vs
  | v :: vs => some v :: zent vs
theorem zent_args (ad : Nat → Nat) : ∀ (vs : List AV) (i : Nat) (j : Nat) (v : AV), (zent vs)[j]? = some (some v) → (i + j, cv ad v) ∈ lv_args i (vs.map (cv ad)) := by
  intro vs
  induction vs with
  | nil => intro i j v h; simp [zent] at h
  | cons w vs ih =>
    intro i j v h
    rw [List.map_cons, lv_args]
    rcases w with a | a | a
    · cases j with
      | zero => simp [zent] at h; subst h; exact List.mem_cons_self
      | succ j =>
        simp only [zent, List.getElem?_cons_succ] at h
        have := ih (i + 1) j v h
        rw [show i + (j + 1) = i + 1 + j by omega]
        exact List.mem_cons_of_mem _ this
    · match j, h with
      | 0, h => simp [zent] at h; subst h; exact List.mem_cons_self
      | 1, h => simp [zent] at h
      | j + 2, h =>
        simp only [zent, List.getElem?_cons_succ] at h
        have := ih (i + 2) j v h
        rw [show i + (j + 2) = i + 2 + j by omega]
        exact List.mem_cons_of_mem _ this
    · cases j with
      | zero => simp [zent] at h; subst h; exact List.mem_cons_self
      | succ j =>
        simp only [zent, List.getElem?_cons_succ] at h
        have := ih (i + 1) j v h
        rw [show i + (j + 1) = i + 1 + j by omega]
        exact List.mem_cons_of_mem _ this
theorem zent_len (ad : Nat → Nat) (vs : List AV) : (lg_sl (vs.map (cv ad))).length = (zent vs).length := by
  induction vs with
  | nil => rfl
  | cons w vs ih =>
    rcases w with a | a | a
    · simp [lg_sl, zent, cv, Value.category] at ih ⊢; exact ih
    · simp [lg_sl, zent, cv, Value.category] at ih ⊢; exact ih
    · simp [lg_sl, zent, cv, Value.category] at ih ⊢; exact ih
theorem AMet.of {Γ : ZG} {M : ZM} {as : List AV} {G : List GK} {mem : Mem} {Q : Option AV → Mem → Prop} {ls : List (Option AV)} (hy : plainName M.1.cls = true) (hls : zent as = ls) (hlen : ls.length ≤ M.2.2.1)
    (k : AW Γ M (zF Γ G Q) G 0 0 0 ls [] mem) : AMet Γ M as G mem Q := by
  subst hls
  intro sz
  refine Met.ofW (cc := M.2.1) (maxL := M.2.2.1) (ret := M.2.2.2.1) (ws' := zT) hy rfl ?_
  intro p e s m args below meth c s₁ B hml hv
  obtain ⟨rfl, hsz, hK, hX, hP, hD0⟩ := hv
  have hts := atoms_spec (ws := zws M) B.pre
  subst hsz
  have hD := hD0.self (sz := s.heap.size)
  have hl := lv_entry (as.map (cv Γ.2.2.2.1)) (n := M.2.2.1) (by rw [zent_len]; exact hlen)
  rw [lg_entry_eq]
  refine k p e s m _ below meth c s.heap [] _ _ ⟨B.exec, B.bytes, hml, B.returns, findClass_of_methodNamed B.named, fun w hw => hts w (List.mem_cons_of_mem _ hw), B.notSynchronized, fun hi => (name_of_methodNamed B.named B.method).1.trans hi⟩ hK hX (fun q h => Or.inr h) hP hD va_S.rf ⟨hl.1, hl.2.1, fun i v hi => ?_⟩
  have := hl.2.2 _ (zent_args Γ.2.2.2.1 as 0 i v hi)
  rw [Nat.zero_add] at this
  exact this
