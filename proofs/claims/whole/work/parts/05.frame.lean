/-! THE JUDGEMENT V: the machine, at a frame of a method, over a world ws; all that is the same through the method is inside -/
abbrev Mem : Type := Nat → Nat → Int32
def TY (D : va_G) : List (ClassId × FieldType) := [(D.1 100, .int), (D.1 101, .char), (D.1 102, .byte), (D.1 103, .long), (D.1 104, .object "SnapshotVolumes$Store"), (D.1 105, .array .int)]
/-- the locals, by their places: what is known of each -/
def LocOK (ls : Array Slot) (locs : List (Option Value)) : Prop := ls.size = locs.length ∧ lv_wf ls ∧ ∀ (i : Nat) (v : Value), locs[i]? = some (some v) → ls[i]? = some (.val v)
theorem LocOK.at {ls : Array Slot} {locs : List (Option Value)} (h : LocOK ls locs) {i : Nat} {v : Value} (hi : locs[i]? = some (some v)) : ls[i]? = some (.val v) := h.2.2 i v hi
/-- the listed pairs -/
def lpairs : Nat → List (Option Value) → List (Nat × Value)
  | _, [] => []
  | i, none :: l => lpairs (i + 1) l
  | i, some v :: l => (i, v) :: lpairs (i + 1) l
theorem lpairs_mem {l : List (Option Value)} : ∀ {i j : Nat} {v : Value}, l[j]? = some (some v) → (i + j, v) ∈ lpairs i l := by
  induction l with
  | nil => intro i j v h; simp at h
  | cons x l ih =>
    intro i j v h
    cases j with
    | zero =>
      simp only [List.getElem?_cons_zero, Option.some.injEq] at h
      subst h
      simp [lpairs]
    | succ j =>
      simp only [List.getElem?_cons_succ] at h
      have := ih (i := i + 1) h
      rw [show i + 1 + j = i + (j + 1) by omega] at this
      cases x with
      | none => exact this
      | some w => exact List.mem_cons_of_mem _ this
theorem lpairs_inv {l : List (Option Value)} : ∀ {i : Nat} {q : Nat × Value}, q ∈ lpairs i l → ∃ j, q.1 = i + j ∧ l[j]? = some (some q.2) := by
  induction l with
  | nil => intro i q h; simp [lpairs] at h
  | cons x l ih =>
    intro i q h
    cases x with
    | none =>
      obtain ⟨j, h1, h2⟩ := ih (i := i + 1) h
      exact ⟨j + 1, by omega, by simpa using h2⟩
    | some w =>
      rcases List.mem_cons.mp h with rfl | h
      · exact ⟨0, rfl, rfl⟩
      · obtain ⟨j, h1, h2⟩ := ih (i := i + 1) h
        exact ⟨j + 1, by omega, by simpa using h2⟩
theorem LocOK.has {ls : Array Slot} {locs : List (Option Value)} (h : LocOK ls locs) : lv_has ls locs.length (lpairs 0 locs) := by
  refine ⟨h.1, h.2.1, fun q hq => ?_⟩
  obtain ⟨j, h1, h2⟩ := lpairs_inv hq
  rw [h1, Nat.zero_add]
  exact h.2.2 j q.2 h2
/-- the place ahead holds no first half -/
def noC2 (locs : List (Option Value)) (i : Nat) : Prop := ∀ (j : Nat) (v : Value), j + 1 = i → locs[j]? = some (some v) → v.category = 1
theorem LocOK.set1 {ls' : Array Slot} {locs : List (Option Value)} {i : Nat} {v : Value} (hi : i < locs.length) (hc : noC2 locs i) (h : lv_has ls' locs.length ((i, v) :: (lpairs 0 locs).filter (fun q => !(q.1 == i) && !(q.1 + 1 == i && q.2.category == 2)))) : LocOK ls' (locs.set i (some v)) := by
  refine ⟨by rw [List.length_set]; exact h.1, h.2.1, fun j w hj => ?_⟩
  by_cases e : i = j
  · subst e
    rw [List.getElem?_set_self hi] at hj
    cases hj
    exact h.2.2 (i, v) List.mem_cons_self
  · rw [List.getElem?_set_ne e] at hj
    refine h.2.2 (j, w) (List.mem_cons_of_mem _ (List.mem_filter.mpr ⟨by have := lpairs_mem (i := 0) hj; rwa [Nat.zero_add] at this, ?_⟩))
    have e1 : ¬ j = i := fun q => e q.symm
    by_cases e2 : j + 1 = i
    · have := hc j w e2 hj
      simp [e1, this]
    · simp [e1, e2]
theorem LocOK.set2 {ls' : Array Slot} {locs : List (Option Value)} {i : Nat} {v : Value} (hi : i + 1 < locs.length) (hc : noC2 locs i) (h : lv_has ls' locs.length ((i, v) :: (lpairs 0 locs).filter (fun q => !(q.1 == i) && (!(q.1 == i + 1) && !(q.1 + 1 == i && q.2.category == 2))))) : LocOK ls' ((locs.set i (some v)).set (i + 1) none) := by
  refine ⟨by rw [List.length_set, List.length_set]; exact h.1, h.2.1, fun j w hj => ?_⟩
  by_cases e0 : i + 1 = j
  · subst e0
    rw [List.getElem?_set_self (by rw [List.length_set]; exact hi)] at hj
    cases hj
  rw [List.getElem?_set_ne e0] at hj
  by_cases e : i = j
  · subst e
    rw [List.getElem?_set_self (by omega)] at hj
    cases hj
    exact h.2.2 (i, v) List.mem_cons_self
  · rw [List.getElem?_set_ne e] at hj
    refine h.2.2 (j, w) (List.mem_cons_of_mem _ (List.mem_filter.mpr ⟨by have := lpairs_mem (i := 0) hj; rwa [Nat.zero_add] at this, ?_⟩))
    have e1 : ¬ j = i := fun q => e q.symm
    have e3 : ¬ j = i + 1 := fun q => e0 q.symm
    by_cases e2 : j + 1 = i
    · have := hc j w e2 hj
      simp [e1, e3, this]
    · simp [e1, e2, e3]
/-- less known -/
def subL : List (Option Value) → List (Option Value) → Prop
  | [], [] => True
  | none :: a, _ :: b => subL a b
  | some v :: a, x :: b => x = some v ∧ subL a b
  | _, _ => False
theorem subL_spec : ∀ {a b : List (Option Value)}, subL a b → a.length = b.length ∧ ∀ (i : Nat) (v : Value), a[i]? = some (some v) → b[i]? = some (some v) := by
  intro a
  induction a with
  | nil => intro b h; cases b with
    | nil => exact ⟨rfl, fun i v h => h⟩
    | cons y b => exact h.elim
  | cons x a ih =>
    intro b h
    cases b with
    | nil => cases x <;> exact h.elim
    | cons y b =>
      cases x with
      | none =>
        obtain ⟨h1, h2⟩ := ih h
        refine ⟨by simp [h1], fun i v hi => ?_⟩
        cases i with
        | zero => simp at hi
        | succ i => simpa using h2 i v (by simpa using hi)
      | some w =>
        obtain ⟨rfl, h⟩ := h
        obtain ⟨h1, h2⟩ := ih h
        refine ⟨by simp [h1], fun i v hi => ?_⟩
        cases i with
        | zero => simpa using hi
        | succ i => simpa using h2 i v (by simpa using hi)
theorem LocOK.sub {ls : Array Slot} {a b : List (Option Value)} (h : LocOK ls b) (hs : subL a b) : LocOK ls a := by
  obtain ⟨h1, h2⟩ := subL_spec hs
  exact ⟨by rw [h.1, h1], h.2.1, fun i v hi => h.2.2 i v (h2 i v hi)⟩
def locsOf (vs : List Value) (n : Nat) : List (Option Value) := (List.range n).map fun i => ((lv_args 0 vs).find? (fun q => q.1 == i)).map (·.2)
theorem LocOK.entry {ls : Array Slot} {n : Nat} {vs : List Value} (h : lv_has ls n (lv_args 0 vs)) : LocOK ls (locsOf vs n) := by
  refine ⟨by simp [locsOf, h.1], h.2.1, fun i v hi => ?_⟩
  simp only [locsOf, List.getElem?_map, Option.map_eq_some_iff] at hi
  obtain ⟨j, hj, hi⟩ := hi
  obtain ⟨q, hq, rfl⟩ := hi
  obtain ⟨hl, hj⟩ := List.getElem?_eq_some_iff.mp hj
  simp only [List.getElem_range] at hj
  subst hj
  have h1 := List.mem_of_find?_eq_some hq
  have h2 := List.find?_some hq
  have h3 : q.1 = i := by simpa using h2
  have := h.2.2 q h1
  rwa [h3] at this
/-! THE SURROUNDINGS: what the tables and the cells that nobody writes hold: links of private members of nest mates, statics, texts -/
def strs : List (String × Nat × String) := [("SnapshotVolumes$Loader", 63, "volume"), ("SnapshotVolumes$Loader", 72, "write"), ("SnapshotVolumes$Loader", 77, "trim"), ("SnapshotVolumes$Loader", 82, "snap"), ("SnapshotVolumes$Loader", 87, "clone"), ("SnapshotVolumes$Loader", 92, "hold"), ("SnapshotVolumes$Loader", 97, "set"), ("SnapshotVolumes$Loader", 174, "pool"), ("SnapshotVolumes$Loader", 176, "clones"), ("SnapshotVolumes", 303, "no such volume"), ("SnapshotVolumes", 305, "no such snapshot"), ("SnapshotVolumes", 298, "no such version"), ("SnapshotVolumes", 307, "no such address")]
def strBytes : List (List Int32) := [[118, 111, 108, 117, 109, 101], [119, 114, 105, 116, 101], [116, 114, 105, 109], [115, 110, 97, 112], [99, 108, 111, 110, 101], [104, 111, 108, 100], [115, 101, 116], [112, 111, 111, 108], [99, 108, 111, 110, 101, 115]]
def strLens : List Nat := [6, 5, 4, 4, 5, 4, 3, 4, 6]
def EVS (A : Nat → Prop) (U : State) (H : Heap) : Prop := ∃ adK adV : Nat → Nat, (∀ (i : Nat) (q : String × Nat × String), strs[i]? = some q → vk_R q.1 q.2.1 q.2.2 (adK i) U) ∧ vk_S 9 strLens strBytes adK adV A U H
def EVD (A : Nat → Prop) (U : State) (H : Heap) : Prop := ∃ tO tT : Nat, va_Z "java/lang/Integer" "DigitOnes" "[B" (.ref tO) A U H ∧ va_T .byte tO 100 (fun j => .int (nI (48 + j % 10))) A U H ∧ va_Z "java/lang/Integer" "DigitTens" "[B" (.ref tT) A U H ∧ va_T .byte tT 100 (fun j => .int (nI (48 + j / 10))) A U H
/-- private methods of AbstractStringBuilder -/
def privN : List MethodName := [⟨"java/lang/AbstractStringBuilder", "ensureCapacityInternal", "(I)V"⟩, ⟨"java/lang/AbstractStringBuilder", "newCapacity", "(I)I"⟩]
/-- what a throw asks besides -/
def xtrW : List Cond := [.castable "java/lang/IndexOutOfBoundsException" "java/lang/IndexOutOfBoundsException", .declares ⟨"java/lang/RuntimeException", "<init>", "(Ljava/lang/String;)V"⟩, .declares ⟨"java/lang/Exception", "<init>", "(Ljava/lang/String;)V"⟩, .declares ⟨"java/lang/Throwable", "<init>", "(Ljava/lang/String;)V"⟩]
def EVP (U : State) : Prop := (∀ y, y ∈ privN → (Cond.privateMethod y).before #[] U = true) ∧ ∀ w, w ∈ xtrW → va_Nw w U
theorem EVP.warm {s U : State} (hW : s.WarmedH U.vm) (h : EVP s) : EVP U := ⟨fun y hy => Cond.privateMethod_warm hW (h.1 y hy), fun w hw => by
  have hz := h.2 w hw
  simp only [xtrW, List.mem_cons, List.not_mem_nil, or_false] at hw
  rcases hw with rfl | rfl | rfl | rfl
  · exact va_Nw.warmC hW hz
  · exact va_Nw.warmD hW hz
  · exact va_Nw.warmD hW hz
  · exact va_Nw.warmD hW hz⟩
theorem EVP.same {u U : State} (hv : u.vm = U.vm) (h : EVP u) : EVP U := ⟨fun y hy => by
  have := h.1 y hy
  simp only [Cond.before, Cond.holds, Cond.value] at this ⊢
  rw [← State.methodNamed?_of_vm hv, ← hv]
  exact this, fun w hw => by
  have hz := h.2 w hw
  simp only [xtrW, List.mem_cons, List.not_mem_nil, or_false] at hw
  rcases hw with rfl | rfl | rfl | rfl <;> exact va_Nw.same rfl hv hz⟩
def EV (A : Nat → Prop) (U : State) (H : Heap) : Prop :=
  (∀ w ∈ lw_nest, va_Nw w U) ∧ vx_Zq Bundle.tN "UNASSIGNED_STACK" Bundle.steD A U H ∧ vx_Zq Bundle.tN "SUPPRESSED_SENTINEL" Bundle.listD A U H ∧ va_Z "java/lang/String" "COMPACT_STRINGS" "Z" (.int 1) A U H ∧ EVS A U H ∧ EVD A U H ∧ va_Zq "jdk/internal/util/Preconditions" "SIOOBE_FORMATTER" "Ljava/util/function/BiFunction;" A U H ∧ EVP U
theorem nest_cases {w : Cond} (h : w ∈ lw_nest) : ∃ a i y b, w = .methodLinkNest a i y b := by
  have := (List.mem_filter.mp h).2
  cases w <;> first | (simp [isNest] at this; done) | exact ⟨_, _, _, _, rfl⟩
theorem EV.warm {A : Nat → Prop} {s U : State} {H : Heap} (hW : s.WarmedH U.vm) (h : EV A s H) : EV A U H := by
  obtain ⟨h1, h2, h3, h4, ⟨k1, k2, h5, h6⟩, ⟨tO, tT, h7, h8, h9, h10⟩, h11, h12⟩ := h
  refine ⟨fun w hw => ?_, h2.moved hW.alike, h3.moved hW.alike, h4.moved hW.alike, ⟨k1, k2, fun i q hq => vk_R.warm hW (h5 i q hq), h6.moved hW.alike⟩, ⟨tO, tT, h7.moved hW.alike, h8.moved hW.alike, h9.moved hW.alike, h10.moved hW.alike⟩, h11.moved hW.alike, h12.warm hW⟩
  obtain ⟨a, i, y, b, rfl⟩ := nest_cases hw
  exact va_Nw.warmM hW (h1 _ hw)
theorem EV.same {A : Nat → Prop} {u U : State} {H : Heap} (hv : u.vm = U.vm) (h : EV A u H) : EV A U H := by
  obtain ⟨h1, h2, h3, h4, ⟨k1, k2, h5, h6⟩, ⟨tO, tT, h7, h8, h9, h10⟩, h11, h12⟩ := h
  have hal : u.vm.Alike U.vm := by rw [hv]; exact Vm.Alike.refl _
  refine ⟨fun w hw => ?_, h2.moved hal, h3.moved hal, h4.moved hal, ⟨k1, k2, fun i q hq => vk_R.same hv.symm (h5 i q hq), h6.moved hal⟩, ⟨tO, tT, h7.moved hal, h8.moved hal, h9.moved hal, h10.moved hal⟩, h11.moved hal, h12.same hv⟩
  obtain ⟨a, i, y, b, rfl⟩ := nest_cases hw
  exact va_Nw.same rfl hv (h1 _ hw)
theorem EV.kept {A : Nat → Prop} {U : State} {H H1 : Heap} (h : EV A U H) (hq : ∀ a : Nat, a < H.size → ¬ A a → H1[a]? = H[a]?) : EV A U H1 := by
  obtain ⟨h1, h2, h3, h4, ⟨k1, k2, h5, h6⟩, ⟨tO, tT, h7, h8, h9, h10⟩, h11, h12⟩ := h
  exact ⟨h1, h2.kept hq, h3.kept hq, h4.kept hq, ⟨k1, k2, h5, h6.kept hq⟩, ⟨tO, tT, h7.kept hq, h8.kept hq, h9.kept hq, h10.kept hq⟩, h11.kept hq, h12⟩
theorem EV.narrow {A B : Nat → Prop} {U : State} {H : Heap} (h : EV A U H) (hAB : ∀ q, B q → A q) : EV B U H := by
  obtain ⟨h1, h2, h3, h4, ⟨k1, k2, h5, h6⟩, ⟨tO, tT, h7, h8, h9, h10⟩, h11, h12⟩ := h
  exact ⟨h1, h2.narrow hAB, h3.narrow hAB, h4.narrow hAB, ⟨k1, k2, h5, h6.narrow hAB⟩, ⟨tO, tT, h7.narrow hAB, h8.narrow hAB, h9.narrow hAB, h10.narrow hAB⟩, h11.narrow hAB, h12⟩
/-- what doesn't change through a method -/
def VX (D : va_G) (F : Cfg) (p : Program) (l : Launch) (s : State) (m : MethodId) (args : Array Value) (meth : Method) (c : Code) (A : Nat → Prop) : Prop :=
  p.tables.exec = Jvm.exec ∧ c.code = F.2.1 ∧ c.maxLocals = F.2.2.1 ∧ meth.sig.returnType = F.2.2.2 ∧ s.vm.findClass F.1 = some m.cls ∧ (∀ w ∈ lw_good, w.before args s = true) ∧ meth.locks = false ∧ (∀ q, s.heap.size ≤ q → A q) ∧ va_K D vwCl (TY D) s ∧ EV A s s.heap ∧ l.flags = flags0
abbrev QF : Type := Launch → State → MethodId → Array Value → List Frame → Code → (Nat → Prop) → State → Prop
def V (D : va_G) (F : Cfg) (rm : Room) (Qf : QF) (k n pc : Nat) (locs : List (Option Value)) (st : List Value) (ws : va_W) : Prop :=
  ∀ (p : Program) (l : Launch) (e : Env) (s : State) (m : MethodId) (args : Array Value) (below : List Frame) (meth : Method) (c : Code) (A : Nat → Prop) (H : Heap) (lc : List Loc) (ls : Array Slot),
    VX D F p l s m args meth c A → locs.length = F.2.2.1 → k ≤ rm.cells → n ≤ rm.slots → va_P D vwCl ws H → va_D A ws → va_S A s.heap H lc → LocOK ls locs →
    W p l e rm s m args below meth c H lc k n (Qf l s m args below c A) (F0 m pc ls st)
section VE
variable {D : va_G} {F : Cfg} {rm : Room} {Qf : QF} {k n pc q : Nat} {locs : List (Option Value)} {st : List Value} {ws : va_W}
theorem V_sub {locs' : List (Option Value)} (h : subL locs' locs) (kk : V D F rm Qf k n pc locs' st ws) : V D F rm Qf k n pc locs st ws := by
  intro p l e s m args below meth c A H lc ls C hlen hk hn hP hD hS hl
  exact kk p l e s m args below meth c A H lc ls C (by rw [(subL_spec h).1]; exact hlen) hk hn hP hD hS (hl.sub h)
theorem V_ws {ws' : va_W} (h : ws = ws') (kk : V D F rm Qf k n pc locs st ws') : V D F rm Qf k n pc locs st ws := h ▸ kk
theorem V_st {st' : List Value} (h : st = st') (kk : V D F rm Qf k n pc locs st' ws) : V D F rm Qf k n pc locs st ws := h ▸ kk
theorem V_int {x y : Int32} (h : x = y) (kk : V D F rm Qf k n pc locs (.int y :: st) ws) : V D F rm Qf k n pc locs (.int x :: st) ws := h ▸ kk
theorem V_top {x : Int32} (kk : ∀ y : Int32, y = x → V D F rm Qf k n pc locs (.int y :: st) ws) : V D F rm Qf k n pc locs (.int x :: st) ws := kk x rfl
/-- fewer cells are left: rounding up -/
theorem V_widen {k' n' : Nat} (h1 : k ≤ k') (h2 : n ≤ n') (h3 : k' ≤ rm.cells) (h4 : n' ≤ rm.slots) (kk : V D F rm Qf k' n' pc locs st ws) : V D F rm Qf k n pc locs st ws := by
  intro p l e s m args below meth c A H lc ls C hlen hk hn hP hD hS hl
  exact W.widen h1 h2 (kk p l e s m args below meth c A H lc ls C hlen h3 h4 hP hD hS hl)
end VE
section VR
variable {D : va_G} {F : Cfg} {rm : Room} {Qf : QF} {k n pc q : Nat} {locs : List (Option Value)} {st : List Value} {ws : va_W}
theorem E_iadd {x y : Int32} (hd : decode F.2.1 pc = .ok (.iadd, 1)) (hq : pc + 1 = q) (kk : V D F rm Qf k n q locs (.int (x + y) :: st) ws) : V D F rm Qf k n pc locs (.int y :: .int x :: st) ws := by
  subst hq
  intro p l e s m args below meth c A H lc ls C hlen hk hn hP hD hS hl
  exact lv_iadd C.1 C.2.1 hd (kk p l e s m args below meth c A H lc ls C hlen hk hn hP hD hS hl)
theorem E_isub {x y : Int32} (hd : decode F.2.1 pc = .ok (.isub, 1)) (hq : pc + 1 = q) (kk : V D F rm Qf k n q locs (.int (x - y) :: st) ws) : V D F rm Qf k n pc locs (.int y :: .int x :: st) ws := by
  subst hq
  intro p l e s m args below meth c A H lc ls C hlen hk hn hP hD hS hl
  exact lv_isub C.1 C.2.1 hd (kk p l e s m args below meth c A H lc ls C hlen hk hn hP hD hS hl)
theorem E_imul {x y : Int32} (hd : decode F.2.1 pc = .ok (.imul, 1)) (hq : pc + 1 = q) (kk : V D F rm Qf k n q locs (.int (x * y) :: st) ws) : V D F rm Qf k n pc locs (.int y :: .int x :: st) ws := by
  subst hq
  intro p l e s m args below meth c A H lc ls C hlen hk hn hP hD hS hl
  exact lv_imul C.1 C.2.1 hd (kk p l e s m args below meth c A H lc ls C hlen hk hn hP hD hS hl)
theorem E_iand {x y : Int32} (hd : decode F.2.1 pc = .ok (.iand, 1)) (hq : pc + 1 = q) (kk : V D F rm Qf k n q locs (.int (x &&& y) :: st) ws) : V D F rm Qf k n pc locs (.int y :: .int x :: st) ws := by
  subst hq
  intro p l e s m args below meth c A H lc ls C hlen hk hn hP hD hS hl
  exact lv_iand C.1 C.2.1 hd (kk p l e s m args below meth c A H lc ls C hlen hk hn hP hD hS hl)
theorem E_ior {x y : Int32} (hd : decode F.2.1 pc = .ok (.ior, 1)) (hq : pc + 1 = q) (kk : V D F rm Qf k n q locs (.int (x ||| y) :: st) ws) : V D F rm Qf k n pc locs (.int y :: .int x :: st) ws := by
  subst hq
  intro p l e s m args below meth c A H lc ls C hlen hk hn hP hD hS hl
  exact lv_ior C.1 C.2.1 hd (kk p l e s m args below meth c A H lc ls C hlen hk hn hP hD hS hl)
theorem E_ixor {x y : Int32} (hd : decode F.2.1 pc = .ok (.ixor, 1)) (hq : pc + 1 = q) (kk : V D F rm Qf k n q locs (.int (x ^^^ y) :: st) ws) : V D F rm Qf k n pc locs (.int y :: .int x :: st) ws := by
  subst hq
  intro p l e s m args below meth c A H lc ls C hlen hk hn hP hD hS hl
  exact lv_ixor C.1 C.2.1 hd (kk p l e s m args below meth c A H lc ls C hlen hk hn hP hD hS hl)
theorem E_iaddN {a b : Nat} (hd : decode F.2.1 pc = .ok (.iadd, 1)) (hq : pc + 1 = q) (kk : V D F rm Qf k n q locs (.int (nI (a + b)) :: st) ws) : V D F rm Qf k n pc locs (.int (nI b) :: .int (nI a) :: st) ws := by
  subst hq
  intro p l e s m args below meth c A H lc ls C hlen hk hn hP hD hS hl
  exact lv_iadd C.1 C.2.1 hd (by rw [nI_add a b]; exact (kk p l e s m args below meth c A H lc ls C hlen hk hn hP hD hS hl))
theorem E_imulN {a b : Nat} (hd : decode F.2.1 pc = .ok (.imul, 1)) (hq : pc + 1 = q) (kk : V D F rm Qf k n q locs (.int (nI (a * b)) :: st) ws) : V D F rm Qf k n pc locs (.int (nI b) :: .int (nI a) :: st) ws := by
  subst hq
  intro p l e s m args below meth c A H lc ls C hlen hk hn hP hD hS hl
  exact lv_imul C.1 C.2.1 hd (by rw [pk_mul a b]; exact (kk p l e s m args below meth c A H lc ls C hlen hk hn hP hD hS hl))
theorem E_isubN {a b : Nat} (hd : decode F.2.1 pc = .ok (.isub, 1)) (h : b ≤ a) (hq : pc + 1 = q) (kk : V D F rm Qf k n q locs (.int (nI (a - b)) :: st) ws) : V D F rm Qf k n pc locs (.int (nI b) :: .int (nI a) :: st) ws := by
  subst hq
  intro p l e s m args below meth c A H lc ls C hlen hk hn hP hD hS hl
  exact lv_isub C.1 C.2.1 hd (by rw [pk_sub h]; exact (kk p l e s m args below meth c A H lc ls C hlen hk hn hP hD hS hl))
theorem E_idiv {x y : Int32} (hd : decode F.2.1 pc = .ok (.idiv, 1)) (hne : ¬ y = 0) (hq : pc + 1 = q) (kk : V D F rm Qf k n q locs (.int (x / y) :: st) ws) : V D F rm Qf k n pc locs (.int y :: .int x :: st) ws := by
  subst hq
  intro p l e s m args below meth c A H lc ls C hlen hk hn hP hD hS hl
  exact lv_idiv C.1 C.2.1 hd hne (kk p l e s m args below meth c A H lc ls C hlen hk hn hP hD hS hl)
theorem E_irem {x y : Int32} (hd : decode F.2.1 pc = .ok (.irem, 1)) (hne : ¬ y = 0) (hq : pc + 1 = q) (kk : V D F rm Qf k n q locs (.int (x - x / y * y) :: st) ws) : V D F rm Qf k n pc locs (.int y :: .int x :: st) ws := by
  subst hq
  intro p l e s m args below meth c A H lc ls C hlen hk hn hP hD hS hl
  exact lv_irem C.1 C.2.1 hd hne (kk p l e s m args below meth c A H lc ls C hlen hk hn hP hD hS hl)
theorem E_ishl {x y : Int32} (hd : decode F.2.1 pc = .ok (.ishl, 1)) (hq : pc + 1 = q) (kk : V D F rm Qf k n q locs (.int (x <<< (y &&& 31)) :: st) ws) : V D F rm Qf k n pc locs (.int y :: .int x :: st) ws := by
  subst hq
  intro p l e s m args below meth c A H lc ls C hlen hk hn hP hD hS hl
  exact lv_ishl C.1 C.2.1 hd (kk p l e s m args below meth c A H lc ls C hlen hk hn hP hD hS hl)
theorem E_ishr {x y : Int32} (hd : decode F.2.1 pc = .ok (.ishr, 1)) (hq : pc + 1 = q) (kk : V D F rm Qf k n q locs (.int (x >>> (y &&& 31)) :: st) ws) : V D F rm Qf k n pc locs (.int y :: .int x :: st) ws := by
  subst hq
  intro p l e s m args below meth c A H lc ls C hlen hk hn hP hD hS hl
  exact lv_ishr C.1 C.2.1 hd (kk p l e s m args below meth c A H lc ls C hlen hk hn hP hD hS hl)
theorem E_iushr {x y v : Int32} (hd : decode F.2.1 pc = .ok (.iushr, 1)) (hv : (x.toUInt32 >>> (y.toUInt32 &&& Int32.toUInt32 31)).toInt32 = v) (hq : pc + 1 = q) (kk : V D F rm Qf k n q locs (.int v :: st) ws) : V D F rm Qf k n pc locs (.int y :: .int x :: st) ws := by
  subst hq
  intro p l e s m args below meth c A H lc ls C hlen hk hn hP hD hS hl
  exact lv_iushr C.1 C.2.1 hd hv (kk p l e s m args below meth c A H lc ls C hlen hk hn hP hD hS hl)
theorem E_i2l {x : Int32} (hd : decode F.2.1 pc = .ok (.i2l, 1)) (hq : pc + 1 = q) (kk : V D F rm Qf k n q locs (.long x.toInt64 :: st) ws) : V D F rm Qf k n pc locs (.int x :: st) ws := by
  subst hq
  intro p l e s m args below meth c A H lc ls C hlen hk hn hP hD hS hl
  exact lv_i2l C.1 C.2.1 hd rfl (kk p l e s m args below meth c A H lc ls C hlen hk hn hP hD hS hl)
theorem E_i2b {x : Int32} (hd : decode F.2.1 pc = .ok (.i2b, 1)) (hq : pc + 1 = q) (kk : V D F rm Qf k n q locs (.int x.toInt8.toInt32 :: st) ws) : V D F rm Qf k n pc locs (.int x :: st) ws := by
  subst hq
  intro p l e s m args below meth c A H lc ls C hlen hk hn hP hD hS hl
  exact lv_i2b C.1 C.2.1 hd rfl (kk p l e s m args below meth c A H lc ls C hlen hk hn hP hD hS hl)
theorem E_i2c {x : Int32} (hd : decode F.2.1 pc = .ok (.i2c, 1)) (hq : pc + 1 = q) (kk : V D F rm Qf k n q locs (.int (x.toUInt32 % 65536).toInt32 :: st) ws) : V D F rm Qf k n pc locs (.int x :: st) ws := by
  subst hq
  intro p l e s m args below meth c A H lc ls C hlen hk hn hP hD hS hl
  exact lv_i2c C.1 C.2.1 hd rfl (kk p l e s m args below meth c A H lc ls C hlen hk hn hP hD hS hl)
theorem E_i2d {x : Int32} (hd : decode F.2.1 pc = .ok (.i2d, 1)) (hq : pc + 1 = q) (kk : V D F rm Qf k n q locs (.double (FP.i2d x) :: st) ws) : V D F rm Qf k n pc locs (.int x :: st) ws := by
  subst hq
  intro p l e s m args below meth c A H lc ls C hlen hk hn hP hD hS hl
  exact lv_i2d C.1 C.2.1 hd (kk p l e s m args below meth c A H lc ls C hlen hk hn hP hD hS hl)
theorem E_ladd {x y : Int64} (hd : decode F.2.1 pc = .ok (.ladd, 1)) (hq : pc + 1 = q) (kk : V D F rm Qf k n q locs (.long (x + y) :: st) ws) : V D F rm Qf k n pc locs (.long y :: .long x :: st) ws := by
  subst hq
  intro p l e s m args below meth c A H lc ls C hlen hk hn hP hD hS hl
  exact lv_ladd C.1 C.2.1 hd (kk p l e s m args below meth c A H lc ls C hlen hk hn hP hD hS hl)
theorem E_lmul {x y : Int64} (hd : decode F.2.1 pc = .ok (.lmul, 1)) (hq : pc + 1 = q) (kk : V D F rm Qf k n q locs (.long (x * y) :: st) ws) : V D F rm Qf k n pc locs (.long y :: .long x :: st) ws := by
  subst hq
  intro p l e s m args below meth c A H lc ls C hlen hk hn hP hD hS hl
  exact lv_lmul C.1 C.2.1 hd (kk p l e s m args below meth c A H lc ls C hlen hk hn hP hD hS hl)
theorem E_lcmp {x y : Int64} (hd : decode F.2.1 pc = .ok (.lcmp, 1)) (hq : pc + 1 = q) (kk : V D F rm Qf k n q locs (.int (lg_cmp x y) :: st) ws) : V D F rm Qf k n pc locs (.long y :: .long x :: st) ws := by
  subst hq
  intro p l e s m args below meth c A H lc ls C hlen hk hn hP hD hS hl
  exact W.lcmp C.1 C.2.1 hd (kk p l e s m args below meth c A H lc ls C hlen hk hn hP hD hS hl)
theorem E_ddiv {x y : UInt64} (hd : decode F.2.1 pc = .ok (.ddiv, 1)) (hne : vf_n64 (FP.ddiv x y)) (hq : pc + 1 = q) (kk : V D F rm Qf k n q locs (.double (FP.ddiv x y) :: st) ws) : V D F rm Qf k n pc locs (.double y :: .double x :: st) ws := by
  subst hq
  intro p l e s m args below meth c A H lc ls C hlen hk hn hP hD hS hl
  exact lv_ddiv C.1 C.2.1 hd hne (kk p l e s m args below meth c A H lc ls C hlen hk hn hP hD hS hl)
theorem E_dconst0  (hd : decode F.2.1 pc = .ok (.dconst 0, 1)) (hq : pc + 1 = q) (kk : V D F rm Qf k n q locs (.double 0 :: st) ws) : V D F rm Qf k n pc locs st ws := by
  subst hq
  intro p l e s m args below meth c A H lc ls C hlen hk hn hP hD hS hl
  exact lv_dconst0 C.1 C.2.1 hd (kk p l e s m args below meth c A H lc ls C hlen hk hn hP hD hS hl)
theorem E_dcmp {x y : UInt64} {op : CmpOp} (hd : decode F.2.1 pc = .ok (.dcmp op, 1)) (hq : pc + 1 = q) (kk : V D F rm Qf k n q locs (.int (Op.cmpValue (FP.dcmp x y) op) :: st) ws) : V D F rm Qf k n pc locs (.double y :: .double x :: st) ws := by
  subst hq
  intro p l e s m args below meth c A H lc ls C hlen hk hn hP hD hS hl
  exact lv_dcmp C.1 C.2.1 hd (kk p l e s m args below meth c A H lc ls C hlen hk hn hP hD hS hl)
theorem E_iconst {z : Int} {v : Int32} (hd : decode F.2.1 pc = .ok (.iconst z, 1)) (hv : Int32.ofInt z = v) (hq : pc + 1 = q) (kk : V D F rm Qf k n q locs (.int v :: st) ws) : V D F rm Qf k n pc locs st ws := by
  subst hq
  intro p l e s m args below meth c A H lc ls C hlen hk hn hP hD hS hl
  exact lv_iconst C.1 C.2.1 hd hv (kk p l e s m args below meth c A H lc ls C hlen hk hn hP hD hS hl)
theorem E_bipush {z : Int} {v : Int32} (hd : decode F.2.1 pc = .ok (.bipush z, 2)) (hv : (Int8.ofInt z).toInt32 = v) (hq : pc + 2 = q) (kk : V D F rm Qf k n q locs (.int v :: st) ws) : V D F rm Qf k n pc locs st ws := by
  subst hq
  intro p l e s m args below meth c A H lc ls C hlen hk hn hP hD hS hl
  exact lv_bipush C.1 C.2.1 hd hv (kk p l e s m args below meth c A H lc ls C hlen hk hn hP hD hS hl)
theorem E_sipush {z : Int} {v : Int32} (hd : decode F.2.1 pc = .ok (.sipush z, 3)) (hv : (Int16.ofInt z).toInt32 = v) (hq : pc + 3 = q) (kk : V D F rm Qf k n q locs (.int v :: st) ws) : V D F rm Qf k n pc locs st ws := by
  subst hq
  intro p l e s m args below meth c A H lc ls C hlen hk hn hP hD hS hl
  exact lv_sipush C.1 C.2.1 hd hv (kk p l e s m args below meth c A H lc ls C hlen hk hn hP hD hS hl)
theorem E_lconst {z : Fin 2} {v : Int64} (hd : decode F.2.1 pc = .ok (.lconst z, 1)) (hv : Int64.ofNat (z : Nat) = v) (hq : pc + 1 = q) (kk : V D F rm Qf k n q locs (.long v :: st) ws) : V D F rm Qf k n pc locs st ws := by
  subst hq
  intro p l e s m args below meth c A H lc ls C hlen hk hn hP hD hS hl
  exact lv_lconst C.1 C.2.1 hd hv (kk p l e s m args below meth c A H lc ls C hlen hk hn hP hD hS hl)
theorem E_ldc {index : Nat} {v : Int32} (hd : decode F.2.1 pc = .ok (.ldc index, 2)) (hc : Cond.constant F.1 index v ∈ lw_good) (hq : pc + 2 = q) (kk : V D F rm Qf k n q locs (.int v :: st) ws) : V D F rm Qf k n pc locs st ws := by
  subst hq
  intro p l e s m args below meth c A H lc ls C hlen hk hn hP hD hS hl
  exact lv_ldc C.1 C.2.1 C.2.2.2.2.1 (C.2.2.2.2.2.1 _ hc) hd (kk p l e s m args below meth c A H lc ls C hlen hk hn hP hD hS hl)
theorem E_ldcw {index : Nat} {v : Int32} (hd : decode F.2.1 pc = .ok (.ldc_w index, 3)) (hc : Cond.constant F.1 index v ∈ lw_good) (hq : pc + 3 = q) (kk : V D F rm Qf k n q locs (.int v :: st) ws) : V D F rm Qf k n pc locs st ws := by
  subst hq
  intro p l e s m args below meth c A H lc ls C hlen hk hn hP hD hS hl
  exact lv_ldcw C.1 C.2.1 C.2.2.2.2.1 (C.2.2.2.2.2.1 _ hc) hd (kk p l e s m args below meth c A H lc ls C hlen hk hn hP hD hS hl)
theorem E_ldc2 {index : Nat} {v : Int64} (hd : decode F.2.1 pc = .ok (.ldc2_w index, 3)) (hc : Cond.constantLong F.1 index v ∈ lw_good) (hq : pc + 3 = q) (kk : V D F rm Qf k n q locs (.long v :: st) ws) : V D F rm Qf k n pc locs st ws := by
  subst hq
  intro p l e s m args below meth c A H lc ls C hlen hk hn hP hD hS hl
  exact lv_ldc2 C.1 C.2.1 C.2.2.2.2.1 (C.2.2.2.2.2.1 _ hc) hd (kk p l e s m args below meth c A H lc ls C hlen hk hn hP hD hS hl)
theorem E_pop {va : Value} (hd : decode F.2.1 pc = .ok (.pop, 1)) (hva : va.category = 1) (hq : pc + 1 = q) (kk : V D F rm Qf k n q locs st ws) : V D F rm Qf k n pc locs (va :: st) ws := by
  subst hq
  intro p l e s m args below meth c A H lc ls C hlen hk hn hP hD hS hl
  exact lv_pop C.1 C.2.1 hd hva (kk p l e s m args below meth c A H lc ls C hlen hk hn hP hD hS hl)
theorem E_dup {va : Value} (hd : decode F.2.1 pc = .ok (.dup, 1)) (hva : va.category = 1) (hq : pc + 1 = q) (kk : V D F rm Qf k n q locs (va :: va :: st) ws) : V D F rm Qf k n pc locs (va :: st) ws := by
  subst hq
  intro p l e s m args below meth c A H lc ls C hlen hk hn hP hD hS hl
  exact lv_dup C.1 C.2.1 hd hva (kk p l e s m args below meth c A H lc ls C hlen hk hn hP hD hS hl)
theorem E_dup2 {va vb : Value} (hd : decode F.2.1 pc = .ok (.dup2, 1)) (hva : va.category = 1) (hvb : vb.category = 1) (hq : pc + 1 = q) (kk : V D F rm Qf k n q locs (va :: vb :: va :: vb :: st) ws) : V D F rm Qf k n pc locs (va :: vb :: st) ws := by
  subst hq
  intro p l e s m args below meth c A H lc ls C hlen hk hn hP hD hS hl
  exact lv_dup2_11 C.1 C.2.1 hd hva hvb (kk p l e s m args below meth c A H lc ls C hlen hk hn hP hD hS hl)
theorem E_dup_x1 {va vb : Value} (hd : decode F.2.1 pc = .ok (.dup_x1, 1)) (hva : va.category = 1) (hvb : vb.category = 1) (hq : pc + 1 = q) (kk : V D F rm Qf k n q locs (va :: vb :: va :: st) ws) : V D F rm Qf k n pc locs (va :: vb :: st) ws := by
  subst hq
  intro p l e s m args below meth c A H lc ls C hlen hk hn hP hD hS hl
  exact lv_dup_x1 C.1 C.2.1 hd hva hvb (kk p l e s m args below meth c A H lc ls C hlen hk hn hP hD hS hl)
theorem E_goto {off : Int} (hd : decode F.2.1 pc = .ok (.goto off, 3)) (hq : (pc : Int) + off = (q : Int)) (kk : V D F rm Qf k n q locs st ws) : V D F rm Qf k n pc locs st ws := by
  intro p l e s m args below meth c A H lc ls C hlen hk hn hP hD hS hl
  exact lv_goto C.1 C.2.1 hd hq (kk p l e s m args below meth c A H lc ls C hlen hk hn hP hD hS hl)
theorem E_icmp_eq {x y : Int32} {off : Int} {tgt : Nat} (hd : decode F.2.1 pc = .ok (.if_icmp .eq off, 3)) (ht : (pc : Int) + off = (tgt : Int)) (hq : pc + 3 = q) (kt : x = y → V D F rm Qf k n tgt locs st ws) (kf : ¬ x = y → V D F rm Qf k n q locs st ws) : V D F rm Qf k n pc locs (.int y :: .int x :: st) ws := by
  subst hq
  intro p l e s m args below meth c A H lc ls C hlen hk hn hP hD hS hl
  exact lv_icmp_eq C.1 C.2.1 hd ht (fun h => kt h p l e s m args below meth c A H lc ls C hlen hk hn hP hD hS hl) (fun h => kf h p l e s m args below meth c A H lc ls C hlen hk hn hP hD hS hl)
theorem E_if_eq {x : Int32} {off : Int} {tgt : Nat} (hd : decode F.2.1 pc = .ok (.ifCond .eq off, 3)) (ht : (pc : Int) + off = (tgt : Int)) (hq : pc + 3 = q) (kt : x = 0 → V D F rm Qf k n tgt locs st ws) (kf : ¬ x = 0 → V D F rm Qf k n q locs st ws) : V D F rm Qf k n pc locs (.int x :: st) ws := by
  subst hq
  intro p l e s m args below meth c A H lc ls C hlen hk hn hP hD hS hl
  exact lv_if_eq C.1 C.2.1 hd ht (fun h => kt h p l e s m args below meth c A H lc ls C hlen hk hn hP hD hS hl) (fun h => kf h p l e s m args below meth c A H lc ls C hlen hk hn hP hD hS hl)
theorem E_icmp_ne {x y : Int32} {off : Int} {tgt : Nat} (hd : decode F.2.1 pc = .ok (.if_icmp .ne off, 3)) (ht : (pc : Int) + off = (tgt : Int)) (hq : pc + 3 = q) (kt : ¬ x = y → V D F rm Qf k n tgt locs st ws) (kf : x = y → V D F rm Qf k n q locs st ws) : V D F rm Qf k n pc locs (.int y :: .int x :: st) ws := by
  subst hq
  intro p l e s m args below meth c A H lc ls C hlen hk hn hP hD hS hl
  exact lv_icmp_ne C.1 C.2.1 hd ht (fun h => kt h p l e s m args below meth c A H lc ls C hlen hk hn hP hD hS hl) (fun h => kf h p l e s m args below meth c A H lc ls C hlen hk hn hP hD hS hl)
theorem E_if_ne {x : Int32} {off : Int} {tgt : Nat} (hd : decode F.2.1 pc = .ok (.ifCond .ne off, 3)) (ht : (pc : Int) + off = (tgt : Int)) (hq : pc + 3 = q) (kt : ¬ x = 0 → V D F rm Qf k n tgt locs st ws) (kf : x = 0 → V D F rm Qf k n q locs st ws) : V D F rm Qf k n pc locs (.int x :: st) ws := by
  subst hq
  intro p l e s m args below meth c A H lc ls C hlen hk hn hP hD hS hl
  exact lv_if_ne C.1 C.2.1 hd ht (fun h => kt h p l e s m args below meth c A H lc ls C hlen hk hn hP hD hS hl) (fun h => kf h p l e s m args below meth c A H lc ls C hlen hk hn hP hD hS hl)
theorem E_icmp_lt {x y : Int32} {off : Int} {tgt : Nat} (hd : decode F.2.1 pc = .ok (.if_icmp .lt off, 3)) (ht : (pc : Int) + off = (tgt : Int)) (hq : pc + 3 = q) (kt : x < y → V D F rm Qf k n tgt locs st ws) (kf : ¬ x < y → V D F rm Qf k n q locs st ws) : V D F rm Qf k n pc locs (.int y :: .int x :: st) ws := by
  subst hq
  intro p l e s m args below meth c A H lc ls C hlen hk hn hP hD hS hl
  exact lv_icmp_lt C.1 C.2.1 hd ht (fun h => kt h p l e s m args below meth c A H lc ls C hlen hk hn hP hD hS hl) (fun h => kf h p l e s m args below meth c A H lc ls C hlen hk hn hP hD hS hl)
theorem E_if_lt {x : Int32} {off : Int} {tgt : Nat} (hd : decode F.2.1 pc = .ok (.ifCond .lt off, 3)) (ht : (pc : Int) + off = (tgt : Int)) (hq : pc + 3 = q) (kt : x < 0 → V D F rm Qf k n tgt locs st ws) (kf : ¬ x < 0 → V D F rm Qf k n q locs st ws) : V D F rm Qf k n pc locs (.int x :: st) ws := by
  subst hq
  intro p l e s m args below meth c A H lc ls C hlen hk hn hP hD hS hl
  exact lv_if_lt C.1 C.2.1 hd ht (fun h => kt h p l e s m args below meth c A H lc ls C hlen hk hn hP hD hS hl) (fun h => kf h p l e s m args below meth c A H lc ls C hlen hk hn hP hD hS hl)
theorem E_icmp_ge {x y : Int32} {off : Int} {tgt : Nat} (hd : decode F.2.1 pc = .ok (.if_icmp .ge off, 3)) (ht : (pc : Int) + off = (tgt : Int)) (hq : pc + 3 = q) (kt : y ≤ x → V D F rm Qf k n tgt locs st ws) (kf : ¬ y ≤ x → V D F rm Qf k n q locs st ws) : V D F rm Qf k n pc locs (.int y :: .int x :: st) ws := by
  subst hq
  intro p l e s m args below meth c A H lc ls C hlen hk hn hP hD hS hl
  exact lv_icmp_ge C.1 C.2.1 hd ht (fun h => kt h p l e s m args below meth c A H lc ls C hlen hk hn hP hD hS hl) (fun h => kf h p l e s m args below meth c A H lc ls C hlen hk hn hP hD hS hl)
theorem E_if_ge {x : Int32} {off : Int} {tgt : Nat} (hd : decode F.2.1 pc = .ok (.ifCond .ge off, 3)) (ht : (pc : Int) + off = (tgt : Int)) (hq : pc + 3 = q) (kt : 0 ≤ x → V D F rm Qf k n tgt locs st ws) (kf : ¬ 0 ≤ x → V D F rm Qf k n q locs st ws) : V D F rm Qf k n pc locs (.int x :: st) ws := by
  subst hq
  intro p l e s m args below meth c A H lc ls C hlen hk hn hP hD hS hl
  exact lv_if_ge C.1 C.2.1 hd ht (fun h => kt h p l e s m args below meth c A H lc ls C hlen hk hn hP hD hS hl) (fun h => kf h p l e s m args below meth c A H lc ls C hlen hk hn hP hD hS hl)
theorem E_icmp_gt {x y : Int32} {off : Int} {tgt : Nat} (hd : decode F.2.1 pc = .ok (.if_icmp .gt off, 3)) (ht : (pc : Int) + off = (tgt : Int)) (hq : pc + 3 = q) (kt : y < x → V D F rm Qf k n tgt locs st ws) (kf : ¬ y < x → V D F rm Qf k n q locs st ws) : V D F rm Qf k n pc locs (.int y :: .int x :: st) ws := by
  subst hq
  intro p l e s m args below meth c A H lc ls C hlen hk hn hP hD hS hl
  exact lv_icmp_gt C.1 C.2.1 hd ht (fun h => kt h p l e s m args below meth c A H lc ls C hlen hk hn hP hD hS hl) (fun h => kf h p l e s m args below meth c A H lc ls C hlen hk hn hP hD hS hl)
theorem E_if_gt {x : Int32} {off : Int} {tgt : Nat} (hd : decode F.2.1 pc = .ok (.ifCond .gt off, 3)) (ht : (pc : Int) + off = (tgt : Int)) (hq : pc + 3 = q) (kt : 0 < x → V D F rm Qf k n tgt locs st ws) (kf : ¬ 0 < x → V D F rm Qf k n q locs st ws) : V D F rm Qf k n pc locs (.int x :: st) ws := by
  subst hq
  intro p l e s m args below meth c A H lc ls C hlen hk hn hP hD hS hl
  exact lv_if_gt C.1 C.2.1 hd ht (fun h => kt h p l e s m args below meth c A H lc ls C hlen hk hn hP hD hS hl) (fun h => kf h p l e s m args below meth c A H lc ls C hlen hk hn hP hD hS hl)
theorem E_icmp_le {x y : Int32} {off : Int} {tgt : Nat} (hd : decode F.2.1 pc = .ok (.if_icmp .le off, 3)) (ht : (pc : Int) + off = (tgt : Int)) (hq : pc + 3 = q) (kt : x ≤ y → V D F rm Qf k n tgt locs st ws) (kf : ¬ x ≤ y → V D F rm Qf k n q locs st ws) : V D F rm Qf k n pc locs (.int y :: .int x :: st) ws := by
  subst hq
  intro p l e s m args below meth c A H lc ls C hlen hk hn hP hD hS hl
  exact lv_icmp_le C.1 C.2.1 hd ht (fun h => kt h p l e s m args below meth c A H lc ls C hlen hk hn hP hD hS hl) (fun h => kf h p l e s m args below meth c A H lc ls C hlen hk hn hP hD hS hl)
theorem E_if_le {x : Int32} {off : Int} {tgt : Nat} (hd : decode F.2.1 pc = .ok (.ifCond .le off, 3)) (ht : (pc : Int) + off = (tgt : Int)) (hq : pc + 3 = q) (kt : x ≤ 0 → V D F rm Qf k n tgt locs st ws) (kf : ¬ x ≤ 0 → V D F rm Qf k n q locs st ws) : V D F rm Qf k n pc locs (.int x :: st) ws := by
  subst hq
  intro p l e s m args below meth c A H lc ls C hlen hk hn hP hD hS hl
  exact lv_if_le C.1 C.2.1 hd ht (fun h => kt h p l e s m args below meth c A H lc ls C hlen hk hn hP hD hS hl) (fun h => kf h p l e s m args below meth c A H lc ls C hlen hk hn hP hD hS hl)
-- eq: kit's x = y | ¬ x = y
theorem E_icmp_eqN {a b : Nat} {off : Int} {tgt : Nat} (hd : decode F.2.1 pc = .ok (.if_icmp .eq off, 3)) (ht : (pc : Int) + off = (tgt : Int)) (hq : pc + 3 = q) (ha : a < 2 ^ 31) (hb : b < 2 ^ 31) (kt : a = b → V D F rm Qf k n tgt locs st ws) (kf : ¬ a = b → V D F rm Qf k n q locs st ws) : V D F rm Qf k n pc locs (.int (nI b) :: .int (nI a) :: st) ws := E_icmp_eq hd ht hq (fun h => kt ((nI_eq ha hb).mp h)) (fun h => kf (fun z => h ((nI_eq ha hb).mpr z)))
-- ne: kit's ¬ x = y | x = y
theorem E_icmp_neN {a b : Nat} {off : Int} {tgt : Nat} (hd : decode F.2.1 pc = .ok (.if_icmp .ne off, 3)) (ht : (pc : Int) + off = (tgt : Int)) (hq : pc + 3 = q) (ha : a < 2 ^ 31) (hb : b < 2 ^ 31) (kt : ¬ a = b → V D F rm Qf k n tgt locs st ws) (kf : a = b → V D F rm Qf k n q locs st ws) : V D F rm Qf k n pc locs (.int (nI b) :: .int (nI a) :: st) ws := E_icmp_ne hd ht hq (fun h => kt (fun z => h ((nI_eq ha hb).mpr z))) (fun h => kf ((nI_eq ha hb).mp h))
-- lt: kit's x < y | ¬ x < y
theorem E_icmp_ltN {a b : Nat} {off : Int} {tgt : Nat} (hd : decode F.2.1 pc = .ok (.if_icmp .lt off, 3)) (ht : (pc : Int) + off = (tgt : Int)) (hq : pc + 3 = q) (ha : a < 2 ^ 31) (hb : b < 2 ^ 31) (kt : a < b → V D F rm Qf k n tgt locs st ws) (kf : b ≤ a → V D F rm Qf k n q locs st ws) : V D F rm Qf k n pc locs (.int (nI b) :: .int (nI a) :: st) ws := E_icmp_lt hd ht hq (fun h => kt ((nI_ltI ha hb).mp h)) (fun h => kf (Nat.le_of_not_lt (fun z => h ((nI_ltI ha hb).mpr z))))
-- ge: kit's y ≤ x | ¬ y ≤ x
theorem E_icmp_geN {a b : Nat} {off : Int} {tgt : Nat} (hd : decode F.2.1 pc = .ok (.if_icmp .ge off, 3)) (ht : (pc : Int) + off = (tgt : Int)) (hq : pc + 3 = q) (ha : a < 2 ^ 31) (hb : b < 2 ^ 31) (kt : b ≤ a → V D F rm Qf k n tgt locs st ws) (kf : a < b → V D F rm Qf k n q locs st ws) : V D F rm Qf k n pc locs (.int (nI b) :: .int (nI a) :: st) ws := E_icmp_ge hd ht hq (fun h => kt ((nI_leI hb ha).mp h)) (fun h => kf (Nat.lt_of_not_le (fun z => h ((nI_leI hb ha).mpr z))))
-- gt: kit's y < x | ¬ y < x
theorem E_icmp_gtN {a b : Nat} {off : Int} {tgt : Nat} (hd : decode F.2.1 pc = .ok (.if_icmp .gt off, 3)) (ht : (pc : Int) + off = (tgt : Int)) (hq : pc + 3 = q) (ha : a < 2 ^ 31) (hb : b < 2 ^ 31) (kt : b < a → V D F rm Qf k n tgt locs st ws) (kf : a ≤ b → V D F rm Qf k n q locs st ws) : V D F rm Qf k n pc locs (.int (nI b) :: .int (nI a) :: st) ws := E_icmp_gt hd ht hq (fun h => kt ((nI_ltI hb ha).mp h)) (fun h => kf (Nat.le_of_not_lt (fun z => h ((nI_ltI hb ha).mpr z))))
-- le: kit's x ≤ y | ¬ x ≤ y
theorem E_icmp_leN {a b : Nat} {off : Int} {tgt : Nat} (hd : decode F.2.1 pc = .ok (.if_icmp .le off, 3)) (ht : (pc : Int) + off = (tgt : Int)) (hq : pc + 3 = q) (ha : a < 2 ^ 31) (hb : b < 2 ^ 31) (kt : a ≤ b → V D F rm Qf k n tgt locs st ws) (kf : b < a → V D F rm Qf k n q locs st ws) : V D F rm Qf k n pc locs (.int (nI b) :: .int (nI a) :: st) ws := E_icmp_le hd ht hq (fun h => kt ((nI_leI ha hb).mp h)) (fun h => kf (Nat.lt_of_not_le (fun z => h ((nI_leI ha hb).mpr z))))
theorem E_tableIn {dflt lo hi : Int} {offs : Array Int} {len : Nat} {x : Int32} {off : Int} (hd : decode F.2.1 pc = .ok (.tableswitch dflt lo hi offs, len)) (h1 : ¬ x.toInt < lo) (h2 : ¬ hi < x.toInt) (ho : offs[(x.toInt - lo).toNat]? = some off) (ht : (pc : Int) + off = (q : Int)) (kk : V D F rm Qf k n q locs st ws) : V D F rm Qf k n pc locs (.int x :: st) ws := by
  intro p l e s m args below meth c A H lc ls C hlen hk hn hP hD hS hl
  exact lv_tableIn C.1 C.2.1 hd h1 h2 ho ht (kk p l e s m args below meth c A H lc ls C hlen hk hn hP hD hS hl)
theorem E_tableOut {dflt lo hi : Int} {offs : Array Int} {len : Nat} {x : Int32} (hd : decode F.2.1 pc = .ok (.tableswitch dflt lo hi offs, len)) (h : x.toInt < lo ∨ hi < x.toInt) (ht : (pc : Int) + dflt = (q : Int)) (kk : V D F rm Qf k n q locs st ws) : V D F rm Qf k n pc locs (.int x :: st) ws := by
  intro p l e s m args below meth c A H lc ls C hlen hk hn hP hD hS hl
  exact lv_tableOut C.1 C.2.1 hd h ht (kk p l e s m args below meth c A H lc ls C hlen hk hn hP hD hS hl)
theorem E_iloadG {i : Nat} {x : Int32} (hd : decode F.2.1 pc = .ok (.iload i, 2)) (hi : locs[i]? = some (some (.int x))) (hq : pc + 2 = q) (kk : V D F rm Qf k n q locs (.int x :: st) ws) : V D F rm Qf k n pc locs st ws := by
  subst hq
  intro p l e s m args below meth c A H lc ls C hlen hk hn hP hD hS hl
  exact lv_iload C.1 C.2.1 hd (hl.at hi) (kk p l e s m args below meth c A H lc ls C hlen hk hn hP hD hS hl)
theorem E_iload_nG {i : Fin 4} {x : Int32} (hd : decode F.2.1 pc = .ok (.iload_n i, 1)) (hi : locs[(i : Nat)]? = some (some (.int x))) (hq : pc + 1 = q) (kk : V D F rm Qf k n q locs (.int x :: st) ws) : V D F rm Qf k n pc locs st ws := by
  subst hq
  intro p l e s m args below meth c A H lc ls C hlen hk hn hP hD hS hl
  exact lv_iload_n C.1 C.2.1 hd rfl (hl.at hi) (kk p l e s m args below meth c A H lc ls C hlen hk hn hP hD hS hl)
theorem E_aloadG {i : Nat} {x : Nat} (hd : decode F.2.1 pc = .ok (.aload i, 2)) (hi : locs[i]? = some (some (.ref x))) (hq : pc + 2 = q) (kk : V D F rm Qf k n q locs (.ref x :: st) ws) : V D F rm Qf k n pc locs st ws := by
  subst hq
  intro p l e s m args below meth c A H lc ls C hlen hk hn hP hD hS hl
  exact lv_aload C.1 C.2.1 hd (hl.at hi) (kk p l e s m args below meth c A H lc ls C hlen hk hn hP hD hS hl)
theorem E_aload_nG {i : Fin 4} {x : Nat} (hd : decode F.2.1 pc = .ok (.aload_n i, 1)) (hi : locs[(i : Nat)]? = some (some (.ref x))) (hq : pc + 1 = q) (kk : V D F rm Qf k n q locs (.ref x :: st) ws) : V D F rm Qf k n pc locs st ws := by
  subst hq
  intro p l e s m args below meth c A H lc ls C hlen hk hn hP hD hS hl
  exact lv_aload_n C.1 C.2.1 hd rfl (hl.at hi) (kk p l e s m args below meth c A H lc ls C hlen hk hn hP hD hS hl)
theorem E_lloadG {i : Nat} {x : Int64} (hd : decode F.2.1 pc = .ok (.lload i, 2)) (hi : locs[i]? = some (some (.long x))) (hq : pc + 2 = q) (kk : V D F rm Qf k n q locs (.long x :: st) ws) : V D F rm Qf k n pc locs st ws := by
  subst hq
  intro p l e s m args below meth c A H lc ls C hlen hk hn hP hD hS hl
  exact lv_lload C.1 C.2.1 hd (hl.at hi) (kk p l e s m args below meth c A H lc ls C hlen hk hn hP hD hS hl)
theorem E_lload_nG {i : Fin 4} {x : Int64} (hd : decode F.2.1 pc = .ok (.lload_n i, 1)) (hi : locs[(i : Nat)]? = some (some (.long x))) (hq : pc + 1 = q) (kk : V D F rm Qf k n q locs (.long x :: st) ws) : V D F rm Qf k n pc locs st ws := by
  subst hq
  intro p l e s m args below meth c A H lc ls C hlen hk hn hP hD hS hl
  exact lv_lload_n C.1 C.2.1 hd rfl (hl.at hi) (kk p l e s m args below meth c A H lc ls C hlen hk hn hP hD hS hl)
theorem E_dloadG {i : Nat} {x : UInt64} (hd : decode F.2.1 pc = .ok (.dload i, 2)) (hi : locs[i]? = some (some (.double x))) (hq : pc + 2 = q) (kk : V D F rm Qf k n q locs (.double x :: st) ws) : V D F rm Qf k n pc locs st ws := by
  subst hq
  intro p l e s m args below meth c A H lc ls C hlen hk hn hP hD hS hl
  exact lv_dload C.1 C.2.1 hd (hl.at hi) (kk p l e s m args below meth c A H lc ls C hlen hk hn hP hD hS hl)
theorem E_dload_nG {i : Fin 4} {x : UInt64} (hd : decode F.2.1 pc = .ok (.dload_n i, 1)) (hi : locs[(i : Nat)]? = some (some (.double x))) (hq : pc + 1 = q) (kk : V D F rm Qf k n q locs (.double x :: st) ws) : V D F rm Qf k n pc locs st ws := by
  subst hq
  intro p l e s m args below meth c A H lc ls C hlen hk hn hP hD hS hl
  exact lv_dload_n C.1 C.2.1 hd rfl (hl.at hi) (kk p l e s m args below meth c A H lc ls C hlen hk hn hP hD hS hl)
theorem E_istoreG {i : Nat} {x : Int32} (hd : decode F.2.1 pc = .ok (.istore i, 2)) (hi : i < locs.length) (hc : noC2 locs i) (hq : pc + 2 = q) (kk : V D F rm Qf k n q (locs.set i (some (.int x))) st ws) : V D F rm Qf k n pc locs (.int x :: st) ws := by
  subst hq
  intro p l e s m args below meth c A H lc ls C hlen hk hn hP hD hS hl
  exact lv_istore C.1 C.2.1 hd hl.has hi rfl (fun ls' h' => kk p l e s m args below meth c A H lc ls' C (by rw [List.length_set]; exact hlen) hk hn hP hD hS (LocOK.set1 hi hc h'))
theorem E_istore_nG {i : Fin 4} {x : Int32} (hd : decode F.2.1 pc = .ok (.istore_n i, 1)) (hi : (i : Nat) < locs.length) (hc : noC2 locs (i : Nat)) (hq : pc + 1 = q) (kk : V D F rm Qf k n q (locs.set (i : Nat) (some (.int x))) st ws) : V D F rm Qf k n pc locs (.int x :: st) ws := by
  subst hq
  intro p l e s m args below meth c A H lc ls C hlen hk hn hP hD hS hl
  exact lv_istore_n C.1 C.2.1 hd rfl hl.has hi rfl (fun ls' h' => kk p l e s m args below meth c A H lc ls' C (by rw [List.length_set]; exact hlen) hk hn hP hD hS (LocOK.set1 hi hc h'))
theorem E_astoreG {i : Nat} {x : Nat} (hd : decode F.2.1 pc = .ok (.astore i, 2)) (hi : i < locs.length) (hc : noC2 locs i) (hq : pc + 2 = q) (kk : V D F rm Qf k n q (locs.set i (some (.ref x))) st ws) : V D F rm Qf k n pc locs (.ref x :: st) ws := by
  subst hq
  intro p l e s m args below meth c A H lc ls C hlen hk hn hP hD hS hl
  exact lv_astore C.1 C.2.1 hd hl.has hi rfl (fun ls' h' => kk p l e s m args below meth c A H lc ls' C (by rw [List.length_set]; exact hlen) hk hn hP hD hS (LocOK.set1 hi hc h'))
theorem E_astore_nG {i : Fin 4} {x : Nat} (hd : decode F.2.1 pc = .ok (.astore_n i, 1)) (hi : (i : Nat) < locs.length) (hc : noC2 locs (i : Nat)) (hq : pc + 1 = q) (kk : V D F rm Qf k n q (locs.set (i : Nat) (some (.ref x))) st ws) : V D F rm Qf k n pc locs (.ref x :: st) ws := by
  subst hq
  intro p l e s m args below meth c A H lc ls C hlen hk hn hP hD hS hl
  exact lv_astore_n C.1 C.2.1 hd rfl hl.has hi rfl (fun ls' h' => kk p l e s m args below meth c A H lc ls' C (by rw [List.length_set]; exact hlen) hk hn hP hD hS (LocOK.set1 hi hc h'))
theorem E_lstoreG {i : Nat} {x : Int64} (hd : decode F.2.1 pc = .ok (.lstore i, 2)) (hi : i + 1 < locs.length) (hc : noC2 locs i) (hq : pc + 2 = q) (kk : V D F rm Qf k n q ((locs.set i (some (.long x))).set (i + 1) none) st ws) : V D F rm Qf k n pc locs (.long x :: st) ws := by
  subst hq
  intro p l e s m args below meth c A H lc ls C hlen hk hn hP hD hS hl
  exact lv_lstore C.1 C.2.1 hd hl.has hi rfl (fun ls' h' => kk p l e s m args below meth c A H lc ls' C (by rw [List.length_set, List.length_set]; exact hlen) hk hn hP hD hS (LocOK.set2 hi hc h'))
theorem E_lstore_nG {i : Fin 4} {x : Int64} (hd : decode F.2.1 pc = .ok (.lstore_n i, 1)) (hi : (i : Nat) + 1 < locs.length) (hc : noC2 locs (i : Nat)) (hq : pc + 1 = q) (kk : V D F rm Qf k n q ((locs.set (i : Nat) (some (.long x))).set ((i : Nat) + 1) none) st ws) : V D F rm Qf k n pc locs (.long x :: st) ws := by
  subst hq
  intro p l e s m args below meth c A H lc ls C hlen hk hn hP hD hS hl
  exact lv_lstore_n C.1 C.2.1 hd rfl hl.has hi rfl (fun ls' h' => kk p l e s m args below meth c A H lc ls' C (by rw [List.length_set, List.length_set]; exact hlen) hk hn hP hD hS (LocOK.set2 hi hc h'))
theorem E_dstoreG {i : Nat} {x : UInt64} (hd : decode F.2.1 pc = .ok (.dstore i, 2)) (hi : i + 1 < locs.length) (hc : noC2 locs i) (hq : pc + 2 = q) (kk : V D F rm Qf k n q ((locs.set i (some (.double x))).set (i + 1) none) st ws) : V D F rm Qf k n pc locs (.double x :: st) ws := by
  subst hq
  intro p l e s m args below meth c A H lc ls C hlen hk hn hP hD hS hl
  exact lv_dstore C.1 C.2.1 hd hl.has hi rfl (fun ls' h' => kk p l e s m args below meth c A H lc ls' C (by rw [List.length_set, List.length_set]; exact hlen) hk hn hP hD hS (LocOK.set2 hi hc h'))
theorem E_dstore_nG {i : Fin 4} {x : UInt64} (hd : decode F.2.1 pc = .ok (.dstore_n i, 1)) (hi : (i : Nat) + 1 < locs.length) (hc : noC2 locs (i : Nat)) (hq : pc + 1 = q) (kk : V D F rm Qf k n q ((locs.set (i : Nat) (some (.double x))).set ((i : Nat) + 1) none) st ws) : V D F rm Qf k n pc locs (.double x :: st) ws := by
  subst hq
  intro p l e s m args below meth c A H lc ls C hlen hk hn hP hD hS hl
  exact lv_dstore_n C.1 C.2.1 hd rfl hl.has hi rfl (fun ls' h' => kk p l e s m args below meth c A H lc ls' C (by rw [List.length_set, List.length_set]; exact hlen) hk hn hP hD hS (LocOK.set2 hi hc h'))
theorem E_iincG {i : Nat} {z : Int} {x v : Int32} (hd : decode F.2.1 pc = .ok (.iinc i z, 3)) (hi : i < locs.length) (hx : locs[i]? = some (some (.int x))) (hv : x + Int32.ofInt z = v) (hc : noC2 locs i) (hq : pc + 3 = q) (kk : V D F rm Qf k n q (locs.set i (some (.int v))) st ws) : V D F rm Qf k n pc locs st ws := by
  subst hq
  intro p l e s m args below meth c A H lc ls C hlen hk hn hP hD hS hl
  obtain ⟨j, hj⟩ := List.getElem?_of_mem (lpairs_mem (i := 0) hx)
  rw [Nat.zero_add] at hj
  exact lv_iinc C.1 C.2.1 hd hl.has hj hv hi rfl (fun ls' h' => kk p l e s m args below meth c A H lc ls' C (by rw [List.length_set]; exact hlen) hk hn hP hD hS (LocOK.set1 hi hc h'))
/-- a place that holds no first half of a long -/
def oc1 : Option Value → Bool
  | none => true
  | some v => v.category == 1
theorem noC2_0 {locs : List (Option Value)} : noC2 locs 0 := fun j v h => by omega
theorem noC2_at {locs : List (Option Value)} {i : Nat} {a : Option Value} (ha : locs[i]? = some a) (h : oc1 a = true) : noC2 locs (i + 1) := by
  intro j v hj hv
  have : j = i := by omega
  subst this
  rw [ha] at hv
  cases hv
  simpa [oc1] using h
theorem E_iload0 {r : List (Option Value)} {x : Int32} (hd : decode F.2.1 pc = .ok (.iload_n 0, 1)) (hq : pc + 1 = q) (kk : V D F rm Qf k n q (some (.int x) :: r) (.int x :: st) ws) : V D F rm Qf k n pc (some (.int x) :: r) st ws := E_iload_nG hd rfl hq kk
theorem E_aload0 {r : List (Option Value)} {x : Nat} (hd : decode F.2.1 pc = .ok (.aload_n 0, 1)) (hq : pc + 1 = q) (kk : V D F rm Qf k n q (some (.ref x) :: r) (.ref x :: st) ws) : V D F rm Qf k n pc (some (.ref x) :: r) st ws := E_aload_nG hd rfl hq kk
theorem E_istore0 {y : Option Value} {r : List (Option Value)} {x : Int32} (hd : decode F.2.1 pc = .ok (.istore_n 0, 1)) (hq : pc + 1 = q) (kk : V D F rm Qf k n q (some (.int x) :: r) st ws) : V D F rm Qf k n pc (y :: r) (.int x :: st) ws := E_istore_nG hd (show 0 < (y :: r).length by simp) noC2_0 hq kk
theorem E_astore0 {y : Option Value} {r : List (Option Value)} {x : Nat} (hd : decode F.2.1 pc = .ok (.astore_n 0, 1)) (hq : pc + 1 = q) (kk : V D F rm Qf k n q (some (.ref x) :: r) st ws) : V D F rm Qf k n pc (y :: r) (.ref x :: st) ws := E_astore_nG hd (show 0 < (y :: r).length by simp) noC2_0 hq kk
theorem E_iinc0 {r : List (Option Value)} {z : Int} {x v : Int32} (hd : decode F.2.1 pc = .ok (.iinc 0 z, 3)) (hv : x + Int32.ofInt z = v) (hq : pc + 3 = q) (kk : V D F rm Qf k n q (some (.int v) :: r) st ws) : V D F rm Qf k n pc (some (.int x) :: r) st ws := E_iincG hd (by simp) rfl hv noC2_0 hq kk
theorem E_iload1 {a0 : Option Value} {r : List (Option Value)} {x : Int32} (hd : decode F.2.1 pc = .ok (.iload_n 1, 1)) (hq : pc + 1 = q) (kk : V D F rm Qf k n q (a0 :: some (.int x) :: r) (.int x :: st) ws) : V D F rm Qf k n pc (a0 :: some (.int x) :: r) st ws := E_iload_nG hd rfl hq kk
theorem E_aload1 {a0 : Option Value} {r : List (Option Value)} {x : Nat} (hd : decode F.2.1 pc = .ok (.aload_n 1, 1)) (hq : pc + 1 = q) (kk : V D F rm Qf k n q (a0 :: some (.ref x) :: r) (.ref x :: st) ws) : V D F rm Qf k n pc (a0 :: some (.ref x) :: r) st ws := E_aload_nG hd rfl hq kk
theorem E_lload1 {a0 : Option Value} {r : List (Option Value)} {x : Int64} (hd : decode F.2.1 pc = .ok (.lload_n 1, 1)) (hq : pc + 1 = q) (kk : V D F rm Qf k n q (a0 :: some (.long x) :: r) (.long x :: st) ws) : V D F rm Qf k n pc (a0 :: some (.long x) :: r) st ws := E_lload_nG hd rfl hq kk
theorem E_dload1 {a0 : Option Value} {r : List (Option Value)} {x : UInt64} (hd : decode F.2.1 pc = .ok (.dload_n 1, 1)) (hq : pc + 1 = q) (kk : V D F rm Qf k n q (a0 :: some (.double x) :: r) (.double x :: st) ws) : V D F rm Qf k n pc (a0 :: some (.double x) :: r) st ws := E_dload_nG hd rfl hq kk
theorem E_istore1 {a0 : Option Value} {y : Option Value} {r : List (Option Value)} {x : Int32} (hd : decode F.2.1 pc = .ok (.istore_n 1, 1)) (hc : oc1 a0 = true) (hq : pc + 1 = q) (kk : V D F rm Qf k n q (a0 :: some (.int x) :: r) st ws) : V D F rm Qf k n pc (a0 :: y :: r) (.int x :: st) ws := E_istore_nG hd (show 1 < (a0 :: y :: r).length by simp) (noC2_at (i := 0) rfl hc) hq kk
theorem E_astore1 {a0 : Option Value} {y : Option Value} {r : List (Option Value)} {x : Nat} (hd : decode F.2.1 pc = .ok (.astore_n 1, 1)) (hc : oc1 a0 = true) (hq : pc + 1 = q) (kk : V D F rm Qf k n q (a0 :: some (.ref x) :: r) st ws) : V D F rm Qf k n pc (a0 :: y :: r) (.ref x :: st) ws := E_astore_nG hd (show 1 < (a0 :: y :: r).length by simp) (noC2_at (i := 0) rfl hc) hq kk
theorem E_iinc1 {a0 : Option Value} {r : List (Option Value)} {z : Int} {x v : Int32} (hd : decode F.2.1 pc = .ok (.iinc 1 z, 3)) (hv : x + Int32.ofInt z = v) (hc : oc1 a0 = true) (hq : pc + 3 = q) (kk : V D F rm Qf k n q (a0 :: some (.int v) :: r) st ws) : V D F rm Qf k n pc (a0 :: some (.int x) :: r) st ws := E_iincG hd (by simp) rfl hv (noC2_at (i := 0) rfl hc) hq kk
theorem E_iload2 {a0 a1 : Option Value} {r : List (Option Value)} {x : Int32} (hd : decode F.2.1 pc = .ok (.iload_n 2, 1)) (hq : pc + 1 = q) (kk : V D F rm Qf k n q (a0 :: a1 :: some (.int x) :: r) (.int x :: st) ws) : V D F rm Qf k n pc (a0 :: a1 :: some (.int x) :: r) st ws := E_iload_nG hd rfl hq kk
theorem E_aload2 {a0 a1 : Option Value} {r : List (Option Value)} {x : Nat} (hd : decode F.2.1 pc = .ok (.aload_n 2, 1)) (hq : pc + 1 = q) (kk : V D F rm Qf k n q (a0 :: a1 :: some (.ref x) :: r) (.ref x :: st) ws) : V D F rm Qf k n pc (a0 :: a1 :: some (.ref x) :: r) st ws := E_aload_nG hd rfl hq kk
theorem E_istore2 {a0 a1 : Option Value} {y : Option Value} {r : List (Option Value)} {x : Int32} (hd : decode F.2.1 pc = .ok (.istore_n 2, 1)) (hc : oc1 a1 = true) (hq : pc + 1 = q) (kk : V D F rm Qf k n q (a0 :: a1 :: some (.int x) :: r) st ws) : V D F rm Qf k n pc (a0 :: a1 :: y :: r) (.int x :: st) ws := E_istore_nG hd (show 2 < (a0 :: a1 :: y :: r).length by simp) (noC2_at (i := 1) rfl hc) hq kk
theorem E_astore2 {a0 a1 : Option Value} {y : Option Value} {r : List (Option Value)} {x : Nat} (hd : decode F.2.1 pc = .ok (.astore_n 2, 1)) (hc : oc1 a1 = true) (hq : pc + 1 = q) (kk : V D F rm Qf k n q (a0 :: a1 :: some (.ref x) :: r) st ws) : V D F rm Qf k n pc (a0 :: a1 :: y :: r) (.ref x :: st) ws := E_astore_nG hd (show 2 < (a0 :: a1 :: y :: r).length by simp) (noC2_at (i := 1) rfl hc) hq kk
theorem E_iinc2 {a0 a1 : Option Value} {r : List (Option Value)} {z : Int} {x v : Int32} (hd : decode F.2.1 pc = .ok (.iinc 2 z, 3)) (hv : x + Int32.ofInt z = v) (hc : oc1 a1 = true) (hq : pc + 3 = q) (kk : V D F rm Qf k n q (a0 :: a1 :: some (.int v) :: r) st ws) : V D F rm Qf k n pc (a0 :: a1 :: some (.int x) :: r) st ws := E_iincG hd (by simp) rfl hv (noC2_at (i := 1) rfl hc) hq kk
theorem E_iload3 {a0 a1 a2 : Option Value} {r : List (Option Value)} {x : Int32} (hd : decode F.2.1 pc = .ok (.iload_n 3, 1)) (hq : pc + 1 = q) (kk : V D F rm Qf k n q (a0 :: a1 :: a2 :: some (.int x) :: r) (.int x :: st) ws) : V D F rm Qf k n pc (a0 :: a1 :: a2 :: some (.int x) :: r) st ws := E_iload_nG hd rfl hq kk
theorem E_aload3 {a0 a1 a2 : Option Value} {r : List (Option Value)} {x : Nat} (hd : decode F.2.1 pc = .ok (.aload_n 3, 1)) (hq : pc + 1 = q) (kk : V D F rm Qf k n q (a0 :: a1 :: a2 :: some (.ref x) :: r) (.ref x :: st) ws) : V D F rm Qf k n pc (a0 :: a1 :: a2 :: some (.ref x) :: r) st ws := E_aload_nG hd rfl hq kk
theorem E_istore3 {a0 a1 a2 : Option Value} {y : Option Value} {r : List (Option Value)} {x : Int32} (hd : decode F.2.1 pc = .ok (.istore_n 3, 1)) (hc : oc1 a2 = true) (hq : pc + 1 = q) (kk : V D F rm Qf k n q (a0 :: a1 :: a2 :: some (.int x) :: r) st ws) : V D F rm Qf k n pc (a0 :: a1 :: a2 :: y :: r) (.int x :: st) ws := E_istore_nG hd (show 3 < (a0 :: a1 :: a2 :: y :: r).length by simp) (noC2_at (i := 2) rfl hc) hq kk
theorem E_astore3 {a0 a1 a2 : Option Value} {y : Option Value} {r : List (Option Value)} {x : Nat} (hd : decode F.2.1 pc = .ok (.astore_n 3, 1)) (hc : oc1 a2 = true) (hq : pc + 1 = q) (kk : V D F rm Qf k n q (a0 :: a1 :: a2 :: some (.ref x) :: r) st ws) : V D F rm Qf k n pc (a0 :: a1 :: a2 :: y :: r) (.ref x :: st) ws := E_astore_nG hd (show 3 < (a0 :: a1 :: a2 :: y :: r).length by simp) (noC2_at (i := 2) rfl hc) hq kk
theorem E_iinc3 {a0 a1 a2 : Option Value} {r : List (Option Value)} {z : Int} {x v : Int32} (hd : decode F.2.1 pc = .ok (.iinc 3 z, 3)) (hv : x + Int32.ofInt z = v) (hc : oc1 a2 = true) (hq : pc + 3 = q) (kk : V D F rm Qf k n q (a0 :: a1 :: a2 :: some (.int v) :: r) st ws) : V D F rm Qf k n pc (a0 :: a1 :: a2 :: some (.int x) :: r) st ws := E_iincG hd (by simp) rfl hv (noC2_at (i := 2) rfl hc) hq kk
theorem E_iload4 {a0 a1 a2 a3 : Option Value} {r : List (Option Value)} {x : Int32} (hd : decode F.2.1 pc = .ok (.iload 4, 2)) (hq : pc + 2 = q) (kk : V D F rm Qf k n q (a0 :: a1 :: a2 :: a3 :: some (.int x) :: r) (.int x :: st) ws) : V D F rm Qf k n pc (a0 :: a1 :: a2 :: a3 :: some (.int x) :: r) st ws := E_iloadG hd rfl hq kk
theorem E_aload4 {a0 a1 a2 a3 : Option Value} {r : List (Option Value)} {x : Nat} (hd : decode F.2.1 pc = .ok (.aload 4, 2)) (hq : pc + 2 = q) (kk : V D F rm Qf k n q (a0 :: a1 :: a2 :: a3 :: some (.ref x) :: r) (.ref x :: st) ws) : V D F rm Qf k n pc (a0 :: a1 :: a2 :: a3 :: some (.ref x) :: r) st ws := E_aloadG hd rfl hq kk
theorem E_istore4 {a0 a1 a2 a3 : Option Value} {y : Option Value} {r : List (Option Value)} {x : Int32} (hd : decode F.2.1 pc = .ok (.istore 4, 2)) (hc : oc1 a3 = true) (hq : pc + 2 = q) (kk : V D F rm Qf k n q (a0 :: a1 :: a2 :: a3 :: some (.int x) :: r) st ws) : V D F rm Qf k n pc (a0 :: a1 :: a2 :: a3 :: y :: r) (.int x :: st) ws := E_istoreG hd (show 4 < (a0 :: a1 :: a2 :: a3 :: y :: r).length by simp) (noC2_at (i := 3) rfl hc) hq kk
theorem E_astore4 {a0 a1 a2 a3 : Option Value} {y : Option Value} {r : List (Option Value)} {x : Nat} (hd : decode F.2.1 pc = .ok (.astore 4, 2)) (hc : oc1 a3 = true) (hq : pc + 2 = q) (kk : V D F rm Qf k n q (a0 :: a1 :: a2 :: a3 :: some (.ref x) :: r) st ws) : V D F rm Qf k n pc (a0 :: a1 :: a2 :: a3 :: y :: r) (.ref x :: st) ws := E_astoreG hd (show 4 < (a0 :: a1 :: a2 :: a3 :: y :: r).length by simp) (noC2_at (i := 3) rfl hc) hq kk
theorem E_iinc4 {a0 a1 a2 a3 : Option Value} {r : List (Option Value)} {z : Int} {x v : Int32} (hd : decode F.2.1 pc = .ok (.iinc 4 z, 3)) (hv : x + Int32.ofInt z = v) (hc : oc1 a3 = true) (hq : pc + 3 = q) (kk : V D F rm Qf k n q (a0 :: a1 :: a2 :: a3 :: some (.int v) :: r) st ws) : V D F rm Qf k n pc (a0 :: a1 :: a2 :: a3 :: some (.int x) :: r) st ws := E_iincG hd (by simp) rfl hv (noC2_at (i := 3) rfl hc) hq kk
theorem E_iload5 {a0 a1 a2 a3 a4 : Option Value} {r : List (Option Value)} {x : Int32} (hd : decode F.2.1 pc = .ok (.iload 5, 2)) (hq : pc + 2 = q) (kk : V D F rm Qf k n q (a0 :: a1 :: a2 :: a3 :: a4 :: some (.int x) :: r) (.int x :: st) ws) : V D F rm Qf k n pc (a0 :: a1 :: a2 :: a3 :: a4 :: some (.int x) :: r) st ws := E_iloadG hd rfl hq kk
theorem E_aload5 {a0 a1 a2 a3 a4 : Option Value} {r : List (Option Value)} {x : Nat} (hd : decode F.2.1 pc = .ok (.aload 5, 2)) (hq : pc + 2 = q) (kk : V D F rm Qf k n q (a0 :: a1 :: a2 :: a3 :: a4 :: some (.ref x) :: r) (.ref x :: st) ws) : V D F rm Qf k n pc (a0 :: a1 :: a2 :: a3 :: a4 :: some (.ref x) :: r) st ws := E_aloadG hd rfl hq kk
theorem E_lload5 {a0 a1 a2 a3 a4 : Option Value} {r : List (Option Value)} {x : Int64} (hd : decode F.2.1 pc = .ok (.lload 5, 2)) (hq : pc + 2 = q) (kk : V D F rm Qf k n q (a0 :: a1 :: a2 :: a3 :: a4 :: some (.long x) :: r) (.long x :: st) ws) : V D F rm Qf k n pc (a0 :: a1 :: a2 :: a3 :: a4 :: some (.long x) :: r) st ws := E_lloadG hd rfl hq kk
theorem E_dload5 {a0 a1 a2 a3 a4 : Option Value} {r : List (Option Value)} {x : UInt64} (hd : decode F.2.1 pc = .ok (.dload 5, 2)) (hq : pc + 2 = q) (kk : V D F rm Qf k n q (a0 :: a1 :: a2 :: a3 :: a4 :: some (.double x) :: r) (.double x :: st) ws) : V D F rm Qf k n pc (a0 :: a1 :: a2 :: a3 :: a4 :: some (.double x) :: r) st ws := E_dloadG hd rfl hq kk
theorem E_istore5 {a0 a1 a2 a3 a4 : Option Value} {y : Option Value} {r : List (Option Value)} {x : Int32} (hd : decode F.2.1 pc = .ok (.istore 5, 2)) (hc : oc1 a4 = true) (hq : pc + 2 = q) (kk : V D F rm Qf k n q (a0 :: a1 :: a2 :: a3 :: a4 :: some (.int x) :: r) st ws) : V D F rm Qf k n pc (a0 :: a1 :: a2 :: a3 :: a4 :: y :: r) (.int x :: st) ws := E_istoreG hd (show 5 < (a0 :: a1 :: a2 :: a3 :: a4 :: y :: r).length by simp) (noC2_at (i := 4) rfl hc) hq kk
theorem E_astore5 {a0 a1 a2 a3 a4 : Option Value} {y : Option Value} {r : List (Option Value)} {x : Nat} (hd : decode F.2.1 pc = .ok (.astore 5, 2)) (hc : oc1 a4 = true) (hq : pc + 2 = q) (kk : V D F rm Qf k n q (a0 :: a1 :: a2 :: a3 :: a4 :: some (.ref x) :: r) st ws) : V D F rm Qf k n pc (a0 :: a1 :: a2 :: a3 :: a4 :: y :: r) (.ref x :: st) ws := E_astoreG hd (show 5 < (a0 :: a1 :: a2 :: a3 :: a4 :: y :: r).length by simp) (noC2_at (i := 4) rfl hc) hq kk
theorem E_iinc5 {a0 a1 a2 a3 a4 : Option Value} {r : List (Option Value)} {z : Int} {x v : Int32} (hd : decode F.2.1 pc = .ok (.iinc 5 z, 3)) (hv : x + Int32.ofInt z = v) (hc : oc1 a4 = true) (hq : pc + 3 = q) (kk : V D F rm Qf k n q (a0 :: a1 :: a2 :: a3 :: a4 :: some (.int v) :: r) st ws) : V D F rm Qf k n pc (a0 :: a1 :: a2 :: a3 :: a4 :: some (.int x) :: r) st ws := E_iincG hd (by simp) rfl hv (noC2_at (i := 4) rfl hc) hq kk
theorem E_dstore5 {a0 a1 a2 a3 a4 : Option Value} {y y2 : Option Value} {r : List (Option Value)} {x : UInt64} (hd : decode F.2.1 pc = .ok (.dstore 5, 2)) (hc : oc1 a4 = true) (hq : pc + 2 = q) (kk : V D F rm Qf k n q (a0 :: a1 :: a2 :: a3 :: a4 :: some (.double x) :: none :: r) st ws) : V D F rm Qf k n pc (a0 :: a1 :: a2 :: a3 :: a4 :: y :: y2 :: r) (.double x :: st) ws := E_dstoreG hd (by simp) (noC2_at (i := 4) rfl hc) hq kk
theorem E_iload6 {a0 a1 a2 a3 a4 a5 : Option Value} {r : List (Option Value)} {x : Int32} (hd : decode F.2.1 pc = .ok (.iload 6, 2)) (hq : pc + 2 = q) (kk : V D F rm Qf k n q (a0 :: a1 :: a2 :: a3 :: a4 :: a5 :: some (.int x) :: r) (.int x :: st) ws) : V D F rm Qf k n pc (a0 :: a1 :: a2 :: a3 :: a4 :: a5 :: some (.int x) :: r) st ws := E_iloadG hd rfl hq kk
theorem E_aload6 {a0 a1 a2 a3 a4 a5 : Option Value} {r : List (Option Value)} {x : Nat} (hd : decode F.2.1 pc = .ok (.aload 6, 2)) (hq : pc + 2 = q) (kk : V D F rm Qf k n q (a0 :: a1 :: a2 :: a3 :: a4 :: a5 :: some (.ref x) :: r) (.ref x :: st) ws) : V D F rm Qf k n pc (a0 :: a1 :: a2 :: a3 :: a4 :: a5 :: some (.ref x) :: r) st ws := E_aloadG hd rfl hq kk
theorem E_lload6 {a0 a1 a2 a3 a4 a5 : Option Value} {r : List (Option Value)} {x : Int64} (hd : decode F.2.1 pc = .ok (.lload 6, 2)) (hq : pc + 2 = q) (kk : V D F rm Qf k n q (a0 :: a1 :: a2 :: a3 :: a4 :: a5 :: some (.long x) :: r) (.long x :: st) ws) : V D F rm Qf k n pc (a0 :: a1 :: a2 :: a3 :: a4 :: a5 :: some (.long x) :: r) st ws := E_lloadG hd rfl hq kk
theorem E_dload6 {a0 a1 a2 a3 a4 a5 : Option Value} {r : List (Option Value)} {x : UInt64} (hd : decode F.2.1 pc = .ok (.dload 6, 2)) (hq : pc + 2 = q) (kk : V D F rm Qf k n q (a0 :: a1 :: a2 :: a3 :: a4 :: a5 :: some (.double x) :: r) (.double x :: st) ws) : V D F rm Qf k n pc (a0 :: a1 :: a2 :: a3 :: a4 :: a5 :: some (.double x) :: r) st ws := E_dloadG hd rfl hq kk
theorem E_istore6 {a0 a1 a2 a3 a4 a5 : Option Value} {y : Option Value} {r : List (Option Value)} {x : Int32} (hd : decode F.2.1 pc = .ok (.istore 6, 2)) (hc : oc1 a5 = true) (hq : pc + 2 = q) (kk : V D F rm Qf k n q (a0 :: a1 :: a2 :: a3 :: a4 :: a5 :: some (.int x) :: r) st ws) : V D F rm Qf k n pc (a0 :: a1 :: a2 :: a3 :: a4 :: a5 :: y :: r) (.int x :: st) ws := E_istoreG hd (show 6 < (a0 :: a1 :: a2 :: a3 :: a4 :: a5 :: y :: r).length by simp) (noC2_at (i := 5) rfl hc) hq kk
theorem E_astore6 {a0 a1 a2 a3 a4 a5 : Option Value} {y : Option Value} {r : List (Option Value)} {x : Nat} (hd : decode F.2.1 pc = .ok (.astore 6, 2)) (hc : oc1 a5 = true) (hq : pc + 2 = q) (kk : V D F rm Qf k n q (a0 :: a1 :: a2 :: a3 :: a4 :: a5 :: some (.ref x) :: r) st ws) : V D F rm Qf k n pc (a0 :: a1 :: a2 :: a3 :: a4 :: a5 :: y :: r) (.ref x :: st) ws := E_astoreG hd (show 6 < (a0 :: a1 :: a2 :: a3 :: a4 :: a5 :: y :: r).length by simp) (noC2_at (i := 5) rfl hc) hq kk
theorem E_iinc6 {a0 a1 a2 a3 a4 a5 : Option Value} {r : List (Option Value)} {z : Int} {x v : Int32} (hd : decode F.2.1 pc = .ok (.iinc 6 z, 3)) (hv : x + Int32.ofInt z = v) (hc : oc1 a5 = true) (hq : pc + 3 = q) (kk : V D F rm Qf k n q (a0 :: a1 :: a2 :: a3 :: a4 :: a5 :: some (.int v) :: r) st ws) : V D F rm Qf k n pc (a0 :: a1 :: a2 :: a3 :: a4 :: a5 :: some (.int x) :: r) st ws := E_iincG hd (by simp) rfl hv (noC2_at (i := 5) rfl hc) hq kk
theorem E_dstore6 {a0 a1 a2 a3 a4 a5 : Option Value} {y y2 : Option Value} {r : List (Option Value)} {x : UInt64} (hd : decode F.2.1 pc = .ok (.dstore 6, 2)) (hc : oc1 a5 = true) (hq : pc + 2 = q) (kk : V D F rm Qf k n q (a0 :: a1 :: a2 :: a3 :: a4 :: a5 :: some (.double x) :: none :: r) st ws) : V D F rm Qf k n pc (a0 :: a1 :: a2 :: a3 :: a4 :: a5 :: y :: y2 :: r) (.double x :: st) ws := E_dstoreG hd (by simp) (noC2_at (i := 5) rfl hc) hq kk
theorem E_iload7 {a0 a1 a2 a3 a4 a5 a6 : Option Value} {r : List (Option Value)} {x : Int32} (hd : decode F.2.1 pc = .ok (.iload 7, 2)) (hq : pc + 2 = q) (kk : V D F rm Qf k n q (a0 :: a1 :: a2 :: a3 :: a4 :: a5 :: a6 :: some (.int x) :: r) (.int x :: st) ws) : V D F rm Qf k n pc (a0 :: a1 :: a2 :: a3 :: a4 :: a5 :: a6 :: some (.int x) :: r) st ws := E_iloadG hd rfl hq kk
theorem E_aload7 {a0 a1 a2 a3 a4 a5 a6 : Option Value} {r : List (Option Value)} {x : Nat} (hd : decode F.2.1 pc = .ok (.aload 7, 2)) (hq : pc + 2 = q) (kk : V D F rm Qf k n q (a0 :: a1 :: a2 :: a3 :: a4 :: a5 :: a6 :: some (.ref x) :: r) (.ref x :: st) ws) : V D F rm Qf k n pc (a0 :: a1 :: a2 :: a3 :: a4 :: a5 :: a6 :: some (.ref x) :: r) st ws := E_aloadG hd rfl hq kk
theorem E_lload7 {a0 a1 a2 a3 a4 a5 a6 : Option Value} {r : List (Option Value)} {x : Int64} (hd : decode F.2.1 pc = .ok (.lload 7, 2)) (hq : pc + 2 = q) (kk : V D F rm Qf k n q (a0 :: a1 :: a2 :: a3 :: a4 :: a5 :: a6 :: some (.long x) :: r) (.long x :: st) ws) : V D F rm Qf k n pc (a0 :: a1 :: a2 :: a3 :: a4 :: a5 :: a6 :: some (.long x) :: r) st ws := E_lloadG hd rfl hq kk
theorem E_dload7 {a0 a1 a2 a3 a4 a5 a6 : Option Value} {r : List (Option Value)} {x : UInt64} (hd : decode F.2.1 pc = .ok (.dload 7, 2)) (hq : pc + 2 = q) (kk : V D F rm Qf k n q (a0 :: a1 :: a2 :: a3 :: a4 :: a5 :: a6 :: some (.double x) :: r) (.double x :: st) ws) : V D F rm Qf k n pc (a0 :: a1 :: a2 :: a3 :: a4 :: a5 :: a6 :: some (.double x) :: r) st ws := E_dloadG hd rfl hq kk
theorem E_istore7 {a0 a1 a2 a3 a4 a5 a6 : Option Value} {y : Option Value} {r : List (Option Value)} {x : Int32} (hd : decode F.2.1 pc = .ok (.istore 7, 2)) (hc : oc1 a6 = true) (hq : pc + 2 = q) (kk : V D F rm Qf k n q (a0 :: a1 :: a2 :: a3 :: a4 :: a5 :: a6 :: some (.int x) :: r) st ws) : V D F rm Qf k n pc (a0 :: a1 :: a2 :: a3 :: a4 :: a5 :: a6 :: y :: r) (.int x :: st) ws := E_istoreG hd (show 7 < (a0 :: a1 :: a2 :: a3 :: a4 :: a5 :: a6 :: y :: r).length by simp) (noC2_at (i := 6) rfl hc) hq kk
theorem E_astore7 {a0 a1 a2 a3 a4 a5 a6 : Option Value} {y : Option Value} {r : List (Option Value)} {x : Nat} (hd : decode F.2.1 pc = .ok (.astore 7, 2)) (hc : oc1 a6 = true) (hq : pc + 2 = q) (kk : V D F rm Qf k n q (a0 :: a1 :: a2 :: a3 :: a4 :: a5 :: a6 :: some (.ref x) :: r) st ws) : V D F rm Qf k n pc (a0 :: a1 :: a2 :: a3 :: a4 :: a5 :: a6 :: y :: r) (.ref x :: st) ws := E_astoreG hd (show 7 < (a0 :: a1 :: a2 :: a3 :: a4 :: a5 :: a6 :: y :: r).length by simp) (noC2_at (i := 6) rfl hc) hq kk
theorem E_iinc7 {a0 a1 a2 a3 a4 a5 a6 : Option Value} {r : List (Option Value)} {z : Int} {x v : Int32} (hd : decode F.2.1 pc = .ok (.iinc 7 z, 3)) (hv : x + Int32.ofInt z = v) (hc : oc1 a6 = true) (hq : pc + 3 = q) (kk : V D F rm Qf k n q (a0 :: a1 :: a2 :: a3 :: a4 :: a5 :: a6 :: some (.int v) :: r) st ws) : V D F rm Qf k n pc (a0 :: a1 :: a2 :: a3 :: a4 :: a5 :: a6 :: some (.int x) :: r) st ws := E_iincG hd (by simp) rfl hv (noC2_at (i := 6) rfl hc) hq kk
theorem E_dstore7 {a0 a1 a2 a3 a4 a5 a6 : Option Value} {y y2 : Option Value} {r : List (Option Value)} {x : UInt64} (hd : decode F.2.1 pc = .ok (.dstore 7, 2)) (hc : oc1 a6 = true) (hq : pc + 2 = q) (kk : V D F rm Qf k n q (a0 :: a1 :: a2 :: a3 :: a4 :: a5 :: a6 :: some (.double x) :: none :: r) st ws) : V D F rm Qf k n pc (a0 :: a1 :: a2 :: a3 :: a4 :: a5 :: a6 :: y :: y2 :: r) (.double x :: st) ws := E_dstoreG hd (by simp) (noC2_at (i := 6) rfl hc) hq kk
theorem E_iload8 {a0 a1 a2 a3 a4 a5 a6 a7 : Option Value} {r : List (Option Value)} {x : Int32} (hd : decode F.2.1 pc = .ok (.iload 8, 2)) (hq : pc + 2 = q) (kk : V D F rm Qf k n q (a0 :: a1 :: a2 :: a3 :: a4 :: a5 :: a6 :: a7 :: some (.int x) :: r) (.int x :: st) ws) : V D F rm Qf k n pc (a0 :: a1 :: a2 :: a3 :: a4 :: a5 :: a6 :: a7 :: some (.int x) :: r) st ws := E_iloadG hd rfl hq kk
theorem E_aload8 {a0 a1 a2 a3 a4 a5 a6 a7 : Option Value} {r : List (Option Value)} {x : Nat} (hd : decode F.2.1 pc = .ok (.aload 8, 2)) (hq : pc + 2 = q) (kk : V D F rm Qf k n q (a0 :: a1 :: a2 :: a3 :: a4 :: a5 :: a6 :: a7 :: some (.ref x) :: r) (.ref x :: st) ws) : V D F rm Qf k n pc (a0 :: a1 :: a2 :: a3 :: a4 :: a5 :: a6 :: a7 :: some (.ref x) :: r) st ws := E_aloadG hd rfl hq kk
theorem E_istore8 {a0 a1 a2 a3 a4 a5 a6 a7 : Option Value} {y : Option Value} {r : List (Option Value)} {x : Int32} (hd : decode F.2.1 pc = .ok (.istore 8, 2)) (hc : oc1 a7 = true) (hq : pc + 2 = q) (kk : V D F rm Qf k n q (a0 :: a1 :: a2 :: a3 :: a4 :: a5 :: a6 :: a7 :: some (.int x) :: r) st ws) : V D F rm Qf k n pc (a0 :: a1 :: a2 :: a3 :: a4 :: a5 :: a6 :: a7 :: y :: r) (.int x :: st) ws := E_istoreG hd (show 8 < (a0 :: a1 :: a2 :: a3 :: a4 :: a5 :: a6 :: a7 :: y :: r).length by simp) (noC2_at (i := 7) rfl hc) hq kk
theorem E_astore8 {a0 a1 a2 a3 a4 a5 a6 a7 : Option Value} {y : Option Value} {r : List (Option Value)} {x : Nat} (hd : decode F.2.1 pc = .ok (.astore 8, 2)) (hc : oc1 a7 = true) (hq : pc + 2 = q) (kk : V D F rm Qf k n q (a0 :: a1 :: a2 :: a3 :: a4 :: a5 :: a6 :: a7 :: some (.ref x) :: r) st ws) : V D F rm Qf k n pc (a0 :: a1 :: a2 :: a3 :: a4 :: a5 :: a6 :: a7 :: y :: r) (.ref x :: st) ws := E_astoreG hd (show 8 < (a0 :: a1 :: a2 :: a3 :: a4 :: a5 :: a6 :: a7 :: y :: r).length by simp) (noC2_at (i := 7) rfl hc) hq kk
theorem E_iinc8 {a0 a1 a2 a3 a4 a5 a6 a7 : Option Value} {r : List (Option Value)} {z : Int} {x v : Int32} (hd : decode F.2.1 pc = .ok (.iinc 8 z, 3)) (hv : x + Int32.ofInt z = v) (hc : oc1 a7 = true) (hq : pc + 3 = q) (kk : V D F rm Qf k n q (a0 :: a1 :: a2 :: a3 :: a4 :: a5 :: a6 :: a7 :: some (.int v) :: r) st ws) : V D F rm Qf k n pc (a0 :: a1 :: a2 :: a3 :: a4 :: a5 :: a6 :: a7 :: some (.int x) :: r) st ws := E_iincG hd (by simp) rfl hv (noC2_at (i := 7) rfl hc) hq kk
theorem E_iload9 {a0 a1 a2 a3 a4 a5 a6 a7 a8 : Option Value} {r : List (Option Value)} {x : Int32} (hd : decode F.2.1 pc = .ok (.iload 9, 2)) (hq : pc + 2 = q) (kk : V D F rm Qf k n q (a0 :: a1 :: a2 :: a3 :: a4 :: a5 :: a6 :: a7 :: a8 :: some (.int x) :: r) (.int x :: st) ws) : V D F rm Qf k n pc (a0 :: a1 :: a2 :: a3 :: a4 :: a5 :: a6 :: a7 :: a8 :: some (.int x) :: r) st ws := E_iloadG hd rfl hq kk
theorem E_aload9 {a0 a1 a2 a3 a4 a5 a6 a7 a8 : Option Value} {r : List (Option Value)} {x : Nat} (hd : decode F.2.1 pc = .ok (.aload 9, 2)) (hq : pc + 2 = q) (kk : V D F rm Qf k n q (a0 :: a1 :: a2 :: a3 :: a4 :: a5 :: a6 :: a7 :: a8 :: some (.ref x) :: r) (.ref x :: st) ws) : V D F rm Qf k n pc (a0 :: a1 :: a2 :: a3 :: a4 :: a5 :: a6 :: a7 :: a8 :: some (.ref x) :: r) st ws := E_aloadG hd rfl hq kk
theorem E_istore9 {a0 a1 a2 a3 a4 a5 a6 a7 a8 : Option Value} {y : Option Value} {r : List (Option Value)} {x : Int32} (hd : decode F.2.1 pc = .ok (.istore 9, 2)) (hc : oc1 a8 = true) (hq : pc + 2 = q) (kk : V D F rm Qf k n q (a0 :: a1 :: a2 :: a3 :: a4 :: a5 :: a6 :: a7 :: a8 :: some (.int x) :: r) st ws) : V D F rm Qf k n pc (a0 :: a1 :: a2 :: a3 :: a4 :: a5 :: a6 :: a7 :: a8 :: y :: r) (.int x :: st) ws := E_istoreG hd (show 9 < (a0 :: a1 :: a2 :: a3 :: a4 :: a5 :: a6 :: a7 :: a8 :: y :: r).length by simp) (noC2_at (i := 8) rfl hc) hq kk
theorem E_astore9 {a0 a1 a2 a3 a4 a5 a6 a7 a8 : Option Value} {y : Option Value} {r : List (Option Value)} {x : Nat} (hd : decode F.2.1 pc = .ok (.astore 9, 2)) (hc : oc1 a8 = true) (hq : pc + 2 = q) (kk : V D F rm Qf k n q (a0 :: a1 :: a2 :: a3 :: a4 :: a5 :: a6 :: a7 :: a8 :: some (.ref x) :: r) st ws) : V D F rm Qf k n pc (a0 :: a1 :: a2 :: a3 :: a4 :: a5 :: a6 :: a7 :: a8 :: y :: r) (.ref x :: st) ws := E_astoreG hd (show 9 < (a0 :: a1 :: a2 :: a3 :: a4 :: a5 :: a6 :: a7 :: a8 :: y :: r).length by simp) (noC2_at (i := 8) rfl hc) hq kk
theorem E_iinc9 {a0 a1 a2 a3 a4 a5 a6 a7 a8 : Option Value} {r : List (Option Value)} {z : Int} {x v : Int32} (hd : decode F.2.1 pc = .ok (.iinc 9 z, 3)) (hv : x + Int32.ofInt z = v) (hc : oc1 a8 = true) (hq : pc + 3 = q) (kk : V D F rm Qf k n q (a0 :: a1 :: a2 :: a3 :: a4 :: a5 :: a6 :: a7 :: a8 :: some (.int v) :: r) st ws) : V D F rm Qf k n pc (a0 :: a1 :: a2 :: a3 :: a4 :: a5 :: a6 :: a7 :: a8 :: some (.int x) :: r) st ws := E_iincG hd (by simp) rfl hv (noC2_at (i := 8) rfl hc) hq kk
theorem E_iload10 {a0 a1 a2 a3 a4 a5 a6 a7 a8 a9 : Option Value} {r : List (Option Value)} {x : Int32} (hd : decode F.2.1 pc = .ok (.iload 10, 2)) (hq : pc + 2 = q) (kk : V D F rm Qf k n q (a0 :: a1 :: a2 :: a3 :: a4 :: a5 :: a6 :: a7 :: a8 :: a9 :: some (.int x) :: r) (.int x :: st) ws) : V D F rm Qf k n pc (a0 :: a1 :: a2 :: a3 :: a4 :: a5 :: a6 :: a7 :: a8 :: a9 :: some (.int x) :: r) st ws := E_iloadG hd rfl hq kk
theorem E_aload10 {a0 a1 a2 a3 a4 a5 a6 a7 a8 a9 : Option Value} {r : List (Option Value)} {x : Nat} (hd : decode F.2.1 pc = .ok (.aload 10, 2)) (hq : pc + 2 = q) (kk : V D F rm Qf k n q (a0 :: a1 :: a2 :: a3 :: a4 :: a5 :: a6 :: a7 :: a8 :: a9 :: some (.ref x) :: r) (.ref x :: st) ws) : V D F rm Qf k n pc (a0 :: a1 :: a2 :: a3 :: a4 :: a5 :: a6 :: a7 :: a8 :: a9 :: some (.ref x) :: r) st ws := E_aloadG hd rfl hq kk
theorem E_istore10 {a0 a1 a2 a3 a4 a5 a6 a7 a8 a9 : Option Value} {y : Option Value} {r : List (Option Value)} {x : Int32} (hd : decode F.2.1 pc = .ok (.istore 10, 2)) (hc : oc1 a9 = true) (hq : pc + 2 = q) (kk : V D F rm Qf k n q (a0 :: a1 :: a2 :: a3 :: a4 :: a5 :: a6 :: a7 :: a8 :: a9 :: some (.int x) :: r) st ws) : V D F rm Qf k n pc (a0 :: a1 :: a2 :: a3 :: a4 :: a5 :: a6 :: a7 :: a8 :: a9 :: y :: r) (.int x :: st) ws := E_istoreG hd (show 10 < (a0 :: a1 :: a2 :: a3 :: a4 :: a5 :: a6 :: a7 :: a8 :: a9 :: y :: r).length by simp) (noC2_at (i := 9) rfl hc) hq kk
theorem E_astore10 {a0 a1 a2 a3 a4 a5 a6 a7 a8 a9 : Option Value} {y : Option Value} {r : List (Option Value)} {x : Nat} (hd : decode F.2.1 pc = .ok (.astore 10, 2)) (hc : oc1 a9 = true) (hq : pc + 2 = q) (kk : V D F rm Qf k n q (a0 :: a1 :: a2 :: a3 :: a4 :: a5 :: a6 :: a7 :: a8 :: a9 :: some (.ref x) :: r) st ws) : V D F rm Qf k n pc (a0 :: a1 :: a2 :: a3 :: a4 :: a5 :: a6 :: a7 :: a8 :: a9 :: y :: r) (.ref x :: st) ws := E_astoreG hd (show 10 < (a0 :: a1 :: a2 :: a3 :: a4 :: a5 :: a6 :: a7 :: a8 :: a9 :: y :: r).length by simp) (noC2_at (i := 9) rfl hc) hq kk
theorem E_iinc10 {a0 a1 a2 a3 a4 a5 a6 a7 a8 a9 : Option Value} {r : List (Option Value)} {z : Int} {x v : Int32} (hd : decode F.2.1 pc = .ok (.iinc 10 z, 3)) (hv : x + Int32.ofInt z = v) (hc : oc1 a9 = true) (hq : pc + 3 = q) (kk : V D F rm Qf k n q (a0 :: a1 :: a2 :: a3 :: a4 :: a5 :: a6 :: a7 :: a8 :: a9 :: some (.int v) :: r) st ws) : V D F rm Qf k n pc (a0 :: a1 :: a2 :: a3 :: a4 :: a5 :: a6 :: a7 :: a8 :: a9 :: some (.int x) :: r) st ws := E_iincG hd (by simp) rfl hv (noC2_at (i := 9) rfl hc) hq kk
theorem E_iload11 {a0 a1 a2 a3 a4 a5 a6 a7 a8 a9 a10 : Option Value} {r : List (Option Value)} {x : Int32} (hd : decode F.2.1 pc = .ok (.iload 11, 2)) (hq : pc + 2 = q) (kk : V D F rm Qf k n q (a0 :: a1 :: a2 :: a3 :: a4 :: a5 :: a6 :: a7 :: a8 :: a9 :: a10 :: some (.int x) :: r) (.int x :: st) ws) : V D F rm Qf k n pc (a0 :: a1 :: a2 :: a3 :: a4 :: a5 :: a6 :: a7 :: a8 :: a9 :: a10 :: some (.int x) :: r) st ws := E_iloadG hd rfl hq kk
theorem E_aload11 {a0 a1 a2 a3 a4 a5 a6 a7 a8 a9 a10 : Option Value} {r : List (Option Value)} {x : Nat} (hd : decode F.2.1 pc = .ok (.aload 11, 2)) (hq : pc + 2 = q) (kk : V D F rm Qf k n q (a0 :: a1 :: a2 :: a3 :: a4 :: a5 :: a6 :: a7 :: a8 :: a9 :: a10 :: some (.ref x) :: r) (.ref x :: st) ws) : V D F rm Qf k n pc (a0 :: a1 :: a2 :: a3 :: a4 :: a5 :: a6 :: a7 :: a8 :: a9 :: a10 :: some (.ref x) :: r) st ws := E_aloadG hd rfl hq kk
theorem E_istore11 {a0 a1 a2 a3 a4 a5 a6 a7 a8 a9 a10 : Option Value} {y : Option Value} {r : List (Option Value)} {x : Int32} (hd : decode F.2.1 pc = .ok (.istore 11, 2)) (hc : oc1 a10 = true) (hq : pc + 2 = q) (kk : V D F rm Qf k n q (a0 :: a1 :: a2 :: a3 :: a4 :: a5 :: a6 :: a7 :: a8 :: a9 :: a10 :: some (.int x) :: r) st ws) : V D F rm Qf k n pc (a0 :: a1 :: a2 :: a3 :: a4 :: a5 :: a6 :: a7 :: a8 :: a9 :: a10 :: y :: r) (.int x :: st) ws := E_istoreG hd (show 11 < (a0 :: a1 :: a2 :: a3 :: a4 :: a5 :: a6 :: a7 :: a8 :: a9 :: a10 :: y :: r).length by simp) (noC2_at (i := 10) rfl hc) hq kk
theorem E_astore11 {a0 a1 a2 a3 a4 a5 a6 a7 a8 a9 a10 : Option Value} {y : Option Value} {r : List (Option Value)} {x : Nat} (hd : decode F.2.1 pc = .ok (.astore 11, 2)) (hc : oc1 a10 = true) (hq : pc + 2 = q) (kk : V D F rm Qf k n q (a0 :: a1 :: a2 :: a3 :: a4 :: a5 :: a6 :: a7 :: a8 :: a9 :: a10 :: some (.ref x) :: r) st ws) : V D F rm Qf k n pc (a0 :: a1 :: a2 :: a3 :: a4 :: a5 :: a6 :: a7 :: a8 :: a9 :: a10 :: y :: r) (.ref x :: st) ws := E_astoreG hd (show 11 < (a0 :: a1 :: a2 :: a3 :: a4 :: a5 :: a6 :: a7 :: a8 :: a9 :: a10 :: y :: r).length by simp) (noC2_at (i := 10) rfl hc) hq kk
theorem E_iinc11 {a0 a1 a2 a3 a4 a5 a6 a7 a8 a9 a10 : Option Value} {r : List (Option Value)} {z : Int} {x v : Int32} (hd : decode F.2.1 pc = .ok (.iinc 11 z, 3)) (hv : x + Int32.ofInt z = v) (hc : oc1 a10 = true) (hq : pc + 3 = q) (kk : V D F rm Qf k n q (a0 :: a1 :: a2 :: a3 :: a4 :: a5 :: a6 :: a7 :: a8 :: a9 :: a10 :: some (.int v) :: r) st ws) : V D F rm Qf k n pc (a0 :: a1 :: a2 :: a3 :: a4 :: a5 :: a6 :: a7 :: a8 :: a9 :: a10 :: some (.int x) :: r) st ws := E_iincG hd (by simp) rfl hv (noC2_at (i := 10) rfl hc) hq kk
theorem E_iload12 {a0 a1 a2 a3 a4 a5 a6 a7 a8 a9 a10 a11 : Option Value} {r : List (Option Value)} {x : Int32} (hd : decode F.2.1 pc = .ok (.iload 12, 2)) (hq : pc + 2 = q) (kk : V D F rm Qf k n q (a0 :: a1 :: a2 :: a3 :: a4 :: a5 :: a6 :: a7 :: a8 :: a9 :: a10 :: a11 :: some (.int x) :: r) (.int x :: st) ws) : V D F rm Qf k n pc (a0 :: a1 :: a2 :: a3 :: a4 :: a5 :: a6 :: a7 :: a8 :: a9 :: a10 :: a11 :: some (.int x) :: r) st ws := E_iloadG hd rfl hq kk
theorem E_aload12 {a0 a1 a2 a3 a4 a5 a6 a7 a8 a9 a10 a11 : Option Value} {r : List (Option Value)} {x : Nat} (hd : decode F.2.1 pc = .ok (.aload 12, 2)) (hq : pc + 2 = q) (kk : V D F rm Qf k n q (a0 :: a1 :: a2 :: a3 :: a4 :: a5 :: a6 :: a7 :: a8 :: a9 :: a10 :: a11 :: some (.ref x) :: r) (.ref x :: st) ws) : V D F rm Qf k n pc (a0 :: a1 :: a2 :: a3 :: a4 :: a5 :: a6 :: a7 :: a8 :: a9 :: a10 :: a11 :: some (.ref x) :: r) st ws := E_aloadG hd rfl hq kk
theorem E_istore12 {a0 a1 a2 a3 a4 a5 a6 a7 a8 a9 a10 a11 : Option Value} {y : Option Value} {r : List (Option Value)} {x : Int32} (hd : decode F.2.1 pc = .ok (.istore 12, 2)) (hc : oc1 a11 = true) (hq : pc + 2 = q) (kk : V D F rm Qf k n q (a0 :: a1 :: a2 :: a3 :: a4 :: a5 :: a6 :: a7 :: a8 :: a9 :: a10 :: a11 :: some (.int x) :: r) st ws) : V D F rm Qf k n pc (a0 :: a1 :: a2 :: a3 :: a4 :: a5 :: a6 :: a7 :: a8 :: a9 :: a10 :: a11 :: y :: r) (.int x :: st) ws := E_istoreG hd (show 12 < (a0 :: a1 :: a2 :: a3 :: a4 :: a5 :: a6 :: a7 :: a8 :: a9 :: a10 :: a11 :: y :: r).length by simp) (noC2_at (i := 11) rfl hc) hq kk
theorem E_astore12 {a0 a1 a2 a3 a4 a5 a6 a7 a8 a9 a10 a11 : Option Value} {y : Option Value} {r : List (Option Value)} {x : Nat} (hd : decode F.2.1 pc = .ok (.astore 12, 2)) (hc : oc1 a11 = true) (hq : pc + 2 = q) (kk : V D F rm Qf k n q (a0 :: a1 :: a2 :: a3 :: a4 :: a5 :: a6 :: a7 :: a8 :: a9 :: a10 :: a11 :: some (.ref x) :: r) st ws) : V D F rm Qf k n pc (a0 :: a1 :: a2 :: a3 :: a4 :: a5 :: a6 :: a7 :: a8 :: a9 :: a10 :: a11 :: y :: r) (.ref x :: st) ws := E_astoreG hd (show 12 < (a0 :: a1 :: a2 :: a3 :: a4 :: a5 :: a6 :: a7 :: a8 :: a9 :: a10 :: a11 :: y :: r).length by simp) (noC2_at (i := 11) rfl hc) hq kk
theorem E_iinc12 {a0 a1 a2 a3 a4 a5 a6 a7 a8 a9 a10 a11 : Option Value} {r : List (Option Value)} {z : Int} {x v : Int32} (hd : decode F.2.1 pc = .ok (.iinc 12 z, 3)) (hv : x + Int32.ofInt z = v) (hc : oc1 a11 = true) (hq : pc + 3 = q) (kk : V D F rm Qf k n q (a0 :: a1 :: a2 :: a3 :: a4 :: a5 :: a6 :: a7 :: a8 :: a9 :: a10 :: a11 :: some (.int v) :: r) st ws) : V D F rm Qf k n pc (a0 :: a1 :: a2 :: a3 :: a4 :: a5 :: a6 :: a7 :: a8 :: a9 :: a10 :: a11 :: some (.int x) :: r) st ws := E_iincG hd (by simp) rfl hv (noC2_at (i := 11) rfl hc) hq kk
end VR
/-! CONTRACTS over whole worlds, calls and returns -/
def QC (D : va_G) (post : Option Value → va_W → Prop) (A : Nat → Prop) : Array Value → State → Outcome → State → Prop := fun _ st o t =>
  (∃ (v : Option Value) (ws' : va_W), o = .returned v ∧ post v ws' ∧ va_P D vwCl ws' t.heap ∧ va_D A ws' ∧ va_K D vwCl (TY D) t) ∧ va_F A st t
def PC (D : va_G) (args : List Value) (ws : va_W) (sz : Nat) : Array Value → State → Prop :=
  va_Pc args (fun U => U.heap.size = sz ∧ va_P D vwCl ws U.heap ∧ va_K D vwCl (TY D) U ∧ va_D (fun _ => True) ws ∧ EV (va_A ws sz) U U.heap)
abbrev rmOf (d mc ms : Nat) : Room := { frames := d, cells := mc, slots := ms, locals := 40 * d }
def wsOf (y : MethodName) (F : Cfg) : List Cond := Cond.code y F.2.1 F.2.2.1 F.2.2.2 :: lw_good
def Spec (D : va_G) (d : Nat) (y : MethodName) (F : Cfg) (args : List Value) (ws : va_W) (mc ms : Nat) (post : Option Value → va_W → Prop) : Prop :=
  ∀ (l : Launch) (sz : Nat), l.flags = flags0 → Met l y (wsOf y F) (rmOf d mc ms) (PC D args ws sz) (QC D post (va_A ws sz)) mc ms (va_A ws sz)
def QM (D : va_G) (post : Option Value → va_W → Prop) (mc ms : Nat) : QF := fun _ s _ args below _ A => MQ below (QC D post A) args s mc ms A
theorem Spec.of {D : va_G} {d : Nat} {y : MethodName} {F : Cfg} {args : List Value} {ws : va_W} {mc ms : Nat} {post : Option Value → va_W → Prop} {locs : List (Option Value)} (hy : plainName y.cls = true) (hc : y.cls = F.1) (hn : (lg_sl args).length ≤ F.2.2.1) (hle : locsOf args F.2.2.1 = locs)
    (hv : V D F (rmOf d mc ms) (QM D post mc ms) 0 0 0 locs [] ws) : Spec D d y F args ws mc ms post := by
  intro l sz hfl
  refine Met.ofW (cc := F.2.1) (maxL := F.2.2.1) (ret := F.2.2.2) hy rfl ?_
  intro p e s m a below meth c s₁ B hml hvv
  obtain ⟨rfl, hsz, hP, hK, hD0, hE⟩ := hvv
  subst hsz
  have hD := hD0.self (sz := s.heap.size)
  have hl := lv_entry args (n := F.2.2.1) hn
  rw [lg_entry_eq]
  subst hle
  exact hv p l e s m _ below meth c (va_A ws s.heap.size) s.heap [] _ ⟨B.exec, B.bytes, hml, B.returns, hc ▸ findClass_of_methodNamed B.named, fun w h => atoms_spec (ws := wsOf y F) B.pre w (List.mem_cons_of_mem _ h), B.notSynchronized, fun q h => Or.inr h, hK, hE, hfl⟩ (by simp [locsOf]) (Nat.zero_le _) (Nat.zero_le _) hP hD va_S.rf (LocOK.entry hl)
theorem Spec.mono {D : va_G} {d : Nat} {y : MethodName} {F : Cfg} {args : List Value} {ws : va_W} {mc ms : Nat} {post post' : Option Value → va_W → Prop} (h : Spec D d y F args ws mc ms post) (hp : ∀ v w, post v w → post' v w) : Spec D d y F args ws mc ms post' := by
  intro l sz hfl
  refine MetFree.mono (h l sz hfl) (fun _ _ q => q) (fun _ _ _ _ _ q => q) ?_
  rintro a st o t - ⟨⟨⟨v, w, h1, h2, h3⟩, h4⟩, h5⟩
  exact ⟨⟨⟨v, w, h1, hp v w h2, h3⟩, h4⟩, h5⟩
theorem goodIn_wsOf {y : MethodName} {F : Cfg} (h : Cond.code y F.2.1 F.2.2.1 F.2.2.2 ∈ lw_good) : GoodIn lw_good (wsOf y F) := fun w hw => by
  have hm : w ∈ lw_good := by
    rcases List.mem_cons.mp hw with rfl | hw
    · exact h
    · exact hw
  exact ⟨hm, good_of_word (gd_word hm)⟩
section VCQ
variable {p : Program} {l : Launch} {e : Env} {R : Room} {s : State} {m : MethodId} {args : Array Value} {below : List Frame} {meth : Method} {c : Code} {H : Heap} {locs : List Loc} {cells slots : Nat} {Q : State → Prop}
variable {pc : Nat} {ls : Array Slot} {rest st0 : List Value} {a : Array Value} {A0 A1 : Nat → Prop} {H0 : Heap} {mc ms : Nat} {free : Addr → Prop} {D : va_G}
theorem va_callC {post : Option Value → va_W → Prop} (hr : va_Run p l e R s m args below meth c H locs cells slots mc ms (F0 m pc ls st0) rest (QC D post A1 a) free) (hS : va_S A0 H0 H locs) (hA : ∀ q, A1 q → A0 q) (hf : ∀ q, free q → A0 q)
    (kk : ∀ (v : Option Value) (ws' : va_W) (H1 : Heap) (locs1 : List Loc), post v ws' → va_P D vwCl ws' H1 → va_D A0 ws' → va_S A0 H0 H1 locs1 → W p l e R s m args below meth c H1 locs1 (cells + mc) (slots + ms) Q (F0 m (pc + 3) ls (v.toList ++ rest))) : W p l e R s m args below meth c H locs cells slots Q (F0 m pc ls st0) := by
  intro T hT X
  obtain ⟨v, st₀, t, T', L, h0, X', hL, e1, e2, ⟨⟨v', ws', hv, hp, hP', hD', hK'⟩, hz, hk⟩, st⟩ := hr T hT X
  cases hv
  rw [h0] at hz hk
  obtain ⟨t2, a1, b1⟩ := kk v ws' T'.heap (locs ++ L) hp (by rw [e1]; exact hP') (hD'.weaken fun _ q _ h => hA q.1 h)
    ⟨Nat.le_trans hS.1 (by rw [e1]; exact hz), fun q h1 h2 => by rw [e1, hk q (Nat.lt_of_lt_of_le h1 hS.1) (fun z => h2 (hA q z))]; exact hS.2.1 q h1 h2, fun q hq => by
      rcases List.mem_append.mp hq with h | h
      · exact hS.2.2 q h
      · exact hf _ (hL q h)⟩ T' rfl X'
  exact ⟨t2, st t2 a1, b1⟩
end VCQ
theorem va_A_in {A : Nat → Prop} {ws : va_W} {H0 H : Heap} {lc : List Loc} (hD : va_D A ws) (hS : va_S A H0 H lc) (hA : ∀ q, H0.size ≤ q → A q) : ∀ q, va_A ws H.size q → A q := by
  intro q h
  rcases h with ⟨k, e, h⟩ | h
  · exact hD.2 k (q, e) h
  · exact hA q (Nat.le_trans hS.1 h)
/-- the receiver is an object of C -/
def Recv (ws : va_W) (b : Nat) (C : String) : Prop := ∃ (q0 ci : Nat) (fs : List Value) (T : u_T) (N : Nat), ws[q0]? = some (b, .inr (ci, fs)) ∧ vwCl[ci]? = some (C, T, N)
section VCALL
variable {D : va_G} {F F' : Cfg} {Qf : QF} {k n pc q d d' mc ms mc' ms' idx : Nat} {locs : List (Option Value)} {st rest ar : List Value} {ws : va_W} {y : MethodName} {b : Nat} {post : Option Value → va_W → Prop}
theorem PC_blind {args : List Value} {sz : Nat} : FrameBlind (PC D args ws sz) := fun a U g mk h => by
  obtain ⟨q0, q1, qP, qK, qD, qE⟩ := h
  exact ⟨q0, q1, qP, va_K.moved (u := U) (U := U.calling g mk a) (Vm.Alike.refl U.vm) qK, qD, EV.same (u := U) (U := U.calling g mk a) rfl qE⟩
theorem PC_now {args : List Value} {s U : State} {H : Heap} {A : Nat → Prop} {lc : List Loc} (hU : U.heap = H) (hW : s.WarmedH U.vm) (hP : va_P D vwCl ws H) (hK : va_K D vwCl (TY D) s) (hD : va_D A ws) (hS : va_S A s.heap H lc) (hA : ∀ q, s.heap.size ≤ q → A q) (hE : EV A s s.heap) : PC D args ws H.size args.toArray U :=
  ⟨rfl, by rw [hU], by rw [hU]; exact hP, va_K.moved hW.alike hK, hD.weaken (fun _ _ _ _ => trivial), by rw [hU]; exact ((hE.kept hS.2.1).narrow (va_A_in hD hS hA)).warm hW⟩
theorem room_ok {m : Nat} (hd : d' < d) (hm : m ≤ 21) : (rmOf d' mc' ms').frames + 1 ≤ (rmOf d mc ms).frames ∧ 8 + (m + 11) + (rmOf d' mc' ms').locals ≤ (rmOf d mc ms).locals := ⟨hd, by show 8 + (m + 11) + 40 * d' ≤ 40 * d; omega⟩
theorem LkB.callB {own : String} {args : Array Value} {s : State} {nn : Nat} (h : LkB y F' nn) (hl : Cond.methodLink own idx y ∈ lw_good) (hd : d' < d) (hts : ∀ w ∈ lw_good, w.before args s = true) : CallB (rmOf d mc ms) s args own idx y F'.2.1 F'.2.2.1 F'.2.2.2 (wsOf y F') (rmOf d' mc' ms') mc' ms' nn :=
  callB_of nn hts (goodIn_wsOf h.2.1) rfl rfl rfl (hts _ h.1) (hts _ hl) ⟨h.2.2.1 ▸ h.2.2.2.1.1, h.2.2.1 ▸ h.2.2.2.1.2, h.2.2.2.2.1⟩ (room_ok hd h.2.2.2.2.2)
theorem LkB.callN {own host : String} {args : Array Value} {s : State} {nn : Nat} (h : LkB y F' nn) (hl : Cond.methodLinkNest own idx y host ∈ lw_nest) (hd : d' < d) (hts : ∀ w ∈ lw_good, w.before args s = true) (hnw : ∀ w ∈ lw_nest, va_Nw w s) : va_CN (rmOf d mc ms) s args own idx y host F'.2.1 F'.2.2.1 F'.2.2.2 (wsOf y F') (rmOf d' mc' ms') mc' ms' nn := by
  have hc : Cond.code y F'.2.1 F'.2.2.1 F'.2.2.2 ∈ wsOf y F' := List.mem_cons_self
  refine ⟨⟨rfl, rfl, (room_ok (mc := mc) (ms := ms) (mc' := mc') (ms' := ms') hd h.2.2.2.2.2).1, (room_ok (mc := mc) (ms := ms) (mc' := mc') (ms' := ms') hd h.2.2.2.2.2).2, pay_in hts (goodIn_wsOf h.2.1), hc⟩, hts _ h.2.1, hts _ h.1, ⟨h.2.2.1 ▸ h.2.2.2.1.1, h.2.2.1 ▸ h.2.2.2.1.2⟩, fun sig hh => ?_, va_Nw.use rfl (hnw _ hl)⟩
  have h2 := h.2.2.2.2.1
  rw [hh] at h2
  exact (Option.some.inj h2).symm
theorem E_callV (lk : LkV F.1 idx y F' ar.length) (hs : Spec D d' y F' (.ref b :: ar) ws mc' ms' post) (hr : Recv ws b F'.1) (hd' : d' < d) (hk : k + mc' ≤ mc) (hn : n + ms' ≤ ms) (hst : (rest.map fun v => v.category).sum ≤ 8) (hd : decode F.2.1 pc = .ok (.invokevirtual idx, 3)) (hstk : st = ar.reverse ++ .ref b :: rest) (hq : pc + 3 = q)
    (kk : ∀ v ws', post v ws' → V D F (rmOf d mc ms) Qf (k + mc') (n + ms') q locs (v.toList ++ rest) ws') : V D F (rmOf d mc ms) Qf k n pc locs st ws := by
  intro p l e s m args below meth c A H lc ls C hlen hkc hnc hP hD hS hl
  subst hq; subst hstk
  obtain ⟨q0, ci, fs, T, N, hq0, hcl⟩ := hr
  have hts := C.2.2.2.2.2.1
  have hK := C.2.2.2.2.2.2.2.2.1
  have hA := C.2.2.2.2.2.2.2.1
  have hE := C.2.2.2.2.2.2.2.2.2.1
  have hrun := va_runV (As := ar) (rest := rest) (cells := k) (slots := n) (g := F0 m pc ls (ar.reverse ++ .ref b :: rest)) (p := p) (l := l) (e := e) (below := below) (meth := meth) (locs := lc) ⟨C.1, C.2.1, C.2.2.1, C.2.2.2.2.1, hts⟩ (hs l H.size C.2.2.2.2.2.2.2.2.2.2) ⟨lk.1.callB lk.2.1 hd' hts, hts _ lk.2.2.1, hts _ lk.2.2.2⟩ ⟨PC_blind, va_recv hK hP hcl hq0, fun U hU hW => PC_now hU hW hP hK hD hS hA hE⟩ rfl rfl (by rw [hl.1]; exact hlen) rfl (lv_room hst) hd ⟨hk, hn⟩
  refine va_callC hrun hS (va_A_in hD hS C.2.2.2.2.2.2.2.1) (va_A_in hD hS C.2.2.2.2.2.2.2.1) (fun v ws' H1 lc1 hp hP1 hD1 hS1 => ?_)
  exact kk v ws' hp p l e s m args below meth c A H1 lc1 ls C hlen hk hn hP1 hD1 hS1 hl
theorem E_callS (lk : LkS F.1 idx y F' ar.length) (hs : Spec D d' y F' ar ws mc' ms' post) (hd' : d' < d) (hk : k + mc' ≤ mc) (hn : n + ms' ≤ ms) (hst : (rest.map fun v => v.category).sum ≤ 8) (hd : decode F.2.1 pc = .ok (.invokestatic idx, 3)) (hstk : st = ar.reverse ++ rest) (hq : pc + 3 = q)
    (kk : ∀ v ws', post v ws' → V D F (rmOf d mc ms) Qf (k + mc') (n + ms') q locs (v.toList ++ rest) ws') : V D F (rmOf d mc ms) Qf k n pc locs st ws := by
  intro p l e s m args below meth c A H lc ls C hlen hkc hnc hP hD hS hl
  subst hq; subst hstk
  have hts := C.2.2.2.2.2.1
  have hK := C.2.2.2.2.2.2.2.2.1
  have hA := C.2.2.2.2.2.2.2.1
  have hE := C.2.2.2.2.2.2.2.2.2.1
  have hrun := va_runS (As := ar) (rest := rest) (cells := k) (slots := n) (g := F0 m pc ls (ar.reverse ++ rest)) (p := p) (l := l) (e := e) (below := below) (meth := meth) (locs := lc) ⟨C.1, C.2.1, C.2.2.1, C.2.2.2.2.1, hts⟩ (hs l H.size C.2.2.2.2.2.2.2.2.2.2) ⟨lk.1.callB lk.2.1 hd' hts, hts _ lk.2.2⟩ ⟨PC_blind, fun U hU hW => PC_now hU hW hP hK hD hS hA hE⟩ rfl rfl (by rw [hl.1]; exact hlen) rfl (lv_room hst) hd ⟨hk, hn⟩
  refine va_callC hrun hS (va_A_in hD hS C.2.2.2.2.2.2.2.1) (va_A_in hD hS C.2.2.2.2.2.2.2.1) (fun v ws' H1 lc1 hp hP1 hD1 hS1 => ?_)
  exact kk v ws' hp p l e s m args below meth c A H1 lc1 ls C hlen hk hn hP1 hD1 hS1 hl
theorem E_callSN {host : String} (lk : LkSN F.1 idx y F' ar.length host) (hs : Spec D d' y F' ar ws mc' ms' post) (hd' : d' < d) (hk : k + mc' ≤ mc) (hn : n + ms' ≤ ms) (hst : (rest.map fun v => v.category).sum ≤ 8) (hd : decode F.2.1 pc = .ok (.invokestatic idx, 3)) (hstk : st = ar.reverse ++ rest) (hq : pc + 3 = q)
    (kk : ∀ v ws', post v ws' → V D F (rmOf d mc ms) Qf (k + mc') (n + ms') q locs (v.toList ++ rest) ws') : V D F (rmOf d mc ms) Qf k n pc locs st ws := by
  intro p l e s m args below meth c A H lc ls C hlen hkc hnc hP hD hS hl
  subst hq; subst hstk
  have hts := C.2.2.2.2.2.1
  have hK := C.2.2.2.2.2.2.2.2.1
  have hA := C.2.2.2.2.2.2.2.1
  have hE := C.2.2.2.2.2.2.2.2.2.1
  have hrun := va_runSN (As := ar) (rest := rest) (cells := k) (slots := n) (g := F0 m pc ls (ar.reverse ++ rest)) (p := p) (l := l) (e := e) (below := below) (meth := meth) (locs := lc) ⟨C.1, C.2.1, C.2.2.1, C.2.2.2.2.1, hts⟩ (hs l H.size C.2.2.2.2.2.2.2.2.2.2) ⟨lk.1.callN lk.2.1 hd' hts hE.1, hts _ lk.2.2, trivial⟩ ⟨PC_blind, fun U hU hW => PC_now hU hW hP hK hD hS hA hE⟩ rfl rfl (by rw [hl.1]; exact hlen) rfl (lv_room hst) hd ⟨hk, hn⟩
  refine va_callC hrun hS (va_A_in hD hS C.2.2.2.2.2.2.2.1) (va_A_in hD hS C.2.2.2.2.2.2.2.1) (fun v ws' H1 lc1 hp hP1 hD1 hS1 => ?_)
  exact kk v ws' hp p l e s m args below meth c A H1 lc1 ls C hlen hk hn hP1 hD1 hS1 hl
/-! returns -/
theorem E_ireturn {v : Int32} {rm : Room} (hrm : rm = rmOf d mc ms) (hr : F.2.2.2 = some .int) (hd : decode F.2.1 pc = .ok (.ireturn, 1)) (hp : post (some (.int v)) ws) : V D F rm (QM D post mc ms) k n pc locs [.int v] ws := by
  intro p l e s m args below meth c A H lc ls C hlen hkc hnc hP hD hS hl
  subst hrm
  refine W.widen (k := mc) (n := ms) hkc hnc ?_
  exact W.iret (v := v) C.1 C.2.1 (C.2.2.2.1.trans hr) (fun t ht hW => ⟨⟨_, ws, rfl, hp, by rw [ht]; exact hP, hD, va_K.moved hW.alike C.2.2.2.2.2.2.2.2.1⟩, hS.F ht⟩) hS.2.2 hd C.2.2.2.2.2.2.1
theorem E_zreturn {v : Int32} {rm : Room} {ty : FieldType} (hrm : rm = rmOf d mc ms) (hr : F.2.2.2 = some ty) (hn : narrow ty (.int v) = .int v) (hd : decode F.2.1 pc = .ok (.ireturn, 1)) (hp : post (some (.int v)) ws) : V D F rm (QM D post mc ms) k n pc locs [.int v] ws := by
  intro p l e s m args below meth c A H lc ls C hlen hkc hnc hP hD hS hl
  subst hrm
  refine W.widen (k := mc) (n := ms) hkc hnc ?_
  exact W.zret (v := v) (ty := ty) C.1 C.2.1 (C.2.2.2.1.trans hr) hn (fun t ht hW => ⟨⟨_, ws, rfl, hp, by rw [ht]; exact hP, hD, va_K.moved hW.alike C.2.2.2.2.2.2.2.2.1⟩, hS.F ht⟩) hS.2.2 hd C.2.2.2.2.2.2.1
theorem E_dreturn {v : UInt64} {rm : Room} (hrm : rm = rmOf d mc ms) (hr : F.2.2.2 = some .double) (hd : decode F.2.1 pc = .ok (.dreturn, 1)) (hp : post (some (.double v)) ws) : V D F rm (QM D post mc ms) k n pc locs [.double v] ws := by
  intro p l e s m args below meth c A H lc ls C hlen hkc hnc hP hD hS hl
  subst hrm
  refine W.widen (k := mc) (n := ms) hkc hnc ?_
  exact W.dret (v := v) C.1 C.2.1 (C.2.2.2.1.trans hr) (fun t ht hW => ⟨⟨_, ws, rfl, hp, by rw [ht]; exact hP, hD, va_K.moved hW.alike C.2.2.2.2.2.2.2.2.1⟩, hS.F ht⟩) hS.2.2 hd C.2.2.2.2.2.2.1
theorem E_areturn {a : Nat} {rm : Room} {rt : FieldType} (hrm : rm = rmOf d mc ms) (hr : F.2.2.2 = some rt) (hrt : (∃ n, rt = .object n) ∨ ∃ t, rt = .array t) (hd : decode F.2.1 pc = .ok (.areturn, 1)) (hp : post (some (.ref a)) ws) : V D F rm (QM D post mc ms) k n pc locs [.ref a] ws := by
  intro p l e s m args below meth c A H lc ls C hlen hkc hnc hP hD hS hl
  subst hrm
  refine W.widen (k := mc) (n := ms) hkc hnc ?_
  exact W.aret (v := .ref a) C.1 C.2.1 (C.2.2.2.1.trans hr) hrt (Or.inr ⟨a, rfl⟩) (fun t ht hW => ⟨⟨_, ws, rfl, hp, by rw [ht]; exact hP, hD, va_K.moved hW.alike C.2.2.2.2.2.2.2.2.1⟩, hS.F ht⟩) hS.2.2 hd C.2.2.2.2.2.2.1
theorem E_vreturn {rm : Room} (hrm : rm = rmOf d mc ms) (hr : F.2.2.2 = none) (hd : decode F.2.1 pc = .ok (.return_, 1)) (hp : post none ws) : V D F rm (QM D post mc ms) k n pc locs [] ws := by
  intro p l e s m args below meth c A H lc ls C hlen hkc hnc hP hD hS hl
  subst hrm
  refine W.widen (k := mc) (n := ms) hkc hnc ?_
  exact W.vret C.1 C.2.1 (C.2.2.2.1.trans hr) (fun t ht hW => ⟨⟨_, ws, rfl, hp, by rw [ht]; exact hP, hD, va_K.moved hW.alike C.2.2.2.2.2.2.2.2.1⟩, hS.F ht⟩) hS.2.2 hd C.2.2.2.2.2.2.1
end VCALL
/-- answers that are one number and one world -/
def PI (r : Int32) (w : va_W) : Option Value → va_W → Prop := fun v w' => v = some (.int r) ∧ w' = w
def PV (w : va_W) : Option Value → va_W → Prop := fun v w' => v = none ∧ w' = w
def bI (b : Bool) : Int32 := if b then 1 else 0
theorem bI_nar (b : Bool) : narrow .boolean (.int (bI b)) = .int (bI b) := by cases b <;> rfl
