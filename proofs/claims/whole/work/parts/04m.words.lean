/-! words of the tables by name -/
abbrev Cfg : Type := String × ByteArray × Nat × Option FieldType
def lw_good : List Cond := lw_tbl.filter goodWord
theorem gd {w : Cond} (h : w ∈ lw_tbl) (g : goodWord w = true) : w ∈ lw_good := List.mem_filter.mpr ⟨h, g⟩
theorem gdi {w : Cond} (i : Nat) (h : lw_tbl[i]? = some w) (g : goodWord w = true) : w ∈ lw_good := gd (List.mem_of_getElem? h) g
theorem gd_word {w : Cond} (h : w ∈ lw_good) : goodWord w = true := (List.mem_filter.mp h).2
def isNest : Cond → Bool
  | .methodLinkNest .. => true
  | _ => false
def lw_nest : List Cond := lw_tbl.filter isNest
theorem nst {w : Cond} (i : Nat) (h : lw_tbl[i]? = some w) (g : isNest w = true) : w ∈ lw_nest := List.mem_filter.mpr ⟨List.mem_of_getElem? h, g⟩
/-- what a call of y needs of the tables -/
def LkB (y : MethodName) (F' : Cfg) (n : Nat) : Prop := Cond.initialized y.cls ∈ lw_good ∧ Cond.code y F'.2.1 F'.2.2.1 F'.2.2.2 ∈ lw_good ∧ y.cls = F'.1 ∧ (F'.1 ≠ "java/lang/invoke/MethodHandle" ∧ F'.1 ≠ "java/lang/invoke/VarHandle") ∧ (parseMethodDescriptor y.desc).map (fun d => d.parameters.length) = some n ∧ F'.2.2.1 ≤ 21
def LkV (own : String) (idx : Nat) (y : MethodName) (F' : Cfg) (n : Nat) : Prop := LkB y F' n ∧ Cond.methodLink own idx y ∈ lw_good ∧ Cond.instanceMethod y ∈ lw_good ∧ Cond.selects F'.1 y y ∈ lw_good
def LkS (own : String) (idx : Nat) (y : MethodName) (F' : Cfg) (n : Nat) : Prop := LkB y F' n ∧ Cond.methodLink own idx y ∈ lw_good ∧ Cond.static y ∈ lw_good
def LkSN (own : String) (idx : Nat) (y : MethodName) (F' : Cfg) (n : Nat) (host : String) : Prop := LkB y F' n ∧ Cond.methodLinkNest own idx y host ∈ lw_nest ∧ Cond.static y ∈ lw_good
def LkI (own : String) (idx : Nat) (y : MethodName) (F' : Cfg) (n : Nat) : Prop := LkB y F' n ∧ Cond.methodLink own idx y ∈ lw_good ∧ Cond.instanceMethod y ∈ lw_good ∧ y.name = "<init>" ∧ F'.2.2.2 = none
def LkIN (own : String) (idx : Nat) (y : MethodName) (F' : Cfg) (n : Nat) (host : String) : Prop := LkB y F' n ∧ Cond.methodLinkNest own idx y host ∈ lw_nest ∧ Cond.instanceMethod y ∈ lw_good ∧ y.name = "<init>" ∧ F'.2.2.2 = none
/-- a field's link: the class ci's field j, named by own's constant idx -/
def FL (own : String) (idx ci j : Nat) : Prop := ∃ (C : String) (T : u_T) (N : Nat), vwCl[ci]? = some (C, T, N) ∧ j < N ∧ Cond.fieldLink own idx (T j).1 (T j).2.1 (T j).2.2.1 ∈ lw_good
/-- what the tables say of a class -/
def CLok (ci : Nat) : Prop := ∀ (C : String) (T : u_T) (N : Nat), vwCl[ci]? = some (C, T, N) → (∀ w ∈ u_ws C T N, w ∈ lw_good) ∧ (∃ ty : Nat → FieldType, ∀ k, k < N → parseFieldDescriptor (T k).2.2.1 = some (ty k)) ∧ ∀ a, a < N → ∀ b, b < N → a ≠ b → (T a).2.1 ≠ (T b).2.1
/-- and a field of it that may be written -/
def FPok (ci j : Nat) (ty : FieldType) : Prop := ∀ (C : String) (T : u_T) (N : Nat), vwCl[ci]? = some (C, T, N) → (T j).2.2.2 = false ∧ parseFieldDescriptor (T j).2.2.1 = some ty
