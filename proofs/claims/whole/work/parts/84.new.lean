
/-! THE CONSTRUCTORS -/
section MKC
variable {D : va_G} {w0 : va_W} {a : Nat}
/-- a constructor's end: behind the world W lie the cells L1 -/
def PK (W : va_W) (G : va_W → Prop) : Option Value → va_W → Prop := fun v w => v = none ∧ ∃ L1, G L1 ∧ w = W ++ L1
section MKP
variable {F F' : Cfg} {R : Room} {Qf : QF} {k n pc q idx : Nat} {locs : List (Option Value)} {st : List Value} {L : va_W} {y : MethodName} {d' mc' ms' b : Nat} {c : Nat × va_E} {G : va_W → Prop}
theorem K_callI {ar rest : List Value} (lk : LkI F.1 idx y F' ar.length) (hs : Spec D d' y F' (.ref b :: ar) ((w0 ++ L) ++ [c]) mc' ms' (PK (w0 ++ L) G)) (hrm : RmOK R d') (hk : k + mc' ≤ R.cells) (hn : n + ms' ≤ R.slots) (hst : (rest.map fun v => v.category).sum ≤ 8) (hd : decode F.2.1 pc = .ok (.invokespecial idx, 3)) (hstk : st = ar.reverse ++ .ref b :: rest) (hq : pc + 3 = q)
    (kk : ∀ L1, G L1 → V D F R Qf (k + mc') (n + ms') q locs rest (w0 ++ (L ++ L1))) : V D F R Qf k n pc locs st (w0 ++ (L ++ [c])) := by
  refine V_ws (List.append_assoc _ _ _).symm ?_
  refine E_callI (Cn := "") lk hs hrm hk hn hst hd hstk hq ?_
  rintro v w ⟨rfl, L1, hG, rfl⟩
  exact V_ws (List.append_assoc _ _ _) (kk L1 hG)
theorem K_callIN {ar rest : List Value} {host : String} (lk : LkIN F.1 idx y F' ar.length host) (hs : Spec D d' y F' (.ref b :: ar) ((w0 ++ L) ++ [c]) mc' ms' (PK (w0 ++ L) G)) (hrm : RmOK R d') (hk : k + mc' ≤ R.cells) (hn : n + ms' ≤ R.slots) (hst : (rest.map fun v => v.category).sum ≤ 8) (hd : decode F.2.1 pc = .ok (.invokespecial idx, 3)) (hstk : st = ar.reverse ++ .ref b :: rest) (hq : pc + 3 = q)
    (kk : ∀ L1, G L1 → V D F R Qf (k + mc') (n + ms') q locs rest (w0 ++ (L ++ L1))) : V D F R Qf k n pc locs st (w0 ++ (L ++ [c])) := by
  refine V_ws (List.append_assoc _ _ _).symm ?_
  refine E_callIN lk hs hrm hk hn hst hd hstk hq ?_
  rintro v w ⟨rfl, L1, hG, rfl⟩
  exact V_ws (List.append_assoc _ _ _) (kk L1 hG)
/-- the last object's constructor hands over to that of the class above -/
theorem K_callS {ar rest : List Value} (lk : LkI F.1 idx y F' ar.length) (hs : Spec D d' y F' (.ref b :: ar) (w0 ++ [c]) mc' ms' (PK w0 G)) (hrm : RmOK R d') (hk : k + mc' ≤ R.cells) (hn : n + ms' ≤ R.slots) (hst : (rest.map fun v => v.category).sum ≤ 8) (hd : decode F.2.1 pc = .ok (.invokespecial idx, 3)) (hstk : st = ar.reverse ++ .ref b :: rest) (hq : pc + 3 = q)
    (kk : ∀ L1, G L1 → V D F R Qf (k + mc') (n + ms') q locs rest (w0 ++ L1)) : V D F R Qf k n pc locs st (w0 ++ [c]) := by
  refine E_callI (Cn := "") lk hs hrm hk hn hst hd hstk hq ?_
  rintro v w ⟨rfl, L1, hG, rfl⟩
  exact kk L1 hG
theorem K_callIG {G0 : GF} {ar rest : List Value} (hg : GSt G0) (lk : LkI F.1 idx y F' ar.length) (hs : SpecG D d' y F' G0 (.ref b :: ar) ((w0 ++ L) ++ [c]) mc' ms' (PK (w0 ++ L) G)) (hrm : RmOK R d') (hk : k + mc' ≤ R.cells) (hn : n + ms' ≤ R.slots) (hst : (rest.map fun v => v.category).sum ≤ 8) (hd : decode F.2.1 pc = .ok (.invokespecial idx, 3)) (hstk : st = ar.reverse ++ .ref b :: rest) (hq : pc + 3 = q)
    (kk : ∀ L1, G L1 → V D F R (QI (QG G0 Qf)) (k + mc') (n + ms') q locs rest (w0 ++ (L ++ L1))) : V D F R (QI (QG G0 Qf)) k n pc locs st (w0 ++ (L ++ [c])) := by
  refine V_ws (List.append_assoc _ _ _).symm ?_
  subst hq; subst hstk
  refine V_useI ?_
  intro p l e s m args below meth c' A H lc ls C hG hlen hkc hnc hP hD hS hl
  refine E_callIGW hg lk hs hrm hk hn hst hd C hG hlen hP hD hS hl ?_
  rintro v w H1 lc1 ⟨rfl, L1, hL, rfl⟩ hP1 hD1 hS1
  rw [List.append_assoc] at hP1 hD1
  exact kk L1 hL p l e s m args below meth c' A H1 lc1 ls C hlen hk hn hP1 hD1 hS1 hl
theorem K_callIGN {G0 : GF} {ar rest : List Value} {host : String} (hg : GSt G0) (lk : LkIN F.1 idx y F' ar.length host) (hs : SpecG D d' y F' G0 (.ref b :: ar) ((w0 ++ L) ++ [c]) mc' ms' (PK (w0 ++ L) G)) (hrm : RmOK R d') (hk : k + mc' ≤ R.cells) (hn : n + ms' ≤ R.slots) (hst : (rest.map fun v => v.category).sum ≤ 8) (hd : decode F.2.1 pc = .ok (.invokespecial idx, 3)) (hstk : st = ar.reverse ++ .ref b :: rest) (hq : pc + 3 = q)
    (kk : ∀ L1, G L1 → V D F R (QI (QG G0 Qf)) (k + mc') (n + ms') q locs rest (w0 ++ (L ++ L1))) : V D F R (QI (QG G0 Qf)) k n pc locs st (w0 ++ (L ++ [c])) := by
  refine V_ws (List.append_assoc _ _ _).symm ?_
  subst hq; subst hstk
  refine V_useI ?_
  intro p l e s m args below meth c' A H lc ls C hG hlen hkc hnc hP hD hS hl
  refine E_callIGNW hg lk hs hrm hk hn hst hd C hG hlen hP hD hS hl ?_
  rintro v w H1 lc1 ⟨rfl, L1, hL, rfl⟩ hP1 hD1 hS1
  rw [List.append_assoc] at hP1 hD1
  exact kk L1 hL p l e s m args below meth c' A H1 lc1 ls C hlen hk hn hP1 hD1 hS1 hl
/-- out of the law -/
theorem K_callLG {G0 : GF} {ar rest : List Value} (hg : GSt G0) (lk : LkI F.1 idx y F' ar.length) (hs : SpecG D d' y F' G0 (.ref b :: ar) ((w0 ++ L) ++ [c]) mc' ms' (PK (w0 ++ L) G)) (hrm : RmOK R d') (hk : k + mc' ≤ R.cells) (hn : n + ms' ≤ R.slots) (hst : (rest.map fun v => v.category).sum ≤ 8) (hd : decode F.2.1 pc = .ok (.invokespecial idx, 3)) (hstk : st = ar.reverse ++ .ref b :: rest) (hq : pc + 3 = q)
    (kk : ∀ L1, G L1 → V D F R (QG G0 Qf) (k + mc') (n + ms') q locs rest (w0 ++ (L ++ L1))) : V D F R (QG G0 Qf) k n pc locs st (w0 ++ (L ++ [c])) := by
  refine V_ws (List.append_assoc _ _ _).symm ?_
  subst hq; subst hstk
  refine V_useG ?_
  intro p l e s m args below meth c' A H lc ls C hG hlen hkc hnc hP hD hS hl
  refine E_callIGW hg lk hs hrm hk hn hst hd C hG hlen hP hD hS hl ?_
  rintro v w H1 lc1 ⟨rfl, L1, hL, rfl⟩ hP1 hD1 hS1
  rw [List.append_assoc] at hP1 hD1
  exact kk L1 hL p l e s m args below meth c' A H1 lc1 ls C hlen hk hn hP1 hD1 hS1 hl
end MKP
abbrev dfX0 : List Value := [.null, .null, .null, .null, .int 0]
theorem dfo_X0 (ty : Nat → FieldType) (h : ∀ j, j < 5 → parseFieldDescriptor (TX0 j).2.2.1 = some (ty j)) (j : Nat) (hj : j < 5) : defaultValue (ty j) = vp_V dfX0 j := by
  rw [show ty j = tyX0 j from Option.some.inj ((h j hj).symm.trans (tyX0_ok j hj))]
  rcases (show j = 0 ∨ j = 1 ∨ j = 2 ∨ j = 3 ∨ j = 4 by omega) with rfl | rfl | rfl | rfl | rfl <;> rfl
theorem ib_X0 : Cond.instantiable RX0 5 ∈ lw_good := gdi 137 (by decide +kernel) rfl
theorem ff_X0_0 : FPf RX0 4 0 (.array .int) := by
  intro C T N h
  cases h
  exact ⟨rfl, rfl, by decide +kernel⟩
theorem ff_X0_1 : FPf RX0 4 1 (.array .int) := by
  intro C T N h
  cases h
  exact ⟨rfl, rfl, by decide +kernel⟩
theorem ff_X0_2 : FPf RX0 4 2 (.array .int) := by
  intro C T N h
  cases h
  exact ⟨rfl, rfl, by decide +kernel⟩
theorem ff_X0_3 : FPf RX0 4 3 (.array .int) := by
  intro C T N h
  cases h
  exact ⟨rfl, rfl, by decide +kernel⟩
abbrev dfX1 : List Value := [.null, .int 0, .int 0]
theorem dfo_X1 (ty : Nat → FieldType) (h : ∀ j, j < 3 → parseFieldDescriptor (TX1 j).2.2.1 = some (ty j)) (j : Nat) (hj : j < 3) : defaultValue (ty j) = vp_V dfX1 j := by
  rw [show ty j = tyX1 j from Option.some.inj ((h j hj).symm.trans (tyX1_ok j hj))]
  rcases (show j = 0 ∨ j = 1 ∨ j = 2 by omega) with rfl | rfl | rfl <;> rfl
theorem ib_X1 : Cond.instantiable RX1 3 ∈ lw_good := gdi 229 (by decide +kernel) rfl
theorem ff_X1_0 : FPf RX1 5 0 (.array (.object "SnapshotVolumes$Store")) := by
  intro C T N h
  cases h
  exact ⟨rfl, rfl, by decide +kernel⟩
abbrev dfX2 : List Value := [.null, .int 0, .null, .int 0, .int 0, .int 0, .int 0, .int 0, .int 0, .int 0]
theorem dfo_X2 (ty : Nat → FieldType) (h : ∀ j, j < 10 → parseFieldDescriptor (TX2 j).2.2.1 = some (ty j)) (j : Nat) (hj : j < 10) : defaultValue (ty j) = vp_V dfX2 j := by
  rw [show ty j = tyX2 j from Option.some.inj ((h j hj).symm.trans (tyX2_ok j hj))]
  rcases (show j = 0 ∨ j = 1 ∨ j = 2 ∨ j = 3 ∨ j = 4 ∨ j = 5 ∨ j = 6 ∨ j = 7 ∨ j = 8 ∨ j = 9 by omega) with rfl | rfl | rfl | rfl | rfl | rfl | rfl | rfl | rfl | rfl <;> rfl
theorem ib_X2 : Cond.instantiable RX2 10 ∈ lw_good := gdi 249 (by decide +kernel) rfl
theorem ff_X2_0 : FPf RX2 6 0 (.array .char) := by
  intro C T N h
  cases h
  exact ⟨rfl, rfl, by decide +kernel⟩
theorem ff_X2_2 : FPf RX2 6 2 (.object "SnapshotVolumes$Store") := by
  intro C T N h
  cases h
  exact ⟨rfl, rfl, by decide +kernel⟩
abbrev dfX3 : List Value := [.null, .int 0, .null]
theorem dfo_X3 (ty : Nat → FieldType) (h : ∀ j, j < 3 → parseFieldDescriptor (TX3 j).2.2.1 = some (ty j)) (j : Nat) (hj : j < 3) : defaultValue (ty j) = vp_V dfX3 j := by
  rw [show ty j = tyX3 j from Option.some.inj ((h j hj).symm.trans (tyX3_ok j hj))]
  rcases (show j = 0 ∨ j = 1 ∨ j = 2 by omega) with rfl | rfl | rfl <;> rfl
theorem ib_X3 : Cond.instantiable RX3 3 ∈ lw_good := gdi 292 (by decide +kernel) rfl
theorem ff_X3_0 : FPf RX3 7 0 (.array .int) := by
  intro C T N h
  cases h
  exact ⟨rfl, rfl, by decide +kernel⟩
theorem ff_X3_2 : FPf RX3 7 2 (.array (.array .int)) := by
  intro C T N h
  cases h
  exact ⟨rfl, rfl, by decide +kernel⟩
abbrev dfX4 : List Value := [.int 0, .int 0, .int 0, .int 0, .int 0, .null, .null, .null, .null, .null, .null, .null, .null]
theorem dfo_X4 (ty : Nat → FieldType) (h : ∀ j, j < 13 → parseFieldDescriptor (TX4 j).2.2.1 = some (ty j)) (j : Nat) (hj : j < 13) : defaultValue (ty j) = vp_V dfX4 j := by
  rw [show ty j = tyX4 j from Option.some.inj ((h j hj).symm.trans (tyX4_ok j hj))]
  rcases (show j = 0 ∨ j = 1 ∨ j = 2 ∨ j = 3 ∨ j = 4 ∨ j = 5 ∨ j = 6 ∨ j = 7 ∨ j = 8 ∨ j = 9 ∨ j = 10 ∨ j = 11 ∨ j = 12 by omega) with rfl | rfl | rfl | rfl | rfl | rfl | rfl | rfl | rfl | rfl | rfl | rfl | rfl <;> rfl
theorem ib_X4 : Cond.instantiable RX4 13 ∈ lw_good := gdi 131 (by decide +kernel) rfl
theorem ff_X4_5 : FPf RX4 8 5 (.array .int) := by
  intro C T N h
  cases h
  exact ⟨rfl, rfl, by decide +kernel⟩
theorem ff_X4_6 : FPf RX4 8 6 (.array .int) := by
  intro C T N h
  cases h
  exact ⟨rfl, rfl, by decide +kernel⟩
theorem ff_X4_7 : FPf RX4 8 7 (.array .int) := by
  intro C T N h
  cases h
  exact ⟨rfl, rfl, by decide +kernel⟩
theorem ff_X4_8 : FPf RX4 8 8 (.array .int) := by
  intro C T N h
  cases h
  exact ⟨rfl, rfl, by decide +kernel⟩
theorem ff_X4_9 : FPf RX4 8 9 (.array .int) := by
  intro C T N h
  cases h
  exact ⟨rfl, rfl, by decide +kernel⟩
theorem ff_X4_10 : FPf RX4 8 10 (.array .int) := by
  intro C T N h
  cases h
  exact ⟨rfl, rfl, by decide +kernel⟩
theorem ff_X4_11 : FPf RX4 8 11 (.array .int) := by
  intro C T N h
  cases h
  exact ⟨rfl, rfl, by decide +kernel⟩
theorem ff_X4_12 : FPf RX4 8 12 (.object "SnapshotVolumes$Blocks") := by
  intro C T N h
  cases h
  exact ⟨rfl, rfl, by decide +kernel⟩
abbrev dfX5 : List Value := [.null, .null, .null, .null, .null]
theorem dfo_X5 (ty : Nat → FieldType) (h : ∀ j, j < 5 → parseFieldDescriptor (TX5 j).2.2.1 = some (ty j)) (j : Nat) (hj : j < 5) : defaultValue (ty j) = vp_V dfX5 j := by
  rw [show ty j = tyX5 j from Option.some.inj ((h j hj).symm.trans (tyX5_ok j hj))]
  rcases (show j = 0 ∨ j = 1 ∨ j = 2 ∨ j = 3 ∨ j = 4 by omega) with rfl | rfl | rfl | rfl | rfl <;> rfl
theorem ib_X5 : Cond.instantiable RX5 5 ∈ lw_good := gdi 123 (by decide +kernel) rfl
theorem ff_X5_0 : FPf RX5 9 0 (.object "SnapshotVolumes$Store") := by
  intro C T N h
  cases h
  exact ⟨rfl, rfl, by decide +kernel⟩
theorem ff_X5_1 : FPf RX5 9 1 (.object "SnapshotVolumes$History") := by
  intro C T N h
  cases h
  exact ⟨rfl, rfl, by decide +kernel⟩
theorem ff_X5_2 : FPf RX5 9 2 (.object "SnapshotVolumes$Loader") := by
  intro C T N h
  cases h
  exact ⟨rfl, rfl, by decide +kernel⟩
theorem ff_X5_3 : FPf RX5 9 3 (.object "SnapshotVolumes$Planner") := by
  intro C T N h
  cases h
  exact ⟨rfl, rfl, by decide +kernel⟩
theorem ff_X5_4 : FPf RX5 9 4 (.object "java/lang/StringBuilder") := by
  intro C T N h
  cases h
  exact ⟨rfl, rfl, by decide +kernel⟩
abbrev dfX6 : List Value := [.null, .null, .int 0, .null, .int 0, .null, .null, .int 0, .null, .int 0, .int 0, .int 0, .int 0, .int 0, .int 0, .int 0, .long 0, .int 0, .int 0, .null, .int 0, .int 0, .null, .int 0]
theorem dfo_X6 (ty : Nat → FieldType) (h : ∀ j, j < 24 → parseFieldDescriptor (TX6 j).2.2.1 = some (ty j)) (j : Nat) (hj : j < 24) : defaultValue (ty j) = vp_V dfX6 j := by
  rw [show ty j = tyX6 j from Option.some.inj ((h j hj).symm.trans (tyX6_ok j hj))]
  rcases (show j = 0 ∨ j = 1 ∨ j = 2 ∨ j = 3 ∨ j = 4 ∨ j = 5 ∨ j = 6 ∨ j = 7 ∨ j = 8 ∨ j = 9 ∨ j = 10 ∨ j = 11 ∨ j = 12 ∨ j = 13 ∨ j = 14 ∨ j = 15 ∨ j = 16 ∨ j = 17 ∨ j = 18 ∨ j = 19 ∨ j = 20 ∨ j = 21 ∨ j = 22 ∨ j = 23 by omega) with rfl | rfl | rfl | rfl | rfl | rfl | rfl | rfl | rfl | rfl | rfl | rfl | rfl | rfl | rfl | rfl | rfl | rfl | rfl | rfl | rfl | rfl | rfl | rfl <;> rfl
theorem ib_X6 : Cond.instantiable RX6 24 ∈ lw_good := gdi 1469 (by decide +kernel) rfl
theorem ff_X6_0 : FPf RX6 10 0 (.array .int) := by
  intro C T N h
  cases h
  exact ⟨rfl, rfl, by decide +kernel⟩
theorem ff_X6_1 : FPf RX6 10 1 (.array .int) := by
  intro C T N h
  cases h
  exact ⟨rfl, rfl, by decide +kernel⟩
theorem ff_X6_5 : FPf RX6 10 5 (.array .int) := by
  intro C T N h
  cases h
  exact ⟨rfl, rfl, by decide +kernel⟩
theorem ff_X6_6 : FPf RX6 10 6 (.array .int) := by
  intro C T N h
  cases h
  exact ⟨rfl, rfl, by decide +kernel⟩
theorem ff_X6_8 : FPf RX6 10 8 (.array .byte) := by
  intro C T N h
  cases h
  exact ⟨rfl, rfl, by decide +kernel⟩
theorem ff_X6_19 : FPf RX6 10 19 (.array .int) := by
  intro C T N h
  cases h
  exact ⟨rfl, rfl, by decide +kernel⟩
theorem ff_X6_22 : FPf RX6 10 22 (.array .int) := by
  intro C T N h
  cases h
  exact ⟨rfl, rfl, by decide +kernel⟩
abbrev dfJ4 : List Value := [.null, .int 0, .int 0, .int 0]
theorem dfo_J4 (ty : Nat → FieldType) (h : ∀ j, j < 4 → parseFieldDescriptor (TJ4 j).2.2.1 = some (ty j)) (j : Nat) (hj : j < 4) : defaultValue (ty j) = vp_V dfJ4 j := by
  rw [show ty j = tyJ4 j from Option.some.inj ((h j hj).symm.trans (tyJ4_ok j hj))]
  rcases (show j = 0 ∨ j = 1 ∨ j = 2 ∨ j = 3 by omega) with rfl | rfl | rfl | rfl <;> rfl
theorem ib_J4 : Cond.instantiable RJ4 4 ∈ lw_good := gdi 310 (by decide +kernel) rfl
theorem oi_X5 : Cond.methodLink RX5 3 Lib.objectInit ∈ lw_good := gdi 127 (by decide +kernel) rfl
theorem oi_X4 : Cond.methodLink RX4 3 Lib.objectInit ∈ lw_good := gdi 135 (by decide +kernel) rfl
theorem oi_X0 : Cond.methodLink RX0 3 Lib.objectInit ∈ lw_good := gdi 141 (by decide +kernel) rfl
theorem oi_X1 : Cond.methodLink RX1 3 Lib.objectInit ∈ lw_good := gdi 233 (by decide +kernel) rfl
theorem oi_X2 : Cond.methodLink RX2 3 Lib.objectInit ∈ lw_good := gdi 253 (by decide +kernel) rfl
theorem oi_X3 : Cond.methodLink RX3 5 Lib.objectInit ∈ lw_good := gdi 296 (by decide +kernel) rfl
theorem oi_J5 : Cond.methodLink RJ5 3 Lib.objectInit ∈ lw_good := gdi 317 (by decide +kernel) rfl
theorem oi_X6 : Cond.methodLink RX6 1 Lib.objectInit ∈ lw_good := gdi 1473 (by decide +kernel) rfl
theorem ck_L_8 : Cond.classLink RL 8 RX5 ∈ lw_good := gdi 122 (by decide +kernel) rfl
theorem ck_X5_9 : Cond.classLink RX5 9 RX4 ∈ lw_good := gdi 130 (by decide +kernel) rfl
theorem ck_X4_33 : Cond.classLink RX4 33 RX0 ∈ lw_good := gdi 136 (by decide +kernel) rfl
theorem ck_X5_16 : Cond.classLink RX5 16 RX1 ∈ lw_good := gdi 228 (by decide +kernel) rfl
theorem ck_X1_9 : Cond.classLink RX1 9 RX4 ∈ lw_good := gdi 234 (by decide +kernel) rfl
theorem ck_X5_23 : Cond.classLink RX5 23 RX2 ∈ lw_good := gdi 248 (by decide +kernel) rfl
theorem ck_X2_19 : Cond.classLink RX2 19 RX4 ∈ lw_good := gdi 254 (by decide +kernel) rfl
theorem ck_X5_30 : Cond.classLink RX5 30 RX3 ∈ lw_good := gdi 291 (by decide +kernel) rfl
theorem ck_X3_19 : Cond.classLink RX3 19 "[[I" ∈ lw_good := gdi 297 (by decide +kernel) rfl
theorem ck_X5_37 : Cond.classLink RX5 37 RJ4 ∈ lw_good := gdi 309 (by decide +kernel) rfl
theorem ck_L_93 : Cond.classLink RL 93 RX6 ∈ lw_good := gdi 1468 (by decide +kernel) rfl
/-! the cells that each leaves -/
def setF : Nat → Int32 := upd (upd (fun _ => 0) 0 (nI 200)) 1 (nI 3)
def stC (D : va_G) (r : Nat → Nat) : va_W := [(r 0, .inr (8, [.int 0, .int 0, .int 0, .int 0, .int 0, .ref (r 1), .ref (r 2), .ref (r 3), .ref (r 4), .ref (r 5), .ref (r 6), .ref (r 7), .ref (r 8)])), (r 1, .inl (D.1 100, 2, .inl (setF))), (r 2, .inl (D.1 100, 16, .inl (fun _ => 0))), (r 3, .inl (D.1 100, 16, .inl (fun _ => 0))), (r 4, .inl (D.1 100, 16, .inl (fun _ => 0))), (r 5, .inl (D.1 100, 6, .inl (fun _ => 0))), (r 6, .inl (D.1 100, 6, .inl (fun _ => 0))), (r 7, .inl (D.1 100, 6, .inl (fun _ => 0))), (r 8, .inr (4, [.ref (r 9), .ref (r 10), .ref (r 11), .ref (r 12), .int 0])), (r 9, .inl (D.1 100, 264, .inl (fun _ => 0))), (r 10, .inl (D.1 100, 264, .inl (fun _ => 0))), (r 11, .inl (D.1 100, 264, .inl (fun _ => 0))), (r 12, .inl (D.1 100, 264, .inl (fun _ => 0)))]
def blC (D : va_G) (r : Nat → Nat) : va_W := [(r 0, .inr (4, [.ref (r 1), .ref (r 2), .ref (r 3), .ref (r 4), .int 0])), (r 1, .inl (D.1 100, 264, .inl (fun _ => 0))), (r 2, .inl (D.1 100, 264, .inl (fun _ => 0))), (r 3, .inl (D.1 100, 264, .inl (fun _ => 0))), (r 4, .inl (D.1 100, 264, .inl (fun _ => 0)))]
def keptF (g : Nat → Nat) : Nat → Option Nat := fun j => if j < 8 then some (g j) else none
def hiC (D : va_G) (h kp : Nat) (s : Nat → Nat → Nat) : va_W := (h, .inr (5, [.ref kp, .int 0, .int 0])) :: (kp, .inl (D.1 104, 8, .inr (.inr (.inr (.inr (keptF fun i => s i 0)))))) :: (stC D (s 0) ++ (stC D (s 1) ++ (stC D (s 2) ++ (stC D (s 3) ++ (stC D (s 4) ++ (stC D (s 5) ++ (stC D (s 6) ++ (stC D (s 7)))))))))
def ldC (D : va_G) (l t : Nat) (r : Nat → Nat) : va_W := (l, .inr (6, [.ref t, .int 0, .ref (r 0), .int (-1), .int 0, .int 0, .int 0, .int 0, .int 0, .int 0])) :: (t, .inl (D.1 101, 1000, .inl (fun _ => 0))) :: stC D r
def plC (D : va_G) (p ln bs : Nat) (r : Nat → Nat) : va_W := (p, .inr (7, [.ref ln, .int 0, .ref bs])) :: (ln, .inl (D.1 100, 16, .inl (fun _ => 0))) :: bestC D bs 17 r :: rowsC D 17 17 r
def sbC (D : va_G) (s b : Nat) : va_W := [(s, .inr (1, [.ref b, .int 0, .int 0, .int 0])), (b, .inl (D.1 102, 16, .inl (fun j => if j = 100000 then nI 16 else 0)))]
def xC (D : va_G) (x : Nat) (rs : Nat → Nat) (h kp : Nat) (s : Nat → Nat → Nat) (l t : Nat) (rl : Nat → Nat) (p ln bs : Nat) (rp : Nat → Nat) (sb by0 : Nat) : va_W := (x, .inr (9, [.ref (rs 0), .ref h, .ref l, .ref p, .ref sb])) :: (stC D rs ++ (hiC D h kp s ++ (ldC D l t rl ++ (plC D p ln bs rp ++ sbC D sb by0))))
def moC (D : va_G) (r : Nat → Nat) (f : Nat → Int32) : va_W := [(r 0, .inr (10, [.ref (r 1), .ref (r 2), .int 0, .ref (r 1), .int 0, .ref (r 3), .ref (r 4), .int 0, .ref (r 5), .int 0, .int (-1), .int 0, .int 0, .int 0, .int 0, .int 0, .long 0, .int 0, .int 0, .ref (r 6), .int 0, .int 0, .ref (r 7), .int 0])), (r 1, .inl (D.1 100, 739, .inl (f))), (r 2, .inl (D.1 100, 5912, .inl (fun _ => 0))), (r 3, .inl (D.1 100, 192, .inl (fun _ => 0))), (r 4, .inl (D.1 100, 192, .inl (fun _ => 0))), (r 5, .inl (D.1 102, 1000, .inl (fun j => if j = 100000 then nI 1000 else 0))), (r 6, .inl (D.1 100, 739, .inl (fun _ => 0))), (r 7, .inl (D.1 100, 300, .inl (fun _ => 0)))]
theorem sp_X0_init : Spec D 1 yX0_init cfX0_init [.ref a] (w0 ++ [(a, .inr (4, dfX0))]) 4 1056 (PK w0 (fun L1 => ∃ r : Nat → Nat, r 0 = a ∧ L1 = blC D r)) := by
  refine SpecI.of (by decide) rfl rfl (Nat.le_of_ble_eq_true rfl) rfl ?_
  refine E_aload0 (q := 1) dX0_init_0 rfl ?_
  refine K_objInit (q := 4) oi_X0 (by decide) (by decide) (Nat.le_of_ble_eq_true rfl) dX0_init_1 rfl ?_
  refine E_aload0 (q := 5) dX0_init_4 rfl ?_
  refine E_sipush (v := nI 264) (q := 8) dX0_init_5 (by decide) rfl ?_
  refine K_newI (q := 10) (by decide) (Nat.le_of_ble_eq_true rfl) (Nat.le_of_ble_eq_true rfl) dX0_init_8 rfl (fun a1 => ?_)
  refine K_putF (j0 := 0) (j := 0) (ty := .array .int) (L' := [(a, .inr (4, [.ref a1, .null, .null, .null, .int 0])), (a1, .inl (D.1 100, 264, .inl (fun _ => 0)))]) (q := 13) rfl rfl cl_X0 fl_X0_9 ff_X0_0 rfl rfl (Nat.le_of_ble_eq_true rfl) dX0_init_10 rfl ?_
  refine E_aload0 (q := 14) dX0_init_13 rfl ?_
  refine E_sipush (v := nI 264) (q := 17) dX0_init_14 (by decide) rfl ?_
  refine K_newI (q := 19) (by decide) (Nat.le_of_ble_eq_true rfl) (Nat.le_of_ble_eq_true rfl) dX0_init_17 rfl (fun a2 => ?_)
  refine K_putF (j0 := 0) (j := 1) (ty := .array .int) (L' := [(a, .inr (4, [.ref a1, .ref a2, .null, .null, .int 0])), (a1, .inl (D.1 100, 264, .inl (fun _ => 0))), (a2, .inl (D.1 100, 264, .inl (fun _ => 0)))]) (q := 22) rfl rfl cl_X0 fl_X0_15 ff_X0_1 rfl rfl (Nat.le_of_ble_eq_true rfl) dX0_init_19 rfl ?_
  refine E_aload0 (q := 23) dX0_init_22 rfl ?_
  refine E_sipush (v := nI 264) (q := 26) dX0_init_23 (by decide) rfl ?_
  refine K_newI (q := 28) (by decide) (Nat.le_of_ble_eq_true rfl) (Nat.le_of_ble_eq_true rfl) dX0_init_26 rfl (fun a3 => ?_)
  refine K_putF (j0 := 0) (j := 2) (ty := .array .int) (L' := [(a, .inr (4, [.ref a1, .ref a2, .ref a3, .null, .int 0])), (a1, .inl (D.1 100, 264, .inl (fun _ => 0))), (a2, .inl (D.1 100, 264, .inl (fun _ => 0))), (a3, .inl (D.1 100, 264, .inl (fun _ => 0)))]) (q := 31) rfl rfl cl_X0 fl_X0_18 ff_X0_2 rfl rfl (Nat.le_of_ble_eq_true rfl) dX0_init_28 rfl ?_
  refine E_aload0 (q := 32) dX0_init_31 rfl ?_
  refine E_sipush (v := nI 264) (q := 35) dX0_init_32 (by decide) rfl ?_
  refine K_newI (q := 37) (by decide) (Nat.le_of_ble_eq_true rfl) (Nat.le_of_ble_eq_true rfl) dX0_init_35 rfl (fun a4 => ?_)
  refine K_putF (j0 := 0) (j := 3) (ty := .array .int) (L' := [(a, .inr (4, [.ref a1, .ref a2, .ref a3, .ref a4, .int 0])), (a1, .inl (D.1 100, 264, .inl (fun _ => 0))), (a2, .inl (D.1 100, 264, .inl (fun _ => 0))), (a3, .inl (D.1 100, 264, .inl (fun _ => 0))), (a4, .inl (D.1 100, 264, .inl (fun _ => 0)))]) (q := 40) rfl rfl cl_X0 fl_X0_21 ff_X0_3 rfl rfl (Nat.le_of_ble_eq_true rfl) dX0_init_37 rfl ?_
  refine E_aload0 (q := 41) dX0_init_40 rfl ?_
  refine E_iconst (v := nI 0) (q := 42) dX0_init_41 (by decide) rfl ?_
  refine K_putO (j0 := 0) (j := 4) (ty := .int) (L' := [(a, .inr (4, [.ref a1, .ref a2, .ref a3, .ref a4, .int 0])), (a1, .inl (D.1 100, 264, .inl (fun _ => 0))), (a2, .inl (D.1 100, 264, .inl (fun _ => 0))), (a3, .inl (D.1 100, 264, .inl (fun _ => 0))), (a4, .inl (D.1 100, 264, .inl (fun _ => 0)))]) (q := 45) rfl rfl cl_X0 fl_X0_24 fp_X0_4 rfl rfl (Nat.le_of_ble_eq_true rfl) dX0_init_42 rfl ?_
  exact E_iret rfl dX0_init_45 ⟨rfl, _, ⟨fun j => [a, a1, a2, a3, a4].getD j 0, rfl, rfl⟩, rfl⟩
theorem sp_X4_resetK {r : Nat → Nat} (h0 : r 0 = a) : Spec D 1 yX4_reset cfX4_reset [.ref a] (w0 ++ [(a, .inr (8, [.int 0, .int 0, .int 0, .int 0, .int 0, .ref (r 1), .ref (r 2), .ref (r 3), .ref (r 4), .ref (r 5), .ref (r 6), .ref (r 7), .ref (r 8)])), (r 1, .inl (D.1 100, 2, .inl (fun _ => 0))), (r 2, .inl (D.1 100, 16, .inl (fun _ => 0))), (r 3, .inl (D.1 100, 16, .inl (fun _ => 0))), (r 4, .inl (D.1 100, 16, .inl (fun _ => 0))), (r 5, .inl (D.1 100, 6, .inl (fun _ => 0))), (r 6, .inl (D.1 100, 6, .inl (fun _ => 0))), (r 7, .inl (D.1 100, 6, .inl (fun _ => 0))), (r 8, .inr (4, [.ref (r 9), .ref (r 10), .ref (r 11), .ref (r 12), .int 0])), (r 9, .inl (D.1 100, 264, .inl (fun _ => 0))), (r 10, .inl (D.1 100, 264, .inl (fun _ => 0))), (r 11, .inl (D.1 100, 264, .inl (fun _ => 0))), (r 12, .inl (D.1 100, 264, .inl (fun _ => 0)))]) 0 0 (fun v w => v = none ∧ w = w0 ++ stC D r) := by
  refine Spec.of (by decide) rfl (Nat.le_of_ble_eq_true rfl) rfl ?_
  refine E_aload0 (q := 1) dX4_reset_0 rfl ?_
  refine E_iconst (v := nI 0) (q := 2) dX4_reset_1 (by decide) rfl ?_
  refine K_putO (j0 := 0) (j := 0) (ty := .int) (L' := [(a, .inr (8, [.int 0, .int 0, .int 0, .int 0, .int 0, .ref (r 1), .ref (r 2), .ref (r 3), .ref (r 4), .ref (r 5), .ref (r 6), .ref (r 7), .ref (r 8)])), (r 1, .inl (D.1 100, 2, .inl (fun _ => 0))), (r 2, .inl (D.1 100, 16, .inl (fun _ => 0))), (r 3, .inl (D.1 100, 16, .inl (fun _ => 0))), (r 4, .inl (D.1 100, 16, .inl (fun _ => 0))), (r 5, .inl (D.1 100, 6, .inl (fun _ => 0))), (r 6, .inl (D.1 100, 6, .inl (fun _ => 0))), (r 7, .inl (D.1 100, 6, .inl (fun _ => 0))), (r 8, .inr (4, [.ref (r 9), .ref (r 10), .ref (r 11), .ref (r 12), .int 0])), (r 9, .inl (D.1 100, 264, .inl (fun _ => 0))), (r 10, .inl (D.1 100, 264, .inl (fun _ => 0))), (r 11, .inl (D.1 100, 264, .inl (fun _ => 0))), (r 12, .inl (D.1 100, 264, .inl (fun _ => 0)))]) (q := 5) rfl rfl cl_X4 fl_X4_43 fp_X4_0 rfl rfl (Nat.le_of_ble_eq_true rfl) dX4_reset_2 rfl ?_
  refine E_aload0 (q := 6) dX4_reset_5 rfl ?_
  refine E_iconst (v := nI 0) (q := 7) dX4_reset_6 (by decide) rfl ?_
  refine K_putO (j0 := 0) (j := 1) (ty := .int) (L' := [(a, .inr (8, [.int 0, .int 0, .int 0, .int 0, .int 0, .ref (r 1), .ref (r 2), .ref (r 3), .ref (r 4), .ref (r 5), .ref (r 6), .ref (r 7), .ref (r 8)])), (r 1, .inl (D.1 100, 2, .inl (fun _ => 0))), (r 2, .inl (D.1 100, 16, .inl (fun _ => 0))), (r 3, .inl (D.1 100, 16, .inl (fun _ => 0))), (r 4, .inl (D.1 100, 16, .inl (fun _ => 0))), (r 5, .inl (D.1 100, 6, .inl (fun _ => 0))), (r 6, .inl (D.1 100, 6, .inl (fun _ => 0))), (r 7, .inl (D.1 100, 6, .inl (fun _ => 0))), (r 8, .inr (4, [.ref (r 9), .ref (r 10), .ref (r 11), .ref (r 12), .int 0])), (r 9, .inl (D.1 100, 264, .inl (fun _ => 0))), (r 10, .inl (D.1 100, 264, .inl (fun _ => 0))), (r 11, .inl (D.1 100, 264, .inl (fun _ => 0))), (r 12, .inl (D.1 100, 264, .inl (fun _ => 0)))]) (q := 10) rfl rfl cl_X4 fl_X4_47 fp_X4_1 rfl rfl (Nat.le_of_ble_eq_true rfl) dX4_reset_7 rfl ?_
  refine E_aload0 (q := 11) dX4_reset_10 rfl ?_
  refine E_iconst (v := nI 0) (q := 12) dX4_reset_11 (by decide) rfl ?_
  refine K_putO (j0 := 0) (j := 2) (ty := .int) (L' := [(a, .inr (8, [.int 0, .int 0, .int 0, .int 0, .int 0, .ref (r 1), .ref (r 2), .ref (r 3), .ref (r 4), .ref (r 5), .ref (r 6), .ref (r 7), .ref (r 8)])), (r 1, .inl (D.1 100, 2, .inl (fun _ => 0))), (r 2, .inl (D.1 100, 16, .inl (fun _ => 0))), (r 3, .inl (D.1 100, 16, .inl (fun _ => 0))), (r 4, .inl (D.1 100, 16, .inl (fun _ => 0))), (r 5, .inl (D.1 100, 6, .inl (fun _ => 0))), (r 6, .inl (D.1 100, 6, .inl (fun _ => 0))), (r 7, .inl (D.1 100, 6, .inl (fun _ => 0))), (r 8, .inr (4, [.ref (r 9), .ref (r 10), .ref (r 11), .ref (r 12), .int 0])), (r 9, .inl (D.1 100, 264, .inl (fun _ => 0))), (r 10, .inl (D.1 100, 264, .inl (fun _ => 0))), (r 11, .inl (D.1 100, 264, .inl (fun _ => 0))), (r 12, .inl (D.1 100, 264, .inl (fun _ => 0)))]) (q := 15) rfl rfl cl_X4 fl_X4_50 fp_X4_2 rfl rfl (Nat.le_of_ble_eq_true rfl) dX4_reset_12 rfl ?_
  refine E_aload0 (q := 16) dX4_reset_15 rfl ?_
  refine E_iconst (v := nI 0) (q := 17) dX4_reset_16 (by decide) rfl ?_
  refine K_putO (j0 := 0) (j := 3) (ty := .int) (L' := [(a, .inr (8, [.int 0, .int 0, .int 0, .int 0, .int 0, .ref (r 1), .ref (r 2), .ref (r 3), .ref (r 4), .ref (r 5), .ref (r 6), .ref (r 7), .ref (r 8)])), (r 1, .inl (D.1 100, 2, .inl (fun _ => 0))), (r 2, .inl (D.1 100, 16, .inl (fun _ => 0))), (r 3, .inl (D.1 100, 16, .inl (fun _ => 0))), (r 4, .inl (D.1 100, 16, .inl (fun _ => 0))), (r 5, .inl (D.1 100, 6, .inl (fun _ => 0))), (r 6, .inl (D.1 100, 6, .inl (fun _ => 0))), (r 7, .inl (D.1 100, 6, .inl (fun _ => 0))), (r 8, .inr (4, [.ref (r 9), .ref (r 10), .ref (r 11), .ref (r 12), .int 0])), (r 9, .inl (D.1 100, 264, .inl (fun _ => 0))), (r 10, .inl (D.1 100, 264, .inl (fun _ => 0))), (r 11, .inl (D.1 100, 264, .inl (fun _ => 0))), (r 12, .inl (D.1 100, 264, .inl (fun _ => 0)))]) (q := 20) rfl rfl cl_X4 fl_X4_53 fp_X4_3 rfl rfl (Nat.le_of_ble_eq_true rfl) dX4_reset_17 rfl ?_
  refine E_aload0 (q := 21) dX4_reset_20 rfl ?_
  refine E_iconst (v := nI 0) (q := 22) dX4_reset_21 (by decide) rfl ?_
  refine K_putO (j0 := 0) (j := 4) (ty := .int) (L' := [(a, .inr (8, [.int 0, .int 0, .int 0, .int 0, .int 0, .ref (r 1), .ref (r 2), .ref (r 3), .ref (r 4), .ref (r 5), .ref (r 6), .ref (r 7), .ref (r 8)])), (r 1, .inl (D.1 100, 2, .inl (fun _ => 0))), (r 2, .inl (D.1 100, 16, .inl (fun _ => 0))), (r 3, .inl (D.1 100, 16, .inl (fun _ => 0))), (r 4, .inl (D.1 100, 16, .inl (fun _ => 0))), (r 5, .inl (D.1 100, 6, .inl (fun _ => 0))), (r 6, .inl (D.1 100, 6, .inl (fun _ => 0))), (r 7, .inl (D.1 100, 6, .inl (fun _ => 0))), (r 8, .inr (4, [.ref (r 9), .ref (r 10), .ref (r 11), .ref (r 12), .int 0])), (r 9, .inl (D.1 100, 264, .inl (fun _ => 0))), (r 10, .inl (D.1 100, 264, .inl (fun _ => 0))), (r 11, .inl (D.1 100, 264, .inl (fun _ => 0))), (r 12, .inl (D.1 100, 264, .inl (fun _ => 0)))]) (q := 25) rfl rfl cl_X4 fl_X4_56 fp_X4_4 rfl rfl (Nat.le_of_ble_eq_true rfl) dX4_reset_22 rfl ?_
  refine E_aload0 (q := 26) dX4_reset_25 rfl ?_
  refine K_get (j0 := 0) (j := 5) (q := 29) rfl rfl cl_X4 fl_X4_9 dX4_reset_26 rfl ?_
  refine E_iconst (v := nI 0) (q := 30) dX4_reset_29 (by decide) rfl ?_
  refine E_sipush (v := nI 200) (q := 33) dX4_reset_30 (by decide) rfl ?_
  refine K_iast (j0 := 1) (L' := [(a, .inr (8, [.int 0, .int 0, .int 0, .int 0, .int 0, .ref (r 1), .ref (r 2), .ref (r 3), .ref (r 4), .ref (r 5), .ref (r 6), .ref (r 7), .ref (r 8)])), (r 1, .inl (D.1 100, 2, .inl (upd (fun _ => 0) 0 (nI 200)))), (r 2, .inl (D.1 100, 16, .inl (fun _ => 0))), (r 3, .inl (D.1 100, 16, .inl (fun _ => 0))), (r 4, .inl (D.1 100, 16, .inl (fun _ => 0))), (r 5, .inl (D.1 100, 6, .inl (fun _ => 0))), (r 6, .inl (D.1 100, 6, .inl (fun _ => 0))), (r 7, .inl (D.1 100, 6, .inl (fun _ => 0))), (r 8, .inr (4, [.ref (r 9), .ref (r 10), .ref (r 11), .ref (r 12), .int 0])), (r 9, .inl (D.1 100, 264, .inl (fun _ => 0))), (r 10, .inl (D.1 100, 264, .inl (fun _ => 0))), (r 11, .inl (D.1 100, 264, .inl (fun _ => 0))), (r 12, .inl (D.1 100, 264, .inl (fun _ => 0)))]) (q := 34) rfl rfl (by decide) (by decide) dX4_reset_33 rfl ?_
  refine E_aload0 (q := 35) dX4_reset_34 rfl ?_
  refine K_get (j0 := 0) (j := 5) (q := 38) rfl rfl cl_X4 fl_X4_9 dX4_reset_35 rfl ?_
  refine E_iconst (v := nI 1) (q := 39) dX4_reset_38 (by decide) rfl ?_
  refine E_iconst (v := nI 3) (q := 40) dX4_reset_39 (by decide) rfl ?_
  refine K_iast (j0 := 1) (L' := [(a, .inr (8, [.int 0, .int 0, .int 0, .int 0, .int 0, .ref (r 1), .ref (r 2), .ref (r 3), .ref (r 4), .ref (r 5), .ref (r 6), .ref (r 7), .ref (r 8)])), (r 1, .inl (D.1 100, 2, .inl (upd (upd (fun _ => 0) 0 (nI 200)) 1 (nI 3)))), (r 2, .inl (D.1 100, 16, .inl (fun _ => 0))), (r 3, .inl (D.1 100, 16, .inl (fun _ => 0))), (r 4, .inl (D.1 100, 16, .inl (fun _ => 0))), (r 5, .inl (D.1 100, 6, .inl (fun _ => 0))), (r 6, .inl (D.1 100, 6, .inl (fun _ => 0))), (r 7, .inl (D.1 100, 6, .inl (fun _ => 0))), (r 8, .inr (4, [.ref (r 9), .ref (r 10), .ref (r 11), .ref (r 12), .int 0])), (r 9, .inl (D.1 100, 264, .inl (fun _ => 0))), (r 10, .inl (D.1 100, 264, .inl (fun _ => 0))), (r 11, .inl (D.1 100, 264, .inl (fun _ => 0))), (r 12, .inl (D.1 100, 264, .inl (fun _ => 0)))]) (q := 41) rfl rfl (by decide) (by decide) dX4_reset_40 rfl ?_
  refine E_aload0 (q := 42) dX4_reset_41 rfl ?_
  refine K_get (j0 := 0) (j := 12) (q := 45) rfl rfl cl_X4 fl_X4_36 dX4_reset_42 rfl ?_
  refine E_iconst (v := nI 0) (q := 46) dX4_reset_45 (by decide) rfl ?_
  refine K_putO (j0 := 8) (j := 4) (ty := .int) (L' := [(a, .inr (8, [.int 0, .int 0, .int 0, .int 0, .int 0, .ref (r 1), .ref (r 2), .ref (r 3), .ref (r 4), .ref (r 5), .ref (r 6), .ref (r 7), .ref (r 8)])), (r 1, .inl (D.1 100, 2, .inl (upd (upd (fun _ => 0) 0 (nI 200)) 1 (nI 3)))), (r 2, .inl (D.1 100, 16, .inl (fun _ => 0))), (r 3, .inl (D.1 100, 16, .inl (fun _ => 0))), (r 4, .inl (D.1 100, 16, .inl (fun _ => 0))), (r 5, .inl (D.1 100, 6, .inl (fun _ => 0))), (r 6, .inl (D.1 100, 6, .inl (fun _ => 0))), (r 7, .inl (D.1 100, 6, .inl (fun _ => 0))), (r 8, .inr (4, [.ref (r 9), .ref (r 10), .ref (r 11), .ref (r 12), .int 0])), (r 9, .inl (D.1 100, 264, .inl (fun _ => 0))), (r 10, .inl (D.1 100, 264, .inl (fun _ => 0))), (r 11, .inl (D.1 100, 264, .inl (fun _ => 0))), (r 12, .inl (D.1 100, 264, .inl (fun _ => 0)))]) (q := 49) rfl rfl cl_X0 fl_X4_59 fp_X0_4 rfl rfl (Nat.le_of_ble_eq_true rfl) dX4_reset_46 rfl ?_
  exact E_vreturn rfl rfl dX4_reset_49 ⟨rfl, by subst h0; rfl⟩
theorem sp_X4_init : Spec D 3 yX4_init cfX4_init [.ref a] (w0 ++ [(a, .inr (8, dfX4))]) 12 1129 (PK w0 (fun L1 => ∃ r : Nat → Nat, r 0 = a ∧ L1 = stC D r)) := by
  refine SpecI.of (by decide) rfl rfl (Nat.le_of_ble_eq_true rfl) rfl ?_
  refine E_aload0 (q := 1) dX4_init_0 rfl ?_
  refine K_objInit (q := 4) oi_X4 (by decide) (by decide) (Nat.le_of_ble_eq_true rfl) dX4_init_1 rfl ?_
  refine E_aload0 (q := 5) dX4_init_4 rfl ?_
  refine E_iconst (v := nI 2) (q := 6) dX4_init_5 (by decide) rfl ?_
  refine K_newI (q := 8) (by decide) (Nat.le_of_ble_eq_true rfl) (Nat.le_of_ble_eq_true rfl) dX4_init_6 rfl (fun a1 => ?_)
  refine K_putF (j0 := 0) (j := 5) (ty := .array .int) (L' := [(a, .inr (8, [.int 0, .int 0, .int 0, .int 0, .int 0, .ref a1, .null, .null, .null, .null, .null, .null, .null])), (a1, .inl (D.1 100, 2, .inl (fun _ => 0)))]) (q := 11) rfl rfl cl_X4 fl_X4_9 ff_X4_5 rfl rfl (Nat.le_of_ble_eq_true rfl) dX4_init_8 rfl ?_
  refine E_aload0 (q := 12) dX4_init_11 rfl ?_
  refine E_bipush (v := nI 16) (q := 14) dX4_init_12 (by decide) rfl ?_
  refine K_newI (q := 16) (by decide) (Nat.le_of_ble_eq_true rfl) (Nat.le_of_ble_eq_true rfl) dX4_init_14 rfl (fun a2 => ?_)
  refine K_putF (j0 := 0) (j := 6) (ty := .array .int) (L' := [(a, .inr (8, [.int 0, .int 0, .int 0, .int 0, .int 0, .ref a1, .ref a2, .null, .null, .null, .null, .null, .null])), (a1, .inl (D.1 100, 2, .inl (fun _ => 0))), (a2, .inl (D.1 100, 16, .inl (fun _ => 0)))]) (q := 19) rfl rfl cl_X4 fl_X4_15 ff_X4_6 rfl rfl (Nat.le_of_ble_eq_true rfl) dX4_init_16 rfl ?_
  refine E_aload0 (q := 20) dX4_init_19 rfl ?_
  refine E_bipush (v := nI 16) (q := 22) dX4_init_20 (by decide) rfl ?_
  refine K_newI (q := 24) (by decide) (Nat.le_of_ble_eq_true rfl) (Nat.le_of_ble_eq_true rfl) dX4_init_22 rfl (fun a3 => ?_)
  refine K_putF (j0 := 0) (j := 7) (ty := .array .int) (L' := [(a, .inr (8, [.int 0, .int 0, .int 0, .int 0, .int 0, .ref a1, .ref a2, .ref a3, .null, .null, .null, .null, .null])), (a1, .inl (D.1 100, 2, .inl (fun _ => 0))), (a2, .inl (D.1 100, 16, .inl (fun _ => 0))), (a3, .inl (D.1 100, 16, .inl (fun _ => 0)))]) (q := 27) rfl rfl cl_X4 fl_X4_18 ff_X4_7 rfl rfl (Nat.le_of_ble_eq_true rfl) dX4_init_24 rfl ?_
  refine E_aload0 (q := 28) dX4_init_27 rfl ?_
  refine E_bipush (v := nI 16) (q := 30) dX4_init_28 (by decide) rfl ?_
  refine K_newI (q := 32) (by decide) (Nat.le_of_ble_eq_true rfl) (Nat.le_of_ble_eq_true rfl) dX4_init_30 rfl (fun a4 => ?_)
  refine K_putF (j0 := 0) (j := 8) (ty := .array .int) (L' := [(a, .inr (8, [.int 0, .int 0, .int 0, .int 0, .int 0, .ref a1, .ref a2, .ref a3, .ref a4, .null, .null, .null, .null])), (a1, .inl (D.1 100, 2, .inl (fun _ => 0))), (a2, .inl (D.1 100, 16, .inl (fun _ => 0))), (a3, .inl (D.1 100, 16, .inl (fun _ => 0))), (a4, .inl (D.1 100, 16, .inl (fun _ => 0)))]) (q := 35) rfl rfl cl_X4 fl_X4_21 ff_X4_8 rfl rfl (Nat.le_of_ble_eq_true rfl) dX4_init_32 rfl ?_
  refine E_aload0 (q := 36) dX4_init_35 rfl ?_
  refine E_bipush (v := nI 6) (q := 38) dX4_init_36 (by decide) rfl ?_
  refine K_newI (q := 40) (by decide) (Nat.le_of_ble_eq_true rfl) (Nat.le_of_ble_eq_true rfl) dX4_init_38 rfl (fun a5 => ?_)
  refine K_putF (j0 := 0) (j := 9) (ty := .array .int) (L' := [(a, .inr (8, [.int 0, .int 0, .int 0, .int 0, .int 0, .ref a1, .ref a2, .ref a3, .ref a4, .ref a5, .null, .null, .null])), (a1, .inl (D.1 100, 2, .inl (fun _ => 0))), (a2, .inl (D.1 100, 16, .inl (fun _ => 0))), (a3, .inl (D.1 100, 16, .inl (fun _ => 0))), (a4, .inl (D.1 100, 16, .inl (fun _ => 0))), (a5, .inl (D.1 100, 6, .inl (fun _ => 0)))]) (q := 43) rfl rfl cl_X4 fl_X4_24 ff_X4_9 rfl rfl (Nat.le_of_ble_eq_true rfl) dX4_init_40 rfl ?_
  refine E_aload0 (q := 44) dX4_init_43 rfl ?_
  refine E_bipush (v := nI 6) (q := 46) dX4_init_44 (by decide) rfl ?_
  refine K_newI (q := 48) (by decide) (Nat.le_of_ble_eq_true rfl) (Nat.le_of_ble_eq_true rfl) dX4_init_46 rfl (fun a6 => ?_)
  refine K_putF (j0 := 0) (j := 10) (ty := .array .int) (L' := [(a, .inr (8, [.int 0, .int 0, .int 0, .int 0, .int 0, .ref a1, .ref a2, .ref a3, .ref a4, .ref a5, .ref a6, .null, .null])), (a1, .inl (D.1 100, 2, .inl (fun _ => 0))), (a2, .inl (D.1 100, 16, .inl (fun _ => 0))), (a3, .inl (D.1 100, 16, .inl (fun _ => 0))), (a4, .inl (D.1 100, 16, .inl (fun _ => 0))), (a5, .inl (D.1 100, 6, .inl (fun _ => 0))), (a6, .inl (D.1 100, 6, .inl (fun _ => 0)))]) (q := 51) rfl rfl cl_X4 fl_X4_27 ff_X4_10 rfl rfl (Nat.le_of_ble_eq_true rfl) dX4_init_48 rfl ?_
  refine E_aload0 (q := 52) dX4_init_51 rfl ?_
  refine E_bipush (v := nI 6) (q := 54) dX4_init_52 (by decide) rfl ?_
  refine K_newI (q := 56) (by decide) (Nat.le_of_ble_eq_true rfl) (Nat.le_of_ble_eq_true rfl) dX4_init_54 rfl (fun a7 => ?_)
  refine K_putF (j0 := 0) (j := 11) (ty := .array .int) (L' := [(a, .inr (8, [.int 0, .int 0, .int 0, .int 0, .int 0, .ref a1, .ref a2, .ref a3, .ref a4, .ref a5, .ref a6, .ref a7, .null])), (a1, .inl (D.1 100, 2, .inl (fun _ => 0))), (a2, .inl (D.1 100, 16, .inl (fun _ => 0))), (a3, .inl (D.1 100, 16, .inl (fun _ => 0))), (a4, .inl (D.1 100, 16, .inl (fun _ => 0))), (a5, .inl (D.1 100, 6, .inl (fun _ => 0))), (a6, .inl (D.1 100, 6, .inl (fun _ => 0))), (a7, .inl (D.1 100, 6, .inl (fun _ => 0)))]) (q := 59) rfl rfl cl_X4 fl_X4_30 ff_X4_11 rfl rfl (Nat.le_of_ble_eq_true rfl) dX4_init_56 rfl ?_
  refine E_aload0 (q := 60) dX4_init_59 rfl ?_
  refine K_newO (ci := 4) (N := 5) (Cn := RX0) (T := TX0) (fs := dfX0) (q := 63) rfl cl_X0 ck_X4_33 ib_X0 in_X0 dfo_X0 (Nat.le_of_ble_eq_true rfl) (Nat.le_of_ble_eq_true rfl) dX4_init_60 rfl (fun a8 => ?_)
  refine E_dup (q := 64) dX4_init_63 rfl rfl ?_
  refine K_callIN (q := 67) (ar := []) (rest := [.ref a8, .ref a]) lk_X4_35 (sp_X0_init) ⟨by decide, by decide⟩ (Nat.le_of_ble_eq_true rfl) (Nat.le_of_ble_eq_true rfl) (Nat.le_of_ble_eq_true rfl) dX4_init_64 rfl rfl ?_
  rintro _ ⟨r1, h1, rfl⟩
  subst h1
  refine K_putF (j0 := 0) (j := 12) (ty := .object "SnapshotVolumes$Blocks") (L' := (a, .inr (8, [.int 0, .int 0, .int 0, .int 0, .int 0, .ref a1, .ref a2, .ref a3, .ref a4, .ref a5, .ref a6, .ref a7, .ref (r1 0)])) :: (a1, .inl (D.1 100, 2, .inl (fun _ => 0))) :: (a2, .inl (D.1 100, 16, .inl (fun _ => 0))) :: (a3, .inl (D.1 100, 16, .inl (fun _ => 0))) :: (a4, .inl (D.1 100, 16, .inl (fun _ => 0))) :: (a5, .inl (D.1 100, 6, .inl (fun _ => 0))) :: (a6, .inl (D.1 100, 6, .inl (fun _ => 0))) :: (a7, .inl (D.1 100, 6, .inl (fun _ => 0))) :: blC D r1) (q := 70) rfl rfl cl_X4 fl_X4_36 ff_X4_12 rfl rfl (Nat.le_of_ble_eq_true rfl) dX4_init_67 rfl ?_
  refine E_aload0 (q := 71) dX4_init_70 rfl ?_
  refine E_callVR (q := 74) (ar := []) (rest := []) (b := a) lk_X4_40 (sp_X4_resetK (a := a) (w0 := w0) (r := fun j => [a, a1, a2, a3, a4, a5, a6, a7, r1 0, r1 1, r1 2, r1 3, r1 4].getD j 0) rfl) ⟨w0.length, 8, _, TX4, 13, mk_get (j := 0) rfl, rfl⟩ ⟨by decide, by decide⟩ (Nat.le_of_ble_eq_true rfl) (Nat.le_of_ble_eq_true rfl) (Nat.le_of_ble_eq_true rfl) dX4_init_71 rfl rfl ?_
  rintro v w ⟨rfl, rfl⟩
  exact E_iret rfl dX4_init_74 ⟨rfl, _, ⟨fun j => [a, a1, a2, a3, a4, a5, a6, a7, r1 0, r1 1, r1 2, r1 3, r1 4].getD j 0, rfl, rfl⟩, rfl⟩
theorem kept_fn {g : Nat → Nat} : va_up (va_up (va_up (va_up (va_up (va_up (va_up (va_up (fun _ => none) 0 (some (g 0))) 1 (some (g 1))) 2 (some (g 2))) 3 (some (g 3))) 4 (some (g 4))) 5 (some (g 5))) 6 (some (g 6))) 7 (some (g 7)) = keptF g := by
  funext j
  unfold va_up keptF
  by_cases h : j < 8
  · rw [if_pos h]
    rcases (show j = 0 ∨ j = 1 ∨ j = 2 ∨ j = 3 ∨ j = 4 ∨ j = 5 ∨ j = 6 ∨ j = 7 by omega) with rfl | rfl | rfl | rfl | rfl | rfl | rfl | rfl <;> rfl
  · rw [if_neg h, if_neg (by omega), if_neg (by omega), if_neg (by omega), if_neg (by omega), if_neg (by omega), if_neg (by omega), if_neg (by omega), if_neg (by omega)]
theorem kept_eq {h kp : Nat} {g : Nat → Nat} {o : va_E} {f : Nat → Option Nat} {X Y : va_W} (hf : f = va_up (va_up (va_up (va_up (va_up (va_up (va_up (va_up (fun _ => none) 0 (some (g 0))) 1 (some (g 1))) 2 (some (g 2))) 3 (some (g 3))) 4 (some (g 4))) 5 (some (g 5))) 6 (some (g 6))) 7 (some (g 7))) (hX : X = Y) : (h, o) :: (kp, .inl (D.1 104, 8, .inr (.inr (.inr (.inr f))))) :: X = (h, o) :: (kp, .inl (D.1 104, 8, .inr (.inr (.inr (.inr (keptF g)))))) :: Y := by
  rw [hf, kept_fn, hX]
theorem sp_X1_init : SpecG D 5 yX1_init cfX1_init GAO [.ref a] (w0 ++ [(a, .inr (5, dfX1))]) 105 9144 (PK w0 (fun L1 => ∃ (kp : Nat) (s : Nat → Nat → Nat), L1 = hiC D a kp s)) := by
  refine SpecIG.of (by decide) rfl rfl (Nat.le_of_ble_eq_true rfl) rfl ?_
  refine E_aload0 (q := 1) dX1_init_0 rfl ?_
  refine K_objInit (q := 4) oi_X1 (by decide) (by decide) (Nat.le_of_ble_eq_true rfl) dX1_init_1 rfl ?_
  refine E_aload0 (q := 5) dX1_init_4 rfl ?_
  refine E_bipush (v := nI 8) (q := 7) dX1_init_5 (by decide) rfl ?_
  refine K_newS (q := 10) ck_X1_9 (by decide) (Nat.le_of_ble_eq_true rfl) (Nat.le_of_ble_eq_true rfl) dX1_init_7 rfl (fun a1 => ?_)
  refine K_putF (j0 := 0) (j := 0) (ty := .array (.object "SnapshotVolumes$Store")) (L' := [(a, .inr (5, [.ref a1, .int 0, .int 0])), (a1, .inl (D.1 104, 8, .inr (.inr (.inr (.inr (fun _ => none))))))]) (q := 13) rfl rfl cl_X1 fl_X1_11 ff_X1_0 rfl rfl (Nat.le_of_ble_eq_true rfl) dX1_init_10 rfl ?_
  refine E_aload0 (q := 14) dX1_init_13 rfl ?_
  refine E_iconst (v := nI 0) (q := 15) dX1_init_14 (by decide) rfl ?_
  refine K_putO (j0 := 0) (j := 1) (ty := .int) (L' := [(a, .inr (5, [.ref a1, .int 0, .int 0])), (a1, .inl (D.1 104, 8, .inr (.inr (.inr (.inr (fun _ => none))))))]) (q := 18) rfl rfl cl_X1 fl_X1_17 fp_X1_1 rfl rfl (Nat.le_of_ble_eq_true rfl) dX1_init_15 rfl ?_
  refine E_aload0 (q := 19) dX1_init_18 rfl ?_
  refine E_iconst (v := nI 0) (q := 20) dX1_init_19 (by decide) rfl ?_
  refine K_putO (j0 := 0) (j := 2) (ty := .int) (L' := [(a, .inr (5, [.ref a1, .int 0, .int 0])), (a1, .inl (D.1 104, 8, .inr (.inr (.inr (.inr (fun _ => none))))))]) (q := 23) rfl rfl cl_X1 fl_X1_21 fp_X1_2 rfl rfl (Nat.le_of_ble_eq_true rfl) dX1_init_20 rfl ?_
  refine E_iconst (v := nI 0) (q := 24) dX1_init_23 (by decide) rfl ?_
  refine E_istore1 (q := 25) dX1_init_24 rfl rfl ?_
  refine E_iload1 (q := 26) dX1_init_25 rfl ?_
  refine E_bipush (v := nI 8) (q := 28) dX1_init_26 (by decide) rfl ?_
  refine E_icmp_geN (tgt := 50) (q := 31) dX1_init_28 (by decide) rfl (by omega) (by omega) (fun h => absurd h (by decide)) (fun _ => ?_)
  refine E_aload0 (q := 32) dX1_init_31 rfl ?_
  refine K_get (j0 := 0) (j := 0) (q := 35) rfl rfl cl_X1 fl_X1_11 dX1_init_32 rfl ?_
  refine E_iload1 (q := 36) dX1_init_35 rfl ?_
  refine K_newO (ci := 8) (N := 13) (Cn := RX4) (T := TX4) (fs := dfX4) (q := 39) rfl cl_X4 ck_X1_9 ib_X4 in_X4 dfo_X4 (Nat.le_of_ble_eq_true rfl) (Nat.le_of_ble_eq_true rfl) dX1_init_36 rfl (fun a2 => ?_)
  refine E_dup (q := 40) dX1_init_39 rfl rfl ?_
  refine K_callI (q := 43) (ar := []) (rest := [.ref a2, .int (nI 0), .ref a1]) lk_X1_24 (sp_X4_init) ⟨by decide, by decide⟩ (Nat.le_of_ble_eq_true rfl) (Nat.le_of_ble_eq_true rfl) (Nat.le_of_ble_eq_true rfl) dX1_init_40 rfl rfl ?_
  rintro _ ⟨r2, h2, rfl⟩
  subst h2
  refine K_aast (j0 := 1) (jv := 2) (L' := (a, .inr (5, [.ref a1, .int 0, .int 0])) :: (a1, .inl (D.1 104, 8, .inr (.inr (.inr (.inr (va_up (fun _ => none) 0 (some (r2 0)))))))) :: stC D r2) (q := 44) rfl rfl rfl (by decide) (by decide) dX1_init_43 rfl ?_
  refine E_iinc1 (v := nI 1) (q := 47) dX1_init_44 (by decide) rfl rfl ?_
  refine E_goto (q := 25) dX1_init_47 (by decide) ?_
  refine E_iload1 (q := 26) dX1_init_25 rfl ?_
  refine E_bipush (v := nI 8) (q := 28) dX1_init_26 (by decide) rfl ?_
  refine E_icmp_geN (tgt := 50) (q := 31) dX1_init_28 (by decide) rfl (by omega) (by omega) (fun h => absurd h (by decide)) (fun _ => ?_)
  refine E_aload0 (q := 32) dX1_init_31 rfl ?_
  refine K_get (j0 := 0) (j := 0) (q := 35) rfl rfl cl_X1 fl_X1_11 dX1_init_32 rfl ?_
  refine E_iload1 (q := 36) dX1_init_35 rfl ?_
  refine K_newO (ci := 8) (N := 13) (Cn := RX4) (T := TX4) (fs := dfX4) (q := 39) rfl cl_X4 ck_X1_9 ib_X4 in_X4 dfo_X4 (Nat.le_of_ble_eq_true rfl) (Nat.le_of_ble_eq_true rfl) dX1_init_36 rfl (fun a3 => ?_)
  refine E_dup (q := 40) dX1_init_39 rfl rfl ?_
  refine K_callI (q := 43) (ar := []) (rest := [.ref a3, .int (nI 1), .ref a1]) lk_X1_24 (sp_X4_init) ⟨by decide, by decide⟩ (Nat.le_of_ble_eq_true rfl) (Nat.le_of_ble_eq_true rfl) (Nat.le_of_ble_eq_true rfl) dX1_init_40 rfl rfl ?_
  rintro _ ⟨r3, h3, rfl⟩
  subst h3
  refine K_aast (j0 := 1) (jv := 15) (L' := (a, .inr (5, [.ref a1, .int 0, .int 0])) :: (a1, .inl (D.1 104, 8, .inr (.inr (.inr (.inr (va_up (va_up (fun _ => none) 0 (some (r2 0))) 1 (some (r3 0)))))))) :: (stC D r2 ++ (stC D r3))) (q := 44) rfl rfl rfl (by decide) (by decide) dX1_init_43 rfl ?_
  refine E_iinc1 (v := nI 2) (q := 47) dX1_init_44 (by decide) rfl rfl ?_
  refine E_goto (q := 25) dX1_init_47 (by decide) ?_
  refine E_iload1 (q := 26) dX1_init_25 rfl ?_
  refine E_bipush (v := nI 8) (q := 28) dX1_init_26 (by decide) rfl ?_
  refine E_icmp_geN (tgt := 50) (q := 31) dX1_init_28 (by decide) rfl (by omega) (by omega) (fun h => absurd h (by decide)) (fun _ => ?_)
  refine E_aload0 (q := 32) dX1_init_31 rfl ?_
  refine K_get (j0 := 0) (j := 0) (q := 35) rfl rfl cl_X1 fl_X1_11 dX1_init_32 rfl ?_
  refine E_iload1 (q := 36) dX1_init_35 rfl ?_
  refine K_newO (ci := 8) (N := 13) (Cn := RX4) (T := TX4) (fs := dfX4) (q := 39) rfl cl_X4 ck_X1_9 ib_X4 in_X4 dfo_X4 (Nat.le_of_ble_eq_true rfl) (Nat.le_of_ble_eq_true rfl) dX1_init_36 rfl (fun a4 => ?_)
  refine E_dup (q := 40) dX1_init_39 rfl rfl ?_
  refine K_callI (q := 43) (ar := []) (rest := [.ref a4, .int (nI 2), .ref a1]) lk_X1_24 (sp_X4_init) ⟨by decide, by decide⟩ (Nat.le_of_ble_eq_true rfl) (Nat.le_of_ble_eq_true rfl) (Nat.le_of_ble_eq_true rfl) dX1_init_40 rfl rfl ?_
  rintro _ ⟨r4, h4, rfl⟩
  subst h4
  refine K_aast (j0 := 1) (jv := 28) (L' := (a, .inr (5, [.ref a1, .int 0, .int 0])) :: (a1, .inl (D.1 104, 8, .inr (.inr (.inr (.inr (va_up (va_up (va_up (fun _ => none) 0 (some (r2 0))) 1 (some (r3 0))) 2 (some (r4 0)))))))) :: (stC D r2 ++ ((stC D r3 ++ (stC D r4))))) (q := 44) rfl rfl rfl (by decide) (by decide) dX1_init_43 rfl ?_
  refine E_iinc1 (v := nI 3) (q := 47) dX1_init_44 (by decide) rfl rfl ?_
  refine E_goto (q := 25) dX1_init_47 (by decide) ?_
  refine E_iload1 (q := 26) dX1_init_25 rfl ?_
  refine E_bipush (v := nI 8) (q := 28) dX1_init_26 (by decide) rfl ?_
  refine E_icmp_geN (tgt := 50) (q := 31) dX1_init_28 (by decide) rfl (by omega) (by omega) (fun h => absurd h (by decide)) (fun _ => ?_)
  refine E_aload0 (q := 32) dX1_init_31 rfl ?_
  refine K_get (j0 := 0) (j := 0) (q := 35) rfl rfl cl_X1 fl_X1_11 dX1_init_32 rfl ?_
  refine E_iload1 (q := 36) dX1_init_35 rfl ?_
  refine K_newO (ci := 8) (N := 13) (Cn := RX4) (T := TX4) (fs := dfX4) (q := 39) rfl cl_X4 ck_X1_9 ib_X4 in_X4 dfo_X4 (Nat.le_of_ble_eq_true rfl) (Nat.le_of_ble_eq_true rfl) dX1_init_36 rfl (fun a5 => ?_)
  refine E_dup (q := 40) dX1_init_39 rfl rfl ?_
  refine K_callI (q := 43) (ar := []) (rest := [.ref a5, .int (nI 3), .ref a1]) lk_X1_24 (sp_X4_init) ⟨by decide, by decide⟩ (Nat.le_of_ble_eq_true rfl) (Nat.le_of_ble_eq_true rfl) (Nat.le_of_ble_eq_true rfl) dX1_init_40 rfl rfl ?_
  rintro _ ⟨r5, h5, rfl⟩
  subst h5
  refine K_aast (j0 := 1) (jv := 41) (L' := (a, .inr (5, [.ref a1, .int 0, .int 0])) :: (a1, .inl (D.1 104, 8, .inr (.inr (.inr (.inr (va_up (va_up (va_up (va_up (fun _ => none) 0 (some (r2 0))) 1 (some (r3 0))) 2 (some (r4 0))) 3 (some (r5 0)))))))) :: (stC D r2 ++ ((stC D r3 ++ ((stC D r4 ++ (stC D r5))))))) (q := 44) rfl rfl rfl (by decide) (by decide) dX1_init_43 rfl ?_
  refine E_iinc1 (v := nI 4) (q := 47) dX1_init_44 (by decide) rfl rfl ?_
  refine E_goto (q := 25) dX1_init_47 (by decide) ?_
  refine E_iload1 (q := 26) dX1_init_25 rfl ?_
  refine E_bipush (v := nI 8) (q := 28) dX1_init_26 (by decide) rfl ?_
  refine E_icmp_geN (tgt := 50) (q := 31) dX1_init_28 (by decide) rfl (by omega) (by omega) (fun h => absurd h (by decide)) (fun _ => ?_)
  refine E_aload0 (q := 32) dX1_init_31 rfl ?_
  refine K_get (j0 := 0) (j := 0) (q := 35) rfl rfl cl_X1 fl_X1_11 dX1_init_32 rfl ?_
  refine E_iload1 (q := 36) dX1_init_35 rfl ?_
  refine K_newO (ci := 8) (N := 13) (Cn := RX4) (T := TX4) (fs := dfX4) (q := 39) rfl cl_X4 ck_X1_9 ib_X4 in_X4 dfo_X4 (Nat.le_of_ble_eq_true rfl) (Nat.le_of_ble_eq_true rfl) dX1_init_36 rfl (fun a6 => ?_)
  refine E_dup (q := 40) dX1_init_39 rfl rfl ?_
  refine K_callI (q := 43) (ar := []) (rest := [.ref a6, .int (nI 4), .ref a1]) lk_X1_24 (sp_X4_init) ⟨by decide, by decide⟩ (Nat.le_of_ble_eq_true rfl) (Nat.le_of_ble_eq_true rfl) (Nat.le_of_ble_eq_true rfl) dX1_init_40 rfl rfl ?_
  rintro _ ⟨r6, h6, rfl⟩
  subst h6
  refine K_aast (j0 := 1) (jv := 54) (L' := (a, .inr (5, [.ref a1, .int 0, .int 0])) :: (a1, .inl (D.1 104, 8, .inr (.inr (.inr (.inr (va_up (va_up (va_up (va_up (va_up (fun _ => none) 0 (some (r2 0))) 1 (some (r3 0))) 2 (some (r4 0))) 3 (some (r5 0))) 4 (some (r6 0)))))))) :: (stC D r2 ++ ((stC D r3 ++ ((stC D r4 ++ ((stC D r5 ++ (stC D r6))))))))) (q := 44) rfl rfl rfl (by decide) (by decide) dX1_init_43 rfl ?_
  refine E_iinc1 (v := nI 5) (q := 47) dX1_init_44 (by decide) rfl rfl ?_
  refine E_goto (q := 25) dX1_init_47 (by decide) ?_
  refine E_iload1 (q := 26) dX1_init_25 rfl ?_
  refine E_bipush (v := nI 8) (q := 28) dX1_init_26 (by decide) rfl ?_
  refine E_icmp_geN (tgt := 50) (q := 31) dX1_init_28 (by decide) rfl (by omega) (by omega) (fun h => absurd h (by decide)) (fun _ => ?_)
  refine E_aload0 (q := 32) dX1_init_31 rfl ?_
  refine K_get (j0 := 0) (j := 0) (q := 35) rfl rfl cl_X1 fl_X1_11 dX1_init_32 rfl ?_
  refine E_iload1 (q := 36) dX1_init_35 rfl ?_
  refine K_newO (ci := 8) (N := 13) (Cn := RX4) (T := TX4) (fs := dfX4) (q := 39) rfl cl_X4 ck_X1_9 ib_X4 in_X4 dfo_X4 (Nat.le_of_ble_eq_true rfl) (Nat.le_of_ble_eq_true rfl) dX1_init_36 rfl (fun a7 => ?_)
  refine E_dup (q := 40) dX1_init_39 rfl rfl ?_
  refine K_callI (q := 43) (ar := []) (rest := [.ref a7, .int (nI 5), .ref a1]) lk_X1_24 (sp_X4_init) ⟨by decide, by decide⟩ (Nat.le_of_ble_eq_true rfl) (Nat.le_of_ble_eq_true rfl) (Nat.le_of_ble_eq_true rfl) dX1_init_40 rfl rfl ?_
  rintro _ ⟨r7, h7, rfl⟩
  subst h7
  refine K_aast (j0 := 1) (jv := 67) (L' := (a, .inr (5, [.ref a1, .int 0, .int 0])) :: (a1, .inl (D.1 104, 8, .inr (.inr (.inr (.inr (va_up (va_up (va_up (va_up (va_up (va_up (fun _ => none) 0 (some (r2 0))) 1 (some (r3 0))) 2 (some (r4 0))) 3 (some (r5 0))) 4 (some (r6 0))) 5 (some (r7 0)))))))) :: (stC D r2 ++ ((stC D r3 ++ ((stC D r4 ++ ((stC D r5 ++ ((stC D r6 ++ (stC D r7))))))))))) (q := 44) rfl rfl rfl (by decide) (by decide) dX1_init_43 rfl ?_
  refine E_iinc1 (v := nI 6) (q := 47) dX1_init_44 (by decide) rfl rfl ?_
  refine E_goto (q := 25) dX1_init_47 (by decide) ?_
  refine E_iload1 (q := 26) dX1_init_25 rfl ?_
  refine E_bipush (v := nI 8) (q := 28) dX1_init_26 (by decide) rfl ?_
  refine E_icmp_geN (tgt := 50) (q := 31) dX1_init_28 (by decide) rfl (by omega) (by omega) (fun h => absurd h (by decide)) (fun _ => ?_)
  refine E_aload0 (q := 32) dX1_init_31 rfl ?_
  refine K_get (j0 := 0) (j := 0) (q := 35) rfl rfl cl_X1 fl_X1_11 dX1_init_32 rfl ?_
  refine E_iload1 (q := 36) dX1_init_35 rfl ?_
  refine K_newO (ci := 8) (N := 13) (Cn := RX4) (T := TX4) (fs := dfX4) (q := 39) rfl cl_X4 ck_X1_9 ib_X4 in_X4 dfo_X4 (Nat.le_of_ble_eq_true rfl) (Nat.le_of_ble_eq_true rfl) dX1_init_36 rfl (fun a8 => ?_)
  refine E_dup (q := 40) dX1_init_39 rfl rfl ?_
  refine K_callI (q := 43) (ar := []) (rest := [.ref a8, .int (nI 6), .ref a1]) lk_X1_24 (sp_X4_init) ⟨by decide, by decide⟩ (Nat.le_of_ble_eq_true rfl) (Nat.le_of_ble_eq_true rfl) (Nat.le_of_ble_eq_true rfl) dX1_init_40 rfl rfl ?_
  rintro _ ⟨r8, h8, rfl⟩
  subst h8
  refine K_aast (j0 := 1) (jv := 80) (L' := (a, .inr (5, [.ref a1, .int 0, .int 0])) :: (a1, .inl (D.1 104, 8, .inr (.inr (.inr (.inr (va_up (va_up (va_up (va_up (va_up (va_up (va_up (fun _ => none) 0 (some (r2 0))) 1 (some (r3 0))) 2 (some (r4 0))) 3 (some (r5 0))) 4 (some (r6 0))) 5 (some (r7 0))) 6 (some (r8 0)))))))) :: (stC D r2 ++ ((stC D r3 ++ ((stC D r4 ++ ((stC D r5 ++ ((stC D r6 ++ ((stC D r7 ++ (stC D r8))))))))))))) (q := 44) rfl rfl rfl (by decide) (by decide) dX1_init_43 rfl ?_
  refine E_iinc1 (v := nI 7) (q := 47) dX1_init_44 (by decide) rfl rfl ?_
  refine E_goto (q := 25) dX1_init_47 (by decide) ?_
  refine E_iload1 (q := 26) dX1_init_25 rfl ?_
  refine E_bipush (v := nI 8) (q := 28) dX1_init_26 (by decide) rfl ?_
  refine E_icmp_geN (tgt := 50) (q := 31) dX1_init_28 (by decide) rfl (by omega) (by omega) (fun h => absurd h (by decide)) (fun _ => ?_)
  refine E_aload0 (q := 32) dX1_init_31 rfl ?_
  refine K_get (j0 := 0) (j := 0) (q := 35) rfl rfl cl_X1 fl_X1_11 dX1_init_32 rfl ?_
  refine E_iload1 (q := 36) dX1_init_35 rfl ?_
  refine K_newO (ci := 8) (N := 13) (Cn := RX4) (T := TX4) (fs := dfX4) (q := 39) rfl cl_X4 ck_X1_9 ib_X4 in_X4 dfo_X4 (Nat.le_of_ble_eq_true rfl) (Nat.le_of_ble_eq_true rfl) dX1_init_36 rfl (fun a9 => ?_)
  refine E_dup (q := 40) dX1_init_39 rfl rfl ?_
  refine K_callI (q := 43) (ar := []) (rest := [.ref a9, .int (nI 7), .ref a1]) lk_X1_24 (sp_X4_init) ⟨by decide, by decide⟩ (Nat.le_of_ble_eq_true rfl) (Nat.le_of_ble_eq_true rfl) (Nat.le_of_ble_eq_true rfl) dX1_init_40 rfl rfl ?_
  rintro _ ⟨r9, h9, rfl⟩
  subst h9
  refine K_aast (j0 := 1) (jv := 93) (L' := (a, .inr (5, [.ref a1, .int 0, .int 0])) :: (a1, .inl (D.1 104, 8, .inr (.inr (.inr (.inr (va_up (va_up (va_up (va_up (va_up (va_up (va_up (va_up (fun _ => none) 0 (some (r2 0))) 1 (some (r3 0))) 2 (some (r4 0))) 3 (some (r5 0))) 4 (some (r6 0))) 5 (some (r7 0))) 6 (some (r8 0))) 7 (some (r9 0)))))))) :: (stC D r2 ++ ((stC D r3 ++ ((stC D r4 ++ ((stC D r5 ++ ((stC D r6 ++ ((stC D r7 ++ ((stC D r8 ++ (stC D r9))))))))))))))) (q := 44) rfl rfl rfl (by decide) (by decide) dX1_init_43 rfl ?_
  refine E_iinc1 (v := nI 8) (q := 47) dX1_init_44 (by decide) rfl rfl ?_
  refine E_goto (q := 25) dX1_init_47 (by decide) ?_
  refine E_iload1 (q := 26) dX1_init_25 rfl ?_
  refine E_bipush (v := nI 8) (q := 28) dX1_init_26 (by decide) rfl ?_
  refine E_icmp_geN (tgt := 50) (q := 31) dX1_init_28 (by decide) rfl (by omega) (by omega) (fun _ => ?_) (fun h => absurd h (by decide))
  refine E_iretG rfl dX1_init_50 ⟨rfl, _, ⟨a1, fun i => [r2, r3, r4, r5, r6, r7, r8, r9].getD i (fun _ => 0), ?_⟩, rfl⟩
  exact kept_eq (g := fun i => [r2, r3, r4, r5, r6, r7, r8, r9].getD i (fun _ => 0) 0) rfl rfl
theorem sp_X2_init : Spec D 5 yX2_init cfX2_init [.ref a] (w0 ++ [(a, .inr (6, dfX2))]) 14 2142 (PK w0 (fun L1 => ∃ (t : Nat) (r : Nat → Nat), L1 = ldC D a t r)) := by
  refine SpecI.of (by decide) rfl rfl (Nat.le_of_ble_eq_true rfl) rfl ?_
  refine E_aload0 (q := 1) dX2_init_0 rfl ?_
  refine K_objInit (q := 4) oi_X2 (by decide) (by decide) (Nat.le_of_ble_eq_true rfl) dX2_init_1 rfl ?_
  refine E_aload0 (q := 5) dX2_init_4 rfl ?_
  refine E_sipush (v := nI 1000) (q := 8) dX2_init_5 (by decide) rfl ?_
  refine K_newC (q := 10) (by decide) (Nat.le_of_ble_eq_true rfl) (Nat.le_of_ble_eq_true rfl) dX2_init_8 rfl (fun a1 => ?_)
  refine K_putF (j0 := 0) (j := 0) (ty := .array .char) (L' := [(a, .inr (6, [.ref a1, .int 0, .null, .int 0, .int 0, .int 0, .int 0, .int 0, .int 0, .int 0])), (a1, .inl (D.1 101, 1000, .inl (fun _ => 0)))]) (q := 13) rfl rfl cl_X2 fl_X2_9 ff_X2_0 rfl rfl (Nat.le_of_ble_eq_true rfl) dX2_init_10 rfl ?_
  refine E_aload0 (q := 14) dX2_init_13 rfl ?_
  refine E_iconst (v := nI 0) (q := 15) dX2_init_14 (by decide) rfl ?_
  refine K_putO (j0 := 0) (j := 1) (ty := .int) (L' := [(a, .inr (6, [.ref a1, .int 0, .null, .int 0, .int 0, .int 0, .int 0, .int 0, .int 0, .int 0])), (a1, .inl (D.1 101, 1000, .inl (fun _ => 0)))]) (q := 18) rfl rfl cl_X2 fl_X2_15 fp_X2_1 rfl rfl (Nat.le_of_ble_eq_true rfl) dX2_init_15 rfl ?_
  refine E_aload0 (q := 19) dX2_init_18 rfl ?_
  refine K_newO (ci := 8) (N := 13) (Cn := RX4) (T := TX4) (fs := dfX4) (q := 22) rfl cl_X4 ck_X2_19 ib_X4 in_X4 dfo_X4 (Nat.le_of_ble_eq_true rfl) (Nat.le_of_ble_eq_true rfl) dX2_init_19 rfl (fun a2 => ?_)
  refine E_dup (q := 23) dX2_init_22 rfl rfl ?_
  refine K_callI (q := 26) (ar := []) (rest := [.ref a2, .ref a]) lk_X2_21 (sp_X4_init) ⟨by decide, by decide⟩ (Nat.le_of_ble_eq_true rfl) (Nat.le_of_ble_eq_true rfl) (Nat.le_of_ble_eq_true rfl) dX2_init_23 rfl rfl ?_
  rintro _ ⟨r10, h10, rfl⟩
  subst h10
  refine K_putF (j0 := 0) (j := 2) (ty := .object "SnapshotVolumes$Store") (L' := (a, .inr (6, [.ref a1, .int 0, .ref (r10 0), .int 0, .int 0, .int 0, .int 0, .int 0, .int 0, .int 0])) :: (a1, .inl (D.1 101, 1000, .inl (fun _ => 0))) :: stC D r10) (q := 29) rfl rfl cl_X2 fl_X2_22 ff_X2_2 rfl rfl (Nat.le_of_ble_eq_true rfl) dX2_init_26 rfl ?_
  refine E_aload0 (q := 30) dX2_init_29 rfl ?_
  refine E_iconst (v := -1) (q := 31) dX2_init_30 (by decide) rfl ?_
  refine K_putO (j0 := 0) (j := 3) (ty := .int) (L' := (a, .inr (6, [.ref a1, .int 0, .ref (r10 0), .int (-1), .int 0, .int 0, .int 0, .int 0, .int 0, .int 0])) :: (a1, .inl (D.1 101, 1000, .inl (fun _ => 0))) :: stC D r10) (q := 34) rfl rfl cl_X2 fl_X2_26 fp_X2_3 rfl rfl (Nat.le_of_ble_eq_true rfl) dX2_init_31 rfl ?_
  refine E_aload0 (q := 35) dX2_init_34 rfl ?_
  refine E_iconst (v := nI 0) (q := 36) dX2_init_35 (by decide) rfl ?_
  refine K_putO (j0 := 0) (j := 4) (ty := .int) (L' := (a, .inr (6, [.ref a1, .int 0, .ref (r10 0), .int (-1), .int 0, .int 0, .int 0, .int 0, .int 0, .int 0])) :: (a1, .inl (D.1 101, 1000, .inl (fun _ => 0))) :: stC D r10) (q := 39) rfl rfl cl_X2 fl_X2_29 fp_X2_4 rfl rfl (Nat.le_of_ble_eq_true rfl) dX2_init_36 rfl ?_
  refine E_aload0 (q := 40) dX2_init_39 rfl ?_
  refine E_iconst (v := nI 0) (q := 41) dX2_init_40 (by decide) rfl ?_
  refine K_putO (j0 := 0) (j := 5) (ty := .int) (L' := (a, .inr (6, [.ref a1, .int 0, .ref (r10 0), .int (-1), .int 0, .int 0, .int 0, .int 0, .int 0, .int 0])) :: (a1, .inl (D.1 101, 1000, .inl (fun _ => 0))) :: stC D r10) (q := 44) rfl rfl cl_X2 fl_X2_32 fp_X2_5 rfl rfl (Nat.le_of_ble_eq_true rfl) dX2_init_41 rfl ?_
  refine E_aload0 (q := 45) dX2_init_44 rfl ?_
  refine E_iconst (v := nI 0) (q := 46) dX2_init_45 (by decide) rfl ?_
  refine K_putO (j0 := 0) (j := 6) (ty := .int) (L' := (a, .inr (6, [.ref a1, .int 0, .ref (r10 0), .int (-1), .int 0, .int 0, .int 0, .int 0, .int 0, .int 0])) :: (a1, .inl (D.1 101, 1000, .inl (fun _ => 0))) :: stC D r10) (q := 49) rfl rfl cl_X2 fl_X2_35 fp_X2_6 rfl rfl (Nat.le_of_ble_eq_true rfl) dX2_init_46 rfl ?_
  refine E_aload0 (q := 50) dX2_init_49 rfl ?_
  refine E_iconst (v := nI 0) (q := 51) dX2_init_50 (by decide) rfl ?_
  refine K_putO (j0 := 0) (j := 7) (ty := .int) (L' := (a, .inr (6, [.ref a1, .int 0, .ref (r10 0), .int (-1), .int 0, .int 0, .int 0, .int 0, .int 0, .int 0])) :: (a1, .inl (D.1 101, 1000, .inl (fun _ => 0))) :: stC D r10) (q := 54) rfl rfl cl_X2 fl_X2_38 fp_X2_7 rfl rfl (Nat.le_of_ble_eq_true rfl) dX2_init_51 rfl ?_
  refine E_aload0 (q := 55) dX2_init_54 rfl ?_
  refine E_iconst (v := nI 0) (q := 56) dX2_init_55 (by decide) rfl ?_
  refine K_putO (j0 := 0) (j := 8) (ty := .int) (L' := (a, .inr (6, [.ref a1, .int 0, .ref (r10 0), .int (-1), .int 0, .int 0, .int 0, .int 0, .int 0, .int 0])) :: (a1, .inl (D.1 101, 1000, .inl (fun _ => 0))) :: stC D r10) (q := 59) rfl rfl cl_X2 fl_X2_41 fp_X2_8 rfl rfl (Nat.le_of_ble_eq_true rfl) dX2_init_56 rfl ?_
  refine E_aload0 (q := 60) dX2_init_59 rfl ?_
  refine E_iconst (v := nI 0) (q := 61) dX2_init_60 (by decide) rfl ?_
  refine K_putO (j0 := 0) (j := 9) (ty := .int) (L' := (a, .inr (6, [.ref a1, .int 0, .ref (r10 0), .int (-1), .int 0, .int 0, .int 0, .int 0, .int 0, .int 0])) :: (a1, .inl (D.1 101, 1000, .inl (fun _ => 0))) :: stC D r10) (q := 64) rfl rfl cl_X2 fl_X2_44 fp_X2_9 rfl rfl (Nat.le_of_ble_eq_true rfl) dX2_init_61 rfl ?_
  exact E_iret rfl dX2_init_64 ⟨rfl, _, ⟨a1, r10, rfl⟩, rfl⟩
theorem sp_X3_init : SpecG D 1 yX3_init cfX3_init GAO [.ref a] (w0 ++ [(a, .inr (7, dfX3))]) 19 322 (PK w0 (fun L1 => ∃ (ln bs : Nat) (r : Nat → Nat), L1 = plC D a ln bs r)) := by
  refine SpecIG.of (by decide) rfl rfl (Nat.le_of_ble_eq_true rfl) rfl ?_
  refine E_aload0 (q := 1) dX3_init_0 rfl ?_
  refine K_objInit (q := 4) oi_X3 (by decide) (by decide) (Nat.le_of_ble_eq_true rfl) dX3_init_1 rfl ?_
  refine E_aload0 (q := 5) dX3_init_4 rfl ?_
  refine E_bipush (v := nI 16) (q := 7) dX3_init_5 (by decide) rfl ?_
  refine K_newI (q := 9) (by decide) (Nat.le_of_ble_eq_true rfl) (Nat.le_of_ble_eq_true rfl) dX3_init_7 rfl (fun a1 => ?_)
  refine K_putF (j0 := 0) (j := 0) (ty := .array .int) (L' := [(a, .inr (7, [.ref a1, .int 0, .null])), (a1, .inl (D.1 100, 16, .inl (fun _ => 0)))]) (q := 12) rfl rfl cl_X3 fl_X3_11 ff_X3_0 rfl rfl (Nat.le_of_ble_eq_true rfl) dX3_init_9 rfl ?_
  refine E_aload0 (q := 13) dX3_init_12 rfl ?_
  refine E_iconst (v := nI 0) (q := 14) dX3_init_13 (by decide) rfl ?_
  refine K_putO (j0 := 0) (j := 1) (ty := .int) (L' := [(a, .inr (7, [.ref a1, .int 0, .null])), (a1, .inl (D.1 100, 16, .inl (fun _ => 0)))]) (q := 17) rfl rfl cl_X3 fl_X3_15 fp_X3_1 rfl rfl (Nat.le_of_ble_eq_true rfl) dX3_init_14 rfl ?_
  refine E_aload0 (q := 18) dX3_init_17 rfl ?_
  refine E_bipush (v := nI 17) (q := 20) dX3_init_18 (by decide) rfl ?_
  refine E_bipush (v := nI 17) (q := 22) dX3_init_20 (by decide) rfl ?_
  refine K_newAA (q := 26) ck_X3_19 (by decide) (by decide) (Nat.le_of_ble_eq_true rfl) (Nat.le_of_ble_eq_true rfl) dX3_init_22 rfl (fun a2 a3 => ?_)
  refine K_putF (j0 := 0) (j := 2) (ty := .array (.array .int)) (L' := (a, .inr (7, [.ref a1, .int 0, .ref a2])) :: (a1, .inl (D.1 100, 16, .inl (fun _ => 0))) :: ([bestC D a2 17 a3] ++ (rowsC D 17 17 a3))) (q := 29) rfl rfl cl_X3 fl_X3_21 ff_X3_2 rfl rfl (Nat.le_of_ble_eq_true rfl) dX3_init_26 rfl ?_
  exact E_iretG rfl dX3_init_29 ⟨rfl, _, ⟨a1, a2, a3, rfl⟩, rfl⟩
theorem sp_J5_init : Spec D 1 yJ5_init_d00df cfJ5_init_d00df [.ref a, .int (nI 16)] (w0 ++ [(a, .inr (1, dfJ4))]) 1 16 (PK w0 (fun L1 => ∃ b : Nat, L1 = sbC D a b)) := by
  refine SpecI.of (by decide) rfl rfl (Nat.le_of_ble_eq_true rfl) rfl ?_
  refine E_aload0 (q := 1) dJ5_init_d00df_0 rfl ?_
  refine K_objInit (q := 4) oi_J5 (by decide) (by decide) (Nat.le_of_ble_eq_true rfl) dJ5_init_d00df_1 rfl ?_
  refine E_getsCS (q := 7) cs_J5_18 dJ5_init_d00df_4 rfl ?_
  refine E_if_eq (tgt := 25) (q := 10) dJ5_init_d00df_7 (by decide) rfl (fun h => absurd h (by decide)) (fun _ => ?_)
  refine E_aload0 (q := 11) dJ5_init_d00df_10 rfl ?_
  refine E_iload1 (q := 12) dJ5_init_d00df_11 rfl ?_
  refine K_newB (q := 14) (by decide) (Nat.le_of_ble_eq_true rfl) (Nat.le_of_ble_eq_true rfl) dJ5_init_d00df_12 rfl (fun a1 => ?_)
  refine K_putO (j0 := 0) (j := 0) (ty := .array .byte) (L' := [(a, .inr (1, [.ref a1, .int 0, .int 0, .int 0])), (a1, .inl (D.1 102, 16, .inl (fun j => if j = 100000 then nI 16 else 0)))]) (q := 17) rfl rfl cl_J4 fl_J5_15 fp_J4_0 rfl rfl (Nat.le_of_ble_eq_true rfl) dJ5_init_d00df_14 rfl ?_
  refine E_aload0 (q := 18) dJ5_init_d00df_17 rfl ?_
  refine E_iconst (v := nI 0) (q := 19) dJ5_init_d00df_18 (by decide) rfl ?_
  refine K_putO (j0 := 0) (j := 1) (ty := .byte) (L' := [(a, .inr (1, [.ref a1, .int 0, .int 0, .int 0])), (a1, .inl (D.1 102, 16, .inl (fun j => if j = 100000 then nI 16 else 0)))]) (q := 22) rfl rfl cl_J4 fl_J5_22 fp_J4_1 rfl rfl (Nat.le_of_ble_eq_true rfl) dJ5_init_d00df_19 rfl ?_
  refine E_goto (q := 38) dJ5_init_d00df_22 (by decide) ?_
  exact E_iret rfl dJ5_init_d00df_38 ⟨rfl, _, ⟨a1, rfl⟩, rfl⟩
theorem sp_J4_init : Spec D 3 yJ4_init_da8c8 cfJ4_init_da8c8 [.ref a] (w0 ++ [(a, .inr (1, dfJ4))]) 1 16 (PK w0 (fun L1 => ∃ b : Nat, L1 = sbC D a b)) := by
  refine SpecI.of (by decide) rfl rfl (Nat.le_of_ble_eq_true rfl) rfl ?_
  refine E_aload0 (q := 1) dJ4_init_da8c8_0 rfl ?_
  refine E_bipush (v := nI 16) (q := 3) dJ4_init_da8c8_1 (by decide) rfl ?_
  refine K_callS (q := 6) (ar := [.int (nI 16)]) (rest := []) lk_J4_1 sp_J5_init ⟨by decide, by decide⟩ (Nat.le_of_ble_eq_true rfl) (Nat.le_of_ble_eq_true rfl) (Nat.le_of_ble_eq_true rfl) dJ4_init_da8c8_3 rfl rfl ?_
  rintro _ ⟨b1, rfl⟩
  exact E_iret rfl dJ4_init_da8c8_6 ⟨rfl, _, ⟨b1, rfl⟩, rfl⟩
theorem sp_X5_init : SpecG D 7 yX5_init cfX5_init GAO [.ref a] (w0 ++ [(a, .inr (9, dfX5))]) 156 12786 (PK w0 (fun L1 => ∃ (rs : Nat → Nat) (h kp : Nat) (s : Nat → Nat → Nat) (l t : Nat) (rl : Nat → Nat) (p ln bs : Nat) (rp : Nat → Nat) (sb by0 : Nat), L1 = xC D a rs h kp s l t rl p ln bs rp sb by0)) := by
  refine SpecIG.of (by decide) rfl rfl (Nat.le_of_ble_eq_true rfl) rfl ?_
  refine E_aload0 (q := 1) dX5_init_0 rfl ?_
  refine K_objInit (q := 4) oi_X5 (by decide) (by decide) (Nat.le_of_ble_eq_true rfl) dX5_init_1 rfl ?_
  refine E_aload0 (q := 5) dX5_init_4 rfl ?_
  refine K_newO (ci := 8) (N := 13) (Cn := RX4) (T := TX4) (fs := dfX4) (q := 8) rfl cl_X4 ck_X5_9 ib_X4 in_X4 dfo_X4 (Nat.le_of_ble_eq_true rfl) (Nat.le_of_ble_eq_true rfl) dX5_init_5 rfl (fun a1 => ?_)
  refine E_dup (q := 9) dX5_init_8 rfl rfl ?_
  refine K_callI (q := 12) (ar := []) (rest := [.ref a1, .ref a]) lk_X5_11 (sp_X4_init) ⟨by decide, by decide⟩ (Nat.le_of_ble_eq_true rfl) (Nat.le_of_ble_eq_true rfl) (Nat.le_of_ble_eq_true rfl) dX5_init_9 rfl rfl ?_
  rintro _ ⟨r11, h11, rfl⟩
  subst h11
  refine K_putF (j0 := 0) (j := 0) (ty := .object "SnapshotVolumes$Store") (L' := (a, .inr (9, [.ref (r11 0), .null, .null, .null, .null])) :: stC D r11) (q := 15) rfl rfl cl_X5 fl_X5_12 ff_X5_0 rfl rfl (Nat.le_of_ble_eq_true rfl) dX5_init_12 rfl ?_
  refine E_aload0 (q := 16) dX5_init_15 rfl ?_
  refine K_newO (ci := 5) (N := 3) (Cn := RX1) (T := TX1) (fs := dfX1) (q := 19) rfl cl_X1 ck_X5_16 ib_X1 in_X1 dfo_X1 (Nat.le_of_ble_eq_true rfl) (Nat.le_of_ble_eq_true rfl) dX5_init_16 rfl (fun a2 => ?_)
  refine E_dup (q := 20) dX5_init_19 rfl rfl ?_
  refine K_callIG (q := 23) (ar := []) (rest := [.ref a2, .ref a]) GAO_st lk_X5_18 (sp_X1_init) ⟨by decide, by decide⟩ (Nat.le_of_ble_eq_true rfl) (Nat.le_of_ble_eq_true rfl) (Nat.le_of_ble_eq_true rfl) dX5_init_20 rfl rfl ?_
  rintro _ ⟨kp12, s12, rfl⟩
  refine K_putF (j0 := 0) (j := 1) (ty := .object "SnapshotVolumes$History") (L' := (a, .inr (9, [.ref (r11 0), .ref a2, .null, .null, .null])) :: (stC D r11 ++ (hiC D a2 kp12 s12))) (q := 26) rfl rfl cl_X5 fl_X5_19 ff_X5_1 rfl rfl (Nat.le_of_ble_eq_true rfl) dX5_init_23 rfl ?_
  refine E_aload0 (q := 27) dX5_init_26 rfl ?_
  refine K_newO (ci := 6) (N := 10) (Cn := RX2) (T := TX2) (fs := dfX2) (q := 30) rfl cl_X2 ck_X5_23 ib_X2 in_X2 dfo_X2 (Nat.le_of_ble_eq_true rfl) (Nat.le_of_ble_eq_true rfl) dX5_init_27 rfl (fun a3 => ?_)
  refine E_dup (q := 31) dX5_init_30 rfl rfl ?_
  refine K_callIN (q := 34) (ar := []) (rest := [.ref a3, .ref a]) lk_X5_25 (sp_X2_init) ⟨by decide, by decide⟩ (Nat.le_of_ble_eq_true rfl) (Nat.le_of_ble_eq_true rfl) (Nat.le_of_ble_eq_true rfl) dX5_init_31 rfl rfl ?_
  rintro _ ⟨t13, rl13, rfl⟩
  refine K_putF (j0 := 0) (j := 2) (ty := .object "SnapshotVolumes$Loader") (L' := (a, .inr (9, [.ref (r11 0), .ref a2, .ref a3, .null, .null])) :: (stC D r11 ++ ((hiC D a2 kp12 s12 ++ (ldC D a3 t13 rl13))))) (q := 37) rfl rfl cl_X5 fl_X5_26 ff_X5_2 rfl rfl (Nat.le_of_ble_eq_true rfl) dX5_init_34 rfl ?_
  refine E_aload0 (q := 38) dX5_init_37 rfl ?_
  refine K_newO (ci := 7) (N := 3) (Cn := RX3) (T := TX3) (fs := dfX3) (q := 41) rfl cl_X3 ck_X5_30 ib_X3 in_X3 dfo_X3 (Nat.le_of_ble_eq_true rfl) (Nat.le_of_ble_eq_true rfl) dX5_init_38 rfl (fun a4 => ?_)
  refine E_dup (q := 42) dX5_init_41 rfl rfl ?_
  refine K_callIGN (q := 45) (ar := []) (rest := [.ref a4, .ref a]) GAO_st lk_X5_32 (sp_X3_init) ⟨by decide, by decide⟩ (Nat.le_of_ble_eq_true rfl) (Nat.le_of_ble_eq_true rfl) (Nat.le_of_ble_eq_true rfl) dX5_init_42 rfl rfl ?_
  rintro _ ⟨ln14, bs14, rp14, rfl⟩
  refine K_putF (j0 := 0) (j := 3) (ty := .object "SnapshotVolumes$Planner") (L' := (a, .inr (9, [.ref (r11 0), .ref a2, .ref a3, .ref a4, .null])) :: (stC D r11 ++ ((hiC D a2 kp12 s12 ++ ((ldC D a3 t13 rl13 ++ (plC D a4 ln14 bs14 rp14))))))) (q := 48) rfl rfl cl_X5 fl_X5_33 ff_X5_3 rfl rfl (Nat.le_of_ble_eq_true rfl) dX5_init_45 rfl ?_
  refine E_aload0 (q := 49) dX5_init_48 rfl ?_
  refine K_newO (ci := 1) (N := 4) (Cn := RJ4) (T := TJ4) (fs := dfJ4) (q := 52) rfl cl_J4 ck_X5_37 ib_J4 in_J4 dfo_J4 (Nat.le_of_ble_eq_true rfl) (Nat.le_of_ble_eq_true rfl) dX5_init_49 rfl (fun a5 => ?_)
  refine E_dup (q := 53) dX5_init_52 rfl rfl ?_
  refine K_callI (q := 56) (ar := []) (rest := [.ref a5, .ref a]) lk_X5_39 (sp_J4_init) ⟨by decide, by decide⟩ (Nat.le_of_ble_eq_true rfl) (Nat.le_of_ble_eq_true rfl) (Nat.le_of_ble_eq_true rfl) dX5_init_53 rfl rfl ?_
  rintro _ ⟨by15, rfl⟩
  refine K_putF (j0 := 0) (j := 4) (ty := .object "java/lang/StringBuilder") (L' := (a, .inr (9, [.ref (r11 0), .ref a2, .ref a3, .ref a4, .ref a5])) :: (stC D r11 ++ ((hiC D a2 kp12 s12 ++ ((ldC D a3 t13 rl13 ++ ((plC D a4 ln14 bs14 rp14 ++ (sbC D a5 by15))))))))) (q := 59) rfl rfl cl_X5 fl_X5_40 ff_X5_4 rfl rfl (Nat.le_of_ble_eq_true rfl) dX5_init_56 rfl ?_
  exact E_iretG rfl dX5_init_59 ⟨rfl, _, ⟨r11, a2, kp12, s12, a3, t13, rl13, a4, ln14, bs14, rp14, a5, by15, rfl⟩, rfl⟩
theorem begL {F : Cfg} {R : Room} {Qf : QF} {k n : Nat} {L : va_W} {j0 : Nat} (hF : F = cfX6_begin) (kk : ∀ (f : Nat → Int32) (x : Option Value), (∀ j, j < 739 → f j = 0) → V D F R Qf k n 19 [some (.ref a), x] [] (w0 ++ L.set j0 (a, .inl (D.1 100, 739, .inl f)))) : ∀ (d i : Nat) (f : Nat → Int32), i + d = 739 → (∀ j, j < i → f j = 0) → L[j0]? = some (a, .inl (D.1 100, 739, .inl f)) → V D F R Qf k n 2 [some (.ref a), some (.int (nI i))] [] (w0 ++ L) := by
  subst hF
  intro d
  induction d generalizing L with
  | zero =>
    intro i f hi hf hL
    refine E_iload1 (q := 3) dX6_begin_2 rfl ?_
    refine E_sipush (v := nI 739) (q := 6) dX6_begin_3 (by decide) rfl ?_
    refine E_icmp_geN (tgt := 19) (q := 9) dX6_begin_6 (by decide) rfl (by omega) (by omega) (fun _ => ?_) (fun h => absurd h (by omega))
    have e : L.set j0 (a, .inl (D.1 100, 739, .inl f)) = L := by
      apply List.ext_getElem?
      intro t
      by_cases ht : j0 = t
      · subst ht
        rw [List.getElem?_set_self (List.getElem?_eq_some_iff.mp hL).1, hL]
      · rw [List.getElem?_set_ne ht]
    have := kk f (some (.int (nI i))) (fun j hj => hf j (by omega))
    rw [e] at this
    exact this
  | succ d ih =>
    intro i f hi hf hL
    refine E_iload1 (q := 3) dX6_begin_2 rfl ?_
    refine E_sipush (v := nI 739) (q := 6) dX6_begin_3 (by decide) rfl ?_
    refine E_icmp_geN (tgt := 19) (q := 9) dX6_begin_6 (by decide) rfl (by omega) (by omega) (fun h => absurd h (by omega)) (fun _ => ?_)
    refine E_aload0 (q := 10) dX6_begin_9 rfl ?_
    refine E_iload1 (q := 11) dX6_begin_10 rfl ?_
    refine E_iconst (v := nI 0) (q := 12) dX6_begin_11 (by decide) rfl ?_
    refine K_iast (j0 := j0) (q := 13) hL rfl (by omega) (by decide) dX6_begin_12 rfl ?_
    refine E_iinc1 (v := nI (i + 1)) (q := 16) dX6_begin_13 (nI_inc _) rfl rfl ?_
    refine E_goto (q := 2) dX6_begin_16 (by decide) ?_
    refine ih (fun g x hg => ?_) (i + 1) (upd f i (nI 0)) (by omega) (fun j hj => ?_) ?_
    · rw [List.set_set]
      exact kk g x hg
    · unfold upd
      by_cases h : j = i
      · rw [if_pos h]; rfl
      · rw [if_neg h]; exact hf j (by omega)
    · exact List.getElem?_set_self (List.getElem?_eq_some_iff.mp hL).1
theorem sp_X6_beginK {L : va_W} {j0 : Nat} (hL : L[j0]? = some (a, .inl (D.1 100, 739, .inl (fun _ => 0)))) : Spec D 1 yX6_begin cfX6_begin [.ref a] (w0 ++ L) 0 0 (fun v w => v = none ∧ ∃ f, (∀ j, j < 739 → f j = begF j) ∧ w = w0 ++ L.set j0 (a, .inl (D.1 100, 739, .inl f))) := by
  refine Spec.of (by decide) rfl (Nat.le_of_ble_eq_true rfl) rfl ?_
  refine E_iconst (v := nI 0) (q := 1) dX6_begin_0 (by decide) rfl ?_
  refine E_istore1 (q := 2) dX6_begin_1 rfl rfl ?_
  refine begL (a := a) (j0 := j0) rfl (fun f x hf => ?_) 739 0 (fun _ => 0) rfl (fun j hj => absurd hj (by omega)) hL
  have hlt := (List.getElem?_eq_some_iff.mp hL).1
  refine E_aload0 (q := 20) dX6_begin_19 rfl ?_
  refine E_iconst (v := nI 0) (q := 21) dX6_begin_20 (by decide) rfl ?_
  refine E_sipush (v := nI 200) (q := 24) dX6_begin_21 (by decide) rfl ?_
  refine K_iast (j0 := j0) (f := f) (q := 25) (List.getElem?_set_self hlt) (List.set_set ..) (by decide) (by decide) dX6_begin_24 rfl ?_
  refine E_aload0 (q := 26) dX6_begin_25 rfl ?_
  refine E_iconst (v := nI 1) (q := 27) dX6_begin_26 (by decide) rfl ?_
  refine E_iconst (v := nI 3) (q := 28) dX6_begin_27 (by decide) rfl ?_
  refine K_iast (j0 := j0) (f := upd f 0 (nI 200)) (q := 29) (List.getElem?_set_self hlt) (List.set_set ..) (by decide) (by decide) dX6_begin_28 rfl ?_
  refine E_vreturn rfl rfl dX6_begin_29 ⟨rfl, _, fun j hj => ?_, rfl⟩
  unfold upd begF
  by_cases h1 : j = 1
  · subst h1; rfl
  · rw [if_neg h1]
    by_cases h0 : j = 0
    · subst h0; rfl
    · rw [if_neg h0, if_neg h0, if_neg h1]; exact hf j hj
theorem sp_X6_init : Spec D 3 yX6_init cfX6_init [.ref a] (w0 ++ [(a, .inr (10, dfX6))]) 7 9074 (PK w0 (fun L1 => ∃ (r : Nat → Nat) (f : Nat → Int32), r 0 = a ∧ (∀ j, j < 739 → f j = begF j) ∧ L1 = moC D r f)) := by
  refine SpecI.of (by decide) rfl rfl (Nat.le_of_ble_eq_true rfl) rfl ?_
  refine E_aload0 (q := 1) dX6_init_0 rfl ?_
  refine K_objInit (q := 4) oi_X6 (by decide) (by decide) (Nat.le_of_ble_eq_true rfl) dX6_init_1 rfl ?_
  refine E_aload0 (q := 5) dX6_init_4 rfl ?_
  refine E_sipush (v := nI 739) (q := 8) dX6_init_5 (by decide) rfl ?_
  refine K_newI (q := 10) (by decide) (Nat.le_of_ble_eq_true rfl) (Nat.le_of_ble_eq_true rfl) dX6_init_8 rfl (fun a1 => ?_)
  refine K_putF (j0 := 0) (j := 0) (ty := .array .int) (L' := [(a, .inr (10, [.ref a1, .null, .int 0, .null, .int 0, .null, .null, .int 0, .null, .int 0, .int 0, .int 0, .int 0, .int 0, .int 0, .int 0, .long 0, .int 0, .int 0, .null, .int 0, .int 0, .null, .int 0])), (a1, .inl (D.1 100, 739, .inl (fun _ => 0)))]) (q := 13) rfl rfl cl_X6 fl_X6_7 ff_X6_0 rfl rfl (Nat.le_of_ble_eq_true rfl) dX6_init_10 rfl ?_
  refine E_aload0 (q := 14) dX6_init_13 rfl ?_
  refine E_sipush (v := nI 5912) (q := 17) dX6_init_14 (by decide) rfl ?_
  refine K_newI (q := 19) (by decide) (Nat.le_of_ble_eq_true rfl) (Nat.le_of_ble_eq_true rfl) dX6_init_17 rfl (fun a2 => ?_)
  refine K_putF (j0 := 0) (j := 1) (ty := .array .int) (L' := [(a, .inr (10, [.ref a1, .ref a2, .int 0, .null, .int 0, .null, .null, .int 0, .null, .int 0, .int 0, .int 0, .int 0, .int 0, .int 0, .int 0, .long 0, .int 0, .int 0, .null, .int 0, .int 0, .null, .int 0])), (a1, .inl (D.1 100, 739, .inl (fun _ => 0))), (a2, .inl (D.1 100, 5912, .inl (fun _ => 0)))]) (q := 22) rfl rfl cl_X6 fl_X6_13 ff_X6_1 rfl rfl (Nat.le_of_ble_eq_true rfl) dX6_init_19 rfl ?_
  refine E_aload0 (q := 23) dX6_init_22 rfl ?_
  refine E_aload0 (q := 24) dX6_init_23 rfl ?_
  refine K_get (j0 := 0) (j := 0) (q := 27) rfl rfl cl_X6 fl_X6_7 dX6_init_24 rfl ?_
  refine K_putO (j0 := 0) (j := 3) (ty := .array .int) (L' := [(a, .inr (10, [.ref a1, .ref a2, .int 0, .ref a1, .int 0, .null, .null, .int 0, .null, .int 0, .int 0, .int 0, .int 0, .int 0, .int 0, .int 0, .long 0, .int 0, .int 0, .null, .int 0, .int 0, .null, .int 0])), (a1, .inl (D.1 100, 739, .inl (fun _ => 0))), (a2, .inl (D.1 100, 5912, .inl (fun _ => 0)))]) (q := 30) rfl rfl cl_X6 fl_X6_16 fp_X6_3 rfl rfl (Nat.le_of_ble_eq_true rfl) dX6_init_27 rfl ?_
  refine E_aload0 (q := 31) dX6_init_30 rfl ?_
  refine E_sipush (v := nI 192) (q := 34) dX6_init_31 (by decide) rfl ?_
  refine K_newI (q := 36) (by decide) (Nat.le_of_ble_eq_true rfl) (Nat.le_of_ble_eq_true rfl) dX6_init_34 rfl (fun a3 => ?_)
  refine K_putF (j0 := 0) (j := 5) (ty := .array .int) (L' := [(a, .inr (10, [.ref a1, .ref a2, .int 0, .ref a1, .int 0, .ref a3, .null, .int 0, .null, .int 0, .int 0, .int 0, .int 0, .int 0, .int 0, .int 0, .long 0, .int 0, .int 0, .null, .int 0, .int 0, .null, .int 0])), (a1, .inl (D.1 100, 739, .inl (fun _ => 0))), (a2, .inl (D.1 100, 5912, .inl (fun _ => 0))), (a3, .inl (D.1 100, 192, .inl (fun _ => 0)))]) (q := 39) rfl rfl cl_X6 fl_X6_19 ff_X6_5 rfl rfl (Nat.le_of_ble_eq_true rfl) dX6_init_36 rfl ?_
  refine E_aload0 (q := 40) dX6_init_39 rfl ?_
  refine E_sipush (v := nI 192) (q := 43) dX6_init_40 (by decide) rfl ?_
  refine K_newI (q := 45) (by decide) (Nat.le_of_ble_eq_true rfl) (Nat.le_of_ble_eq_true rfl) dX6_init_43 rfl (fun a4 => ?_)
  refine K_putF (j0 := 0) (j := 6) (ty := .array .int) (L' := [(a, .inr (10, [.ref a1, .ref a2, .int 0, .ref a1, .int 0, .ref a3, .ref a4, .int 0, .null, .int 0, .int 0, .int 0, .int 0, .int 0, .int 0, .int 0, .long 0, .int 0, .int 0, .null, .int 0, .int 0, .null, .int 0])), (a1, .inl (D.1 100, 739, .inl (fun _ => 0))), (a2, .inl (D.1 100, 5912, .inl (fun _ => 0))), (a3, .inl (D.1 100, 192, .inl (fun _ => 0))), (a4, .inl (D.1 100, 192, .inl (fun _ => 0)))]) (q := 48) rfl rfl cl_X6 fl_X6_22 ff_X6_6 rfl rfl (Nat.le_of_ble_eq_true rfl) dX6_init_45 rfl ?_
  refine E_aload0 (q := 49) dX6_init_48 rfl ?_
  refine E_sipush (v := nI 1000) (q := 52) dX6_init_49 (by decide) rfl ?_
  refine K_newB (q := 54) (by decide) (Nat.le_of_ble_eq_true rfl) (Nat.le_of_ble_eq_true rfl) dX6_init_52 rfl (fun a5 => ?_)
  refine K_putF (j0 := 0) (j := 8) (ty := .array .byte) (L' := [(a, .inr (10, [.ref a1, .ref a2, .int 0, .ref a1, .int 0, .ref a3, .ref a4, .int 0, .ref a5, .int 0, .int 0, .int 0, .int 0, .int 0, .int 0, .int 0, .long 0, .int 0, .int 0, .null, .int 0, .int 0, .null, .int 0])), (a1, .inl (D.1 100, 739, .inl (fun _ => 0))), (a2, .inl (D.1 100, 5912, .inl (fun _ => 0))), (a3, .inl (D.1 100, 192, .inl (fun _ => 0))), (a4, .inl (D.1 100, 192, .inl (fun _ => 0))), (a5, .inl (D.1 102, 1000, .inl (fun j => if j = 100000 then nI 1000 else 0)))]) (q := 57) rfl rfl cl_X6 fl_X6_25 ff_X6_8 rfl rfl (Nat.le_of_ble_eq_true rfl) dX6_init_54 rfl ?_
  refine E_aload0 (q := 58) dX6_init_57 rfl ?_
  refine E_iconst (v := -1) (q := 59) dX6_init_58 (by decide) rfl ?_
  refine K_putO (j0 := 0) (j := 10) (ty := .int) (L' := [(a, .inr (10, [.ref a1, .ref a2, .int 0, .ref a1, .int 0, .ref a3, .ref a4, .int 0, .ref a5, .int 0, .int (-1), .int 0, .int 0, .int 0, .int 0, .int 0, .long 0, .int 0, .int 0, .null, .int 0, .int 0, .null, .int 0])), (a1, .inl (D.1 100, 739, .inl (fun _ => 0))), (a2, .inl (D.1 100, 5912, .inl (fun _ => 0))), (a3, .inl (D.1 100, 192, .inl (fun _ => 0))), (a4, .inl (D.1 100, 192, .inl (fun _ => 0))), (a5, .inl (D.1 102, 1000, .inl (fun j => if j = 100000 then nI 1000 else 0)))]) (q := 62) rfl rfl cl_X6 fl_X6_29 fp_X6_10 rfl rfl (Nat.le_of_ble_eq_true rfl) dX6_init_59 rfl ?_
  refine E_aload0 (q := 63) dX6_init_62 rfl ?_
  refine E_sipush (v := nI 739) (q := 66) dX6_init_63 (by decide) rfl ?_
  refine K_newI (q := 68) (by decide) (Nat.le_of_ble_eq_true rfl) (Nat.le_of_ble_eq_true rfl) dX6_init_66 rfl (fun a6 => ?_)
  refine K_putF (j0 := 0) (j := 19) (ty := .array .int) (L' := [(a, .inr (10, [.ref a1, .ref a2, .int 0, .ref a1, .int 0, .ref a3, .ref a4, .int 0, .ref a5, .int 0, .int (-1), .int 0, .int 0, .int 0, .int 0, .int 0, .long 0, .int 0, .int 0, .ref a6, .int 0, .int 0, .null, .int 0])), (a1, .inl (D.1 100, 739, .inl (fun _ => 0))), (a2, .inl (D.1 100, 5912, .inl (fun _ => 0))), (a3, .inl (D.1 100, 192, .inl (fun _ => 0))), (a4, .inl (D.1 100, 192, .inl (fun _ => 0))), (a5, .inl (D.1 102, 1000, .inl (fun j => if j = 100000 then nI 1000 else 0))), (a6, .inl (D.1 100, 739, .inl (fun _ => 0)))]) (q := 71) rfl rfl cl_X6 fl_X6_33 ff_X6_19 rfl rfl (Nat.le_of_ble_eq_true rfl) dX6_init_68 rfl ?_
  refine E_aload0 (q := 72) dX6_init_71 rfl ?_
  refine E_sipush (v := nI 300) (q := 75) dX6_init_72 (by decide) rfl ?_
  refine K_newI (q := 77) (by decide) (Nat.le_of_ble_eq_true rfl) (Nat.le_of_ble_eq_true rfl) dX6_init_75 rfl (fun a7 => ?_)
  refine K_putF (j0 := 0) (j := 22) (ty := .array .int) (L' := [(a, .inr (10, [.ref a1, .ref a2, .int 0, .ref a1, .int 0, .ref a3, .ref a4, .int 0, .ref a5, .int 0, .int (-1), .int 0, .int 0, .int 0, .int 0, .int 0, .long 0, .int 0, .int 0, .ref a6, .int 0, .int 0, .ref a7, .int 0])), (a1, .inl (D.1 100, 739, .inl (fun _ => 0))), (a2, .inl (D.1 100, 5912, .inl (fun _ => 0))), (a3, .inl (D.1 100, 192, .inl (fun _ => 0))), (a4, .inl (D.1 100, 192, .inl (fun _ => 0))), (a5, .inl (D.1 102, 1000, .inl (fun j => if j = 100000 then nI 1000 else 0))), (a6, .inl (D.1 100, 739, .inl (fun _ => 0))), (a7, .inl (D.1 100, 300, .inl (fun _ => 0)))]) (q := 80) rfl rfl cl_X6 fl_X6_36 ff_X6_22 rfl rfl (Nat.le_of_ble_eq_true rfl) dX6_init_77 rfl ?_
  refine E_aload0 (q := 81) dX6_init_80 rfl ?_
  refine K_get (j0 := 0) (j := 0) (q := 84) rfl rfl cl_X6 fl_X6_7 dX6_init_81 rfl ?_
  refine E_callSR (q := 87) (ar := [.ref a1]) (rest := []) lk_X6_39 (sp_X6_beginK (a := a1) (w0 := w0) (j0 := 1) rfl) ⟨by decide, by decide⟩ (Nat.le_of_ble_eq_true rfl) (Nat.le_of_ble_eq_true rfl) (Nat.le_of_ble_eq_true rfl) dX6_init_84 rfl rfl ?_
  rintro v w ⟨rfl, f, hf, rfl⟩
  exact E_iret rfl dX6_init_87 ⟨rfl, _, ⟨fun j => [a, a1, a2, a3, a4, a5, a6, a7].getD j 0, f, rfl, hf, rfl⟩, rfl⟩
end MKC
