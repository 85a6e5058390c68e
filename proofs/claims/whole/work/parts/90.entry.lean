
/-! THE ENTRY: classes, statics, texts -/
section ENTRY
variable {s : State} {args : Array Value}
theorem arr_prim {ty : FieldType} (h : (Cond.arrayClass ty).before args s = true) (hp : ∀ C, ty ≠ .object C) : ∃ cA, ArrOfT s cA ty ∧ va_RA s cA ty := by
  obtain ⟨c, k, comp, h1, h2, h3⟩ := Cond.arrayClass_spec (args := args) (first := s) (o := none) (s := s) (idx := []) h
  refine ⟨c, fun n z => ⟨fun k h => (by cases h), k, h2, comp, h3⟩, ?_⟩
  cases ty with
  | object C => exact absurd rfl (hp C)
  | _ => exact h1
theorem arr_obj {C : String} (h : (Cond.arrayOver (.object C)).before args s = true) : ∃ cA, ArrOfT s cA (.object C) ∧ va_RA s cA (.object C) := by
  obtain ⟨comp, c, k, h1, -, h3, h4, h5⟩ := Cond.arrayOver_spec (args := args) (first := s) (o := none) (s := s) (idx := []) h
  exact ⟨c, fun n z => ⟨fun k h => (by cases h), k, h3, comp, h4⟩, k, comp, h3, h4, h1, h5⟩
theorem arr_arr {t : FieldType} (h : (Cond.arrayOver (.array t)).before args s = true) : ∃ cA, ArrOfT s cA (.array t) ∧ va_RA s cA (.array t) := by
  obtain ⟨comp, c, k, h1, -, h3, h4, h5⟩ := arrayOverA_spec (args := args) (first := s) (o := none) (s := s) (idx := []) h
  exact ⟨c, fun n z => ⟨fun k h => (by cases h), k, h3, comp, h4⟩, h5⟩
theorem uw_J0 : ∀ w ∈ u_ws RJ0 TJ0 4, w ∈ lw_tbl := by
  intro w hw
  have h2 : (u_ws RJ0 TJ0 4).all (fun w => decide (w ∈ lw_tbl)) = true := by decide +kernel
  exact of_decide_eq_true (List.all_eq_true.mp h2 w hw)
theorem uw_J4 : ∀ w ∈ u_ws RJ4 TJ4 4, w ∈ lw_tbl := by
  intro w hw
  have h2 : (u_ws RJ4 TJ4 4).all (fun w => decide (w ∈ lw_tbl)) = true := by decide +kernel
  exact of_decide_eq_true (List.all_eq_true.mp h2 w hw)
theorem uw_Jx00060 : ∀ w ∈ u_ws RJx00060 TJx00060 6, w ∈ lw_tbl := by
  intro w hw
  have h2 : (u_ws RJx00060 TJx00060 6).all (fun w => decide (w ∈ lw_tbl)) = true := by decide +kernel
  exact of_decide_eq_true (List.all_eq_true.mp h2 w hw)
theorem uw_Jx7c733 : ∀ w ∈ u_ws RJx7c733 TJx7c733 6, w ∈ lw_tbl := by
  intro w hw
  have h2 : (u_ws RJx7c733 TJx7c733 6).all (fun w => decide (w ∈ lw_tbl)) = true := by decide +kernel
  exact of_decide_eq_true (List.all_eq_true.mp h2 w hw)
theorem uw_X0 : ∀ w ∈ u_ws RX0 TX0 5, w ∈ lw_tbl := by
  intro w hw
  have h2 : (u_ws RX0 TX0 5).all (fun w => decide (w ∈ lw_tbl)) = true := by decide +kernel
  exact of_decide_eq_true (List.all_eq_true.mp h2 w hw)
theorem uw_X1 : ∀ w ∈ u_ws RX1 TX1 3, w ∈ lw_tbl := by
  intro w hw
  have h2 : (u_ws RX1 TX1 3).all (fun w => decide (w ∈ lw_tbl)) = true := by decide +kernel
  exact of_decide_eq_true (List.all_eq_true.mp h2 w hw)
theorem uw_X2 : ∀ w ∈ u_ws RX2 TX2 10, w ∈ lw_tbl := by
  intro w hw
  have h2 : (u_ws RX2 TX2 10).all (fun w => decide (w ∈ lw_tbl)) = true := by decide +kernel
  exact of_decide_eq_true (List.all_eq_true.mp h2 w hw)
theorem uw_X3 : ∀ w ∈ u_ws RX3 TX3 3, w ∈ lw_tbl := by
  intro w hw
  have h2 : (u_ws RX3 TX3 3).all (fun w => decide (w ∈ lw_tbl)) = true := by decide +kernel
  exact of_decide_eq_true (List.all_eq_true.mp h2 w hw)
theorem uw_X4 : ∀ w ∈ u_ws RX4 TX4 13, w ∈ lw_tbl := by
  intro w hw
  have h2 : (u_ws RX4 TX4 13).all (fun w => decide (w ∈ lw_tbl)) = true := by decide +kernel
  exact of_decide_eq_true (List.all_eq_true.mp h2 w hw)
theorem uw_X5 : ∀ w ∈ u_ws RX5 TX5 5, w ∈ lw_tbl := by
  intro w hw
  have h2 : (u_ws RX5 TX5 5).all (fun w => decide (w ∈ lw_tbl)) = true := by decide +kernel
  exact of_decide_eq_true (List.all_eq_true.mp h2 w hw)
theorem uw_X6 : ∀ w ∈ u_ws RX6 TX6 24, w ∈ lw_tbl := by
  intro w hw
  have h2 : (u_ws RX6 TX6 24).all (fun w => decide (w ∈ lw_tbl)) = true := by decide +kernel
  exact of_decide_eq_true (List.all_eq_true.mp h2 w hw)
/-- all the classes -/
theorem start_K (hts : ∀ w ∈ lw_tbl, w.before args s = true) : ∃ D : va_G, va_K D vwCl (TY D) s := by
  obtain ⟨c0, i0, k0⟩ := u_known (C := RJ0) (T := TJ0) (N := 4) (n := 4) hts uw_J0 (hts (.instantiable RJ0 4) (List.mem_of_getElem? (i := 1357) (by decide +kernel)))
  obtain ⟨c1, i1, k1⟩ := u_known (C := RJ4) (T := TJ4) (N := 4) (n := 4) hts uw_J4 (hts (.instantiable RJ4 4) (List.mem_of_getElem? (i := 310) (by decide +kernel)))
  obtain ⟨c2, i2, k2⟩ := u_known (C := RJx00060) (T := TJx00060) (N := 6) (n := 6) hts uw_Jx00060 (hts (.instantiable RJx00060 6) (List.mem_of_getElem? (i := 1420) (by decide +kernel)))
  obtain ⟨c3, i3, k3⟩ := u_known (C := RJx7c733) (T := TJx7c733) (N := 6) (n := 6) hts uw_Jx7c733 (hts (.instantiable RJx7c733 6) (List.mem_of_getElem? (i := 1225) (by decide +kernel)))
  obtain ⟨c4, i4, k4⟩ := u_known (C := RX0) (T := TX0) (N := 5) (n := 5) hts uw_X0 (hts (.instantiable RX0 5) (List.mem_of_getElem? (i := 137) (by decide +kernel)))
  obtain ⟨c5, i5, k5⟩ := u_known (C := RX1) (T := TX1) (N := 3) (n := 3) hts uw_X1 (hts (.instantiable RX1 3) (List.mem_of_getElem? (i := 229) (by decide +kernel)))
  obtain ⟨c6, i6, k6⟩ := u_known (C := RX2) (T := TX2) (N := 10) (n := 10) hts uw_X2 (hts (.instantiable RX2 10) (List.mem_of_getElem? (i := 249) (by decide +kernel)))
  obtain ⟨c7, i7, k7⟩ := u_known (C := RX3) (T := TX3) (N := 3) (n := 3) hts uw_X3 (hts (.instantiable RX3 3) (List.mem_of_getElem? (i := 292) (by decide +kernel)))
  obtain ⟨c8, i8, k8⟩ := u_known (C := RX4) (T := TX4) (N := 13) (n := 13) hts uw_X4 (hts (.instantiable RX4 13) (List.mem_of_getElem? (i := 131) (by decide +kernel)))
  obtain ⟨c9, i9, k9⟩ := u_known (C := RX5) (T := TX5) (N := 5) (n := 5) hts uw_X5 (hts (.instantiable RX5 5) (List.mem_of_getElem? (i := 123) (by decide +kernel)))
  obtain ⟨c10, i10, k10⟩ := u_known (C := RX6) (T := TX6) (N := 24) (n := 24) hts uw_X6 (hts (.instantiable RX6 24) (List.mem_of_getElem? (i := 1469) (by decide +kernel)))
  obtain ⟨a0, e0, r0⟩ := arr_prim (ty := .int) (hts _ (List.mem_of_getElem? (i := 164) (by decide +kernel))) (fun C h => by cases h)
  obtain ⟨a1, e1, r1⟩ := arr_prim (ty := .char) (hts _ (List.mem_of_getElem? (i := 290) (by decide +kernel))) (fun C h => by cases h)
  obtain ⟨a2, e2, r2⟩ := arr_prim (ty := .byte) (hts _ (List.mem_of_getElem? (i := 341) (by decide +kernel))) (fun C h => by cases h)
  obtain ⟨a3, e3, r3⟩ := arr_prim (ty := .long) (hts _ (List.mem_of_getElem? (i := 2064) (by decide +kernel))) (fun C h => by cases h)
  obtain ⟨a4, e4, r4⟩ := arr_obj (C := RX4) (hts _ (List.mem_of_getElem? (i := 235) (by decide +kernel)))
  obtain ⟨a5, e5, r5⟩ := arr_arr (t := .int) (hts _ (List.mem_of_getElem? (i := 298) (by decide +kernel)))
  refine ⟨(fun k => [c0, c1, c2, c3, c4, c5, c6, c7, c8, c9, c10].getD k ([a0, a1, a2, a3, a4, a5].getD (k - 100) a0), fun k => [i0, i1, i2, i3, i4, i5, i6, i7, i8, i9, i10].getD k i0), ?_, ?_⟩
  · intro k q hq
    match k, hq with
    | 0, hq => cases hq; exact k0
    | 1, hq => cases hq; exact k1
    | 2, hq => cases hq; exact k2
    | 3, hq => cases hq; exact k3
    | 4, hq => cases hq; exact k4
    | 5, hq => cases hq; exact k5
    | 6, hq => cases hq; exact k6
    | 7, hq => cases hq; exact k7
    | 8, hq => cases hq; exact k8
    | 9, hq => cases hq; exact k9
    | 10, hq => cases hq; exact k10
    | k + 11, hq => simp [vwCl] at hq
  · intro k q hq
    match k, hq with
    | 0, hq => cases hq; exact ⟨e0, r0⟩
    | 1, hq => cases hq; exact ⟨e1, r1⟩
    | 2, hq => cases hq; exact ⟨e2, r2⟩
    | 3, hq => cases hq; exact ⟨e3, r3⟩
    | 4, hq => cases hq; exact ⟨e4, r4⟩
    | 5, hq => cases hq; exact ⟨e5, r5⟩
    | k + 6, hq => simp [TY] at hq
theorem nest_tab {w : Cond} (h : w ∈ lw_nest) : w.onTables = true := by
  obtain ⟨a, i, y, b, rfl⟩ := nest_cases h
  rfl
abbrev fl1 : List Cond := flatC (Jvm.Cond.and given_1 narrow_1)
def strT : Nat → Term := fun i => match i with
  | 0 => .string "SnapshotVolumes$Loader" 63
  | 1 => .string "SnapshotVolumes$Loader" 72
  | 2 => .string "SnapshotVolumes$Loader" 77
  | 3 => .string "SnapshotVolumes$Loader" 82
  | 4 => .string "SnapshotVolumes$Loader" 87
  | 5 => .string "SnapshotVolumes$Loader" 92
  | 6 => .string "SnapshotVolumes$Loader" 97
  | 7 => .string "SnapshotVolumes$Loader" 174
  | _ => .string "SnapshotVolumes$Loader" 176
def exP : List Nat := [226, 236, 246, 256, 267, 280, 293, 306, 321, 339, 366, 396, 426]
def coP : List Nat := [227, 237, 247, 257, 268, 281, 294, 307, 322]
def arP : List Nat := [228, 238, 248, 258, 269, 282, 295, 308, 323]
def leP : List Nat := [229, 239, 249, 259, 270, 283, 296, 309, 324]
def elP : List (List Nat) := [[230, 231, 232, 233, 234, 235], [240, 241, 242, 243, 244], [250, 251, 252, 253], [260, 261, 262, 263], [271, 272, 273, 274, 275], [284, 285, 286, 287], [297, 298, 299], [310, 311, 312, 313], [325, 326, 327, 328, 329, 330]]
def neP : List (List Nat) := [[0, 245, 254, 264, 276, 288, 300, 314, 331], [245, 0, 255, 265, 277, 289, 301, 315, 332], [254, 255, 0, 266, 278, 290, 302, 316, 333], [264, 265, 266, 0, 279, 291, 303, 317, 334], [276, 277, 278, 279, 0, 292, 304, 318, 335], [288, 289, 290, 291, 292, 0, 305, 319, 336], [300, 301, 302, 303, 304, 305, 0, 320, 337], [314, 315, 316, 317, 318, 319, 320, 0, 338], [331, 332, 333, 334, 335, 336, 337, 338, 0]]
theorem fx_ex : (List.range 9).all (fun i => decide (fl1[exP.getD i 0]? = some (Cond.exactly (strT i) "java/lang/String"))) = true := by decide +kernel
theorem fx_co : (List.range 9).all (fun i => decide (fl1[coP.getD i 0]? = some (Cond.eq (.field (strT i) "java/lang/String" "coder" "B") (.int 0)))) = true := by decide +kernel
theorem fx_ar : (List.range 9).all (fun i => decide (fl1[arP.getD i 0]? = some (Cond.arrayOf (.field (strT i) "java/lang/String" "value" "[B") .byte))) = true := by decide +kernel
theorem fx_le : (List.range 9).all (fun i => decide (fl1[leP.getD i 0]? = some (Cond.eq (.length (.field (strT i) "java/lang/String" "value" "[B")) (.int (Int32.ofNat (strLens.getD i 0)))))) = true := by decide +kernel
theorem fx_el : (List.range 9).all (fun i => (List.range (strLens.getD i 0)).all (fun j => decide (fl1[(elP.getD i []).getD j 0]? = some (Cond.eq (.elem (.field (strT i) "java/lang/String" "value" "[B") (.int (Int32.ofNat j))) (.int ((strBytes.getD i []).getD j 0)))))) = true := by decide +kernel
theorem fx_ne0 : (List.range 9).all (fun j => decide (0 = j) || (decide (fl1[(neP.getD 0 []).getD j 0]? = some (Cond.not (Cond.eq (strT 0) (strT j)))) || decide (fl1[(neP.getD 0 []).getD j 0]? = some (Cond.not (Cond.eq (strT j) (strT 0)))))) = true := by decide +kernel
theorem fx_ne1 : (List.range 9).all (fun j => decide (1 = j) || (decide (fl1[(neP.getD 1 []).getD j 0]? = some (Cond.not (Cond.eq (strT 1) (strT j)))) || decide (fl1[(neP.getD 1 []).getD j 0]? = some (Cond.not (Cond.eq (strT j) (strT 1)))))) = true := by decide +kernel
theorem fx_ne2 : (List.range 9).all (fun j => decide (2 = j) || (decide (fl1[(neP.getD 2 []).getD j 0]? = some (Cond.not (Cond.eq (strT 2) (strT j)))) || decide (fl1[(neP.getD 2 []).getD j 0]? = some (Cond.not (Cond.eq (strT j) (strT 2)))))) = true := by decide +kernel
theorem fx_ne3 : (List.range 9).all (fun j => decide (3 = j) || (decide (fl1[(neP.getD 3 []).getD j 0]? = some (Cond.not (Cond.eq (strT 3) (strT j)))) || decide (fl1[(neP.getD 3 []).getD j 0]? = some (Cond.not (Cond.eq (strT j) (strT 3)))))) = true := by decide +kernel
theorem fx_ne4 : (List.range 9).all (fun j => decide (4 = j) || (decide (fl1[(neP.getD 4 []).getD j 0]? = some (Cond.not (Cond.eq (strT 4) (strT j)))) || decide (fl1[(neP.getD 4 []).getD j 0]? = some (Cond.not (Cond.eq (strT j) (strT 4)))))) = true := by decide +kernel
theorem fx_ne5 : (List.range 9).all (fun j => decide (5 = j) || (decide (fl1[(neP.getD 5 []).getD j 0]? = some (Cond.not (Cond.eq (strT 5) (strT j)))) || decide (fl1[(neP.getD 5 []).getD j 0]? = some (Cond.not (Cond.eq (strT j) (strT 5)))))) = true := by decide +kernel
theorem fx_ne6 : (List.range 9).all (fun j => decide (6 = j) || (decide (fl1[(neP.getD 6 []).getD j 0]? = some (Cond.not (Cond.eq (strT 6) (strT j)))) || decide (fl1[(neP.getD 6 []).getD j 0]? = some (Cond.not (Cond.eq (strT j) (strT 6)))))) = true := by decide +kernel
theorem fx_ne7 : (List.range 9).all (fun j => decide (7 = j) || (decide (fl1[(neP.getD 7 []).getD j 0]? = some (Cond.not (Cond.eq (strT 7) (strT j)))) || decide (fl1[(neP.getD 7 []).getD j 0]? = some (Cond.not (Cond.eq (strT j) (strT 7)))))) = true := by decide +kernel
theorem fx_ne8 : (List.range 9).all (fun j => decide (8 = j) || (decide (fl1[(neP.getD 8 []).getD j 0]? = some (Cond.not (Cond.eq (strT 8) (strT j)))) || decide (fl1[(neP.getD 8 []).getD j 0]? = some (Cond.not (Cond.eq (strT j) (strT 8)))))) = true := by decide +kernel
theorem fx_dO0 : (List.range 25).all (fun k => decide (fl1[14+0+k]? = some (Cond.eq (.elem (.static "java/lang/Integer" "DigitOnes" "[B") (.int (Int32.ofNat (0+k)))) (.int (nI (48 + (0+k) % 10)))))) = true := by decide +kernel
theorem fx_dO1 : (List.range 25).all (fun k => decide (fl1[14+25+k]? = some (Cond.eq (.elem (.static "java/lang/Integer" "DigitOnes" "[B") (.int (Int32.ofNat (25+k)))) (.int (nI (48 + (25+k) % 10)))))) = true := by decide +kernel
theorem fx_dO2 : (List.range 25).all (fun k => decide (fl1[14+50+k]? = some (Cond.eq (.elem (.static "java/lang/Integer" "DigitOnes" "[B") (.int (Int32.ofNat (50+k)))) (.int (nI (48 + (50+k) % 10)))))) = true := by decide +kernel
theorem fx_dO3 : (List.range 25).all (fun k => decide (fl1[14+75+k]? = some (Cond.eq (.elem (.static "java/lang/Integer" "DigitOnes" "[B") (.int (Int32.ofNat (75+k)))) (.int (nI (48 + (75+k) % 10)))))) = true := by decide +kernel
theorem fx_dT0 : (List.range 25).all (fun k => decide (fl1[117+0+k]? = some (Cond.eq (.elem (.static "java/lang/Integer" "DigitTens" "[B") (.int (Int32.ofNat (0+k)))) (.int (nI (48 + (0+k) / 10)))))) = true := by decide +kernel
theorem fx_dT1 : (List.range 25).all (fun k => decide (fl1[117+25+k]? = some (Cond.eq (.elem (.static "java/lang/Integer" "DigitTens" "[B") (.int (Int32.ofNat (25+k)))) (.int (nI (48 + (25+k) / 10)))))) = true := by decide +kernel
theorem fx_dT2 : (List.range 25).all (fun k => decide (fl1[117+50+k]? = some (Cond.eq (.elem (.static "java/lang/Integer" "DigitTens" "[B") (.int (Int32.ofNat (50+k)))) (.int (nI (48 + (50+k) / 10)))))) = true := by decide +kernel
theorem fx_dT3 : (List.range 25).all (fun k => decide (fl1[117+75+k]? = some (Cond.eq (.elem (.static "java/lang/Integer" "DigitTens" "[B") (.int (Int32.ofNat (75+k)))) (.int (nI (48 + (75+k) / 10)))))) = true := by decide +kernel
theorem all_range {n : Nat} {p : Nat → Bool} (h : (List.range n).all p = true) {i : Nat} (hi : i < n) : p i = true := List.all_eq_true.mp h i (List.mem_range.mpr hi)
theorem at_fl {i : Nat} {w : Cond} (h : decide (fl1[i]? = some w) = true) : w ∈ fl1 := List.mem_of_getElem? (of_decide_eq_true h)
theorem fx_dO {j : Nat} (hj : j < 100) : Cond.eq (.elem (.static "java/lang/Integer" "DigitOnes" "[B") (.int (Int32.ofNat j))) (.int (nI (48 + j % 10))) ∈ fl1 := by
  rcases (show (∃ k, k < 25 ∧ j = 0 + k) ∨ (∃ k, k < 25 ∧ j = 25 + k) ∨ (∃ k, k < 25 ∧ j = 50 + k) ∨ (∃ k, k < 25 ∧ j = 75 + k) by
    rcases (show j < 25 ∨ (25 ≤ j ∧ j < 50) ∨ (50 ≤ j ∧ j < 75) ∨ 75 ≤ j by omega) with h | h | h | h
    · exact .inl ⟨j, by omega, by omega⟩
    · exact .inr (.inl ⟨j - 25, by omega, by omega⟩)
    · exact .inr (.inr (.inl ⟨j - 50, by omega, by omega⟩))
    · exact .inr (.inr (.inr ⟨j - 75, by omega, by omega⟩))) with ⟨k, hk, rfl⟩ | ⟨k, hk, rfl⟩ | ⟨k, hk, rfl⟩ | ⟨k, hk, rfl⟩
  · exact at_fl (all_range fx_dO0 hk)
  · exact at_fl (all_range fx_dO1 hk)
  · exact at_fl (all_range fx_dO2 hk)
  · exact at_fl (all_range fx_dO3 hk)
theorem fx_dT {j : Nat} (hj : j < 100) : Cond.eq (.elem (.static "java/lang/Integer" "DigitTens" "[B") (.int (Int32.ofNat j))) (.int (nI (48 + j / 10))) ∈ fl1 := by
  rcases (show (∃ k, k < 25 ∧ j = 0 + k) ∨ (∃ k, k < 25 ∧ j = 25 + k) ∨ (∃ k, k < 25 ∧ j = 50 + k) ∨ (∃ k, k < 25 ∧ j = 75 + k) by
    rcases (show j < 25 ∨ (25 ≤ j ∧ j < 50) ∨ (50 ≤ j ∧ j < 75) ∨ 75 ≤ j by omega) with h | h | h | h
    · exact .inl ⟨j, by omega, by omega⟩
    · exact .inr (.inl ⟨j - 25, by omega, by omega⟩)
    · exact .inr (.inr (.inl ⟨j - 50, by omega, by omega⟩))
    · exact .inr (.inr (.inr ⟨j - 75, by omega, by omega⟩))) with ⟨k, hk, rfl⟩ | ⟨k, hk, rfl⟩ | ⟨k, hk, rfl⟩ | ⟨k, hk, rfl⟩
  · exact at_fl (all_range fx_dT0 hk)
  · exact at_fl (all_range fx_dT1 hk)
  · exact at_fl (all_range fx_dT2 hk)
  · exact at_fl (all_range fx_dT3 hk)
theorem fx_ne {i j : Nat} (hi : i < 9) (hj : j < 9) (hne : i ≠ j) : Cond.not (Cond.eq (strT i) (strT j)) ∈ fl1 ∨ Cond.not (Cond.eq (strT j) (strT i)) ∈ fl1 := by
  rcases (show i = 0 ∨ i = 1 ∨ i = 2 ∨ i = 3 ∨ i = 4 ∨ i = 5 ∨ i = 6 ∨ i = 7 ∨ i = 8 by omega) with rfl | rfl | rfl | rfl | rfl | rfl | rfl | rfl | rfl
  · have h := all_range fx_ne0 hj
    rw [Bool.or_eq_true, Bool.or_eq_true] at h
    rcases h with h | h | h
    · exact absurd (of_decide_eq_true h) hne
    · exact .inl (at_fl h)
    · exact .inr (at_fl h)
  · have h := all_range fx_ne1 hj
    rw [Bool.or_eq_true, Bool.or_eq_true] at h
    rcases h with h | h | h
    · exact absurd (of_decide_eq_true h) hne
    · exact .inl (at_fl h)
    · exact .inr (at_fl h)
  · have h := all_range fx_ne2 hj
    rw [Bool.or_eq_true, Bool.or_eq_true] at h
    rcases h with h | h | h
    · exact absurd (of_decide_eq_true h) hne
    · exact .inl (at_fl h)
    · exact .inr (at_fl h)
  · have h := all_range fx_ne3 hj
    rw [Bool.or_eq_true, Bool.or_eq_true] at h
    rcases h with h | h | h
    · exact absurd (of_decide_eq_true h) hne
    · exact .inl (at_fl h)
    · exact .inr (at_fl h)
  · have h := all_range fx_ne4 hj
    rw [Bool.or_eq_true, Bool.or_eq_true] at h
    rcases h with h | h | h
    · exact absurd (of_decide_eq_true h) hne
    · exact .inl (at_fl h)
    · exact .inr (at_fl h)
  · have h := all_range fx_ne5 hj
    rw [Bool.or_eq_true, Bool.or_eq_true] at h
    rcases h with h | h | h
    · exact absurd (of_decide_eq_true h) hne
    · exact .inl (at_fl h)
    · exact .inr (at_fl h)
  · have h := all_range fx_ne6 hj
    rw [Bool.or_eq_true, Bool.or_eq_true] at h
    rcases h with h | h | h
    · exact absurd (of_decide_eq_true h) hne
    · exact .inl (at_fl h)
    · exact .inr (at_fl h)
  · have h := all_range fx_ne7 hj
    rw [Bool.or_eq_true, Bool.or_eq_true] at h
    rcases h with h | h | h
    · exact absurd (of_decide_eq_true h) hne
    · exact .inl (at_fl h)
    · exact .inr (at_fl h)
  · have h := all_range fx_ne8 hj
    rw [Bool.or_eq_true, Bool.or_eq_true] at h
    rcases h with h | h | h
    · exact absurd (of_decide_eq_true h) hne
    · exact .inl (at_fl h)
    · exact .inr (at_fl h)
/-- the surroundings, as the claim gives them -/
theorem start_EV {A : Nat → Prop} (hts : ∀ w ∈ lw_tbl, w.before args s = true) (hfl : ∀ w ∈ fl1, w.before args s = true) (hA : ∀ a : Nat, a < s.heap.size → ¬ A a) : EV A s s.heap := by
  have hS : ∃ adK adV : Nat → Nat, vk_S 9 strLens strBytes adK adV A s s.heap ∧ ∀ i : Nat, i < 9 → (strT i).eval args s none [] s = some (.ref (adK i)) := vk_Sof
    (fun i hi => by rcases (show i = 0 ∨ i = 1 ∨ i = 2 ∨ i = 3 ∨ i = 4 ∨ i = 5 ∨ i = 6 ∨ i = 7 ∨ i = 8 by omega) with rfl | rfl | rfl | rfl | rfl | rfl | rfl | rfl | rfl <;> decide)
    (fun i hi => hfl _ (at_fl (all_range fx_ex hi)))
    (fun i hi => hfl _ (at_fl (all_range fx_co hi)))
    (fun i hi => hfl _ (at_fl (all_range fx_ar hi)))
    (fun i hi => hfl _ (at_fl (all_range fx_le hi)))
    (fun i hi j hj => hfl _ (at_fl (all_range (all_range fx_el hi) hj)))
    (fun i j hi hj hne => (fx_ne hi hj hne).imp (fun h => hfl _ h) (fun h => hfl _ h)) hA
  obtain ⟨adK, adV, h9, h10⟩ := hS
  obtain ⟨tO, hO1, hO2⟩ := va_Tof (tm := .static "java/lang/Integer" "DigitOnes" "[B") (ty := .byte) (N := 100) (f := fun j => .int (nI (48 + j % 10))) (A := A) (by decide) (hfl _ (List.mem_of_getElem? (i := 12) (by decide +kernel))) (va_eqt (hfl _ (List.mem_of_getElem? (i := 13) (by decide +kernel)))) (fun j hj => va_eqt (hfl _ (fx_dO hj))) hA
  obtain ⟨tT, hT1, hT2⟩ := va_Tof (tm := .static "java/lang/Integer" "DigitTens" "[B") (ty := .byte) (N := 100) (f := fun j => .int (nI (48 + j / 10))) (A := A) (by decide) (hfl _ (List.mem_of_getElem? (i := 115) (by decide +kernel))) (va_eqt (hfl _ (List.mem_of_getElem? (i := 116) (by decide +kernel)))) (fun j hj => va_eqt (hfl _ (fx_dT hj))) hA
  have hx : ∀ {own : String} {k : Nat} {tx : String}, (Cond.stringRef own k tx).before args s = true → (Cond.exactly (.string own k) "java/lang/String").before args s = true → ∃ a, vk_R own k tx a s := fun {own k tx} h h2 => by
    obtain ⟨a, c, cA, kA, q1, -⟩ := Cond.exactly_spec (args := args) (first := s) (o := none) (s := s) (idx := []) (t := .string own k) (cls := "java/lang/String") h2
    exact ⟨a, vk_R.of h q1⟩
  obtain ⟨x9, hx9⟩ := hx (own := "SnapshotVolumes") (k := 303) (tx := "no such volume") (hts _ (List.mem_of_getElem? (i := 963) (by decide +kernel))) (hfl _ (List.mem_of_getElem? (i := 339) (by decide +kernel)))
  obtain ⟨x10, hx10⟩ := hx (own := "SnapshotVolumes") (k := 305) (tx := "no such snapshot") (hts _ (List.mem_of_getElem? (i := 1000) (by decide +kernel))) (hfl _ (List.mem_of_getElem? (i := 366) (by decide +kernel)))
  obtain ⟨x11, hx11⟩ := hx (own := "SnapshotVolumes") (k := 298) (tx := "no such version") (hts _ (List.mem_of_getElem? (i := 1031) (by decide +kernel))) (hfl _ (List.mem_of_getElem? (i := 396) (by decide +kernel)))
  obtain ⟨x12, hx12⟩ := hx (own := "SnapshotVolumes") (k := 307) (tx := "no such address") (hts _ (List.mem_of_getElem? (i := 1084) (by decide +kernel))) (hfl _ (List.mem_of_getElem? (i := 426) (by decide +kernel)))
  refine ⟨fun w hw => va_Nw.of (nest_tab hw) (hts _ (List.mem_filter.mp hw).1), vx_Zqof (hts _ (List.mem_of_getElem? (i := 949) (by decide +kernel))) (hts _ (List.mem_of_getElem? (i := 114) (by decide +kernel))) (hfl _ (List.mem_of_getElem? (i := 9) (by decide +kernel))) hA, vx_Zqof (hts _ (List.mem_of_getElem? (i := 951) (by decide +kernel))) (hts _ (List.mem_of_getElem? (i := 114) (by decide +kernel))) (hfl _ (List.mem_of_getElem? (i := 10) (by decide +kernel))) hA, va_Zof (hts _ (List.mem_of_getElem? (i := 319) (by decide +kernel))) (hts _ (List.mem_of_getElem? (i := 106) (by decide +kernel))) (va_eqt (hfl _ (List.mem_of_getElem? (i := 4) (by decide +kernel)))) hA, ⟨fun i => if i < 9 then adK i else [x9, x10, x11, x12].getD (i - 9) 0, adV, ?_, ?_⟩, ⟨tO, tT, va_Zof (hts _ (List.mem_of_getElem? (i := 1341) (by decide +kernel))) (hts _ (List.mem_of_getElem? (i := 112) (by decide +kernel))) hO1 hA, hO2, va_Zof (hts _ (List.mem_of_getElem? (i := 1343) (by decide +kernel))) (hts _ (List.mem_of_getElem? (i := 112) (by decide +kernel))) hT1 hA, hT2⟩, va_Zqof (hts _ (List.mem_of_getElem? (i := 423) (by decide +kernel))) (hts _ (List.mem_of_getElem? (i := 111) (by decide +kernel))) (hfl _ (List.mem_of_getElem? (i := 5) (by decide +kernel))) hA, ?_, ?_⟩
  · intro i q hq
    match i, hq with
    | 0, hq => cases hq; exact vk_R.of (hts _ (List.mem_of_getElem? (i := 394) (by decide +kernel))) (h10 0 (by decide))
    | 1, hq => cases hq; exact vk_R.of (hts _ (List.mem_of_getElem? (i := 486) (by decide +kernel))) (h10 1 (by decide))
    | 2, hq => cases hq; exact vk_R.of (hts _ (List.mem_of_getElem? (i := 548) (by decide +kernel))) (h10 2 (by decide))
    | 3, hq => cases hq; exact vk_R.of (hts _ (List.mem_of_getElem? (i := 554) (by decide +kernel))) (h10 3 (by decide))
    | 4, hq => cases hq; exact vk_R.of (hts _ (List.mem_of_getElem? (i := 571) (by decide +kernel))) (h10 4 (by decide))
    | 5, hq => cases hq; exact vk_R.of (hts _ (List.mem_of_getElem? (i := 594) (by decide +kernel))) (h10 5 (by decide))
    | 6, hq => cases hq; exact vk_R.of (hts _ (List.mem_of_getElem? (i := 601) (by decide +kernel))) (h10 6 (by decide))
    | 7, hq => cases hq; exact vk_R.of (hts _ (List.mem_of_getElem? (i := 606) (by decide +kernel))) (h10 7 (by decide))
    | 8, hq => cases hq; exact vk_R.of (hts _ (List.mem_of_getElem? (i := 607) (by decide +kernel))) (h10 8 (by decide))
    | 9, hq => cases hq; exact hx9
    | 10, hq => cases hq; exact hx10
    | 11, hq => cases hq; exact hx11
    | 12, hq => cases hq; exact hx12
    | i + 13, hq => simp [strs] at hq
  · refine ⟨fun i hi => ?_, fun i j hi hj e => ?_⟩
    · have := h9.1 i hi
      simp only [if_pos hi]
      exact this
    · simp only [if_pos hi, if_pos hj] at e
      exact h9.2 i j hi hj e
  · intro y hy
    simp only [privN, List.mem_cons, List.not_mem_nil, or_false] at hy
    rcases hy with rfl | rfl
    · exact va_tabs rfl rfl (hts _ (List.mem_of_getElem? (i := 1244) (by decide +kernel)))
    · exact va_tabs rfl rfl (hts _ (List.mem_of_getElem? (i := 1248) (by decide +kernel)))
  · intro w hw
    simp only [xtrW, List.mem_cons, List.not_mem_nil, or_false] at hw
    rcases hw with rfl | rfl | rfl | rfl
    · exact va_Nw.of rfl (hts _ (List.mem_of_getElem? (i := 924) (by decide +kernel)))
    · exact va_Nw.of rfl (hts _ (List.mem_of_getElem? (i := 926) (by decide +kernel)))
    · exact va_Nw.of rfl (hts _ (List.mem_of_getElem? (i := 928) (by decide +kernel)))
    · exact va_Nw.of rfl (hts _ (List.mem_of_getElem? (i := 930) (by decide +kernel)))
end ENTRY
