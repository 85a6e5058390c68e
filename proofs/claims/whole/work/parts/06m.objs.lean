/-! the cells by name; a field's rule each -/
theorem sk_0 : sk[0]? = some (0, 9, [4, 134, 136, 138, 158]) := rfl
theorem sk_131 : sk[131]? = some (0, 5, [135, 0, 0]) := rfl
theorem sk_132 : sk[132]? = some (2, 4, [27, 40, 53, 66, 79, 92, 105, 118]) := rfl
theorem sk_133 : sk[133]? = some (0, 6, [137, 0, 17, 0, 0, 0, 0, 0, 0, 0]) := rfl
theorem sk_134 : sk[134]? = some (1, 1, [1000]) := rfl
theorem sk_135 : sk[135]? = some (0, 7, [139, 0, 140]) := rfl
theorem sk_136 : sk[136]? = some (1, 0, [16]) := rfl
theorem sk_137 : sk[137]? = some (2, 5, [138, 139, 140, 141, 142, 143, 144, 145, 146, 147, 148, 149, 150, 151, 152, 153, 154]) := rfl
theorem sk_138 : sk[138]? = some (1, 0, [17]) := rfl
theorem sk_139 : sk[139]? = some (1, 0, [17]) := rfl
theorem sk_140 : sk[140]? = some (1, 0, [17]) := rfl
theorem sk_141 : sk[141]? = some (1, 0, [17]) := rfl
theorem sk_142 : sk[142]? = some (1, 0, [17]) := rfl
theorem sk_143 : sk[143]? = some (1, 0, [17]) := rfl
theorem sk_144 : sk[144]? = some (1, 0, [17]) := rfl
theorem sk_145 : sk[145]? = some (1, 0, [17]) := rfl
theorem sk_146 : sk[146]? = some (1, 0, [17]) := rfl
theorem sk_147 : sk[147]? = some (1, 0, [17]) := rfl
theorem sk_148 : sk[148]? = some (1, 0, [17]) := rfl
theorem sk_149 : sk[149]? = some (1, 0, [17]) := rfl
theorem sk_150 : sk[150]? = some (1, 0, [17]) := rfl
theorem sk_151 : sk[151]? = some (1, 0, [17]) := rfl
theorem sk_152 : sk[152]? = some (1, 0, [17]) := rfl
theorem sk_153 : sk[153]? = some (1, 0, [17]) := rfl
theorem sk_154 : sk[154]? = some (1, 0, [17]) := rfl
theorem sk_155 : sk[155]? = some (0, 1, [159, 0, 0, 0]) := rfl
theorem sk_156 : sk[156]? = some (4, 2, []) := rfl
theorem sk_157 : sk[157]? = some (0, 10, [161, 162, 0, 2, 0, 163, 164, 0, 165, 0, 0, 0, 0, 0, 0, 0, 1, 0, 0, 166, 0, 0, 167, 0]) := rfl
theorem sk_158 : sk[158]? = some (1, 0, [739]) := rfl
theorem sk_159 : sk[159]? = some (1, 0, [5912]) := rfl
theorem sk_160 : sk[160]? = some (1, 0, [192]) := rfl
theorem sk_161 : sk[161]? = some (1, 0, [192]) := rfl
theorem sk_162 : sk[162]? = some (1, 2, [1000]) := rfl
theorem sk_163 : sk[163]? = some (1, 0, [739]) := rfl
theorem sk_164 : sk[164]? = some (1, 0, [300]) := rfl
theorem sk_165 : sk[165]? = some (3, 3, [1]) := rfl
theorem sk_row {i : Nat} (h : i < 17) : sk[138 + i]? = some (1, 0, [17]) := by
  match i, h with
  | 0, _ => rfl
  | 1, _ => rfl
  | 2, _ => rfl
  | 3, _ => rfl
  | 4, _ => rfl
  | 5, _ => rfl
  | 6, _ => rfl
  | 7, _ => rfl
  | 8, _ => rfl
  | 9, _ => rfl
  | 10, _ => rfl
  | 11, _ => rfl
  | 12, _ => rfl
  | 13, _ => rfl
  | 14, _ => rfl
  | 15, _ => rfl
  | 16, _ => rfl
  | i + 17, h => exact absurd h (by omega)
def IsBl (b : Nat) : Prop := sk[b]? = some (0, 4, [b + 4, b + 5, b + 6, b + 7, 0]) ∧ sk[b + 1]? = some (1, 0, [264]) ∧ sk[b + 2]? = some (1, 0, [264]) ∧ sk[b + 3]? = some (1, 0, [264]) ∧ sk[b + 4]? = some (1, 0, [264])
theorem IsBl.births {b : Nat} (h : IsBl b) : sk[b + 1]? = some (1, 0, [264]) := h.2.1
theorem IsBl.sizes {b : Nat} (h : IsBl b) : sk[b + 2]? = some (1, 0, [264]) := h.2.2.1
theorem IsBl.addresses {b : Nat} (h : IsBl b) : sk[b + 3]? = some (1, 0, [264]) := h.2.2.2.1
theorem IsBl.owners {b : Nat} (h : IsBl b) : sk[b + 4]? = some (1, 0, [264]) := h.2.2.2.2
def IsSt (b : Nat) : Prop := sk[b]? = some (0, 8, [0, 0, 0, 0, 0, b + 4, b + 5, b + 6, b + 7, b + 8, b + 9, b + 10, b + 11]) ∧ sk[b + 1]? = some (1, 0, [2]) ∧ sk[b + 2]? = some (1, 0, [16]) ∧ sk[b + 3]? = some (1, 0, [16]) ∧ sk[b + 4]? = some (1, 0, [16]) ∧ sk[b + 5]? = some (1, 0, [6]) ∧ sk[b + 6]? = some (1, 0, [6]) ∧ sk[b + 7]? = some (1, 0, [6]) ∧ IsBl (b + 8)
theorem IsSt.settings {b : Nat} (h : IsSt b) : sk[b + 1]? = some (1, 0, [2]) := h.2.1
theorem IsSt.homes {b : Nat} (h : IsSt b) : sk[b + 2]? = some (1, 0, [16]) := h.2.2.1
theorem IsSt.times {b : Nat} (h : IsSt b) : sk[b + 3]? = some (1, 0, [16]) := h.2.2.2.1
theorem IsSt.snapshotNames {b : Nat} (h : IsSt b) : sk[b + 4]? = some (1, 0, [16]) := h.2.2.2.2.1
theorem IsSt.volumeNames {b : Nat} (h : IsSt b) : sk[b + 5]? = some (1, 0, [6]) := h.2.2.2.2.2.1
theorem IsSt.origins {b : Nat} (h : IsSt b) : sk[b + 6]? = some (1, 0, [6]) := h.2.2.2.2.2.2.1
theorem IsSt.quotas {b : Nat} (h : IsSt b) : sk[b + 7]? = some (1, 0, [6]) := h.2.2.2.2.2.2.2.1
theorem IsSt.blocks {b : Nat} (h : IsSt b) : IsBl (b + 8) := h.2.2.2.2.2.2.2.2
theorem isSt_1 : IsSt 1 := ⟨rfl, rfl, rfl, rfl, rfl, rfl, rfl, rfl, rfl, rfl, rfl, rfl, rfl⟩
theorem isSt_14 : IsSt 14 := ⟨rfl, rfl, rfl, rfl, rfl, rfl, rfl, rfl, rfl, rfl, rfl, rfl, rfl⟩
theorem isSt_kept {i : Nat} (h : i < 8) : IsSt (27 + 13 * i) := by
  match i, h with
  | 0, _ => exact ⟨rfl, rfl, rfl, rfl, rfl, rfl, rfl, rfl, rfl, rfl, rfl, rfl, rfl⟩
  | 1, _ => exact ⟨rfl, rfl, rfl, rfl, rfl, rfl, rfl, rfl, rfl, rfl, rfl, rfl, rfl⟩
  | 2, _ => exact ⟨rfl, rfl, rfl, rfl, rfl, rfl, rfl, rfl, rfl, rfl, rfl, rfl, rfl⟩
  | 3, _ => exact ⟨rfl, rfl, rfl, rfl, rfl, rfl, rfl, rfl, rfl, rfl, rfl, rfl, rfl⟩
  | 4, _ => exact ⟨rfl, rfl, rfl, rfl, rfl, rfl, rfl, rfl, rfl, rfl, rfl, rfl, rfl⟩
  | 5, _ => exact ⟨rfl, rfl, rfl, rfl, rfl, rfl, rfl, rfl, rfl, rfl, rfl, rfl, rfl⟩
  | 6, _ => exact ⟨rfl, rfl, rfl, rfl, rfl, rfl, rfl, rfl, rfl, rfl, rfl, rfl, rfl⟩
  | 7, _ => exact ⟨rfl, rfl, rfl, rfl, rfl, rfl, rfl, rfl, rfl, rfl, rfl, rfl, rfl⟩
  | i + 8, h => exact absurd h (by omega)
/-- the reference's w is the row wx -/
def WX (M : Mem) (wx : Nat) : Prop := (M 157 3).toNatClampNeg = wx ∧ sk[wx]? = some (1, 0, [739])
theorem WX.ne {M : Mem} {wx : Nat} (h : WX M wx) : wx ≠ 157 := by
  rintro rfl
  exact absurd h.2 (by decide)
theorem WX.w {M : Mem} {wx j : Nat} {v : Int32} (h : WX M wx) : WX (upd2 M wx j v) wx := ⟨by rw [upd2_row (fun z => h.ne z.symm)]; exact h.1, h.2⟩
theorem WX.u {M : Mem} {wx k j : Nat} {v : Int32} (hn : ¬ (157 = k ∧ 3 = j)) (h : WX M wx) : WX (upd2 M k j v) wx := ⟨by rw [upd2_ne hn]; exact h.1, h.2⟩
theorem WX.row {M : Mem} {wx k : Nat} {f : Nat → Int32} (hn : k ≠ 157) (h : WX M wx) : WX (row2 M k f) wx := ⟨by rw [row2_ne (fun z => hn z.symm)]; exact h.1, h.2⟩
section VO
variable {D : va_G} {F : Cfg} {rm : Room} {Qf : QF} {k n pc q idx b : Nat} {locs : List (Option Value)} {st : List Value} {ad : Nat → Nat} {M : Mem}
theorem G_X5_store (hf : FL F.1 idx 9 0) (hd : decode F.2.1 pc = .ok (.getfield idx, 3)) (hq : pc + 3 = q) (kk : V D F rm Qf k n q locs (.ref (ad 1) :: st) (wl D ad M)) : V D F rm Qf k n pc locs (.ref (ad 0) :: st) (wl D ad M) := E_getR (r := 1) cl_X5 hf sk_0 rfl hd hq kk
theorem G_X5_history (hf : FL F.1 idx 9 1) (hd : decode F.2.1 pc = .ok (.getfield idx, 3)) (hq : pc + 3 = q) (kk : V D F rm Qf k n q locs (.ref (ad 131) :: st) (wl D ad M)) : V D F rm Qf k n pc locs (.ref (ad 0) :: st) (wl D ad M) := E_getR (r := 131) cl_X5 hf sk_0 rfl hd hq kk
theorem G_X5_loader (hf : FL F.1 idx 9 2) (hd : decode F.2.1 pc = .ok (.getfield idx, 3)) (hq : pc + 3 = q) (kk : V D F rm Qf k n q locs (.ref (ad 133) :: st) (wl D ad M)) : V D F rm Qf k n pc locs (.ref (ad 0) :: st) (wl D ad M) := E_getR (r := 133) cl_X5 hf sk_0 rfl hd hq kk
theorem G_X5_planner (hf : FL F.1 idx 9 3) (hd : decode F.2.1 pc = .ok (.getfield idx, 3)) (hq : pc + 3 = q) (kk : V D F rm Qf k n q locs (.ref (ad 135) :: st) (wl D ad M)) : V D F rm Qf k n pc locs (.ref (ad 0) :: st) (wl D ad M) := E_getR (r := 135) cl_X5 hf sk_0 rfl hd hq kk
theorem G_X5_output (hf : FL F.1 idx 9 4) (hd : decode F.2.1 pc = .ok (.getfield idx, 3)) (hq : pc + 3 = q) (kk : V D F rm Qf k n q locs (.ref (ad 155) :: st) (wl D ad M)) : V D F rm Qf k n pc locs (.ref (ad 0) :: st) (wl D ad M) := E_getR (r := 155) cl_X5 hf sk_0 rfl hd hq kk
theorem rc_X5 : Recv (wl D ad M) (ad 0) RX5 := Recv_wl (T := TX5) (N := 5) sk_0 rfl
theorem G_X1_kept (hf : FL F.1 idx 5 0) (hd : decode F.2.1 pc = .ok (.getfield idx, 3)) (hq : pc + 3 = q) (kk : V D F rm Qf k n q locs (.ref (ad 132) :: st) (wl D ad M)) : V D F rm Qf k n pc locs (.ref (ad 131) :: st) (wl D ad M) := E_getR (r := 132) cl_X1 hf sk_131 rfl hd hq kk
theorem G_X1_next (hf : FL F.1 idx 5 1) (hd : decode F.2.1 pc = .ok (.getfield idx, 3)) (hq : pc + 3 = q) (kk : V D F rm Qf k n q locs (.int (M 131 1) :: st) (wl D ad M)) : V D F rm Qf k n pc locs (.ref (ad 131) :: st) (wl D ad M) := E_getI cl_X1 hf sk_131 rfl hd hq kk
theorem P_X1_next {v : Int32} (hf : FL F.1 idx 5 1) (hd : decode F.2.1 pc = .ok (.putfield idx, 3)) (hq : pc + 3 = q) (kk : V D F rm Qf k n q locs st (wl D ad (upd2 M 131 1 v))) : V D F rm Qf k n pc locs (.int v :: .ref (ad 131) :: st) (wl D ad M) := E_putI cl_X1 hf sk_131 rfl (show _ ≤ 1000 by simp) fp_X1_1 hd hq kk
theorem G_X1_length (hf : FL F.1 idx 5 2) (hd : decode F.2.1 pc = .ok (.getfield idx, 3)) (hq : pc + 3 = q) (kk : V D F rm Qf k n q locs (.int (M 131 2) :: st) (wl D ad M)) : V D F rm Qf k n pc locs (.ref (ad 131) :: st) (wl D ad M) := E_getI cl_X1 hf sk_131 rfl hd hq kk
theorem P_X1_length {v : Int32} (hf : FL F.1 idx 5 2) (hd : decode F.2.1 pc = .ok (.putfield idx, 3)) (hq : pc + 3 = q) (kk : V D F rm Qf k n q locs st (wl D ad (upd2 M 131 2 v))) : V D F rm Qf k n pc locs (.int v :: .ref (ad 131) :: st) (wl D ad M) := E_putI cl_X1 hf sk_131 rfl (show _ ≤ 1000 by simp) fp_X1_2 hd hq kk
theorem rc_X1 : Recv (wl D ad M) (ad 131) RX1 := Recv_wl (T := TX1) (N := 3) sk_131 rfl
theorem G_X2_text (hf : FL F.1 idx 6 0) (hd : decode F.2.1 pc = .ok (.getfield idx, 3)) (hq : pc + 3 = q) (kk : V D F rm Qf k n q locs (.ref (ad 134) :: st) (wl D ad M)) : V D F rm Qf k n pc locs (.ref (ad 133) :: st) (wl D ad M) := E_getR (r := 134) cl_X2 hf sk_133 rfl hd hq kk
theorem G_X2_filled (hf : FL F.1 idx 6 1) (hd : decode F.2.1 pc = .ok (.getfield idx, 3)) (hq : pc + 3 = q) (kk : V D F rm Qf k n q locs (.int (M 133 1) :: st) (wl D ad M)) : V D F rm Qf k n pc locs (.ref (ad 133) :: st) (wl D ad M) := E_getI cl_X2 hf sk_133 rfl hd hq kk
theorem P_X2_filled {v : Int32} (hf : FL F.1 idx 6 1) (hd : decode F.2.1 pc = .ok (.putfield idx, 3)) (hq : pc + 3 = q) (kk : V D F rm Qf k n q locs st (wl D ad (upd2 M 133 1 v))) : V D F rm Qf k n pc locs (.int v :: .ref (ad 133) :: st) (wl D ad M) := E_putI cl_X2 hf sk_133 rfl (show _ ≤ 1000 by simp) fp_X2_1 hd hq kk
theorem G_X2_draft (hf : FL F.1 idx 6 2) (hd : decode F.2.1 pc = .ok (.getfield idx, 3)) (hq : pc + 3 = q) (kk : V D F rm Qf k n q locs (.ref (ad 14) :: st) (wl D ad M)) : V D F rm Qf k n pc locs (.ref (ad 133) :: st) (wl D ad M) := E_getR (r := 14) cl_X2 hf sk_133 rfl hd hq kk
theorem G_X2_errorAt (hf : FL F.1 idx 6 3) (hd : decode F.2.1 pc = .ok (.getfield idx, 3)) (hq : pc + 3 = q) (kk : V D F rm Qf k n q locs (.int (M 133 3) :: st) (wl D ad M)) : V D F rm Qf k n pc locs (.ref (ad 133) :: st) (wl D ad M) := E_getI cl_X2 hf sk_133 rfl hd hq kk
theorem P_X2_errorAt {v : Int32} (hf : FL F.1 idx 6 3) (hd : decode F.2.1 pc = .ok (.putfield idx, 3)) (hq : pc + 3 = q) (kk : V D F rm Qf k n q locs st (wl D ad (upd2 M 133 3 v))) : V D F rm Qf k n pc locs (.int v :: .ref (ad 133) :: st) (wl D ad M) := E_putI cl_X2 hf sk_133 rfl (show _ ≤ 1000 by simp) fp_X2_3 hd hq kk
theorem G_X2_error (hf : FL F.1 idx 6 4) (hd : decode F.2.1 pc = .ok (.getfield idx, 3)) (hq : pc + 3 = q) (kk : V D F rm Qf k n q locs (.int (M 133 4) :: st) (wl D ad M)) : V D F rm Qf k n pc locs (.ref (ad 133) :: st) (wl D ad M) := E_getI cl_X2 hf sk_133 rfl hd hq kk
theorem P_X2_error {v : Int32} (hf : FL F.1 idx 6 4) (hd : decode F.2.1 pc = .ok (.putfield idx, 3)) (hq : pc + 3 = q) (kk : V D F rm Qf k n q locs st (wl D ad (upd2 M 133 4 v))) : V D F rm Qf k n pc locs (.int v :: .ref (ad 133) :: st) (wl D ad M) := E_putI cl_X2 hf sk_133 rfl (show _ ≤ 1000 by simp) fp_X2_4 hd hq kk
theorem G_X2_length (hf : FL F.1 idx 6 5) (hd : decode F.2.1 pc = .ok (.getfield idx, 3)) (hq : pc + 3 = q) (kk : V D F rm Qf k n q locs (.int (M 133 5) :: st) (wl D ad M)) : V D F rm Qf k n pc locs (.ref (ad 133) :: st) (wl D ad M) := E_getI cl_X2 hf sk_133 rfl hd hq kk
theorem P_X2_length {v : Int32} (hf : FL F.1 idx 6 5) (hd : decode F.2.1 pc = .ok (.putfield idx, 3)) (hq : pc + 3 = q) (kk : V D F rm Qf k n q locs st (wl D ad (upd2 M 133 5 v))) : V D F rm Qf k n pc locs (.int v :: .ref (ad 133) :: st) (wl D ad M) := E_putI cl_X2 hf sk_133 rfl (show _ ≤ 1000 by simp) fp_X2_5 hd hq kk
theorem G_X2_start (hf : FL F.1 idx 6 6) (hd : decode F.2.1 pc = .ok (.getfield idx, 3)) (hq : pc + 3 = q) (kk : V D F rm Qf k n q locs (.int (M 133 6) :: st) (wl D ad M)) : V D F rm Qf k n pc locs (.ref (ad 133) :: st) (wl D ad M) := E_getI cl_X2 hf sk_133 rfl hd hq kk
theorem P_X2_start {v : Int32} (hf : FL F.1 idx 6 6) (hd : decode F.2.1 pc = .ok (.putfield idx, 3)) (hq : pc + 3 = q) (kk : V D F rm Qf k n q locs st (wl D ad (upd2 M 133 6 v))) : V D F rm Qf k n pc locs (.int v :: .ref (ad 133) :: st) (wl D ad M) := E_putI cl_X2 hf sk_133 rfl (show _ ≤ 1000 by simp) fp_X2_6 hd hq kk
theorem G_X2_stop (hf : FL F.1 idx 6 7) (hd : decode F.2.1 pc = .ok (.getfield idx, 3)) (hq : pc + 3 = q) (kk : V D F rm Qf k n q locs (.int (M 133 7) :: st) (wl D ad M)) : V D F rm Qf k n pc locs (.ref (ad 133) :: st) (wl D ad M) := E_getI cl_X2 hf sk_133 rfl hd hq kk
theorem P_X2_stop {v : Int32} (hf : FL F.1 idx 6 7) (hd : decode F.2.1 pc = .ok (.putfield idx, 3)) (hq : pc + 3 = q) (kk : V D F rm Qf k n q locs st (wl D ad (upd2 M 133 7 v))) : V D F rm Qf k n pc locs (.int v :: .ref (ad 133) :: st) (wl D ad M) := E_putI cl_X2 hf sk_133 rfl (show _ ≤ 1000 by simp) fp_X2_7 hd hq kk
theorem G_X2_kind (hf : FL F.1 idx 6 8) (hd : decode F.2.1 pc = .ok (.getfield idx, 3)) (hq : pc + 3 = q) (kk : V D F rm Qf k n q locs (.int (M 133 8) :: st) (wl D ad M)) : V D F rm Qf k n pc locs (.ref (ad 133) :: st) (wl D ad M) := E_getI cl_X2 hf sk_133 rfl hd hq kk
theorem P_X2_kind {v : Int32} (hf : FL F.1 idx 6 8) (hd : decode F.2.1 pc = .ok (.putfield idx, 3)) (hq : pc + 3 = q) (kk : V D F rm Qf k n q locs st (wl D ad (upd2 M 133 8 v))) : V D F rm Qf k n pc locs (.int v :: .ref (ad 133) :: st) (wl D ad M) := E_putI cl_X2 hf sk_133 rfl (show _ ≤ 1000 by simp) fp_X2_8 hd hq kk
theorem G_X2_givenSettings (hf : FL F.1 idx 6 9) (hd : decode F.2.1 pc = .ok (.getfield idx, 3)) (hq : pc + 3 = q) (kk : V D F rm Qf k n q locs (.int (M 133 9) :: st) (wl D ad M)) : V D F rm Qf k n pc locs (.ref (ad 133) :: st) (wl D ad M) := E_getI cl_X2 hf sk_133 rfl hd hq kk
theorem P_X2_givenSettings {v : Int32} (hf : FL F.1 idx 6 9) (hd : decode F.2.1 pc = .ok (.putfield idx, 3)) (hq : pc + 3 = q) (kk : V D F rm Qf k n q locs st (wl D ad (upd2 M 133 9 v))) : V D F rm Qf k n pc locs (.int v :: .ref (ad 133) :: st) (wl D ad M) := E_putI cl_X2 hf sk_133 rfl (show _ ≤ 1000 by simp) fp_X2_9 hd hq kk
theorem rc_X2 : Recv (wl D ad M) (ad 133) RX2 := Recv_wl (T := TX2) (N := 10) sk_133 rfl
theorem G_X3_line (hf : FL F.1 idx 7 0) (hd : decode F.2.1 pc = .ok (.getfield idx, 3)) (hq : pc + 3 = q) (kk : V D F rm Qf k n q locs (.ref (ad 136) :: st) (wl D ad M)) : V D F rm Qf k n pc locs (.ref (ad 135) :: st) (wl D ad M) := E_getR (r := 136) cl_X3 hf sk_135 rfl hd hq kk
theorem G_X3_length (hf : FL F.1 idx 7 1) (hd : decode F.2.1 pc = .ok (.getfield idx, 3)) (hq : pc + 3 = q) (kk : V D F rm Qf k n q locs (.int (M 135 1) :: st) (wl D ad M)) : V D F rm Qf k n pc locs (.ref (ad 135) :: st) (wl D ad M) := E_getI cl_X3 hf sk_135 rfl hd hq kk
theorem P_X3_length {v : Int32} (hf : FL F.1 idx 7 1) (hd : decode F.2.1 pc = .ok (.putfield idx, 3)) (hq : pc + 3 = q) (kk : V D F rm Qf k n q locs st (wl D ad (upd2 M 135 1 v))) : V D F rm Qf k n pc locs (.int v :: .ref (ad 135) :: st) (wl D ad M) := E_putI cl_X3 hf sk_135 rfl (show _ ≤ 1000 by simp) fp_X3_1 hd hq kk
theorem G_X3_best (hf : FL F.1 idx 7 2) (hd : decode F.2.1 pc = .ok (.getfield idx, 3)) (hq : pc + 3 = q) (kk : V D F rm Qf k n q locs (.ref (ad 137) :: st) (wl D ad M)) : V D F rm Qf k n pc locs (.ref (ad 135) :: st) (wl D ad M) := E_getR (r := 137) cl_X3 hf sk_135 rfl hd hq kk
theorem rc_X3 : Recv (wl D ad M) (ad 135) RX3 := Recv_wl (T := TX3) (N := 3) sk_135 rfl
theorem G_X6_real (hf : FL F.1 idx 10 0) (hd : decode F.2.1 pc = .ok (.getfield idx, 3)) (hq : pc + 3 = q) (kk : V D F rm Qf k n q locs (.ref (ad 158) :: st) (wl D ad M)) : V D F rm Qf k n pc locs (.ref (ad 157) :: st) (wl D ad M) := E_getR (r := 158) cl_X6 hf sk_157 rfl hd hq kk
theorem G_X6_history (hf : FL F.1 idx 10 1) (hd : decode F.2.1 pc = .ok (.getfield idx, 3)) (hq : pc + 3 = q) (kk : V D F rm Qf k n q locs (.ref (ad 159) :: st) (wl D ad M)) : V D F rm Qf k n pc locs (.ref (ad 157) :: st) (wl D ad M) := E_getR (r := 159) cl_X6 hf sk_157 rfl hd hq kk
theorem G_X6_historySize (hf : FL F.1 idx 10 2) (hd : decode F.2.1 pc = .ok (.getfield idx, 3)) (hq : pc + 3 = q) (kk : V D F rm Qf k n q locs (.int (M 157 2) :: st) (wl D ad M)) : V D F rm Qf k n pc locs (.ref (ad 157) :: st) (wl D ad M) := E_getI cl_X6 hf sk_157 rfl hd hq kk
theorem P_X6_historySize {v : Int32} (hf : FL F.1 idx 10 2) (hd : decode F.2.1 pc = .ok (.putfield idx, 3)) (hq : pc + 3 = q) (kk : V D F rm Qf k n q locs st (wl D ad (upd2 M 157 2 v))) : V D F rm Qf k n pc locs (.int v :: .ref (ad 157) :: st) (wl D ad M) := E_putI cl_X6 hf sk_157 rfl (show _ ≤ 1000 by simp) fp_X6_2 hd hq kk
theorem G_X6_w {x : Nat} (hx : WX M x) (hf : FL F.1 idx 10 3) (hd : decode F.2.1 pc = .ok (.getfield idx, 3)) (hq : pc + 3 = q) (kk : V D F rm Qf k n q locs (.ref (ad x) :: st) (wl D ad M)) : V D F rm Qf k n pc locs (.ref (ad 157) :: st) (wl D ad M) := E_getW hx.1 cl_X6 hf sk_157 rfl hd hq kk
theorem P_X6_w {x : Nat} (hx : x < 2 ^ 31) (hf : FL F.1 idx 10 3) (hd : decode F.2.1 pc = .ok (.putfield idx, 3)) (hq : pc + 3 = q) (kk : V D F rm Qf k n q locs st (wl D ad (upd2 M 157 3 (nI x)))) : V D F rm Qf k n pc locs (.ref (ad x) :: .ref (ad 157) :: st) (wl D ad M) := E_putW cl_X6 hf sk_157 rfl (by decide) fp_X6_3 (fun _ => rfl) (fun _ => rfl) hx hd hq kk
theorem G_X6_thrown (hf : FL F.1 idx 10 4) (hd : decode F.2.1 pc = .ok (.getfield idx, 3)) (hq : pc + 3 = q) (kk : V D F rm Qf k n q locs (.int (M 157 4) :: st) (wl D ad M)) : V D F rm Qf k n pc locs (.ref (ad 157) :: st) (wl D ad M) := E_getI cl_X6 hf sk_157 rfl hd hq kk
theorem P_X6_thrown {v : Int32} (hf : FL F.1 idx 10 4) (hd : decode F.2.1 pc = .ok (.putfield idx, 3)) (hq : pc + 3 = q) (kk : V D F rm Qf k n q locs st (wl D ad (upd2 M 157 4 v))) : V D F rm Qf k n pc locs (.int v :: .ref (ad 157) :: st) (wl D ad M) := E_putI cl_X6 hf sk_157 rfl (show _ ≤ 1000 by simp) fp_X6_4 hd hq kk
theorem G_X6_heldSets (hf : FL F.1 idx 10 5) (hd : decode F.2.1 pc = .ok (.getfield idx, 3)) (hq : pc + 3 = q) (kk : V D F rm Qf k n q locs (.ref (ad 160) :: st) (wl D ad M)) : V D F rm Qf k n pc locs (.ref (ad 157) :: st) (wl D ad M) := E_getR (r := 160) cl_X6 hf sk_157 rfl hd hq kk
theorem G_X6_heldUnits (hf : FL F.1 idx 10 6) (hd : decode F.2.1 pc = .ok (.getfield idx, 3)) (hq : pc + 3 = q) (kk : V D F rm Qf k n q locs (.ref (ad 161) :: st) (wl D ad M)) : V D F rm Qf k n pc locs (.ref (ad 157) :: st) (wl D ad M) := E_getR (r := 161) cl_X6 hf sk_157 rfl hd hq kk
theorem G_X6_heldMany (hf : FL F.1 idx 10 7) (hd : decode F.2.1 pc = .ok (.getfield idx, 3)) (hq : pc + 3 = q) (kk : V D F rm Qf k n q locs (.int (M 157 7) :: st) (wl D ad M)) : V D F rm Qf k n pc locs (.ref (ad 157) :: st) (wl D ad M) := E_getI cl_X6 hf sk_157 rfl hd hq kk
theorem P_X6_heldMany {v : Int32} (hf : FL F.1 idx 10 7) (hd : decode F.2.1 pc = .ok (.putfield idx, 3)) (hq : pc + 3 = q) (kk : V D F rm Qf k n q locs st (wl D ad (upd2 M 157 7 v))) : V D F rm Qf k n pc locs (.int v :: .ref (ad 157) :: st) (wl D ad M) := E_putI cl_X6 hf sk_157 rfl (show _ ≤ 1000 by simp) fp_X6_7 hd hq kk
theorem G_X6_buffer (hf : FL F.1 idx 10 8) (hd : decode F.2.1 pc = .ok (.getfield idx, 3)) (hq : pc + 3 = q) (kk : V D F rm Qf k n q locs (.ref (ad 162) :: st) (wl D ad M)) : V D F rm Qf k n pc locs (.ref (ad 157) :: st) (wl D ad M) := E_getR (r := 162) cl_X6 hf sk_157 rfl hd hq kk
theorem G_X6_bufferSize (hf : FL F.1 idx 10 9) (hd : decode F.2.1 pc = .ok (.getfield idx, 3)) (hq : pc + 3 = q) (kk : V D F rm Qf k n q locs (.int (M 157 9) :: st) (wl D ad M)) : V D F rm Qf k n pc locs (.ref (ad 157) :: st) (wl D ad M) := E_getI cl_X6 hf sk_157 rfl hd hq kk
theorem P_X6_bufferSize {v : Int32} (hf : FL F.1 idx 10 9) (hd : decode F.2.1 pc = .ok (.putfield idx, 3)) (hq : pc + 3 = q) (kk : V D F rm Qf k n q locs st (wl D ad (upd2 M 157 9 v))) : V D F rm Qf k n pc locs (.int v :: .ref (ad 157) :: st) (wl D ad M) := E_putI cl_X6 hf sk_157 rfl (show _ ≤ 1000 by simp) fp_X6_9 hd hq kk
theorem G_X6_errorAt (hf : FL F.1 idx 10 10) (hd : decode F.2.1 pc = .ok (.getfield idx, 3)) (hq : pc + 3 = q) (kk : V D F rm Qf k n q locs (.int (M 157 10) :: st) (wl D ad M)) : V D F rm Qf k n pc locs (.ref (ad 157) :: st) (wl D ad M) := E_getI cl_X6 hf sk_157 rfl hd hq kk
theorem P_X6_errorAt {v : Int32} (hf : FL F.1 idx 10 10) (hd : decode F.2.1 pc = .ok (.putfield idx, 3)) (hq : pc + 3 = q) (kk : V D F rm Qf k n q locs st (wl D ad (upd2 M 157 10 v))) : V D F rm Qf k n pc locs (.int v :: .ref (ad 157) :: st) (wl D ad M) := E_putI cl_X6 hf sk_157 rfl (show _ ≤ 1000 by simp) fp_X6_10 hd hq kk
theorem G_X6_textSize (hf : FL F.1 idx 10 11) (hd : decode F.2.1 pc = .ok (.getfield idx, 3)) (hq : pc + 3 = q) (kk : V D F rm Qf k n q locs (.int (M 157 11) :: st) (wl D ad M)) : V D F rm Qf k n pc locs (.ref (ad 157) :: st) (wl D ad M) := E_getI cl_X6 hf sk_157 rfl hd hq kk
theorem P_X6_textSize {v : Int32} (hf : FL F.1 idx 10 11) (hd : decode F.2.1 pc = .ok (.putfield idx, 3)) (hq : pc + 3 = q) (kk : V D F rm Qf k n q locs st (wl D ad (upd2 M 157 11 v))) : V D F rm Qf k n pc locs (.int v :: .ref (ad 157) :: st) (wl D ad M) := E_putI cl_X6 hf sk_157 rfl (show _ ≤ 1000 by simp) fp_X6_11 hd hq kk
theorem G_X6_at (hf : FL F.1 idx 10 12) (hd : decode F.2.1 pc = .ok (.getfield idx, 3)) (hq : pc + 3 = q) (kk : V D F rm Qf k n q locs (.int (M 157 12) :: st) (wl D ad M)) : V D F rm Qf k n pc locs (.ref (ad 157) :: st) (wl D ad M) := E_getI cl_X6 hf sk_157 rfl hd hq kk
theorem P_X6_at {v : Int32} (hf : FL F.1 idx 10 12) (hd : decode F.2.1 pc = .ok (.putfield idx, 3)) (hq : pc + 3 = q) (kk : V D F rm Qf k n q locs st (wl D ad (upd2 M 157 12 v))) : V D F rm Qf k n pc locs (.int v :: .ref (ad 157) :: st) (wl D ad M) := E_putI cl_X6 hf sk_157 rfl (show _ ≤ 1000 by simp) fp_X6_12 hd hq kk
theorem G_X6_start (hf : FL F.1 idx 10 13) (hd : decode F.2.1 pc = .ok (.getfield idx, 3)) (hq : pc + 3 = q) (kk : V D F rm Qf k n q locs (.int (M 157 13) :: st) (wl D ad M)) : V D F rm Qf k n pc locs (.ref (ad 157) :: st) (wl D ad M) := E_getI cl_X6 hf sk_157 rfl hd hq kk
theorem P_X6_start {v : Int32} (hf : FL F.1 idx 10 13) (hd : decode F.2.1 pc = .ok (.putfield idx, 3)) (hq : pc + 3 = q) (kk : V D F rm Qf k n q locs st (wl D ad (upd2 M 157 13 v))) : V D F rm Qf k n pc locs (.int v :: .ref (ad 157) :: st) (wl D ad M) := E_putI cl_X6 hf sk_157 rfl (show _ ≤ 1000 by simp) fp_X6_13 hd hq kk
theorem G_X6_token (hf : FL F.1 idx 10 14) (hd : decode F.2.1 pc = .ok (.getfield idx, 3)) (hq : pc + 3 = q) (kk : V D F rm Qf k n q locs (.int (M 157 14) :: st) (wl D ad M)) : V D F rm Qf k n pc locs (.ref (ad 157) :: st) (wl D ad M) := E_getI cl_X6 hf sk_157 rfl hd hq kk
theorem P_X6_token {v : Int32} (hf : FL F.1 idx 10 14) (hd : decode F.2.1 pc = .ok (.putfield idx, 3)) (hq : pc + 3 = q) (kk : V D F rm Qf k n q locs st (wl D ad (upd2 M 157 14 v))) : V D F rm Qf k n pc locs (.int v :: .ref (ad 157) :: st) (wl D ad M) := E_putI cl_X6 hf sk_157 rfl (show _ ≤ 1000 by simp) fp_X6_14 hd hq kk
theorem G_X6_integer (hf : FL F.1 idx 10 15) (hd : decode F.2.1 pc = .ok (.getfield idx, 3)) (hq : pc + 3 = q) (kk : V D F rm Qf k n q locs (.int (M 157 15) :: st) (wl D ad M)) : V D F rm Qf k n pc locs (.ref (ad 157) :: st) (wl D ad M) := E_getI cl_X6 hf sk_157 rfl hd hq kk
theorem P_X6_integer {v : Int32} (hf : FL F.1 idx 10 15) (hd : decode F.2.1 pc = .ok (.putfield idx, 3)) (hq : pc + 3 = q) (kk : V D F rm Qf k n q locs st (wl D ad (upd2 M 157 15 v))) : V D F rm Qf k n pc locs (.int v :: .ref (ad 157) :: st) (wl D ad M) := E_putI cl_X6 hf sk_157 rfl (show _ ≤ 1000 by simp) fp_X6_15 hd hq kk
theorem G_X6_word (hf : FL F.1 idx 10 16) (hd : decode F.2.1 pc = .ok (.getfield idx, 3)) (hq : pc + 3 = q) (kk : V D F rm Qf k n q locs (.long (lgOf (M 157 16) (M 157 1016)) :: st) (wl D ad M)) : V D F rm Qf k n pc locs (.ref (ad 157) :: st) (wl D ad M) := E_getL cl_X6 hf sk_157 rfl hd hq kk
theorem P_X6_word {v : Int64} (hf : FL F.1 idx 10 16) (hd : decode F.2.1 pc = .ok (.putfield idx, 3)) (hq : pc + 3 = q) (kk : V D F rm Qf k n q locs st (wl D ad (upd2 (upd2 M 157 16 (lgHi v)) 157 1016 (lgLo v)))) : V D F rm Qf k n pc locs (.long v :: .ref (ad 157) :: st) (wl D ad M) := E_putL cl_X6 hf sk_157 rfl (fun i hi => by
  intro h
  have := (List.getElem?_eq_some_iff.mp h).1
  match i, hi, h, this with
  | 0, hi, h, _ => exact absurd h (by decide)
  | 1, hi, h, _ => exact absurd h (by decide)
  | 2, hi, h, _ => exact absurd h (by decide)
  | 3, hi, h, _ => exact absurd h (by decide)
  | 4, hi, h, _ => exact absurd h (by decide)
  | 5, hi, h, _ => exact absurd h (by decide)
  | 6, hi, h, _ => exact absurd h (by decide)
  | 7, hi, h, _ => exact absurd h (by decide)
  | 8, hi, h, _ => exact absurd h (by decide)
  | 9, hi, h, _ => exact absurd h (by decide)
  | 10, hi, h, _ => exact absurd h (by decide)
  | 11, hi, h, _ => exact absurd h (by decide)
  | 12, hi, h, _ => exact absurd h (by decide)
  | 13, hi, h, _ => exact absurd h (by decide)
  | 14, hi, h, _ => exact absurd h (by decide)
  | 15, hi, h, _ => exact absurd h (by decide)
  | 16, hi, h, _ => exact hi rfl
  | 17, hi, h, _ => exact absurd h (by decide)
  | 18, hi, h, _ => exact absurd h (by decide)
  | 19, hi, h, _ => exact absurd h (by decide)
  | 20, hi, h, _ => exact absurd h (by decide)
  | 21, hi, h, _ => exact absurd h (by decide)
  | 22, hi, h, _ => exact absurd h (by decide)
  | 23, hi, h, _ => exact absurd h (by decide)
  | i + 24, hi, h, this => simp at this; omega) (show _ ≤ 1000 by simp) fp_X6_16 hd hq kk
theorem G_X6_letters (hf : FL F.1 idx 10 17) (hd : decode F.2.1 pc = .ok (.getfield idx, 3)) (hq : pc + 3 = q) (kk : V D F rm Qf k n q locs (.int (M 157 17) :: st) (wl D ad M)) : V D F rm Qf k n pc locs (.ref (ad 157) :: st) (wl D ad M) := E_getI cl_X6 hf sk_157 rfl hd hq kk
theorem P_X6_letters {v : Int32} (hf : FL F.1 idx 10 17) (hd : decode F.2.1 pc = .ok (.putfield idx, 3)) (hq : pc + 3 = q) (kk : V D F rm Qf k n q locs st (wl D ad (upd2 M 157 17 v))) : V D F rm Qf k n pc locs (.int v :: .ref (ad 157) :: st) (wl D ad M) := E_putI cl_X6 hf sk_157 rfl (show _ ≤ 1000 by simp) fp_X6_17 hd hq kk
theorem G_X6_fault (hf : FL F.1 idx 10 18) (hd : decode F.2.1 pc = .ok (.getfield idx, 3)) (hq : pc + 3 = q) (kk : V D F rm Qf k n q locs (.int (M 157 18) :: st) (wl D ad M)) : V D F rm Qf k n pc locs (.ref (ad 157) :: st) (wl D ad M) := E_getI cl_X6 hf sk_157 rfl hd hq kk
theorem P_X6_fault {v : Int32} (hf : FL F.1 idx 10 18) (hd : decode F.2.1 pc = .ok (.putfield idx, 3)) (hq : pc + 3 = q) (kk : V D F rm Qf k n q locs st (wl D ad (upd2 M 157 18 v))) : V D F rm Qf k n pc locs (.int v :: .ref (ad 157) :: st) (wl D ad M) := E_putI cl_X6 hf sk_157 rfl (show _ ≤ 1000 by simp) fp_X6_18 hd hq kk
theorem G_X6_read (hf : FL F.1 idx 10 19) (hd : decode F.2.1 pc = .ok (.getfield idx, 3)) (hq : pc + 3 = q) (kk : V D F rm Qf k n q locs (.ref (ad 163) :: st) (wl D ad M)) : V D F rm Qf k n pc locs (.ref (ad 157) :: st) (wl D ad M) := E_getR (r := 163) cl_X6 hf sk_157 rfl hd hq kk
theorem G_X6_given (hf : FL F.1 idx 10 20) (hd : decode F.2.1 pc = .ok (.getfield idx, 3)) (hq : pc + 3 = q) (kk : V D F rm Qf k n q locs (.int (M 157 20) :: st) (wl D ad M)) : V D F rm Qf k n pc locs (.ref (ad 157) :: st) (wl D ad M) := E_getI cl_X6 hf sk_157 rfl hd hq kk
theorem P_X6_given {v : Int32} (hf : FL F.1 idx 10 20) (hd : decode F.2.1 pc = .ok (.putfield idx, 3)) (hq : pc + 3 = q) (kk : V D F rm Qf k n q locs st (wl D ad (upd2 M 157 20 v))) : V D F rm Qf k n pc locs (.int v :: .ref (ad 157) :: st) (wl D ad M) := E_putI cl_X6 hf sk_157 rfl (show _ ≤ 1000 by simp) fp_X6_20 hd hq kk
theorem G_X6_statements (hf : FL F.1 idx 10 21) (hd : decode F.2.1 pc = .ok (.getfield idx, 3)) (hq : pc + 3 = q) (kk : V D F rm Qf k n q locs (.int (M 157 21) :: st) (wl D ad M)) : V D F rm Qf k n pc locs (.ref (ad 157) :: st) (wl D ad M) := E_getI cl_X6 hf sk_157 rfl hd hq kk
theorem P_X6_statements {v : Int32} (hf : FL F.1 idx 10 21) (hd : decode F.2.1 pc = .ok (.putfield idx, 3)) (hq : pc + 3 = q) (kk : V D F rm Qf k n q locs st (wl D ad (upd2 M 157 21 v))) : V D F rm Qf k n pc locs (.int v :: .ref (ad 157) :: st) (wl D ad M) := E_putI cl_X6 hf sk_157 rfl (show _ ≤ 1000 by simp) fp_X6_21 hd hq kk
theorem G_X6_output (hf : FL F.1 idx 10 22) (hd : decode F.2.1 pc = .ok (.getfield idx, 3)) (hq : pc + 3 = q) (kk : V D F rm Qf k n q locs (.ref (ad 164) :: st) (wl D ad M)) : V D F rm Qf k n pc locs (.ref (ad 157) :: st) (wl D ad M) := E_getR (r := 164) cl_X6 hf sk_157 rfl hd hq kk
theorem G_X6_outputSize (hf : FL F.1 idx 10 23) (hd : decode F.2.1 pc = .ok (.getfield idx, 3)) (hq : pc + 3 = q) (kk : V D F rm Qf k n q locs (.int (M 157 23) :: st) (wl D ad M)) : V D F rm Qf k n pc locs (.ref (ad 157) :: st) (wl D ad M) := E_getI cl_X6 hf sk_157 rfl hd hq kk
theorem P_X6_outputSize {v : Int32} (hf : FL F.1 idx 10 23) (hd : decode F.2.1 pc = .ok (.putfield idx, 3)) (hq : pc + 3 = q) (kk : V D F rm Qf k n q locs st (wl D ad (upd2 M 157 23 v))) : V D F rm Qf k n pc locs (.int v :: .ref (ad 157) :: st) (wl D ad M) := E_putI cl_X6 hf sk_157 rfl (show _ ≤ 1000 by simp) fp_X6_23 hd hq kk
theorem rc_X6 : Recv (wl D ad M) (ad 157) RX6 := Recv_wl (T := TX6) (N := 24) sk_157 rfl
theorem G_X4_time (hb : IsSt b) (hf : FL F.1 idx 8 0) (hd : decode F.2.1 pc = .ok (.getfield idx, 3)) (hq : pc + 3 = q) (kk : V D F rm Qf k n q locs (.int (M b 0) :: st) (wl D ad M)) : V D F rm Qf k n pc locs (.ref (ad b) :: st) (wl D ad M) := E_getI cl_X4 hf hb.1 rfl hd hq kk
theorem P_X4_time {v : Int32} (hb : IsSt b) (hf : FL F.1 idx 8 0) (hd : decode F.2.1 pc = .ok (.putfield idx, 3)) (hq : pc + 3 = q) (kk : V D F rm Qf k n q locs st (wl D ad (upd2 M b 0 v))) : V D F rm Qf k n pc locs (.int v :: .ref (ad b) :: st) (wl D ad M) := E_putI cl_X4 hf hb.1 rfl (show _ ≤ 1000 by simp) fp_X4_0 hd hq kk
theorem G_X4_volumesCome (hb : IsSt b) (hf : FL F.1 idx 8 1) (hd : decode F.2.1 pc = .ok (.getfield idx, 3)) (hq : pc + 3 = q) (kk : V D F rm Qf k n q locs (.int (M b 1) :: st) (wl D ad M)) : V D F rm Qf k n pc locs (.ref (ad b) :: st) (wl D ad M) := E_getI cl_X4 hf hb.1 rfl hd hq kk
theorem P_X4_volumesCome {v : Int32} (hb : IsSt b) (hf : FL F.1 idx 8 1) (hd : decode F.2.1 pc = .ok (.putfield idx, 3)) (hq : pc + 3 = q) (kk : V D F rm Qf k n q locs st (wl D ad (upd2 M b 1 v))) : V D F rm Qf k n pc locs (.int v :: .ref (ad b) :: st) (wl D ad M) := E_putI cl_X4 hf hb.1 rfl (show _ ≤ 1000 by simp) fp_X4_1 hd hq kk
theorem G_X4_snapshotsCome (hb : IsSt b) (hf : FL F.1 idx 8 2) (hd : decode F.2.1 pc = .ok (.getfield idx, 3)) (hq : pc + 3 = q) (kk : V D F rm Qf k n q locs (.int (M b 2) :: st) (wl D ad M)) : V D F rm Qf k n pc locs (.ref (ad b) :: st) (wl D ad M) := E_getI cl_X4 hf hb.1 rfl hd hq kk
theorem P_X4_snapshotsCome {v : Int32} (hb : IsSt b) (hf : FL F.1 idx 8 2) (hd : decode F.2.1 pc = .ok (.putfield idx, 3)) (hq : pc + 3 = q) (kk : V D F rm Qf k n q locs st (wl D ad (upd2 M b 2 v))) : V D F rm Qf k n pc locs (.int v :: .ref (ad b) :: st) (wl D ad M) := E_putI cl_X4 hf hb.1 rfl (show _ ≤ 1000 by simp) fp_X4_2 hd hq kk
theorem G_X4_there (hb : IsSt b) (hf : FL F.1 idx 8 3) (hd : decode F.2.1 pc = .ok (.getfield idx, 3)) (hq : pc + 3 = q) (kk : V D F rm Qf k n q locs (.int (M b 3) :: st) (wl D ad M)) : V D F rm Qf k n pc locs (.ref (ad b) :: st) (wl D ad M) := E_getI cl_X4 hf hb.1 rfl hd hq kk
theorem P_X4_there {v : Int32} (hb : IsSt b) (hf : FL F.1 idx 8 3) (hd : decode F.2.1 pc = .ok (.putfield idx, 3)) (hq : pc + 3 = q) (kk : V D F rm Qf k n q locs st (wl D ad (upd2 M b 3 v))) : V D F rm Qf k n pc locs (.int v :: .ref (ad b) :: st) (wl D ad M) := E_putI cl_X4 hf hb.1 rfl (show _ ≤ 1000 by simp) fp_X4_3 hd hq kk
theorem G_X4_heldSet (hb : IsSt b) (hf : FL F.1 idx 8 4) (hd : decode F.2.1 pc = .ok (.getfield idx, 3)) (hq : pc + 3 = q) (kk : V D F rm Qf k n q locs (.int (M b 4) :: st) (wl D ad M)) : V D F rm Qf k n pc locs (.ref (ad b) :: st) (wl D ad M) := E_getI cl_X4 hf hb.1 rfl hd hq kk
theorem P_X4_heldSet {v : Int32} (hb : IsSt b) (hf : FL F.1 idx 8 4) (hd : decode F.2.1 pc = .ok (.putfield idx, 3)) (hq : pc + 3 = q) (kk : V D F rm Qf k n q locs st (wl D ad (upd2 M b 4 v))) : V D F rm Qf k n pc locs (.int v :: .ref (ad b) :: st) (wl D ad M) := E_putI cl_X4 hf hb.1 rfl (show _ ≤ 1000 by simp) fp_X4_4 hd hq kk
theorem G_X4_settings (hb : IsSt b) (hf : FL F.1 idx 8 5) (hd : decode F.2.1 pc = .ok (.getfield idx, 3)) (hq : pc + 3 = q) (kk : V D F rm Qf k n q locs (.ref (ad (b + 1)) :: st) (wl D ad M)) : V D F rm Qf k n pc locs (.ref (ad b) :: st) (wl D ad M) := E_getR (r := (b + 1)) cl_X4 hf hb.1 rfl hd hq kk
theorem G_X4_homes (hb : IsSt b) (hf : FL F.1 idx 8 6) (hd : decode F.2.1 pc = .ok (.getfield idx, 3)) (hq : pc + 3 = q) (kk : V D F rm Qf k n q locs (.ref (ad (b + 2)) :: st) (wl D ad M)) : V D F rm Qf k n pc locs (.ref (ad b) :: st) (wl D ad M) := E_getR (r := (b + 2)) cl_X4 hf hb.1 rfl hd hq kk
theorem G_X4_times (hb : IsSt b) (hf : FL F.1 idx 8 7) (hd : decode F.2.1 pc = .ok (.getfield idx, 3)) (hq : pc + 3 = q) (kk : V D F rm Qf k n q locs (.ref (ad (b + 3)) :: st) (wl D ad M)) : V D F rm Qf k n pc locs (.ref (ad b) :: st) (wl D ad M) := E_getR (r := (b + 3)) cl_X4 hf hb.1 rfl hd hq kk
theorem G_X4_snapshotNames (hb : IsSt b) (hf : FL F.1 idx 8 8) (hd : decode F.2.1 pc = .ok (.getfield idx, 3)) (hq : pc + 3 = q) (kk : V D F rm Qf k n q locs (.ref (ad (b + 4)) :: st) (wl D ad M)) : V D F rm Qf k n pc locs (.ref (ad b) :: st) (wl D ad M) := E_getR (r := (b + 4)) cl_X4 hf hb.1 rfl hd hq kk
theorem G_X4_volumeNames (hb : IsSt b) (hf : FL F.1 idx 8 9) (hd : decode F.2.1 pc = .ok (.getfield idx, 3)) (hq : pc + 3 = q) (kk : V D F rm Qf k n q locs (.ref (ad (b + 5)) :: st) (wl D ad M)) : V D F rm Qf k n pc locs (.ref (ad b) :: st) (wl D ad M) := E_getR (r := (b + 5)) cl_X4 hf hb.1 rfl hd hq kk
theorem G_X4_origins (hb : IsSt b) (hf : FL F.1 idx 8 10) (hd : decode F.2.1 pc = .ok (.getfield idx, 3)) (hq : pc + 3 = q) (kk : V D F rm Qf k n q locs (.ref (ad (b + 6)) :: st) (wl D ad M)) : V D F rm Qf k n pc locs (.ref (ad b) :: st) (wl D ad M) := E_getR (r := (b + 6)) cl_X4 hf hb.1 rfl hd hq kk
theorem G_X4_quotas (hb : IsSt b) (hf : FL F.1 idx 8 11) (hd : decode F.2.1 pc = .ok (.getfield idx, 3)) (hq : pc + 3 = q) (kk : V D F rm Qf k n q locs (.ref (ad (b + 7)) :: st) (wl D ad M)) : V D F rm Qf k n pc locs (.ref (ad b) :: st) (wl D ad M) := E_getR (r := (b + 7)) cl_X4 hf hb.1 rfl hd hq kk
theorem G_X4_blocks (hb : IsSt b) (hf : FL F.1 idx 8 12) (hd : decode F.2.1 pc = .ok (.getfield idx, 3)) (hq : pc + 3 = q) (kk : V D F rm Qf k n q locs (.ref (ad (b + 8)) :: st) (wl D ad M)) : V D F rm Qf k n pc locs (.ref (ad b) :: st) (wl D ad M) := E_getR (r := (b + 8)) cl_X4 hf hb.1 rfl hd hq kk
theorem G_X0_births (hb : IsBl b) (hf : FL F.1 idx 4 0) (hd : decode F.2.1 pc = .ok (.getfield idx, 3)) (hq : pc + 3 = q) (kk : V D F rm Qf k n q locs (.ref (ad (b + 1)) :: st) (wl D ad M)) : V D F rm Qf k n pc locs (.ref (ad b) :: st) (wl D ad M) := E_getR (r := (b + 1)) cl_X0 hf hb.1 rfl hd hq kk
theorem G_X0_sizes (hb : IsBl b) (hf : FL F.1 idx 4 1) (hd : decode F.2.1 pc = .ok (.getfield idx, 3)) (hq : pc + 3 = q) (kk : V D F rm Qf k n q locs (.ref (ad (b + 2)) :: st) (wl D ad M)) : V D F rm Qf k n pc locs (.ref (ad b) :: st) (wl D ad M) := E_getR (r := (b + 2)) cl_X0 hf hb.1 rfl hd hq kk
theorem G_X0_addresses (hb : IsBl b) (hf : FL F.1 idx 4 2) (hd : decode F.2.1 pc = .ok (.getfield idx, 3)) (hq : pc + 3 = q) (kk : V D F rm Qf k n q locs (.ref (ad (b + 3)) :: st) (wl D ad M)) : V D F rm Qf k n pc locs (.ref (ad b) :: st) (wl D ad M) := E_getR (r := (b + 3)) cl_X0 hf hb.1 rfl hd hq kk
theorem G_X0_owners (hb : IsBl b) (hf : FL F.1 idx 4 3) (hd : decode F.2.1 pc = .ok (.getfield idx, 3)) (hq : pc + 3 = q) (kk : V D F rm Qf k n q locs (.ref (ad (b + 4)) :: st) (wl D ad M)) : V D F rm Qf k n pc locs (.ref (ad b) :: st) (wl D ad M) := E_getR (r := (b + 4)) cl_X0 hf hb.1 rfl hd hq kk
theorem G_X0_length (hb : IsBl b) (hf : FL F.1 idx 4 4) (hd : decode F.2.1 pc = .ok (.getfield idx, 3)) (hq : pc + 3 = q) (kk : V D F rm Qf k n q locs (.int (M b 4) :: st) (wl D ad M)) : V D F rm Qf k n pc locs (.ref (ad b) :: st) (wl D ad M) := E_getI cl_X0 hf hb.1 rfl hd hq kk
theorem P_X0_length {v : Int32} (hb : IsBl b) (hf : FL F.1 idx 4 4) (hd : decode F.2.1 pc = .ok (.putfield idx, 3)) (hq : pc + 3 = q) (kk : V D F rm Qf k n q locs st (wl D ad (upd2 M b 4 v))) : V D F rm Qf k n pc locs (.int v :: .ref (ad b) :: st) (wl D ad M) := E_putI cl_X0 hf hb.1 rfl (show _ ≤ 1000 by simp) fp_X0_4 hd hq kk
theorem rc_X4 (hb : IsSt b) : Recv (wl D ad M) (ad b) RX4 := Recv_wl (T := TX4) (N := 13) hb.1 rfl
theorem rc_X0 (hb : IsBl b) : Recv (wl D ad M) (ad b) RX0 := Recv_wl (T := TX0) (N := 5) hb.1 rfl
theorem V_le {ws : va_W} (kk : k ≤ rm.cells → n ≤ rm.slots → V D F rm Qf k n pc locs st ws) : V D F rm Qf k n pc locs st ws := by
  intro p l e s m args below meth c A H lc ls C hlen hkc hnc hP hD hS hl
  exact kk hkc hnc p l e s m args below meth c A H lc ls C hlen hkc hnc hP hD hS hl
theorem C_V0I {F' : Cfg} {y : MethodName} {d d' mc ms : Nat} {ws w : va_W} {a : Nat}  {r : Int32}(lk : LkV F.1 idx y F' 0) (hs : Spec D d' y F' [.ref a] ws 0 0 (PI r w)) (hr : Recv ws a F'.1) (hd : decode F.2.1 pc = .ok (.invokevirtual idx, 3)) (hd' : d' < d) (hst : (st.map fun v => v.category).sum ≤ 8) (hq : pc + 3 = q) (kk : V D F (rmOf d mc ms) Qf k n q locs (.int r :: st) w) : V D F (rmOf d mc ms) Qf k n pc locs (.ref a :: st) ws := by
  refine V_le (fun hk hn => ?_)
  refine E_callV (ar := []) (rest := st) lk hs hr hd' (by simpa using hk) (by simpa using hn) hst hd rfl hq ?_
  rintro v ws' ⟨rfl, rfl⟩
  exact kk
theorem C_V0V {F' : Cfg} {y : MethodName} {d d' mc ms : Nat} {ws w : va_W} {a : Nat} (lk : LkV F.1 idx y F' 0) (hs : Spec D d' y F' [.ref a] ws 0 0 (PV w)) (hr : Recv ws a F'.1) (hd : decode F.2.1 pc = .ok (.invokevirtual idx, 3)) (hd' : d' < d) (hst : (st.map fun v => v.category).sum ≤ 8) (hq : pc + 3 = q) (kk : V D F (rmOf d mc ms) Qf k n q locs st w) : V D F (rmOf d mc ms) Qf k n pc locs (.ref a :: st) ws := by
  refine V_le (fun hk hn => ?_)
  refine E_callV (ar := []) (rest := st) lk hs hr hd' (by simpa using hk) (by simpa using hn) hst hd rfl hq ?_
  rintro v ws' ⟨rfl, rfl⟩
  exact kk
theorem C_S0I {F' : Cfg} {y : MethodName} {d d' mc ms : Nat} {ws w : va_W}  {r : Int32}(lk : LkS F.1 idx y F' 0) (hs : Spec D d' y F' [] ws 0 0 (PI r w)) (hd : decode F.2.1 pc = .ok (.invokestatic idx, 3)) (hd' : d' < d) (hst : (st.map fun v => v.category).sum ≤ 8) (hq : pc + 3 = q) (kk : V D F (rmOf d mc ms) Qf k n q locs (.int r :: st) w) : V D F (rmOf d mc ms) Qf k n pc locs (st) ws := by
  refine V_le (fun hk hn => ?_)
  refine E_callS (ar := []) (rest := st) lk hs hd' (by simpa using hk) (by simpa using hn) hst hd rfl hq ?_
  rintro v ws' ⟨rfl, rfl⟩
  exact kk
theorem C_S0V {F' : Cfg} {y : MethodName} {d d' mc ms : Nat} {ws w : va_W} (lk : LkS F.1 idx y F' 0) (hs : Spec D d' y F' [] ws 0 0 (PV w)) (hd : decode F.2.1 pc = .ok (.invokestatic idx, 3)) (hd' : d' < d) (hst : (st.map fun v => v.category).sum ≤ 8) (hq : pc + 3 = q) (kk : V D F (rmOf d mc ms) Qf k n q locs st w) : V D F (rmOf d mc ms) Qf k n pc locs (st) ws := by
  refine V_le (fun hk hn => ?_)
  refine E_callS (ar := []) (rest := st) lk hs hd' (by simpa using hk) (by simpa using hn) hst hd rfl hq ?_
  rintro v ws' ⟨rfl, rfl⟩
  exact kk
theorem C_SN0I {F' : Cfg} {y : MethodName} {d d' mc ms : Nat} {ws w : va_W} {host : String}  {r : Int32}(lk : LkSN F.1 idx y F' 0 host) (hs : Spec D d' y F' [] ws 0 0 (PI r w)) (hd : decode F.2.1 pc = .ok (.invokestatic idx, 3)) (hd' : d' < d) (hst : (st.map fun v => v.category).sum ≤ 8) (hq : pc + 3 = q) (kk : V D F (rmOf d mc ms) Qf k n q locs (.int r :: st) w) : V D F (rmOf d mc ms) Qf k n pc locs (st) ws := by
  refine V_le (fun hk hn => ?_)
  refine E_callSN (ar := []) (rest := st) lk hs hd' (by simpa using hk) (by simpa using hn) hst hd rfl hq ?_
  rintro v ws' ⟨rfl, rfl⟩
  exact kk
theorem C_SN0V {F' : Cfg} {y : MethodName} {d d' mc ms : Nat} {ws w : va_W} {host : String} (lk : LkSN F.1 idx y F' 0 host) (hs : Spec D d' y F' [] ws 0 0 (PV w)) (hd : decode F.2.1 pc = .ok (.invokestatic idx, 3)) (hd' : d' < d) (hst : (st.map fun v => v.category).sum ≤ 8) (hq : pc + 3 = q) (kk : V D F (rmOf d mc ms) Qf k n q locs st w) : V D F (rmOf d mc ms) Qf k n pc locs (st) ws := by
  refine V_le (fun hk hn => ?_)
  refine E_callSN (ar := []) (rest := st) lk hs hd' (by simpa using hk) (by simpa using hn) hst hd rfl hq ?_
  rintro v ws' ⟨rfl, rfl⟩
  exact kk
theorem C_V1I {F' : Cfg} {y : MethodName} {d d' mc ms : Nat} {ws w : va_W} {a : Nat} {x1 : Value}  {r : Int32}(lk : LkV F.1 idx y F' 1) (hs : Spec D d' y F' [.ref a, x1] ws 0 0 (PI r w)) (hr : Recv ws a F'.1) (hd : decode F.2.1 pc = .ok (.invokevirtual idx, 3)) (hd' : d' < d) (hst : (st.map fun v => v.category).sum ≤ 8) (hq : pc + 3 = q) (kk : V D F (rmOf d mc ms) Qf k n q locs (.int r :: st) w) : V D F (rmOf d mc ms) Qf k n pc locs (x1 :: .ref a :: st) ws := by
  refine V_le (fun hk hn => ?_)
  refine E_callV (ar := [x1]) (rest := st) lk hs hr hd' (by simpa using hk) (by simpa using hn) hst hd rfl hq ?_
  rintro v ws' ⟨rfl, rfl⟩
  exact kk
theorem C_V1V {F' : Cfg} {y : MethodName} {d d' mc ms : Nat} {ws w : va_W} {a : Nat} {x1 : Value} (lk : LkV F.1 idx y F' 1) (hs : Spec D d' y F' [.ref a, x1] ws 0 0 (PV w)) (hr : Recv ws a F'.1) (hd : decode F.2.1 pc = .ok (.invokevirtual idx, 3)) (hd' : d' < d) (hst : (st.map fun v => v.category).sum ≤ 8) (hq : pc + 3 = q) (kk : V D F (rmOf d mc ms) Qf k n q locs st w) : V D F (rmOf d mc ms) Qf k n pc locs (x1 :: .ref a :: st) ws := by
  refine V_le (fun hk hn => ?_)
  refine E_callV (ar := [x1]) (rest := st) lk hs hr hd' (by simpa using hk) (by simpa using hn) hst hd rfl hq ?_
  rintro v ws' ⟨rfl, rfl⟩
  exact kk
theorem C_S1I {F' : Cfg} {y : MethodName} {d d' mc ms : Nat} {ws w : va_W} {x1 : Value}  {r : Int32}(lk : LkS F.1 idx y F' 1) (hs : Spec D d' y F' [x1] ws 0 0 (PI r w)) (hd : decode F.2.1 pc = .ok (.invokestatic idx, 3)) (hd' : d' < d) (hst : (st.map fun v => v.category).sum ≤ 8) (hq : pc + 3 = q) (kk : V D F (rmOf d mc ms) Qf k n q locs (.int r :: st) w) : V D F (rmOf d mc ms) Qf k n pc locs (x1 :: st) ws := by
  refine V_le (fun hk hn => ?_)
  refine E_callS (ar := [x1]) (rest := st) lk hs hd' (by simpa using hk) (by simpa using hn) hst hd rfl hq ?_
  rintro v ws' ⟨rfl, rfl⟩
  exact kk
theorem C_S1V {F' : Cfg} {y : MethodName} {d d' mc ms : Nat} {ws w : va_W} {x1 : Value} (lk : LkS F.1 idx y F' 1) (hs : Spec D d' y F' [x1] ws 0 0 (PV w)) (hd : decode F.2.1 pc = .ok (.invokestatic idx, 3)) (hd' : d' < d) (hst : (st.map fun v => v.category).sum ≤ 8) (hq : pc + 3 = q) (kk : V D F (rmOf d mc ms) Qf k n q locs st w) : V D F (rmOf d mc ms) Qf k n pc locs (x1 :: st) ws := by
  refine V_le (fun hk hn => ?_)
  refine E_callS (ar := [x1]) (rest := st) lk hs hd' (by simpa using hk) (by simpa using hn) hst hd rfl hq ?_
  rintro v ws' ⟨rfl, rfl⟩
  exact kk
theorem C_SN1I {F' : Cfg} {y : MethodName} {d d' mc ms : Nat} {ws w : va_W} {x1 : Value} {host : String}  {r : Int32}(lk : LkSN F.1 idx y F' 1 host) (hs : Spec D d' y F' [x1] ws 0 0 (PI r w)) (hd : decode F.2.1 pc = .ok (.invokestatic idx, 3)) (hd' : d' < d) (hst : (st.map fun v => v.category).sum ≤ 8) (hq : pc + 3 = q) (kk : V D F (rmOf d mc ms) Qf k n q locs (.int r :: st) w) : V D F (rmOf d mc ms) Qf k n pc locs (x1 :: st) ws := by
  refine V_le (fun hk hn => ?_)
  refine E_callSN (ar := [x1]) (rest := st) lk hs hd' (by simpa using hk) (by simpa using hn) hst hd rfl hq ?_
  rintro v ws' ⟨rfl, rfl⟩
  exact kk
theorem C_SN1V {F' : Cfg} {y : MethodName} {d d' mc ms : Nat} {ws w : va_W} {x1 : Value} {host : String} (lk : LkSN F.1 idx y F' 1 host) (hs : Spec D d' y F' [x1] ws 0 0 (PV w)) (hd : decode F.2.1 pc = .ok (.invokestatic idx, 3)) (hd' : d' < d) (hst : (st.map fun v => v.category).sum ≤ 8) (hq : pc + 3 = q) (kk : V D F (rmOf d mc ms) Qf k n q locs st w) : V D F (rmOf d mc ms) Qf k n pc locs (x1 :: st) ws := by
  refine V_le (fun hk hn => ?_)
  refine E_callSN (ar := [x1]) (rest := st) lk hs hd' (by simpa using hk) (by simpa using hn) hst hd rfl hq ?_
  rintro v ws' ⟨rfl, rfl⟩
  exact kk
theorem C_V2I {F' : Cfg} {y : MethodName} {d d' mc ms : Nat} {ws w : va_W} {a : Nat} {x1 x2 : Value}  {r : Int32}(lk : LkV F.1 idx y F' 2) (hs : Spec D d' y F' [.ref a, x1, x2] ws 0 0 (PI r w)) (hr : Recv ws a F'.1) (hd : decode F.2.1 pc = .ok (.invokevirtual idx, 3)) (hd' : d' < d) (hst : (st.map fun v => v.category).sum ≤ 8) (hq : pc + 3 = q) (kk : V D F (rmOf d mc ms) Qf k n q locs (.int r :: st) w) : V D F (rmOf d mc ms) Qf k n pc locs (x2 :: x1 :: .ref a :: st) ws := by
  refine V_le (fun hk hn => ?_)
  refine E_callV (ar := [x1, x2]) (rest := st) lk hs hr hd' (by simpa using hk) (by simpa using hn) hst hd rfl hq ?_
  rintro v ws' ⟨rfl, rfl⟩
  exact kk
theorem C_V2V {F' : Cfg} {y : MethodName} {d d' mc ms : Nat} {ws w : va_W} {a : Nat} {x1 x2 : Value} (lk : LkV F.1 idx y F' 2) (hs : Spec D d' y F' [.ref a, x1, x2] ws 0 0 (PV w)) (hr : Recv ws a F'.1) (hd : decode F.2.1 pc = .ok (.invokevirtual idx, 3)) (hd' : d' < d) (hst : (st.map fun v => v.category).sum ≤ 8) (hq : pc + 3 = q) (kk : V D F (rmOf d mc ms) Qf k n q locs st w) : V D F (rmOf d mc ms) Qf k n pc locs (x2 :: x1 :: .ref a :: st) ws := by
  refine V_le (fun hk hn => ?_)
  refine E_callV (ar := [x1, x2]) (rest := st) lk hs hr hd' (by simpa using hk) (by simpa using hn) hst hd rfl hq ?_
  rintro v ws' ⟨rfl, rfl⟩
  exact kk
theorem C_S2I {F' : Cfg} {y : MethodName} {d d' mc ms : Nat} {ws w : va_W} {x1 x2 : Value}  {r : Int32}(lk : LkS F.1 idx y F' 2) (hs : Spec D d' y F' [x1, x2] ws 0 0 (PI r w)) (hd : decode F.2.1 pc = .ok (.invokestatic idx, 3)) (hd' : d' < d) (hst : (st.map fun v => v.category).sum ≤ 8) (hq : pc + 3 = q) (kk : V D F (rmOf d mc ms) Qf k n q locs (.int r :: st) w) : V D F (rmOf d mc ms) Qf k n pc locs (x2 :: x1 :: st) ws := by
  refine V_le (fun hk hn => ?_)
  refine E_callS (ar := [x1, x2]) (rest := st) lk hs hd' (by simpa using hk) (by simpa using hn) hst hd rfl hq ?_
  rintro v ws' ⟨rfl, rfl⟩
  exact kk
theorem C_S2V {F' : Cfg} {y : MethodName} {d d' mc ms : Nat} {ws w : va_W} {x1 x2 : Value} (lk : LkS F.1 idx y F' 2) (hs : Spec D d' y F' [x1, x2] ws 0 0 (PV w)) (hd : decode F.2.1 pc = .ok (.invokestatic idx, 3)) (hd' : d' < d) (hst : (st.map fun v => v.category).sum ≤ 8) (hq : pc + 3 = q) (kk : V D F (rmOf d mc ms) Qf k n q locs st w) : V D F (rmOf d mc ms) Qf k n pc locs (x2 :: x1 :: st) ws := by
  refine V_le (fun hk hn => ?_)
  refine E_callS (ar := [x1, x2]) (rest := st) lk hs hd' (by simpa using hk) (by simpa using hn) hst hd rfl hq ?_
  rintro v ws' ⟨rfl, rfl⟩
  exact kk
theorem C_SN2I {F' : Cfg} {y : MethodName} {d d' mc ms : Nat} {ws w : va_W} {x1 x2 : Value} {host : String}  {r : Int32}(lk : LkSN F.1 idx y F' 2 host) (hs : Spec D d' y F' [x1, x2] ws 0 0 (PI r w)) (hd : decode F.2.1 pc = .ok (.invokestatic idx, 3)) (hd' : d' < d) (hst : (st.map fun v => v.category).sum ≤ 8) (hq : pc + 3 = q) (kk : V D F (rmOf d mc ms) Qf k n q locs (.int r :: st) w) : V D F (rmOf d mc ms) Qf k n pc locs (x2 :: x1 :: st) ws := by
  refine V_le (fun hk hn => ?_)
  refine E_callSN (ar := [x1, x2]) (rest := st) lk hs hd' (by simpa using hk) (by simpa using hn) hst hd rfl hq ?_
  rintro v ws' ⟨rfl, rfl⟩
  exact kk
theorem C_SN2V {F' : Cfg} {y : MethodName} {d d' mc ms : Nat} {ws w : va_W} {x1 x2 : Value} {host : String} (lk : LkSN F.1 idx y F' 2 host) (hs : Spec D d' y F' [x1, x2] ws 0 0 (PV w)) (hd : decode F.2.1 pc = .ok (.invokestatic idx, 3)) (hd' : d' < d) (hst : (st.map fun v => v.category).sum ≤ 8) (hq : pc + 3 = q) (kk : V D F (rmOf d mc ms) Qf k n q locs st w) : V D F (rmOf d mc ms) Qf k n pc locs (x2 :: x1 :: st) ws := by
  refine V_le (fun hk hn => ?_)
  refine E_callSN (ar := [x1, x2]) (rest := st) lk hs hd' (by simpa using hk) (by simpa using hn) hst hd rfl hq ?_
  rintro v ws' ⟨rfl, rfl⟩
  exact kk
theorem C_V3I {F' : Cfg} {y : MethodName} {d d' mc ms : Nat} {ws w : va_W} {a : Nat} {x1 x2 x3 : Value}  {r : Int32}(lk : LkV F.1 idx y F' 3) (hs : Spec D d' y F' [.ref a, x1, x2, x3] ws 0 0 (PI r w)) (hr : Recv ws a F'.1) (hd : decode F.2.1 pc = .ok (.invokevirtual idx, 3)) (hd' : d' < d) (hst : (st.map fun v => v.category).sum ≤ 8) (hq : pc + 3 = q) (kk : V D F (rmOf d mc ms) Qf k n q locs (.int r :: st) w) : V D F (rmOf d mc ms) Qf k n pc locs (x3 :: x2 :: x1 :: .ref a :: st) ws := by
  refine V_le (fun hk hn => ?_)
  refine E_callV (ar := [x1, x2, x3]) (rest := st) lk hs hr hd' (by simpa using hk) (by simpa using hn) hst hd rfl hq ?_
  rintro v ws' ⟨rfl, rfl⟩
  exact kk
theorem C_V3V {F' : Cfg} {y : MethodName} {d d' mc ms : Nat} {ws w : va_W} {a : Nat} {x1 x2 x3 : Value} (lk : LkV F.1 idx y F' 3) (hs : Spec D d' y F' [.ref a, x1, x2, x3] ws 0 0 (PV w)) (hr : Recv ws a F'.1) (hd : decode F.2.1 pc = .ok (.invokevirtual idx, 3)) (hd' : d' < d) (hst : (st.map fun v => v.category).sum ≤ 8) (hq : pc + 3 = q) (kk : V D F (rmOf d mc ms) Qf k n q locs st w) : V D F (rmOf d mc ms) Qf k n pc locs (x3 :: x2 :: x1 :: .ref a :: st) ws := by
  refine V_le (fun hk hn => ?_)
  refine E_callV (ar := [x1, x2, x3]) (rest := st) lk hs hr hd' (by simpa using hk) (by simpa using hn) hst hd rfl hq ?_
  rintro v ws' ⟨rfl, rfl⟩
  exact kk
theorem C_S3I {F' : Cfg} {y : MethodName} {d d' mc ms : Nat} {ws w : va_W} {x1 x2 x3 : Value}  {r : Int32}(lk : LkS F.1 idx y F' 3) (hs : Spec D d' y F' [x1, x2, x3] ws 0 0 (PI r w)) (hd : decode F.2.1 pc = .ok (.invokestatic idx, 3)) (hd' : d' < d) (hst : (st.map fun v => v.category).sum ≤ 8) (hq : pc + 3 = q) (kk : V D F (rmOf d mc ms) Qf k n q locs (.int r :: st) w) : V D F (rmOf d mc ms) Qf k n pc locs (x3 :: x2 :: x1 :: st) ws := by
  refine V_le (fun hk hn => ?_)
  refine E_callS (ar := [x1, x2, x3]) (rest := st) lk hs hd' (by simpa using hk) (by simpa using hn) hst hd rfl hq ?_
  rintro v ws' ⟨rfl, rfl⟩
  exact kk
theorem C_S3V {F' : Cfg} {y : MethodName} {d d' mc ms : Nat} {ws w : va_W} {x1 x2 x3 : Value} (lk : LkS F.1 idx y F' 3) (hs : Spec D d' y F' [x1, x2, x3] ws 0 0 (PV w)) (hd : decode F.2.1 pc = .ok (.invokestatic idx, 3)) (hd' : d' < d) (hst : (st.map fun v => v.category).sum ≤ 8) (hq : pc + 3 = q) (kk : V D F (rmOf d mc ms) Qf k n q locs st w) : V D F (rmOf d mc ms) Qf k n pc locs (x3 :: x2 :: x1 :: st) ws := by
  refine V_le (fun hk hn => ?_)
  refine E_callS (ar := [x1, x2, x3]) (rest := st) lk hs hd' (by simpa using hk) (by simpa using hn) hst hd rfl hq ?_
  rintro v ws' ⟨rfl, rfl⟩
  exact kk
theorem C_SN3I {F' : Cfg} {y : MethodName} {d d' mc ms : Nat} {ws w : va_W} {x1 x2 x3 : Value} {host : String}  {r : Int32}(lk : LkSN F.1 idx y F' 3 host) (hs : Spec D d' y F' [x1, x2, x3] ws 0 0 (PI r w)) (hd : decode F.2.1 pc = .ok (.invokestatic idx, 3)) (hd' : d' < d) (hst : (st.map fun v => v.category).sum ≤ 8) (hq : pc + 3 = q) (kk : V D F (rmOf d mc ms) Qf k n q locs (.int r :: st) w) : V D F (rmOf d mc ms) Qf k n pc locs (x3 :: x2 :: x1 :: st) ws := by
  refine V_le (fun hk hn => ?_)
  refine E_callSN (ar := [x1, x2, x3]) (rest := st) lk hs hd' (by simpa using hk) (by simpa using hn) hst hd rfl hq ?_
  rintro v ws' ⟨rfl, rfl⟩
  exact kk
theorem C_SN3V {F' : Cfg} {y : MethodName} {d d' mc ms : Nat} {ws w : va_W} {x1 x2 x3 : Value} {host : String} (lk : LkSN F.1 idx y F' 3 host) (hs : Spec D d' y F' [x1, x2, x3] ws 0 0 (PV w)) (hd : decode F.2.1 pc = .ok (.invokestatic idx, 3)) (hd' : d' < d) (hst : (st.map fun v => v.category).sum ≤ 8) (hq : pc + 3 = q) (kk : V D F (rmOf d mc ms) Qf k n q locs st w) : V D F (rmOf d mc ms) Qf k n pc locs (x3 :: x2 :: x1 :: st) ws := by
  refine V_le (fun hk hn => ?_)
  refine E_callSN (ar := [x1, x2, x3]) (rest := st) lk hs hd' (by simpa using hk) (by simpa using hn) hst hd rfl hq ?_
  rintro v ws' ⟨rfl, rfl⟩
  exact kk
theorem C_V4I {F' : Cfg} {y : MethodName} {d d' mc ms : Nat} {ws w : va_W} {a : Nat} {x1 x2 x3 x4 : Value}  {r : Int32}(lk : LkV F.1 idx y F' 4) (hs : Spec D d' y F' [.ref a, x1, x2, x3, x4] ws 0 0 (PI r w)) (hr : Recv ws a F'.1) (hd : decode F.2.1 pc = .ok (.invokevirtual idx, 3)) (hd' : d' < d) (hst : (st.map fun v => v.category).sum ≤ 8) (hq : pc + 3 = q) (kk : V D F (rmOf d mc ms) Qf k n q locs (.int r :: st) w) : V D F (rmOf d mc ms) Qf k n pc locs (x4 :: x3 :: x2 :: x1 :: .ref a :: st) ws := by
  refine V_le (fun hk hn => ?_)
  refine E_callV (ar := [x1, x2, x3, x4]) (rest := st) lk hs hr hd' (by simpa using hk) (by simpa using hn) hst hd rfl hq ?_
  rintro v ws' ⟨rfl, rfl⟩
  exact kk
theorem C_V4V {F' : Cfg} {y : MethodName} {d d' mc ms : Nat} {ws w : va_W} {a : Nat} {x1 x2 x3 x4 : Value} (lk : LkV F.1 idx y F' 4) (hs : Spec D d' y F' [.ref a, x1, x2, x3, x4] ws 0 0 (PV w)) (hr : Recv ws a F'.1) (hd : decode F.2.1 pc = .ok (.invokevirtual idx, 3)) (hd' : d' < d) (hst : (st.map fun v => v.category).sum ≤ 8) (hq : pc + 3 = q) (kk : V D F (rmOf d mc ms) Qf k n q locs st w) : V D F (rmOf d mc ms) Qf k n pc locs (x4 :: x3 :: x2 :: x1 :: .ref a :: st) ws := by
  refine V_le (fun hk hn => ?_)
  refine E_callV (ar := [x1, x2, x3, x4]) (rest := st) lk hs hr hd' (by simpa using hk) (by simpa using hn) hst hd rfl hq ?_
  rintro v ws' ⟨rfl, rfl⟩
  exact kk
theorem C_S4I {F' : Cfg} {y : MethodName} {d d' mc ms : Nat} {ws w : va_W} {x1 x2 x3 x4 : Value}  {r : Int32}(lk : LkS F.1 idx y F' 4) (hs : Spec D d' y F' [x1, x2, x3, x4] ws 0 0 (PI r w)) (hd : decode F.2.1 pc = .ok (.invokestatic idx, 3)) (hd' : d' < d) (hst : (st.map fun v => v.category).sum ≤ 8) (hq : pc + 3 = q) (kk : V D F (rmOf d mc ms) Qf k n q locs (.int r :: st) w) : V D F (rmOf d mc ms) Qf k n pc locs (x4 :: x3 :: x2 :: x1 :: st) ws := by
  refine V_le (fun hk hn => ?_)
  refine E_callS (ar := [x1, x2, x3, x4]) (rest := st) lk hs hd' (by simpa using hk) (by simpa using hn) hst hd rfl hq ?_
  rintro v ws' ⟨rfl, rfl⟩
  exact kk
theorem C_S4V {F' : Cfg} {y : MethodName} {d d' mc ms : Nat} {ws w : va_W} {x1 x2 x3 x4 : Value} (lk : LkS F.1 idx y F' 4) (hs : Spec D d' y F' [x1, x2, x3, x4] ws 0 0 (PV w)) (hd : decode F.2.1 pc = .ok (.invokestatic idx, 3)) (hd' : d' < d) (hst : (st.map fun v => v.category).sum ≤ 8) (hq : pc + 3 = q) (kk : V D F (rmOf d mc ms) Qf k n q locs st w) : V D F (rmOf d mc ms) Qf k n pc locs (x4 :: x3 :: x2 :: x1 :: st) ws := by
  refine V_le (fun hk hn => ?_)
  refine E_callS (ar := [x1, x2, x3, x4]) (rest := st) lk hs hd' (by simpa using hk) (by simpa using hn) hst hd rfl hq ?_
  rintro v ws' ⟨rfl, rfl⟩
  exact kk
theorem C_SN4I {F' : Cfg} {y : MethodName} {d d' mc ms : Nat} {ws w : va_W} {x1 x2 x3 x4 : Value} {host : String}  {r : Int32}(lk : LkSN F.1 idx y F' 4 host) (hs : Spec D d' y F' [x1, x2, x3, x4] ws 0 0 (PI r w)) (hd : decode F.2.1 pc = .ok (.invokestatic idx, 3)) (hd' : d' < d) (hst : (st.map fun v => v.category).sum ≤ 8) (hq : pc + 3 = q) (kk : V D F (rmOf d mc ms) Qf k n q locs (.int r :: st) w) : V D F (rmOf d mc ms) Qf k n pc locs (x4 :: x3 :: x2 :: x1 :: st) ws := by
  refine V_le (fun hk hn => ?_)
  refine E_callSN (ar := [x1, x2, x3, x4]) (rest := st) lk hs hd' (by simpa using hk) (by simpa using hn) hst hd rfl hq ?_
  rintro v ws' ⟨rfl, rfl⟩
  exact kk
theorem C_SN4V {F' : Cfg} {y : MethodName} {d d' mc ms : Nat} {ws w : va_W} {x1 x2 x3 x4 : Value} {host : String} (lk : LkSN F.1 idx y F' 4 host) (hs : Spec D d' y F' [x1, x2, x3, x4] ws 0 0 (PV w)) (hd : decode F.2.1 pc = .ok (.invokestatic idx, 3)) (hd' : d' < d) (hst : (st.map fun v => v.category).sum ≤ 8) (hq : pc + 3 = q) (kk : V D F (rmOf d mc ms) Qf k n q locs st w) : V D F (rmOf d mc ms) Qf k n pc locs (x4 :: x3 :: x2 :: x1 :: st) ws := by
  refine V_le (fun hk hn => ?_)
  refine E_callSN (ar := [x1, x2, x3, x4]) (rest := st) lk hs hd' (by simpa using hk) (by simpa using hn) hst hd rfl hq ?_
  rintro v ws' ⟨rfl, rfl⟩
  exact kk
theorem C_V5I {F' : Cfg} {y : MethodName} {d d' mc ms : Nat} {ws w : va_W} {a : Nat} {x1 x2 x3 x4 x5 : Value}  {r : Int32}(lk : LkV F.1 idx y F' 5) (hs : Spec D d' y F' [.ref a, x1, x2, x3, x4, x5] ws 0 0 (PI r w)) (hr : Recv ws a F'.1) (hd : decode F.2.1 pc = .ok (.invokevirtual idx, 3)) (hd' : d' < d) (hst : (st.map fun v => v.category).sum ≤ 8) (hq : pc + 3 = q) (kk : V D F (rmOf d mc ms) Qf k n q locs (.int r :: st) w) : V D F (rmOf d mc ms) Qf k n pc locs (x5 :: x4 :: x3 :: x2 :: x1 :: .ref a :: st) ws := by
  refine V_le (fun hk hn => ?_)
  refine E_callV (ar := [x1, x2, x3, x4, x5]) (rest := st) lk hs hr hd' (by simpa using hk) (by simpa using hn) hst hd rfl hq ?_
  rintro v ws' ⟨rfl, rfl⟩
  exact kk
theorem C_V5V {F' : Cfg} {y : MethodName} {d d' mc ms : Nat} {ws w : va_W} {a : Nat} {x1 x2 x3 x4 x5 : Value} (lk : LkV F.1 idx y F' 5) (hs : Spec D d' y F' [.ref a, x1, x2, x3, x4, x5] ws 0 0 (PV w)) (hr : Recv ws a F'.1) (hd : decode F.2.1 pc = .ok (.invokevirtual idx, 3)) (hd' : d' < d) (hst : (st.map fun v => v.category).sum ≤ 8) (hq : pc + 3 = q) (kk : V D F (rmOf d mc ms) Qf k n q locs st w) : V D F (rmOf d mc ms) Qf k n pc locs (x5 :: x4 :: x3 :: x2 :: x1 :: .ref a :: st) ws := by
  refine V_le (fun hk hn => ?_)
  refine E_callV (ar := [x1, x2, x3, x4, x5]) (rest := st) lk hs hr hd' (by simpa using hk) (by simpa using hn) hst hd rfl hq ?_
  rintro v ws' ⟨rfl, rfl⟩
  exact kk
theorem C_S5I {F' : Cfg} {y : MethodName} {d d' mc ms : Nat} {ws w : va_W} {x1 x2 x3 x4 x5 : Value}  {r : Int32}(lk : LkS F.1 idx y F' 5) (hs : Spec D d' y F' [x1, x2, x3, x4, x5] ws 0 0 (PI r w)) (hd : decode F.2.1 pc = .ok (.invokestatic idx, 3)) (hd' : d' < d) (hst : (st.map fun v => v.category).sum ≤ 8) (hq : pc + 3 = q) (kk : V D F (rmOf d mc ms) Qf k n q locs (.int r :: st) w) : V D F (rmOf d mc ms) Qf k n pc locs (x5 :: x4 :: x3 :: x2 :: x1 :: st) ws := by
  refine V_le (fun hk hn => ?_)
  refine E_callS (ar := [x1, x2, x3, x4, x5]) (rest := st) lk hs hd' (by simpa using hk) (by simpa using hn) hst hd rfl hq ?_
  rintro v ws' ⟨rfl, rfl⟩
  exact kk
theorem C_S5V {F' : Cfg} {y : MethodName} {d d' mc ms : Nat} {ws w : va_W} {x1 x2 x3 x4 x5 : Value} (lk : LkS F.1 idx y F' 5) (hs : Spec D d' y F' [x1, x2, x3, x4, x5] ws 0 0 (PV w)) (hd : decode F.2.1 pc = .ok (.invokestatic idx, 3)) (hd' : d' < d) (hst : (st.map fun v => v.category).sum ≤ 8) (hq : pc + 3 = q) (kk : V D F (rmOf d mc ms) Qf k n q locs st w) : V D F (rmOf d mc ms) Qf k n pc locs (x5 :: x4 :: x3 :: x2 :: x1 :: st) ws := by
  refine V_le (fun hk hn => ?_)
  refine E_callS (ar := [x1, x2, x3, x4, x5]) (rest := st) lk hs hd' (by simpa using hk) (by simpa using hn) hst hd rfl hq ?_
  rintro v ws' ⟨rfl, rfl⟩
  exact kk
theorem C_SN5I {F' : Cfg} {y : MethodName} {d d' mc ms : Nat} {ws w : va_W} {x1 x2 x3 x4 x5 : Value} {host : String}  {r : Int32}(lk : LkSN F.1 idx y F' 5 host) (hs : Spec D d' y F' [x1, x2, x3, x4, x5] ws 0 0 (PI r w)) (hd : decode F.2.1 pc = .ok (.invokestatic idx, 3)) (hd' : d' < d) (hst : (st.map fun v => v.category).sum ≤ 8) (hq : pc + 3 = q) (kk : V D F (rmOf d mc ms) Qf k n q locs (.int r :: st) w) : V D F (rmOf d mc ms) Qf k n pc locs (x5 :: x4 :: x3 :: x2 :: x1 :: st) ws := by
  refine V_le (fun hk hn => ?_)
  refine E_callSN (ar := [x1, x2, x3, x4, x5]) (rest := st) lk hs hd' (by simpa using hk) (by simpa using hn) hst hd rfl hq ?_
  rintro v ws' ⟨rfl, rfl⟩
  exact kk
theorem C_SN5V {F' : Cfg} {y : MethodName} {d d' mc ms : Nat} {ws w : va_W} {x1 x2 x3 x4 x5 : Value} {host : String} (lk : LkSN F.1 idx y F' 5 host) (hs : Spec D d' y F' [x1, x2, x3, x4, x5] ws 0 0 (PV w)) (hd : decode F.2.1 pc = .ok (.invokestatic idx, 3)) (hd' : d' < d) (hst : (st.map fun v => v.category).sum ≤ 8) (hq : pc + 3 = q) (kk : V D F (rmOf d mc ms) Qf k n q locs st w) : V D F (rmOf d mc ms) Qf k n pc locs (x5 :: x4 :: x3 :: x2 :: x1 :: st) ws := by
  refine V_le (fun hk hn => ?_)
  refine E_callSN (ar := [x1, x2, x3, x4, x5]) (rest := st) lk hs hd' (by simpa using hk) (by simpa using hn) hst hd rfl hq ?_
  rintro v ws' ⟨rfl, rfl⟩
  exact kk
end VO
theorem PI_of {r r' : Int32} {w w' : va_W} (h : r' = r) (h2 : w' = w) : PI r w (some (.int r')) w' := ⟨by rw [h], h2⟩
theorem PV_of {w w' : va_W} (h2 : w' = w) : PV w none w' := ⟨rfl, h2⟩
theorem nI_inc (a : Nat) : nI a + Int32.ofInt 1 = nI (a + 1) := nI_1 a
theorem nI_dec (a : Nat) : nI (a + 1) + Int32.ofInt (-1) = nI a := pk_m1 a
