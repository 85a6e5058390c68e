
/-! WHAT IS WRITTEN; THE REFERENCE writes it -/
section OUT
variable {A : AS} {v m k : Nat}
def lt5 (m k : Nat) : Nat := m / 2 ^ (25 - 5 * k) % 32
def nmL (m : Nat) : Nat → List Nat
  | 0 => []
  | k + 1 => nmL m k ++ (if lt5 m k = 0 then [] else [96 + lt5 m k])
def nmT (m : Nat) : List Nat := (if m = 0 then [42] else []) ++ nmL m 6
def numT (x : Nat) : List Nat := (List.range (sb_dg x)).map (sb_dec x)
def bT (A : AS) (v a : Nat) : List Nat := if bAt A.2 (16 + v) a = 0 then [45] else numT (bAt A.2 (16 + v) a)
def snT (A : AS) : List Nat → List Nat
  | [] => []
  | s :: l => (32 :: nmT (snm A s)) ++ snT A l
def adT (A : AS) (v : Nat) : Nat → List Nat
  | 0 => []
  | a + 1 => adT A v a ++ (32 :: bT A v a)
def hdT (A : AS) (v : Nat) : List Nat := nmT (vnm A v) ++ [58]
def outT (A : AS) (v : Nat) : List Nat := hdT A v ++ snT A (rowL A v) ++ adT A v 12
theorem snT_app (A : AS) (l : List Nat) (s : Nat) : snT A (l ++ [s]) = snT A l ++ (32 :: nmT (snm A s)) := by
  induction l with
  | nil => simp [snT]
  | cons x l ih => simp [snT, ih]
theorem lt5_lt : lt5 m k < 32 := Nat.mod_lt _ (by decide)
theorem nmL_len (m : Nat) : ∀ k, (nmL m k).length ≤ k
  | 0 => Nat.le_refl _
  | k + 1 => by
    rw [nmL, List.length_append]
    have := nmL_len m k
    split
    · simp; omega
    · simp; omega
theorem nmL_0 : ∀ k, nmL 0 k = []
  | 0 => rfl
  | k + 1 => by
    rw [nmL, nmL_0 k]
    simp [lt5]
theorem nmT_len (m : Nat) : (nmT m).length ≤ 6 := by
  unfold nmT
  by_cases c : m = 0
  · subst c; rw [if_pos rfl, nmL_0]; decide
  · rw [if_neg c]; exact nmL_len m 6
theorem dg8 {x : Nat} (h : x < 2 ^ 24) : sb_dg x ≤ 8 := by
  unfold sb_dg; (repeat' split) <;> omega
theorem numT_len {x : Nat} (h : x < 2 ^ 24) : (numT x).length ≤ 8 := by
  unfold numT; rw [List.length_map, List.length_range]; exact dg8 h
theorem bT_len (h : WF A) {a : Nat} : (bT A v a).length ≤ 8 := by
  unfold bT
  split
  · decide
  · exact numT_len (Nat.lt_of_le_of_lt h.2.2.ble h.1.1.1)
theorem adT_len (h : WF A) : ∀ a, (adT A v a).length ≤ 9 * a
  | 0 => Nat.le_refl _
  | a + 1 => by
    rw [adT, List.length_append, List.length_cons]
    have := adT_len h a
    have := bT_len h (v := v) (a := a)
    omega
theorem snT_len (A : AS) : ∀ l : List Nat, (snT A l).length ≤ 7 * l.length
  | [] => Nat.le_refl _
  | s :: l => by
    rw [snT, List.length_append, List.length_cons, List.length_cons]
    have := snT_len A l
    have := nmT_len (snm A s)
    omega
theorem hdT_len : (hdT A v).length ≤ 7 := by
  unfold hdT
  rw [List.length_append]
  have := nmT_len (vnm A v)
  simp; omega
theorem dg_gt {x j : Nat} (h : x < 2 ^ 24) (hj : j < 8) : 9 < x / 10 ^ j ↔ j + 1 < sb_dg x := by
  rcases (show j = 0 ∨ j = 1 ∨ j = 2 ∨ j = 3 ∨ j = 4 ∨ j = 5 ∨ j = 6 ∨ j = 7 by omega) with rfl | rfl | rfl | rfl | rfl | rfl | rfl | rfl <;> unfold sb_dg <;> (repeat' split) <;> omega
end OUT
section MODEL
variable {D : va_G} {ad : Nat → Nat} {M : Mem} {ws : va_W} {A : AS} {T : List Nat} {v m k x c : Nat}
def OutR (M : Mem) (T : List Nat) : Prop := M 157 23 = nI T.length ∧ ∀ i c, T[i]? = some c → M 164 i = nI c
def FrO (M M' : Mem) : Prop := (∀ c, c ≠ 157 → c ≠ 164 → M' c = M c) ∧ ∀ j, j ≠ 23 → M' 157 j = M 157 j
theorem FrO.rf : FrO M M := ⟨fun _ _ _ => rfl, fun _ _ => rfl⟩
theorem FrO.tr {M1 M2 : Mem} (h : FrO M M1) (h2 : FrO M1 M2) : FrO M M2 := ⟨fun c a d => (h2.1 c a d).trans (h.1 c a d), fun j a => (h2.2 j a).trans (h.2 j a)⟩
theorem FrO.ri {M1 : Mem} {wx : Nat} (h : FrO M M1) (hI : RI M wx A) (hx : wx ≠ 164) : RI M1 wx A := hI.cg (h.1 wx hI.1.ne hx) (h.2 3 (by decide))
theorem OutR.put (h : OutR M T) : OutR (upd2 (upd2 M 164 T.length (nI c)) 157 23 (nI (T.length + 1))) (T ++ [c]) ∧ FrO M (upd2 (upd2 M 164 T.length (nI c)) 157 23 (nI (T.length + 1))) := by
  refine ⟨⟨by rw [upd2_same, List.length_append]; rfl, fun i d hi => ?_⟩, fun a b d => by rw [upd2_row b, upd2_row d], fun j a => by rw [upd2_ne (by omega), upd2_row (by decide)]⟩
  rw [upd2_row (by decide)]
  by_cases e : i < T.length
  · rw [List.getElem?_append_left e] at hi
    rw [upd2_ne (by omega)]; exact h.2 i d hi
  · have hil := (List.getElem?_eq_some_iff.mp hi).1
    rw [List.length_append] at hil
    have hie : i = T.length := by have : [c].length = 1 := rfl; omega
    subst hie
    rw [List.getElem?_append_right (Nat.le_refl _), Nat.sub_self] at hi
    have : c = d := by simpa using hi
    rw [← this]; exact upd2_same
def OT (D : va_G) (ad : Nat → Nat) (M : Mem) (T : List Nat) : va_W → Prop := fun w => ∃ M', w = wl D ad M' ∧ (OutR M' T ∧ FrO M M')
theorem sp_X6_lays (h : OutR M T) (hl : T.length < 300) : Spec D 1 yX6_lays cfX6_lays [.ref (ad 157), .int (nI (c))] (wl D ad M) 0 0 (PY (OT D ad M (T ++ [c]))) := by
  refine Spec.of (by decide) rfl (Nat.le_of_ble_eq_true rfl) rfl ?_
  obtain ⟨p1, p2⟩ := h.put (c := c)
  refine E_aload0 (q := 1) dX6_lays_0 rfl ?_
  refine G_X6_output (q := 4) fl_X6_36 dX6_lays_1 rfl ?_
  refine E_aload0 (q := 5) dX6_lays_4 rfl ?_
  refine G_X6_outputSize (q := 8) fl_X6_323 dX6_lays_5 rfl ?_
  refine V_int h.1 ?_
  refine E_iload1 (q := 9) dX6_lays_8 rfl ?_
  refine E_iastN (q := 10) sk_164 (by omega) (by decide) dX6_lays_9 rfl ?_
  refine E_aload0 (q := 11) dX6_lays_10 rfl ?_
  refine E_dup (q := 12) dX6_lays_11 rfl rfl ?_
  refine G_X6_outputSize (q := 15) fl_X6_323 dX6_lays_12 rfl ?_
  refine V_int (show _ = nI T.length by rw [upd2_row (by decide)]; exact h.1) ?_
  refine E_iconst (v := nI 1) (q := 16) dX6_lays_15 (by decide) rfl ?_
  refine E_iaddN (q := 17) dX6_lays_16 rfl ?_
  refine P_X6_outputSize (q := 20) fl_X6_323 dX6_lays_17 rfl ?_
  exact E_vreturn rfl rfl dX6_lays_20 ⟨rfl, _, rfl, p1, p2⟩
def sh5 (k : Nat) : Int32 := if k ≤ 5 then nI (25 - 5 * k) else -5
theorem sh5_s : ∀ k, k < 6 → sh5 k + (-5) = sh5 (k + 1) := by decide
theorem sh5_n (hk : k < 6) : sh5 k = nI (25 - 5 * k) := if_pos (by omega)
theorem lt5_nI (hm : m < 2 ^ 30) (hk : k < 6) : nI m >>> (nI (25 - 5 * k) &&& 31) &&& nI 31 = nI (lt5 m k) := by
  rw [shr_nI (by omega) (by omega), nI_and, show (31 : Nat) = 2 ^ 5 - 1 by rfl, Nat.and_two_pow_sub_one_eq_mod]
  rfl
theorem sp_X6_layName (hm : m < 2 ^ 30) (h : OutR M T) (hl : T.length + 6 ≤ 300) : Spec D 2 yX6_layName cfX6_layName [.ref (ad 157), .int (nI (m))] (wl D ad M) 0 0 (PY (OT D ad M (T ++ nmT m))) := by
  refine Spec.of (by decide) rfl (Nat.le_of_ble_eq_true rfl) rfl ?_
  have hmain : ∀ M1 T1, OutR M1 T1 → FrO M M1 → (m ≠ 0 → T1.length + 6 ≤ 300) → T1 ++ nmL m 6 = T ++ nmT m → ∀ M2, OutR M2 (T1 ++ nmL m 0) → FrO M M2 → V D cfX6_layName (rmOf 2 0 0) (QM D (PY (OT D ad M (T ++ nmT m))) 0 0) 0 0 13 [some (.ref (ad 157)), some (.int (nI m)), some (.int (sh5 0)), none] [] (wl D ad M2) := by
    intro M1 T1 o1 f1 hb he
    refine upto0 (n := 6) (P := fun k => ∀ M2, OutR M2 (T1 ++ nmL m k) → FrO M M2 → V D cfX6_layName (rmOf 2 0 0) (QM D (PY (OT D ad M (T ++ nmT m))) 0 0) 0 0 13 [some (.ref (ad 157)), some (.int (nI m)), some (.int (sh5 k)), none] [] (wl D ad M2)) ?_ ?_
    · intro M2 o2 f2
      rw [he] at o2
      refine E_iload2 (q := 14) dX6_layName_13 rfl ?_
      refine E_if_lt (tgt := 42) (q := 17) dX6_layName_14 (by decide) rfl (fun h14 => ?_) (fun h14 => ?_)
      · skip
        exact E_vreturn rfl rfl dX6_layName_42 ⟨rfl, M2, rfl, o2, f2⟩
      · first | exact absurd h14 (by decide) | exact absurd (by decide) h14
    · intro k hk ih M2 o2 f2
      have hlt := lt5_lt (m := m) (k := k)
      have hs : nmL m (k + 1) = nmL m k ++ (if lt5 m k = 0 then [] else [96 + lt5 m k]) := rfl
      rw [← sh5_s k hk] at ih
      rw [sh5_n hk] at ih ⊢
      by_cases c : lt5 m k = 0
      · rw [if_pos c, List.append_nil] at hs
        rw [hs] at ih
        refine E_iload2 (q := 14) dX6_layName_13 rfl ?_
        refine E_if_lt (tgt := 42) (q := 17) dX6_layName_14 (by decide) rfl (fun h14 => ?_) (fun h14 => ?_)
        · skip
          exact absurd h14 (nI_pos (by omega))
        · skip
          refine E_iload1 (q := 18) dX6_layName_17 rfl ?_
          refine E_iload2 (q := 19) dX6_layName_18 rfl ?_
          refine E_ishr (q := 20) dX6_layName_19 rfl ?_
          refine E_bipush (v := nI 31) (q := 22) dX6_layName_20 (by decide) rfl ?_
          refine E_iand (q := 23) dX6_layName_22 rfl ?_
          refine V_int ((lt5_nI hm hk).trans (congrArg nI c)) ?_
          refine E_istore3 (q := 24) dX6_layName_23 rfl rfl ?_
          refine E_iload3 (q := 25) dX6_layName_24 rfl ?_
          refine E_if_le (tgt := 36) (q := 28) dX6_layName_25 (by decide) rfl (fun h25 => ?_) (fun h25 => ?_)
          · skip
            refine E_iinc2 (q := 39) dX6_layName_36 rfl rfl rfl ?_
            refine E_goto (q := 13) dX6_layName_39 (by decide) ?_
            exact V_sub (subL_s (subL_s (subL_s (subL_n subL_nil)))) (ih M2 o2 f2)
          · first | exact absurd h25 (by decide) | exact absurd (by decide) h25
      · rw [if_neg c] at hs
        have hs' : T1 ++ nmL m (k + 1) = (T1 ++ nmL m k) ++ [96 + lt5 m k] := by rw [hs, List.append_assoc]
        have hm0 : m ≠ 0 := fun z => c (by rw [z]; unfold lt5; rw [Nat.zero_div])
        have hnl := nmL_len m k
        have hT := hb hm0
        have hlen : (T1 ++ nmL m k).length < 300 := by rw [List.length_append]; omega
        rw [hs'] at ih
        refine E_iload2 (q := 14) dX6_layName_13 rfl ?_
        refine E_if_lt (tgt := 42) (q := 17) dX6_layName_14 (by decide) rfl (fun h14 => ?_) (fun h14 => ?_)
        · skip
          exact absurd h14 (nI_pos (by omega))
        · skip
          refine E_iload1 (q := 18) dX6_layName_17 rfl ?_
          refine E_iload2 (q := 19) dX6_layName_18 rfl ?_
          refine E_ishr (q := 20) dX6_layName_19 rfl ?_
          refine E_bipush (v := nI 31) (q := 22) dX6_layName_20 (by decide) rfl ?_
          refine E_iand (q := 23) dX6_layName_22 rfl ?_
          refine V_int (lt5_nI hm hk) ?_
          refine E_istore3 (q := 24) dX6_layName_23 rfl rfl ?_
          refine E_iload3 (q := 25) dX6_layName_24 rfl ?_
          refine E_if_le (tgt := 36) (q := 28) dX6_layName_25 (by decide) rfl (fun h25 => ?_) (fun h25 => ?_)
          · skip
            exact absurd ((nI_leI (b := 0) (by omega) (by decide)).mp h25) (by omega)
          · skip
            refine E_aload0 (q := 29) dX6_layName_28 rfl ?_
            refine E_bipush (v := nI 96) (q := 31) dX6_layName_29 (by decide) rfl ?_
            refine E_iload3 (q := 32) dX6_layName_31 rfl ?_
            refine E_iaddN (q := 33) dX6_layName_32 rfl ?_
            refine C_V1Y (q := 36) lk_X6_326 (sp_X6_lays (c := 96 + lt5 m k) o2 hlen) rc_X6 dX6_layName_33 (by decide) (Nat.le_of_ble_eq_true rfl) rfl ?_
            refine kkEW ?_
            rintro M3 ⟨o3, f3⟩
            refine E_iinc2 (q := 39) dX6_layName_36 rfl rfl rfl ?_
            refine E_goto (q := 13) dX6_layName_39 (by decide) ?_
            exact V_sub (subL_s (subL_s (subL_s (subL_n subL_nil)))) (ih M3 o3 (f2.tr f3))
  by_cases c : m = 0
  · have e : T ++ nmT m = (T ++ [42]) ++ nmL m 6 := by unfold nmT; rw [if_pos c, List.append_assoc]
    refine E_iload1 (q := 1) dX6_layName_0 rfl ?_
    refine E_if_ne (tgt := 10) (q := 4) dX6_layName_1 (by decide) rfl (fun h1 => ?_) (fun h1 => ?_)
    · skip
      exact absurd h1 (by rw [c]; decide)
    · skip
      refine E_aload0 (q := 5) dX6_layName_4 rfl ?_
      refine E_bipush (v := nI 42) (q := 7) dX6_layName_5 (by decide) rfl ?_
      refine C_V1Y (q := 10) lk_X6_326 (sp_X6_lays (c := 42) h (by omega)) rc_X6 dX6_layName_7 (by decide) (Nat.le_of_ble_eq_true rfl) rfl ?_
      refine kkEW ?_
      rintro M1 ⟨o1, f1⟩
      refine E_bipush (v := nI 25) (q := 12) dX6_layName_10 (by decide) rfl ?_
      refine E_istore2 (q := 13) dX6_layName_12 rfl rfl ?_
      exact hmain M1 (T ++ [42]) o1 f1 (fun z => absurd c z) e.symm M1 (by rw [show nmL m 0 = [] from rfl, List.append_nil]; exact o1) f1
  · have e : T ++ nmT m = T ++ nmL m 6 := by unfold nmT; rw [if_neg c, List.nil_append]
    refine E_iload1 (q := 1) dX6_layName_0 rfl ?_
    refine E_if_ne (tgt := 10) (q := 4) dX6_layName_1 (by decide) rfl (fun h1 => ?_) (fun h1 => ?_)
    · skip
      refine E_bipush (v := nI 25) (q := 12) dX6_layName_10 (by decide) rfl ?_
      refine E_istore2 (q := 13) dX6_layName_12 rfl rfl ?_
      exact hmain M T h FrO.rf (fun _ => hl) e.symm M (by rw [show nmL m 0 = [] from rfl, List.append_nil]; exact h) FrO.rf
    · skip
      exact absurd ((nI_z (by omega)).mp h1) c
theorem sp_X6_layNumber (hx : x < 2 ^ 24) (h : OutR M T) (hl : T.length + 8 ≤ 300) : Spec D 2 yX6_layNumber cfX6_layNumber [.ref (ad 157), .int (nI (x))] (wl D ad M) 0 0 (PY (OT D ad M (T ++ numT x))) := by
  refine Spec.of (by decide) rfl (Nat.le_of_ble_eq_true rfl) rfl ?_
  have hd := sb_dg_in x
  have hd8 := dg8 hx
  have hp8 : ∀ j, j ≤ 8 → 10 ^ j ≤ 100000000 := fun j hj => Nat.pow_le_pow_right (n := 10) (by decide) hj
  have hpp : ∀ j, 0 < 10 ^ j := fun j => Nat.pow_pos (by decide)
  have hlow : ∀ M2 i, i ≤ sb_dg x → OutR M2 (T ++ (List.range i).map (sb_dec x)) → FrO M M2 → V D cfX6_layNumber (rmOf 2 0 0) (QM D (PY (OT D ad M (T ++ numT x))) 0 0) 0 0 18 [some (.ref (ad 157)), some (.int (nI x)), some (.int (nI (if i = sb_dg x then 0 else 10 ^ (sb_dg x - 1 - i))))] [] (wl D ad M2) := by
    intro M2 i hi
    revert M2
    refine upto (n := sb_dg x) (P := fun i => ∀ M2, OutR M2 (T ++ (List.range i).map (sb_dec x)) → FrO M M2 → V D cfX6_layNumber (rmOf 2 0 0) (QM D (PY (OT D ad M (T ++ numT x))) 0 0) 0 0 18 [some (.ref (ad 157)), some (.int (nI x)), some (.int (nI (if i = sb_dg x then 0 else 10 ^ (sb_dg x - 1 - i))))] [] (wl D ad M2)) ?_ ?_ i hi
    · intro M2 o2 f2
      rw [if_pos rfl]
      refine E_iload2 (q := 19) dX6_layNumber_18 rfl ?_
      refine E_if_le (tgt := 43) (q := 22) dX6_layNumber_19 (by decide) rfl (fun h19 => ?_) (fun h19 => ?_)
      · skip
        exact E_vreturn rfl rfl dX6_layNumber_43 ⟨rfl, M2, rfl, o2, f2⟩
      · first | exact absurd h19 (by decide) | exact absurd (by decide) h19
    · intro j hj ih M2 o2 f2
      rw [if_neg (show ¬ j = sb_dg x by omega)]
      have hpj := hp8 (sb_dg x - 1 - j) (by omega)
      have hpz := hpp (sb_dg x - 1 - j)
      have hdec : sb_dec x j = 48 + x / 10 ^ (sb_dg x - 1 - j) % 10 := rfl
      have hnext : 10 ^ (sb_dg x - 1 - j) / 10 = (if j + 1 = sb_dg x then 0 else 10 ^ (sb_dg x - 1 - (j + 1))) := by
        by_cases e : j + 1 = sb_dg x
        · rw [if_pos e, show sb_dg x - 1 - j = 0 by omega]
        · rw [if_neg e, show sb_dg x - 1 - j = (sb_dg x - 1 - (j + 1)) + 1 by omega, Nat.pow_succ, Nat.mul_div_cancel _ (by decide)]
      have hlen : (T ++ (List.range j).map (sb_dec x)).length < 300 := by rw [List.length_append, List.length_map, List.length_range]; omega
      have ho : (T ++ (List.range j).map (sb_dec x)) ++ [sb_dec x j] = T ++ (List.range (j + 1)).map (sb_dec x) := by
        rw [List.range_succ, List.map_append, List.append_assoc]; rfl
      generalize 10 ^ (sb_dg x - 1 - j) = pw at *
      refine E_iload2 (q := 19) dX6_layNumber_18 rfl ?_
      refine E_if_le (tgt := 43) (q := 22) dX6_layNumber_19 (by decide) rfl (fun h19 => ?_) (fun h19 => ?_)
      · skip
        exact absurd ((nI_leI (b := 0) (by omega) (by decide)).mp h19) (by omega)
      · skip
        refine E_aload0 (q := 23) dX6_layNumber_22 rfl ?_
        refine E_bipush (v := nI 48) (q := 25) dX6_layNumber_23 (by decide) rfl ?_
        refine E_iload1 (q := 26) dX6_layNumber_25 rfl ?_
        refine E_iload2 (q := 27) dX6_layNumber_26 rfl ?_
        refine E_idiv (q := 28) dX6_layNumber_27 (fun z => by have := (nI_z (by omega)).mp z; omega) rfl ?_
        refine V_int (pk_div (by omega) hpz (by omega)) ?_
        refine E_bipush (v := nI 10) (q := 30) dX6_layNumber_28 (by decide) rfl ?_
        refine E_irem (q := 31) dX6_layNumber_30 (by decide) rfl ?_
        refine V_int (pk_rem (Nat.lt_of_le_of_lt (Nat.div_le_self _ _) (by omega)) (by decide) (by decide)) ?_
        refine E_iaddN (q := 32) dX6_layNumber_31 rfl ?_
        refine V_int (congrArg nI hdec.symm) ?_
        refine C_V1Y (q := 35) lk_X6_326 (sp_X6_lays (c := sb_dec x j) o2 hlen) rc_X6 dX6_layNumber_32 (by decide) (Nat.le_of_ble_eq_true rfl) rfl ?_
        refine kkEW ?_
        rintro M3 ⟨o3, f3⟩
        refine E_iload2 (q := 36) dX6_layNumber_35 rfl ?_
        refine E_bipush (v := nI 10) (q := 38) dX6_layNumber_36 (by decide) rfl ?_
        refine E_idiv (q := 39) dX6_layNumber_38 (by decide) rfl ?_
        refine V_int ((pk_div (by omega) (by decide) (by decide)).trans (congrArg nI hnext)) ?_
        refine E_istore2 (q := 40) dX6_layNumber_39 rfl rfl ?_
        refine E_goto (q := 18) dX6_layNumber_40 (by decide) ?_
        exact ih M3 (ho ▸ o3) (f2.tr f3)
  have hup : V D cfX6_layNumber (rmOf 2 0 0) (QM D (PY (OT D ad M (T ++ numT x))) 0 0) 0 0 2 [some (.ref (ad 157)), some (.int (nI x)), some (.int (nI (10 ^ 0)))] [] (wl D ad M) := by
    refine upto (n := sb_dg x - 1) (P := fun j => V D cfX6_layNumber (rmOf 2 0 0) (QM D (PY (OT D ad M (T ++ numT x))) 0 0) 0 0 2 [some (.ref (ad 157)), some (.int (nI x)), some (.int (nI (10 ^ j)))] [] (wl D ad M)) ?_ ?_ 0 (Nat.zero_le _)
    · have hpj := hp8 (sb_dg x - 1) (by omega)
      have hpz := hpp (sb_dg x - 1)
      have hg := dg_gt hx (show sb_dg x - 1 < 8 by omega)
      have h0 := hlow M 0 (Nat.zero_le _) (by rw [show (List.range 0).map (sb_dec x) = [] from rfl, List.append_nil]; exact h) FrO.rf
      rw [if_neg (show ¬ 0 = sb_dg x by omega), Nat.sub_zero] at h0
      generalize 10 ^ (sb_dg x - 1) = pw at *
      refine E_iload1 (q := 3) dX6_layNumber_2 rfl ?_
      refine E_iload2 (q := 4) dX6_layNumber_3 rfl ?_
      refine E_idiv (q := 5) dX6_layNumber_4 (fun z => by have := (nI_z (by omega)).mp z; omega) rfl ?_
      refine V_int (pk_div (by omega) hpz (by omega)) ?_
      refine E_bipush (v := nI 9) (q := 7) dX6_layNumber_5 (by decide) rfl ?_
      have hdl : x / pw < 2 ^ 31 := Nat.lt_of_le_of_lt (Nat.div_le_self _ _) (by omega)
      refine E_icmp_leN (tgt := 18) (q := 10) dX6_layNumber_7 (by decide) rfl (by omega) (by omega) (fun h7 => ?_) (fun h7 => ?_)
      · skip
        exact h0
      · skip
        exact absurd (hg.mp (by omega)) (by omega)
    · intro j hj ih
      have hpj := hp8 (j + 1) (by omega)
      have hpz := hpp j
      have hg := dg_gt hx (show j < 8 by omega)
      rw [Nat.pow_succ] at ih hpj
      generalize 10 ^ j = pw at *
      refine E_iload1 (q := 3) dX6_layNumber_2 rfl ?_
      refine E_iload2 (q := 4) dX6_layNumber_3 rfl ?_
      refine E_idiv (q := 5) dX6_layNumber_4 (fun z => by have := (nI_z (by omega)).mp z; omega) rfl ?_
      refine V_int (pk_div (by omega) hpz (by omega)) ?_
      refine E_bipush (v := nI 9) (q := 7) dX6_layNumber_5 (by decide) rfl ?_
      have hdl : x / pw < 2 ^ 31 := Nat.lt_of_le_of_lt (Nat.div_le_self _ _) (by omega)
      refine E_icmp_leN (tgt := 18) (q := 10) dX6_layNumber_7 (by decide) rfl (by omega) (by omega) (fun h7 => ?_) (fun h7 => ?_)
      · skip
        exact absurd (hg.mpr (by omega)) (by omega)
      · skip
        refine E_iload2 (q := 11) dX6_layNumber_10 rfl ?_
        refine E_bipush (v := nI 10) (q := 13) dX6_layNumber_11 (by decide) rfl ?_
        refine E_imulN (q := 14) dX6_layNumber_13 rfl ?_
        refine E_istore2 (q := 15) dX6_layNumber_14 rfl rfl ?_
        refine E_goto (q := 2) dX6_layNumber_15 (by decide) ?_
        exact ih
  refine E_iconst (v := nI 1) (q := 1) dX6_layNumber_0 (by decide) rfl ?_
  refine E_istore2 (q := 2) dX6_layNumber_1 rfl rfl ?_
  exact hup
end MODEL
