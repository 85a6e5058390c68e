
/-! THE CLASS writes a volume -/
section GR
variable {cap a b : Nat}
theorem gC_add (h : a ≤ b) (h2 : b ≤ 2 * cap + 2) : gC cap a + gC (gN cap a) b = gC cap b := by
  unfold gC gN
  (repeat' split) <;> omega
theorem gS_add (h : a ≤ b) (h2 : b ≤ 2 * cap + 2) : gS cap a + gS (gN cap a) b = gS cap b := by
  unfold gS gN
  (repeat' split) <;> omega
theorem gN_add (h : a ≤ b) (h2 : b ≤ 2 * cap + 2) : gN (gN cap a) b = gN cap b := by
  unfold gN
  (repeat' split) <;> omega
theorem gC_mono (h : a ≤ b) : gC cap a ≤ gC cap b := by unfold gC; (repeat' split) <;> omega
theorem gS_mono (h : a ≤ b) : gS cap a ≤ gS cap b := by unfold gS; (repeat' split) <;> omega
theorem gN_le (h : b ≤ 2 * cap + 2) : gN cap b ≤ 2 * cap + 2 := by unfold gN; split <;> omega
end GR
section CLS
variable {D : va_G} {ad : Nat → Nat} {M : Mem} {ws : va_W} {A : AS} {T : List Nat} {cap m c v : Nat}
def PnQ (D : va_G) (ad : Nat → Nat) (M : Mem) (cap : Nat) (T : List Nat) : va_W → Prop := fun w => ∃ (ad' : Nat → Nat) (M' : Mem), w = wl D ad' M' ∧ SbC M' cap T ∧ FrB ad M ad' M'
theorem lt5_u {k : Nat} (hm : m < 2 ^ 30) (hk : k < 6) : nI (m / 2 ^ (25 - 5 * k)) &&& nI 31 = nI (lt5 m k) := by
  rw [nI_and, show (31 : Nat) = 2 ^ 5 - 1 by rfl, Nat.and_two_pow_sub_one_eq_mod]
  rfl
theorem sp_appendName (hm : m < 2 ^ 30) (h : SbC M cap T) (h3 : cap ≤ 1000) : Spec D 8 yX5_appendName cfX5_appendName [.ref (ad 0), .int (nI m)] (wl D ad M) (gC cap (T.length + (nmT m).length)) (gS cap (T.length + (nmT m).length)) (PY (PnQ D ad M (gN cap (T.length + (nmT m).length)) (T ++ nmT m))) := by
  refine Spec.of (by decide) rfl (Nat.le_of_ble_eq_true rfl) rfl ?_
  have hT := h.2.1
  have hn6 := nmT_len m
  have hbig : T.length + (nmT m).length ≤ 2 * cap + 2 := by omega
  have hmain : ∀ T1 : List Nat, T.length ≤ T1.length → T1 ++ nmL m 6 = T ++ nmT m → ∀ (ad1 : Nat → Nat) (M1 : Mem), SbC M1 (gN cap (T1 ++ nmL m 0).length) (T1 ++ nmL m 0) → FrB ad M ad1 M1 → V D cfX5_appendName (rmOf 8 (gC cap (T.length + (nmT m).length)) (gS cap (T.length + (nmT m).length))) (QM D (PY (PnQ D ad M (gN cap (T.length + (nmT m).length)) (T ++ nmT m))) (gC cap (T.length + (nmT m).length)) (gS cap (T.length + (nmT m).length))) (gC cap (T1 ++ nmL m 0).length) (gS cap (T1 ++ nmL m 0).length) 17 [some (.ref (ad1 0)), some (.int (nI m)), some (.int (sh5 0)), none] [] (wl D ad1 M1) := by
    intro T1 hT1 he
    have hel : T1.length + (nmL m 6).length = T.length + (nmT m).length := by rw [← List.length_append, he, List.length_append]
    have hnm : ∀ j, j ≤ 6 → (nmL m j).length ≤ (nmL m 6).length := by
      refine fun j hj => upto (n := 6) (P := fun j => (nmL m j).length ≤ (nmL m 6).length) (Nat.le_refl _) (fun i _ ih => Nat.le_trans ?_ ih) j hj
      rw [nmL, List.length_append]; omega
    refine upto0 (n := 6) (P := fun k => ∀ (ad1 : Nat → Nat) (M1 : Mem), SbC M1 (gN cap (T1 ++ nmL m k).length) (T1 ++ nmL m k) → FrB ad M ad1 M1 → V D cfX5_appendName (rmOf 8 (gC cap (T.length + (nmT m).length)) (gS cap (T.length + (nmT m).length))) (QM D (PY (PnQ D ad M (gN cap (T.length + (nmT m).length)) (T ++ nmT m))) (gC cap (T.length + (nmT m).length)) (gS cap (T.length + (nmT m).length))) (gC cap (T1 ++ nmL m k).length) (gS cap (T1 ++ nmL m k).length) 17 [some (.ref (ad1 0)), some (.int (nI m)), some (.int (sh5 k)), none] [] (wl D ad1 M1)) ?_ ?_
    · intro ad1 M1 o2 f2
      rw [he] at o2
      rw [List.length_append] at o2
      refine E_iload2 (q := 18) dX5_appendName_17 rfl ?_
      refine E_if_lt (tgt := 51) (q := 21) dX5_appendName_18 (by decide) rfl (fun h18 => ?_) (fun h18 => ?_)
      · skip
        exact E_vreturn rfl rfl dX5_appendName_51 ⟨rfl, ad1, M1, rfl, o2, f2⟩
      · first | exact absurd h18 (by decide) | exact absurd (by decide) h18
    · intro k hk ih ad1 M1 o2 f2
      have hlt := lt5_lt (m := m) (k := k)
      have hs : nmL m (k + 1) = nmL m k ++ (if lt5 m k = 0 then [] else [96 + lt5 m k]) := rfl
      rw [← sh5_s k hk] at ih
      rw [sh5_n hk] at ih ⊢
      by_cases c : lt5 m k = 0
      · rw [if_pos c, List.append_nil] at hs
        rw [hs] at ih
        refine E_iload2 (q := 18) dX5_appendName_17 rfl ?_
        refine E_if_lt (tgt := 51) (q := 21) dX5_appendName_18 (by decide) rfl (fun h18 => ?_) (fun h18 => ?_)
        · skip
          exact absurd h18 (nI_pos (by omega))
        · skip
          refine E_iload1 (q := 22) dX5_appendName_21 rfl ?_
          refine E_iload2 (q := 23) dX5_appendName_22 rfl ?_
          refine E_iushr (q := 24) dX5_appendName_23 (ushr_nI (by omega) (by omega)) rfl ?_
          refine E_bipush (v := nI 31) (q := 26) dX5_appendName_24 (by decide) rfl ?_
          refine E_iand (q := 27) dX5_appendName_26 rfl ?_
          refine V_int ((lt5_u hm hk).trans (congrArg nI c)) ?_
          refine E_istore3 (q := 28) dX5_appendName_27 rfl rfl ?_
          refine E_iload3 (q := 29) dX5_appendName_28 rfl ?_
          refine E_if_eq (tgt := 45) (q := 32) dX5_appendName_29 (by decide) rfl (fun h29 => ?_) (fun h29 => ?_)
          · skip
            refine E_iinc2 (q := 48) dX5_appendName_45 rfl rfl rfl ?_
            refine E_goto (q := 17) dX5_appendName_48 (by decide) ?_
            exact V_sub (subL_s (subL_s (subL_s (subL_n subL_nil)))) (ih ad1 M1 o2 f2)
          · first | exact absurd h29 (by decide) | exact absurd (by decide) h29
      · rw [if_neg c] at hs
        have hs' : T1 ++ nmL m (k + 1) = (T1 ++ nmL m k) ++ [96 + lt5 m k] := by rw [hs, List.append_assoc]
        have hl1 : (T1 ++ nmL m k).length + 1 ≤ T.length + (nmT m).length := by
          have := hnm (k + 1) (by omega)
          rw [hs, List.length_append] at this
          rw [List.length_append]
          have h1 : [96 + lt5 m k].length = 1 := rfl
          omega
        have hl2 : (T1 ++ nmL m (k + 1)).length = (T1 ++ nmL m k).length + 1 := by rw [hs', List.length_append]; rfl
        rw [hl2, hs'] at ih
        have hgl := gN_le (cap := cap) (b := (T1 ++ nmL m k).length) (by omega)
        have q1 := gC_add (cap := cap) (a := (T1 ++ nmL m k).length) (b := (T1 ++ nmL m k).length + 1) (Nat.le_succ _) (by omega)
        have q2 := gS_add (cap := cap) (a := (T1 ++ nmL m k).length) (b := (T1 ++ nmL m k).length + 1) (Nat.le_succ _) (by omega)
        have q3 := gN_add (cap := cap) (a := (T1 ++ nmL m k).length) (b := (T1 ++ nmL m k).length + 1) (Nat.le_succ _) (by omega)
        have q4 := gC_mono (cap := cap) hl1
        have q5 := gS_mono (cap := cap) hl1
        refine E_iload2 (q := 18) dX5_appendName_17 rfl ?_
        refine E_if_lt (tgt := 51) (q := 21) dX5_appendName_18 (by decide) rfl (fun h18 => ?_) (fun h18 => ?_)
        · skip
          exact absurd h18 (nI_pos (by omega))
        · skip
          refine E_iload1 (q := 22) dX5_appendName_21 rfl ?_
          refine E_iload2 (q := 23) dX5_appendName_22 rfl ?_
          refine E_iushr (q := 24) dX5_appendName_23 (ushr_nI (by omega) (by omega)) rfl ?_
          refine E_bipush (v := nI 31) (q := 26) dX5_appendName_24 (by decide) rfl ?_
          refine E_iand (q := 27) dX5_appendName_26 rfl ?_
          refine V_int (lt5_u hm hk) ?_
          refine E_istore3 (q := 28) dX5_appendName_27 rfl rfl ?_
          refine E_iload3 (q := 29) dX5_appendName_28 rfl ?_
          refine E_if_eq (tgt := 45) (q := 32) dX5_appendName_29 (by decide) rfl (fun h29 => ?_) (fun h29 => ?_)
          · skip
            exact absurd ((nI_z (by omega)).mp h29) c
          · skip
            refine E_aload0 (q := 33) dX5_appendName_32 rfl ?_
            refine G_X5_output (q := 36) fl_X5_40 dX5_appendName_33 rfl ?_
            refine E_bipush (v := nI 96) (q := 38) dX5_appendName_36 (by decide) rfl ?_
            refine E_iload3 (q := 39) dX5_appendName_38 rfl ?_
            refine E_iaddN (q := 40) dX5_appendName_39 rfl ?_
            refine E_i2c (q := 41) dX5_appendName_40 rfl ?_
            refine V_int (let255 (96 + lt5 m k) (by omega)).2 ?_
            refine E_callV (ar := [.int (nI (96 + lt5 m k))]) (q := 44) lk_X5_82 (sp_J4_appendC o2 (by omega) (by omega)) rc_J4 (by decide) (by omega) (by omega) (Nat.le_of_ble_eq_true rfl) dX5_appendName_41 rfl rfl ?_
            rintro v w ⟨ad', M', hv, hw, o3, f3⟩
            rw [hv, hw, ← f3.1 0 (by decide), q1, q2]
            rw [q3] at o3
            refine E_pop (q := 45) dX5_appendName_44 rfl rfl ?_
            refine E_iinc2 (q := 48) dX5_appendName_45 rfl rfl rfl ?_
            refine E_goto (q := 17) dX5_appendName_48 (by decide) ?_
            exact V_sub (subL_s (subL_s (subL_s (subL_n subL_nil)))) (ih ad' M' o3 (f2.tr f3))
  have g0C : gC cap T.length = 0 := if_pos hT.2.2
  have g0S : gS cap T.length = 0 := if_pos hT.2.2
  have g0N : gN cap T.length = cap := if_pos hT.2.2
  by_cases c : m = 0
  · have e : T ++ nmT m = (T ++ [42]) ++ nmL m 6 := by unfold nmT; rw [if_pos c, List.append_assoc]
    have hl : T.length + (nmT m).length = T.length + 1 := by rw [← List.length_append, e, c, nmL_0, List.append_nil, List.length_append]; rfl
    have hm0 := hmain (T ++ [42]) (by rw [List.length_append]; omega) e.symm
    rw [show nmL m 0 = [] from rfl, List.append_nil, List.length_append, show [42].length = 1 from rfl] at hm0
    have q4 := gC_mono (cap := cap) (Nat.le_of_eq hl.symm)
    have q5 := gS_mono (cap := cap) (Nat.le_of_eq hl.symm)
    refine E_iload1 (q := 1) dX5_appendName_0 rfl ?_
    refine E_if_ne (tgt := 14) (q := 4) dX5_appendName_1 (by decide) rfl (fun h1 => ?_) (fun h1 => ?_)
    · skip
      exact absurd h1 (by rw [c]; decide)
    · skip
      refine E_aload0 (q := 5) dX5_appendName_4 rfl ?_
      refine G_X5_output (q := 8) fl_X5_40 dX5_appendName_5 rfl ?_
      refine E_bipush (v := nI 42) (q := 10) dX5_appendName_8 (by decide) rfl ?_
      refine E_callV (ar := [.int (nI 42)]) (q := 13) lk_X5_82 (sp_J4_appendC h (by decide) (by omega)) rc_J4 (by decide) (by omega) (by omega) (Nat.le_of_ble_eq_true rfl) dX5_appendName_10 rfl rfl ?_
      rintro v w ⟨ad', M', hv, hw, o3, f3⟩
      rw [hv, hw, ← f3.1 0 (by decide), Nat.zero_add, Nat.zero_add]
      refine E_pop (q := 14) dX5_appendName_13 rfl rfl ?_
      refine E_bipush (v := nI 25) (q := 16) dX5_appendName_14 (by decide) rfl ?_
      refine E_istore2 (q := 17) dX5_appendName_16 rfl rfl ?_
      exact hm0 ad' M' o3 f3
  · have e : T ++ nmT m = T ++ nmL m 6 := by unfold nmT; rw [if_neg c, List.nil_append]
    have hm0 := hmain T (Nat.le_refl _) e.symm ad M
    rw [show nmL m 0 = [] from rfl, List.append_nil, g0C, g0S, g0N] at hm0
    refine E_iload1 (q := 1) dX5_appendName_0 rfl ?_
    refine E_if_ne (tgt := 14) (q := 4) dX5_appendName_1 (by decide) rfl (fun h1 => ?_) (fun h1 => ?_)
    · skip
      refine E_bipush (v := nI 25) (q := 16) dX5_appendName_14 (by decide) rfl ?_
      refine E_istore2 (q := 17) dX5_appendName_16 rfl rfl ?_
      exact hm0 h FrB.rf
    · skip
      exact absurd ((nI_z (by omega)).mp h1) c
end CLS
