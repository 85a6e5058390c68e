
/-! THE REFERENCE loads -/
section LOAD
variable {D : va_G} {ad : Nat → Nat} {M M1 : Mem} {ws : va_W} {A : AS} {tx : Nat → Nat} {n s t f : Nat} {x : Int32} {H : List AS}
def FrL (M M' : Mem) : Prop := ∀ j, ¬ (9 ≤ j ∧ j ≤ 21) → j ≠ 3 → j ≠ 4 → j ≠ 1016 → M' 157 j = M 157 j
def LDQ (D : va_G) (ad : Nat → Nat) (M : Mem) (A : AS) : Sum (Int32 × Nat) (Nat × AS) → Int32 → va_W → Prop
  | .inl (c, t) => fun y w => y = c ∧ ∃ M', w = wl D ad M' ∧ M' 157 9 = nI 0 ∧ M' 157 10 = nI t ∧ M' 157 3 = nI 158 ∧ (∀ c, c ≠ 157 → c ≠ 163 → M' c = M c) ∧ FrL M M'
  | .inr (k, B) => fun y w => y = nI k ∧ ∃ M', w = wl D ad M' ∧ M' 157 9 = nI 0 ∧ M' 157 10 = -1 ∧ RI M' 158 B ∧ M' 157 2 = nI 0 ∧ (∀ c, c ≠ 157 → c ≠ 158 → c ≠ 163 → M' c = M c) ∧ ∀ j, j ≠ 2 → ¬ (9 ≤ j ∧ j ≤ 21) → j ≠ 3 → j ≠ 4 → j ≠ 1016 → M' 157 j = M 157 j
theorem sp_X6_loadB {x : Int32} (h : TxQ M f tx) (hn : ¬ (nI 0 ≤ x ∧ x ≤ nI f)) : Spec D 14 yX6_load cfX6_load [.ref (ad 157), .int (x)] (wl D ad M) 0 0 (PI (-2) (wl D ad (upd2 M 157 4 (nI 0)))) := by
  refine Spec.of (by decide) rfl (Nat.le_of_ble_eq_true rfl) rfl ?_
  have hz : zI (nI 0 ≤ x ∧ x ≤ nI f) = nI 0 := (zI_f hn).symm
  refine E_aload0 (q := 1) dX6_load_0 rfl ?_
  refine E_iconst (v := nI 0) (q := 2) dX6_load_1 (by decide) rfl ?_
  refine P_X6_thrown (q := 5) fl_X6_43 dX6_load_2 rfl ?_
  refine E_iload1 (q := 6) dX6_load_5 rfl ?_
  refine E_iconst (v := nI 0) (q := 7) dX6_load_6 (by decide) rfl ?_
  refine E_aload0 (q := 8) dX6_load_7 rfl ?_
  refine G_X6_bufferSize (q := 11) fl_X6_208 dX6_load_8 rfl ?_
  refine V_int (show _ = nI f by rw [upd2_ne (by decide)]; exact h.2.1) ?_
  refine C_S3I (q := 14) lk_X6_60 (sp_X6_inRange) dX6_load_11 (by decide) (Nat.le_of_ble_eq_true rfl) rfl ?_
  refine V_int hz ?_
  refine E_if_ne (tgt := 20) (q := 17) dX6_load_14 (by decide) rfl (fun h14 => ?_) (fun h14 => ?_)
  · first | exact absurd h14 (by decide) | exact absurd (by decide) h14
  · skip
    refine E_bipush (v := -2) (q := 19) dX6_load_17 (by decide) rfl ?_
    exact E_ireturn rfl rfl dX6_load_19 (PI_of rfl rfl)
/-- the state as the loop begins -/
def loM (M : Mem) (f0 : Nat → Int32) (n : Nat) : Mem := upd2 (upd2 (upd2 (upd2 (upd2 (upd2 (upd2 (row2 (upd2 M 157 4 (nI 0)) 163 f0) 157 3 (nI 163)) 157 20 (nI 0)) 157 21 (nI 0)) 157 11 (nI n)) 157 9 (nI 0)) 157 12 (nI 0)) 157 18 (nI 0)
theorem loM_row {f0 : Nat → Int32} {c : Nat} (h : c ≠ 157) (h2 : c ≠ 163) : loM M f0 n c = M c := by
  unfold loM
  rw [upd2_row h, upd2_row h, upd2_row h, upd2_row h, upd2_row h, upd2_row h, upd2_row h, row2_ne h2, upd2_row h]
theorem loM_163 {f0 : Nat → Int32} : loM M f0 n 163 = f0 := by
  unfold loM
  rw [upd2_row (by decide), upd2_row (by decide), upd2_row (by decide), upd2_row (by decide), upd2_row (by decide), upd2_row (by decide), upd2_row (by decide), row2_same]
theorem loM_157 {f0 : Nat → Int32} (j : Nat) : loM M f0 n 157 j = if j = 18 then nI 0 else if j = 12 then nI 0 else if j = 9 then nI 0 else if j = 11 then nI n else if j = 21 then nI 0 else if j = 20 then nI 0 else if j = 3 then nI 163 else if j = 4 then nI 0 else M 157 j := by
  unfold loM upd2
  rw [row2_ne (by decide)]
  by_cases h1 : j = 18
  · simp [h1]
  by_cases h2 : j = 12
  · simp [h2]
  by_cases h3 : j = 9
  · simp [h3]
  by_cases h4 : j = 11
  · simp [h4]
  by_cases h5 : j = 21
  · simp [h5]
  by_cases h6 : j = 20
  · simp [h6]
  by_cases h7 : j = 3
  · simp [h7]
  by_cases h8 : j = 4
  · simp [h8]
  simp [h1, h2, h3, h4, h5, h6, h7, h8]
theorem lq_F {x c : Int32} {M0 : Mem} (hA : RI M 158 A) (p2 : M1 157 18 = c) (hc : c ≠ 0) (p4 : M1 157 13 = nI t) (hb : M1 157 9 = nI 0) (hF : ∀ c, c ≠ 157 → c ≠ 163 → M1 c = M c) (hL : FrL M M1) : V D cfX6_load (rmOf 14 0 0) (QM D (PX (LDQ D ad M A (.inl (c, t)))) 0 0) 0 0 90 [some (.ref (ad 157)), some (.int x)] [] (wl D ad M1) := by
  have hw : WX M 158 := hA.1
  refine E_aload0 (q := 91) dX6_load_90 rfl ?_
  refine E_aload0 (q := 92) dX6_load_91 rfl ?_
  refine G_X6_real (q := 95) fl_X6_7 dX6_load_92 rfl ?_
  refine P_X6_w (q := 98) (by decide) fl_X6_16 dX6_load_95 rfl ?_
  refine E_aload0 (q := 99) dX6_load_98 rfl ?_
  refine E_aload0 (q := 100) dX6_load_99 rfl ?_
  refine G_X6_fault (q := 103) fl_X6_220 dX6_load_100 rfl ?_
  refine V_int (show _ = c by rw [upd2_ne (by decide)]; exact p2) ?_
  refine E_if_ne (tgt := 110) (q := 106) dX6_load_103 (by decide) rfl (fun h103 => ?_) (fun h103 => ?_)
  · skip
    refine E_aload0 (q := 111) dX6_load_110 rfl ?_
    refine G_X6_start (q := 114) fl_X6_226 dX6_load_111 rfl ?_
    refine V_int (show _ = nI t by rw [upd2_ne (by decide)]; exact p4) ?_
    refine P_X6_errorAt (q := 117) fl_X6_29 dX6_load_114 rfl ?_
    refine E_aload0 (q := 118) dX6_load_117 rfl ?_
    refine G_X6_fault (q := 121) fl_X6_220 dX6_load_118 rfl ?_
    refine V_int (show _ = c by rw [upd2_ne (by decide), upd2_ne (by decide)]; exact p2) ?_
    refine E_if_eq (tgt := 129) (q := 124) dX6_load_121 (by decide) rfl (fun h121 => ?_) (fun h121 => ?_)
    · skip
      exact absurd h121 hc
    · skip
      refine E_aload0 (q := 125) dX6_load_124 rfl ?_
      refine G_X6_fault (q := 128) fl_X6_220 dX6_load_125 rfl ?_
      refine V_int (show _ = c by rw [upd2_ne (by decide), upd2_ne (by decide)]; exact p2) ?_
      exact E_ireturn rfl rfl dX6_load_128 ⟨_, rfl, rfl, _, rfl, by rw [upd2_ne (by decide), upd2_ne (by decide)]; exact hb, upd2_same, by rw [upd2_ne (by decide)]; exact upd2_same, fun c a d => by rw [upd2_row a, upd2_row a]; exact hF c a d, fun j a b c d => by rw [upd2_ne (by omega), upd2_ne (by omega)]; exact hL j a b c d⟩
  · skip
    exact absurd h103 hc
theorem lq_T {x : Int32} {k : Nat} {B : AS} (hI : RI M1 163 B) (p2 : M1 157 18 = nI 0) (p3 : M1 157 21 = nI k) (hb : M1 157 9 = nI 0) (hF : ∀ c, c ≠ 157 → c ≠ 163 → M1 c = M c) (hL : FrL M M1) : V D cfX6_load (rmOf 14 0 0) (QM D (PX (LDQ D ad M A (.inr (k, B)))) 0 0) 0 0 90 [some (.ref (ad 157)), some (.int x)] [] (wl D ad M1) := by
  have hfin : ∀ g : Nat → Int32, RowIs (cpF (M1 163) 0 g 0 739) B := fun g => RowIs.congr hI.2.1 (fun j hj => by
    unfold cpF
    rw [if_pos ⟨Nat.zero_le _, by omega⟩, show 0 + (j - 0) = j by omega])
  refine E_aload0 (q := 91) dX6_load_90 rfl ?_
  refine E_aload0 (q := 92) dX6_load_91 rfl ?_
  refine G_X6_real (q := 95) fl_X6_7 dX6_load_92 rfl ?_
  refine P_X6_w (q := 98) (by decide) fl_X6_16 dX6_load_95 rfl ?_
  refine E_aload0 (q := 99) dX6_load_98 rfl ?_
  refine E_aload0 (q := 100) dX6_load_99 rfl ?_
  refine G_X6_fault (q := 103) fl_X6_220 dX6_load_100 rfl ?_
  refine V_int (show _ = nI 0 by rw [upd2_ne (by decide)]; exact p2) ?_
  refine E_if_ne (tgt := 110) (q := 106) dX6_load_103 (by decide) rfl (fun h103 => ?_) (fun h103 => ?_)
  · first | exact absurd h103 (by decide) | exact absurd (by decide) h103
  · skip
    refine E_iconst (v := -1) (q := 107) dX6_load_106 (by decide) rfl ?_
    refine E_goto (q := 114) dX6_load_107 (by decide) ?_
    refine P_X6_errorAt (q := 117) fl_X6_29 dX6_load_114 rfl ?_
    refine E_aload0 (q := 118) dX6_load_117 rfl ?_
    refine G_X6_fault (q := 121) fl_X6_220 dX6_load_118 rfl ?_
    refine V_int (show _ = nI 0 by rw [upd2_ne (by decide), upd2_ne (by decide)]; exact p2) ?_
    refine E_if_eq (tgt := 129) (q := 124) dX6_load_121 (by decide) rfl (fun h121 => ?_) (fun h121 => ?_)
    · skip
      refine E_aload0 (q := 130) dX6_load_129 rfl ?_
      refine G_X6_read (q := 133) fl_X6_33 dX6_load_130 rfl ?_
      refine E_iconst (v := nI 0) (q := 134) dX6_load_133 (by decide) rfl ?_
      refine E_aload0 (q := 135) dX6_load_134 rfl ?_
      refine G_X6_real (q := 138) fl_X6_7 dX6_load_135 rfl ?_
      refine E_iconst (v := nI 0) (q := 139) dX6_load_138 (by decide) rfl ?_
      refine C_S4V (q := 142) lk_X6_49 (sp_X6_copy sk_163 sk_158 (by decide) (by decide) (by decide) (by decide)) dX6_load_139 (by decide) (Nat.le_of_ble_eq_true rfl) rfl ?_
      refine E_aload0 (q := 143) dX6_load_142 rfl ?_
      refine E_iconst (v := nI 0) (q := 144) dX6_load_143 (by decide) rfl ?_
      refine P_X6_historySize (q := 147) fl_X6_46 dX6_load_144 rfl ?_
      refine E_aload0 (q := 148) dX6_load_147 rfl ?_
      refine G_X6_statements (q := 151) fl_X6_317 dX6_load_148 rfl ?_
      refine V_int (show _ = nI k by rw [upd2_ne (by decide), row2_ne (by decide), upd2_ne (by decide), upd2_ne (by decide)]; exact p3) ?_
      exact E_ireturn rfl rfl dX6_load_151 ⟨_, rfl, rfl, _, rfl, by rw [upd2_ne (by decide), row2_ne (by decide), upd2_ne (by decide), upd2_ne (by decide)]; exact hb, by rw [upd2_ne (by decide), row2_ne (by decide)]; exact upd2_same, ⟨⟨by rw [upd2_ne (by decide), row2_ne (by decide), upd2_ne (by decide), upd2_same]; decide, sk_158⟩, by rw [upd2_row (by decide), row2_same, upd2_row (by decide), upd2_row (by decide)]; exact hfin _, hI.2.2⟩, upd2_same, fun c a d e => by rw [upd2_row a, row2_ne d, upd2_row a, upd2_row a]; exact hF c a e, fun j a b c d e => by rw [upd2_ne (by omega), row2_ne (by decide), upd2_ne (by omega), upd2_ne (by omega)]; exact hL j b c d e⟩
    · first | exact absurd h121 (by decide) | exact absurd (by decide) h121
theorem sp_X6_load {n : Nat} (hA : RI M 158 A) (h : TxQ M f tx) (hn : n ≤ f) : Spec D 14 yX6_load cfX6_load [.ref (ad 157), .int (nI (n))] (wl D ad M) 0 0 (PX (LDQ D ad M A (ldF tx n (n + 1) (tokS tx n 0) 0 newA 0))) := by
  refine Spec.of (by decide) rfl (Nat.le_of_ble_eq_true rfl) rfl ?_
  have hf := h.1
  have hz : zI (nI 0 ≤ nI n ∧ nI n ≤ nI f) = nI 1 := (zI_t ⟨(nI_leI (by decide) (by omega)).mpr (Nat.zero_le _), (nI_leI (by omega) (by omega)).mpr hn⟩).symm
  have hw := hA.1
  refine E_aload0 (q := 1) dX6_load_0 rfl ?_
  refine E_iconst (v := nI 0) (q := 2) dX6_load_1 (by decide) rfl ?_
  refine P_X6_thrown (q := 5) fl_X6_43 dX6_load_2 rfl ?_
  refine E_iload1 (q := 6) dX6_load_5 rfl ?_
  refine E_iconst (v := nI 0) (q := 7) dX6_load_6 (by decide) rfl ?_
  refine E_aload0 (q := 8) dX6_load_7 rfl ?_
  refine G_X6_bufferSize (q := 11) fl_X6_208 dX6_load_8 rfl ?_
  refine V_int (show _ = nI f by rw [upd2_ne (by decide)]; exact h.2.1) ?_
  refine C_S3I (q := 14) lk_X6_60 (sp_X6_inRange) dX6_load_11 (by decide) (Nat.le_of_ble_eq_true rfl) rfl ?_
  refine V_int hz ?_
  refine E_if_ne (tgt := 20) (q := 17) dX6_load_14 (by decide) rfl (fun h14 => ?_) (fun h14 => ?_)
  · skip
    refine E_aload0 (q := 21) dX6_load_20 rfl ?_
    refine G_X6_read (q := 24) fl_X6_33 dX6_load_21 rfl ?_
    refine C_S1Y (q := 27) lk_X6_39 (sp_X6_begin sk_163) dX6_load_24 (by decide) (Nat.le_of_ble_eq_true rfl) rfl ?_
    rintro w ⟨f0, hf0, hw0⟩
    rw [hw0]
    refine E_aload0 (q := 28) dX6_load_27 rfl ?_
    refine E_aload0 (q := 29) dX6_load_28 rfl ?_
    refine G_X6_read (q := 32) fl_X6_33 dX6_load_29 rfl ?_
    refine P_X6_w (q := 35) (by decide) fl_X6_16 dX6_load_32 rfl ?_
    refine E_aload0 (q := 36) dX6_load_35 rfl ?_
    refine E_iconst (v := nI 0) (q := 37) dX6_load_36 (by decide) rfl ?_
    refine P_X6_given (q := 40) fl_X6_279 dX6_load_37 rfl ?_
    refine E_aload0 (q := 41) dX6_load_40 rfl ?_
    refine E_iconst (v := nI 0) (q := 42) dX6_load_41 (by decide) rfl ?_
    refine P_X6_statements (q := 45) fl_X6_317 dX6_load_42 rfl ?_
    refine E_aload0 (q := 46) dX6_load_45 rfl ?_
    refine E_iload1 (q := 47) dX6_load_46 rfl ?_
    refine P_X6_textSize (q := 50) fl_X6_217 dX6_load_47 rfl ?_
    refine E_aload0 (q := 51) dX6_load_50 rfl ?_
    refine E_iconst (v := nI 0) (q := 52) dX6_load_51 (by decide) rfl ?_
    refine P_X6_bufferSize (q := 55) fl_X6_208 dX6_load_52 rfl ?_
    refine E_aload0 (q := 56) dX6_load_55 rfl ?_
    refine E_iconst (v := nI 0) (q := 57) dX6_load_56 (by decide) rfl ?_
    refine P_X6_at (q := 60) fl_X6_214 dX6_load_57 rfl ?_
    refine E_aload0 (q := 61) dX6_load_60 rfl ?_
    refine E_iconst (v := nI 0) (q := 62) dX6_load_61 (by decide) rfl ?_
    refine P_X6_fault (q := 65) fl_X6_220 dX6_load_62 rfl ?_
    have hX : TxR (loM M f0 n) tx n := ⟨by rw [loM_157]; rfl, by omega, h.2.2.1, fun i hi => by rw [loM_row (by decide) (by decide)]; exact h.2.2.2 i (by omega)⟩
    refine V_ws (show _ = wl D ad (loM M f0 n) from rfl) ?_
    refine E_aload0 (q := 66) dX6_load_65 rfl ?_
    refine C_V0Y (q := 69) lk_X6_254 (sp_X6_advance hX (by rw [loM_157]; rfl) (by rw [loM_157]; rfl) (Nat.zero_le n) rfl) rc_X6 dX6_load_66 (by decide) (Nat.le_of_ble_eq_true rfl) rfl ?_
    refine kkEW ?_
    rintro M3 ⟨hL, hF⟩
    refine lp_load (M0 := M3) (r := ldF tx n (n + 1) (tokS tx n 0) 0 newA 0) ?_ (n + 1) rfl (by omega) ⟨⟨(tokS_sp (Nat.zero_le _)).2.1, by decide⟩, hX.fr hF, hL, ?_, ?_, ?_⟩ ?_ (Nat.zero_le _) (Nat.zero_le _) FrS.rf
    · intro w hw1
      generalize ldF tx n (n + 1) (tokS tx n 0) 0 newA 0 = u at hw1 ⊢
      match u, hw1 with
      | .inl (c, t), hw1 =>
        obtain ⟨M4, p1, p2, p3, p4, p5, p6⟩ := hw1
        rw [p1]
        exact lq_F (M0 := M) hA p2 p3 p4 (by rw [p6.2 9 (by omega) (by decide), hF.2 9 (by omega) (by decide), loM_157]; rfl) (fun c a d => by rw [p6.1 c a d, hF.1 c a, loM_row a d]) (fun j a b c d => by rw [p6.2 j (by omega) d, hF.2 j (by omega) d, loM_157, if_neg (by omega), if_neg (by omega), if_neg (by omega), if_neg (by omega), if_neg (by omega), if_neg (by omega), if_neg b, if_neg c])
      | .inr (k, B), hw1 =>
        obtain ⟨M4, p1, p2, p3, p4, p5, p5', p6⟩ := hw1
        rw [p1]
        exact lq_T p2 p3 p4 (by rw [p6.2 9 (by omega) (by decide), hF.2 9 (by omega) (by decide), loM_157]; rfl) (fun c a d => by rw [p6.1 c a d, hF.1 c a, loM_row a d]) (fun j a b c d => by rw [p6.2 j (by omega) d, hF.2 j (by omega) d, loM_157, if_neg (by omega), if_neg (by omega), if_neg (by omega), if_neg (by omega), if_neg (by omega), if_neg (by omega), if_neg b, if_neg c])
    · rw [hF.2 18 (by omega) (by decide), loM_157]; rfl
    · rw [hF.2 20 (by omega) (by decide), loM_157]; rfl
    · exact ⟨⟨by rw [hF.2 3 (by omega) (by decide), loM_157]; show (nI 163).toNatClampNeg = 163; decide, sk_163⟩, by rw [hF.1 163 (by decide), loM_163]; exact beg_RowIs hf0, newA_WF⟩
    · rw [hF.2 21 (by omega) (by decide), loM_157]; rfl
  · first | exact absurd h14 (by decide) | exact absurd (by decide) h14
end LOAD
