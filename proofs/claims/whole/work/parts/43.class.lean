
/-! THE CLASS: its tokens -/
section CLS
variable {D : va_G} {ad : Nat → Nat} {M : Mem} {ws : va_W} {A : AS} {b : Nat → Nat} {n s e p q g : Nat}
theorem upd2_tw {k j : Nat} {u v : Int32} : upd2 (upd2 M k j u) k j v = upd2 M k j v := by
  funext a c
  unfold upd2
  by_cases h : a = k ∧ c = j
  · rw [if_pos h, if_pos h]
  · rw [if_neg h, if_neg h, if_neg h]
theorem knd_4 (h : q < n) (h1 : ¬ (97 ≤ b q ∧ b q ≤ 122)) (h2 : ¬ (48 ≤ b q ∧ b q ≤ 57)) (h3 : b q ≠ 59) : knd b n q = 4 := by
  unfold knd
  rw [if_neg (by omega), if_neg h1, if_neg h2, if_neg h3]
theorem dB_ff {P : Prop} (h : ¬ P) : ¬ dB P = true := by rw [dB_f h]; simp
theorem sp_X2_charAt {q : Nat} (hq : q < n) (hn : n ≤ 1000) (hb : ∀ i, b i < 256) (hT : ∀ i, i < n → M 134 i = nI (b i)) : Spec D 1 yX2_charAt cfX2_charAt [.ref (ad 133), .int (nI (q))] (wl D ad M) 0 0 (PI (nI (b q)) (wl D ad M)) := by
  refine Spec.of (by decide) rfl (Nat.le_of_ble_eq_true rfl) rfl ?_
  have h256 := hb q
  refine E_iload1 (q := 1) dX2_charAt_0 rfl ?_
  refine E_if_lt (tgt := 20) (q := 4) dX2_charAt_1 (by decide) rfl (fun h1 => ?_) (fun h1 => ?_)
  · skip
    exact absurd h1 (nI_pos (by omega))
  · skip
    refine E_iload1 (q := 5) dX2_charAt_4 rfl ?_
    refine E_sipush (v := nI 1000) (q := 8) dX2_charAt_5 (by decide) rfl ?_
    refine E_icmp_geN (tgt := 20) (q := 11) dX2_charAt_8 (by decide) rfl (by omega) (by omega) (fun h8 => ?_) (fun h8 => ?_)
    · skip
      exact absurd h8 (by omega)
    · skip
      refine E_aload0 (q := 12) dX2_charAt_11 rfl ?_
      refine G_X2_text (q := 15) fl_X2_9 dX2_charAt_12 rfl ?_
      refine E_iload1 (q := 16) dX2_charAt_15 rfl ?_
      refine E_caldN (q := 17) sk_134 (by omega) (by decide) dX2_charAt_16 rfl ?_
      refine V_int (hT q hq) ?_
      refine E_goto (q := 22) dX2_charAt_17 (by decide) ?_
      exact E_zreturn rfl rfl (pk_charN (by omega)).1 dX2_charAt_22 (PI_of rfl rfl)
theorem sp_X2_kindAt {q : Nat} (hln : M 133 5 = nI n) (hq : q ≤ n) (hn : n ≤ 1000) (hb : ∀ i, b i < 256) (hT : ∀ i, i < n → M 134 i = nI (b i)) : Spec D 2 yX2_kindAt cfX2_kindAt [.ref (ad 133), .int (nI (q))] (wl D ad M) 0 0 (PI (nI (knd b n q)) (wl D ad M)) := by
  refine Spec.of (by decide) rfl (Nat.le_of_ble_eq_true rfl) rfl ?_
  have h256 := hb q
  refine E_iload1 (q := 1) dX2_kindAt_0 rfl ?_
  refine E_aload0 (q := 2) dX2_kindAt_1 rfl ?_
  refine G_X2_length (q := 5) fl_X2_32 dX2_kindAt_2 rfl ?_
  refine V_int hln ?_
  refine E_icmp_ltN (tgt := 10) (q := 8) dX2_kindAt_5 (by decide) rfl (by omega) (by omega) (fun h5 => ?_) (fun h5 => ?_)
  · skip
    refine E_aload0 (q := 11) dX2_kindAt_10 rfl ?_
    refine E_iload1 (q := 12) dX2_kindAt_11 rfl ?_
    refine C_V1I (q := 15) lk_X2_201 (sp_X2_charAt (show q < n by omega) hn hb hT) rc_X2 dX2_kindAt_12 (by decide) (Nat.le_of_ble_eq_true rfl) rfl ?_
    refine E_istore2 (q := 16) dX2_kindAt_15 rfl rfl ?_
    refine E_iload2 (q := 17) dX2_kindAt_16 rfl ?_
    refine E_bipush (v := nI 97) (q := 19) dX2_kindAt_17 (by decide) rfl ?_
    refine E_icmp_ltN (tgt := 30) (q := 22) dX2_kindAt_19 (by decide) rfl (by omega) (by omega) (fun h19 => ?_) (fun h19 => ?_)
    · skip
      refine E_iload2 (q := 31) dX2_kindAt_30 rfl ?_
      refine E_bipush (v := nI 48) (q := 33) dX2_kindAt_31 (by decide) rfl ?_
      refine E_icmp_ltN (tgt := 44) (q := 36) dX2_kindAt_33 (by decide) rfl (by omega) (by omega) (fun h33 => ?_) (fun h33 => ?_)
      · skip
        refine E_iload2 (q := 45) dX2_kindAt_44 rfl ?_
        refine E_bipush (v := nI 59) (q := 47) dX2_kindAt_45 (by decide) rfl ?_
        refine E_icmp_neN (tgt := 54) (q := 50) dX2_kindAt_47 (by decide) rfl (by omega) (by omega) (fun h47 => ?_) (fun h47 => ?_)
        · skip
          refine E_iconst (v := nI 4) (q := 55) dX2_kindAt_54 (by decide) rfl ?_
          exact E_ireturn rfl rfl dX2_kindAt_55 (PI_of (by rw [knd_4 h5 (by omega) (by omega) (by omega)]) rfl)
        · skip
          refine E_iconst (v := nI 3) (q := 51) dX2_kindAt_50 (by decide) rfl ?_
          refine E_goto (q := 55) dX2_kindAt_51 (by decide) ?_
          exact E_ireturn rfl rfl dX2_kindAt_55 (PI_of (by rw [knd_3.mpr ⟨h5, by omega⟩]) rfl)
      · skip
        refine E_iload2 (q := 37) dX2_kindAt_36 rfl ?_
        refine E_bipush (v := nI 57) (q := 39) dX2_kindAt_37 (by decide) rfl ?_
        refine E_icmp_gtN (tgt := 44) (q := 42) dX2_kindAt_39 (by decide) rfl (by omega) (by omega) (fun h39 => ?_) (fun h39 => ?_)
        · skip
          refine E_iload2 (q := 45) dX2_kindAt_44 rfl ?_
          refine E_bipush (v := nI 59) (q := 47) dX2_kindAt_45 (by decide) rfl ?_
          refine E_icmp_neN (tgt := 54) (q := 50) dX2_kindAt_47 (by decide) rfl (by omega) (by omega) (fun h47 => ?_) (fun h47 => ?_)
          · skip
            refine E_iconst (v := nI 4) (q := 55) dX2_kindAt_54 (by decide) rfl ?_
            exact E_ireturn rfl rfl dX2_kindAt_55 (PI_of (by rw [knd_4 h5 (by omega) (by omega) (by omega)]) rfl)
          · skip
            refine E_iconst (v := nI 3) (q := 51) dX2_kindAt_50 (by decide) rfl ?_
            refine E_goto (q := 55) dX2_kindAt_51 (by decide) ?_
            exact E_ireturn rfl rfl dX2_kindAt_55 (PI_of (by rw [knd_3.mpr ⟨h5, by omega⟩]) rfl)
        · skip
          refine E_iconst (v := nI 2) (q := 43) dX2_kindAt_42 (by decide) rfl ?_
          exact E_ireturn rfl rfl dX2_kindAt_43 (PI_of (by rw [knd_2.mpr ⟨h5, by omega, by omega⟩]) rfl)
    · skip
      refine E_iload2 (q := 23) dX2_kindAt_22 rfl ?_
      refine E_bipush (v := nI 122) (q := 25) dX2_kindAt_23 (by decide) rfl ?_
      refine E_icmp_gtN (tgt := 30) (q := 28) dX2_kindAt_25 (by decide) rfl (by omega) (by omega) (fun h25 => ?_) (fun h25 => ?_)
      · skip
        refine E_iload2 (q := 31) dX2_kindAt_30 rfl ?_
        refine E_bipush (v := nI 48) (q := 33) dX2_kindAt_31 (by decide) rfl ?_
        refine E_icmp_ltN (tgt := 44) (q := 36) dX2_kindAt_33 (by decide) rfl (by omega) (by omega) (fun h33 => ?_) (fun h33 => ?_)
        · skip
          refine E_iload2 (q := 45) dX2_kindAt_44 rfl ?_
          refine E_bipush (v := nI 59) (q := 47) dX2_kindAt_45 (by decide) rfl ?_
          refine E_icmp_neN (tgt := 54) (q := 50) dX2_kindAt_47 (by decide) rfl (by omega) (by omega) (fun h47 => ?_) (fun h47 => ?_)
          · skip
            refine E_iconst (v := nI 4) (q := 55) dX2_kindAt_54 (by decide) rfl ?_
            exact E_ireturn rfl rfl dX2_kindAt_55 (PI_of (by rw [knd_4 h5 (by omega) (by omega) (by omega)]) rfl)
          · skip
            refine E_iconst (v := nI 3) (q := 51) dX2_kindAt_50 (by decide) rfl ?_
            refine E_goto (q := 55) dX2_kindAt_51 (by decide) ?_
            exact E_ireturn rfl rfl dX2_kindAt_55 (PI_of (by rw [knd_3.mpr ⟨h5, by omega⟩]) rfl)
        · skip
          refine E_iload2 (q := 37) dX2_kindAt_36 rfl ?_
          refine E_bipush (v := nI 57) (q := 39) dX2_kindAt_37 (by decide) rfl ?_
          refine E_icmp_gtN (tgt := 44) (q := 42) dX2_kindAt_39 (by decide) rfl (by omega) (by omega) (fun h39 => ?_) (fun h39 => ?_)
          · skip
            refine E_iload2 (q := 45) dX2_kindAt_44 rfl ?_
            refine E_bipush (v := nI 59) (q := 47) dX2_kindAt_45 (by decide) rfl ?_
            refine E_icmp_neN (tgt := 54) (q := 50) dX2_kindAt_47 (by decide) rfl (by omega) (by omega) (fun h47 => ?_) (fun h47 => ?_)
            · skip
              refine E_iconst (v := nI 4) (q := 55) dX2_kindAt_54 (by decide) rfl ?_
              exact E_ireturn rfl rfl dX2_kindAt_55 (PI_of (by rw [knd_4 h5 (by omega) (by omega) (by omega)]) rfl)
            · skip
              refine E_iconst (v := nI 3) (q := 51) dX2_kindAt_50 (by decide) rfl ?_
              refine E_goto (q := 55) dX2_kindAt_51 (by decide) ?_
              exact E_ireturn rfl rfl dX2_kindAt_55 (PI_of (by rw [knd_3.mpr ⟨h5, by omega⟩]) rfl)
          · skip
            refine E_iconst (v := nI 2) (q := 43) dX2_kindAt_42 (by decide) rfl ?_
            exact E_ireturn rfl rfl dX2_kindAt_43 (PI_of (by rw [knd_2.mpr ⟨h5, by omega, by omega⟩]) rfl)
      · skip
        refine E_iconst (v := nI 1) (q := 29) dX2_kindAt_28 (by decide) rfl ?_
        exact E_ireturn rfl rfl dX2_kindAt_29 (PI_of (by rw [knd_1.mpr ⟨h5, by omega, by omega⟩]) rfl)
  · skip
    refine E_iconst (v := nI 0) (q := 9) dX2_kindAt_8 (by decide) rfl ?_
    exact E_ireturn rfl rfl dX2_kindAt_9 (PI_of (by rw [knd_0.mpr h5]) rfl)
noncomputable def lxM (M : Mem) (b : Nat → Nat) (n s : Nat) : Mem := upd2 (upd2 (upd2 M 133 6 (nI s)) 133 8 (nI (knd b n s))) 133 7 (nI (tokE b n s))
theorem sp_X2_advance (hsg : tokS b n p = s) (hln : M 133 5 = nI n) (hst : M 133 7 = nI p) (hp : p ≤ n) (hn : n ≤ 1000) (hb : ∀ i, b i < 256) (hT : ∀ i, i < n → M 134 i = nI (b i)) : Spec D 3 yX2_advance cfX2_advance [.ref (ad 133)] (wl D ad M) 0 0 (PV (wl D ad (lxM M b n s))) := by
  refine Spec.of (by decide) rfl (Nat.le_of_ble_eq_true rfl) rfl ?_
  obtain ⟨t1, t2, t3, t4⟩ := tokS_sp (b := b) hp
  rw [hsg] at t1 t2 t3 t4
  have hkl := knd_le (b := b) (n := n) (q := s)
  have hloop : (knd b n s = 1 ∨ knd b n s = 2) → s < n → V D cfX2_advance (rmOf 3 0 0) (QM D (PV (wl D ad (lxM M b n s))) 0 0) 0 0 114 [some (.ref (ad 133))] [] (wl D ad (upd2 (upd2 (upd2 M 133 6 (nI s)) 133 8 (nI (knd b n s))) 133 7 (nI (s + 1)))) := by
    intro hk hsn
    obtain ⟨e1, e2, e3, e4⟩ := tokE_sp hsn hk
    refine upto (n := tokE b n s) (P := fun i => s < i → V D cfX2_advance (rmOf 3 0 0) (QM D (PV (wl D ad (lxM M b n s))) 0 0) 0 0 114 [some (.ref (ad 133))] [] (wl D ad (upd2 (upd2 (upd2 M 133 6 (nI s)) 133 8 (nI (knd b n s))) 133 7 (nI i)))) ?_ ?_ (s + 1) e1 (Nat.lt_succ_self _)
    · intro _
      have hke := knd_le (b := b) (n := n) (q := tokE b n s)
      refine E_aload0 (q := 115) dX2_advance_114 rfl ?_
      refine G_X2_stop (q := 118) fl_X2_38 dX2_advance_115 rfl ?_
      refine V_int upd2_same ?_
      refine E_aload0 (q := 119) dX2_advance_118 rfl ?_
      refine G_X2_length (q := 122) fl_X2_32 dX2_advance_119 rfl ?_
      refine V_int (show _ = nI n by rw [upd2_ne (by decide), upd2_ne (by decide), upd2_ne (by decide)]; exact hln) ?_
      refine E_icmp_geN (tgt := 153) (q := 125) dX2_advance_122 (by decide) rfl (by omega) (by omega) (fun h122 => ?_) (fun h122 => ?_)
      · skip
        exact E_vreturn rfl rfl dX2_advance_153 (PV_of (by unfold lxM; rfl))
      · skip
        refine E_aload0 (q := 126) dX2_advance_125 rfl ?_
        refine E_aload0 (q := 127) dX2_advance_126 rfl ?_
        refine G_X2_stop (q := 130) fl_X2_38 dX2_advance_127 rfl ?_
        refine V_int upd2_same ?_
        refine C_V1I (q := 133) lk_X2_207 (sp_X2_kindAt (show _ = nI n by rw [upd2_ne (by decide), upd2_ne (by decide), upd2_ne (by decide)]; exact hln) e2 hn hb (fun i hi => by rw [upd2_row (by decide), upd2_row (by decide), upd2_row (by decide)]; exact hT i hi)) rc_X2 dX2_advance_130 (by decide) (Nat.le_of_ble_eq_true rfl) rfl ?_
        refine E_aload0 (q := 134) dX2_advance_133 rfl ?_
        refine G_X2_kind (q := 137) fl_X2_41 dX2_advance_134 rfl ?_
        refine V_int (show _ = nI (knd b n s) by rw [upd2_ne (by decide)]; exact upd2_same) ?_
        refine E_icmp_neN (tgt := 153) (q := 140) dX2_advance_137 (by decide) rfl (by omega) (by omega) (fun h137 => ?_) (fun h137 => ?_)
        · skip
          exact E_vreturn rfl rfl dX2_advance_153 (PV_of (by unfold lxM; rfl))
        · skip
          exact absurd h137 e3
    · intro i hi ih hsi
      have hki := e4 i (by omega) hi
      refine E_aload0 (q := 115) dX2_advance_114 rfl ?_
      refine G_X2_stop (q := 118) fl_X2_38 dX2_advance_115 rfl ?_
      refine V_int upd2_same ?_
      refine E_aload0 (q := 119) dX2_advance_118 rfl ?_
      refine G_X2_length (q := 122) fl_X2_32 dX2_advance_119 rfl ?_
      refine V_int (show _ = nI n by rw [upd2_ne (by decide), upd2_ne (by decide), upd2_ne (by decide)]; exact hln) ?_
      refine E_icmp_geN (tgt := 153) (q := 125) dX2_advance_122 (by decide) rfl (by omega) (by omega) (fun h122 => ?_) (fun h122 => ?_)
      · skip
        exact absurd h122 (by omega)
      · skip
        refine E_aload0 (q := 126) dX2_advance_125 rfl ?_
        refine E_aload0 (q := 127) dX2_advance_126 rfl ?_
        refine G_X2_stop (q := 130) fl_X2_38 dX2_advance_127 rfl ?_
        refine V_int upd2_same ?_
        refine C_V1I (q := 133) lk_X2_207 (sp_X2_kindAt (show _ = nI n by rw [upd2_ne (by decide), upd2_ne (by decide), upd2_ne (by decide)]; exact hln) (by omega) hn hb (fun i hi => by rw [upd2_row (by decide), upd2_row (by decide), upd2_row (by decide)]; exact hT i hi)) rc_X2 dX2_advance_130 (by decide) (Nat.le_of_ble_eq_true rfl) rfl ?_
        refine E_aload0 (q := 134) dX2_advance_133 rfl ?_
        refine G_X2_kind (q := 137) fl_X2_41 dX2_advance_134 rfl ?_
        refine V_int (show _ = nI (knd b n s) by rw [upd2_ne (by decide)]; exact upd2_same) ?_
        refine E_icmp_neN (tgt := 153) (q := 140) dX2_advance_137 (by decide) rfl (by omega) (by omega) (fun h137 => ?_) (fun h137 => ?_)
        · skip
          exact absurd hki h137
        · skip
          refine E_aload0 (q := 141) dX2_advance_140 rfl ?_
          refine E_dup (q := 142) dX2_advance_141 rfl rfl ?_
          refine G_X2_stop (q := 145) fl_X2_38 dX2_advance_142 rfl ?_
          refine V_int upd2_same ?_
          refine E_iconst (v := nI 1) (q := 146) dX2_advance_145 (by decide) rfl ?_
          refine E_iaddN (q := 147) dX2_advance_146 rfl ?_
          refine P_X2_stop (q := 150) fl_X2_38 dX2_advance_147 rfl ?_
          refine E_goto (q := 114) dX2_advance_150 (by decide) ?_
          refine V_ws (congrArg (wl D ad) upd2_tw) ?_
          exact ih (by omega)
  have htail : V D cfX2_advance (rmOf 3 0 0) (QM D (PV (wl D ad (lxM M b n s))) 0 0) 0 0 58 [some (.ref (ad 133))] [] (wl D ad (upd2 M 133 6 (nI s))) := by
    by_cases c0 : n ≤ s
    · have hk0 := (knd_0 (b := b)).mpr c0
      refine E_aload0 (q := 59) dX2_advance_58 rfl ?_
      refine E_aload0 (q := 60) dX2_advance_59 rfl ?_
      refine E_aload0 (q := 61) dX2_advance_60 rfl ?_
      refine G_X2_start (q := 64) fl_X2_35 dX2_advance_61 rfl ?_
      refine V_int upd2_same ?_
      refine C_V1I (q := 67) lk_X2_207 (sp_X2_kindAt (show _ = nI n by rw [upd2_ne (by decide)]; exact hln) t2 hn hb (fun i hi => by rw [upd2_row (by decide)]; exact hT i hi)) rc_X2 dX2_advance_64 (by decide) (Nat.le_of_ble_eq_true rfl) rfl ?_
      refine P_X2_kind (q := 70) fl_X2_41 dX2_advance_67 rfl ?_
      refine E_aload0 (q := 71) dX2_advance_70 rfl ?_
      refine E_aload0 (q := 72) dX2_advance_71 rfl ?_
      refine G_X2_start (q := 75) fl_X2_35 dX2_advance_72 rfl ?_
      refine V_int (show _ = nI s by rw [upd2_ne (by decide)]; exact upd2_same) ?_
      refine E_aload0 (q := 76) dX2_advance_75 rfl ?_
      refine G_X2_length (q := 79) fl_X2_32 dX2_advance_76 rfl ?_
      refine V_int (show _ = nI n by rw [upd2_ne (by decide), upd2_ne (by decide)]; exact hln) ?_
      refine E_icmp_geN (tgt := 91) (q := 82) dX2_advance_79 (by decide) rfl (by omega) (by omega) (fun h79 => ?_) (fun h79 => ?_)
      · skip
        refine E_aload0 (q := 92) dX2_advance_91 rfl ?_
        refine G_X2_length (q := 95) fl_X2_32 dX2_advance_92 rfl ?_
        refine V_int (show _ = nI n by rw [upd2_ne (by decide), upd2_ne (by decide)]; exact hln) ?_
        refine P_X2_stop (q := 98) fl_X2_38 dX2_advance_95 rfl ?_
        refine E_aload0 (q := 99) dX2_advance_98 rfl ?_
        refine G_X2_kind (q := 102) fl_X2_41 dX2_advance_99 rfl ?_
        refine V_int (show _ = nI (knd b n s) by rw [upd2_ne (by decide)]; exact upd2_same) ?_
        refine E_iconst (v := nI 1) (q := 103) dX2_advance_102 (by decide) rfl ?_
        refine E_icmp_eqN (tgt := 114) (q := 106) dX2_advance_103 (by decide) rfl (by omega) (by omega) (fun h103 => ?_) (fun h103 => ?_)
        · skip
          exact absurd h103 (by omega)
        · skip
          refine E_aload0 (q := 107) dX2_advance_106 rfl ?_
          refine G_X2_kind (q := 110) fl_X2_41 dX2_advance_107 rfl ?_
          refine V_int (show _ = nI (knd b n s) by rw [upd2_ne (by decide)]; exact upd2_same) ?_
          refine E_iconst (v := nI 2) (q := 111) dX2_advance_110 (by decide) rfl ?_
          refine E_icmp_neN (tgt := 153) (q := 114) dX2_advance_111 (by decide) rfl (by omega) (by omega) (fun h111 => ?_) (fun h111 => ?_)
          · skip
            exact E_vreturn rfl rfl dX2_advance_153 (PV_of (by unfold lxM; rw [tokE_end c0]))
          · skip
            exact absurd h111 (by omega)
      · skip
        exact absurd h79 (by omega)
    · by_cases c1 : knd b n s = 1 ∨ knd b n s = 2
      · have hlp := hloop c1 (by omega)
        refine E_aload0 (q := 59) dX2_advance_58 rfl ?_
        refine E_aload0 (q := 60) dX2_advance_59 rfl ?_
        refine E_aload0 (q := 61) dX2_advance_60 rfl ?_
        refine G_X2_start (q := 64) fl_X2_35 dX2_advance_61 rfl ?_
        refine V_int upd2_same ?_
        refine C_V1I (q := 67) lk_X2_207 (sp_X2_kindAt (show _ = nI n by rw [upd2_ne (by decide)]; exact hln) t2 hn hb (fun i hi => by rw [upd2_row (by decide)]; exact hT i hi)) rc_X2 dX2_advance_64 (by decide) (Nat.le_of_ble_eq_true rfl) rfl ?_
        refine P_X2_kind (q := 70) fl_X2_41 dX2_advance_67 rfl ?_
        refine E_aload0 (q := 71) dX2_advance_70 rfl ?_
        refine E_aload0 (q := 72) dX2_advance_71 rfl ?_
        refine G_X2_start (q := 75) fl_X2_35 dX2_advance_72 rfl ?_
        refine V_int (show _ = nI s by rw [upd2_ne (by decide)]; exact upd2_same) ?_
        refine E_aload0 (q := 76) dX2_advance_75 rfl ?_
        refine G_X2_length (q := 79) fl_X2_32 dX2_advance_76 rfl ?_
        refine V_int (show _ = nI n by rw [upd2_ne (by decide), upd2_ne (by decide)]; exact hln) ?_
        refine E_icmp_geN (tgt := 91) (q := 82) dX2_advance_79 (by decide) rfl (by omega) (by omega) (fun h79 => ?_) (fun h79 => ?_)
        · skip
          exact absurd h79 (by omega)
        · skip
          refine E_aload0 (q := 83) dX2_advance_82 rfl ?_
          refine G_X2_start (q := 86) fl_X2_35 dX2_advance_83 rfl ?_
          refine V_int (show _ = nI s by rw [upd2_ne (by decide)]; exact upd2_same) ?_
          refine E_iconst (v := nI 1) (q := 87) dX2_advance_86 (by decide) rfl ?_
          refine E_iaddN (q := 88) dX2_advance_87 rfl ?_
          refine E_goto (q := 95) dX2_advance_88 (by decide) ?_
          refine P_X2_stop (q := 98) fl_X2_38 dX2_advance_95 rfl ?_
          refine E_aload0 (q := 99) dX2_advance_98 rfl ?_
          refine G_X2_kind (q := 102) fl_X2_41 dX2_advance_99 rfl ?_
          refine V_int (show _ = nI (knd b n s) by rw [upd2_ne (by decide)]; exact upd2_same) ?_
          refine E_iconst (v := nI 1) (q := 103) dX2_advance_102 (by decide) rfl ?_
          refine E_icmp_eqN (tgt := 114) (q := 106) dX2_advance_103 (by decide) rfl (by omega) (by omega) (fun h103 => ?_) (fun h103 => ?_)
          · skip
            exact hlp
          · skip
            refine E_aload0 (q := 107) dX2_advance_106 rfl ?_
            refine G_X2_kind (q := 110) fl_X2_41 dX2_advance_107 rfl ?_
            refine V_int (show _ = nI (knd b n s) by rw [upd2_ne (by decide)]; exact upd2_same) ?_
            refine E_iconst (v := nI 2) (q := 111) dX2_advance_110 (by decide) rfl ?_
            refine E_icmp_neN (tgt := 153) (q := 114) dX2_advance_111 (by decide) rfl (by omega) (by omega) (fun h111 => ?_) (fun h111 => ?_)
            · skip
              exact absurd h111 (by omega)
            · skip
              exact hlp
      · skip
        refine E_aload0 (q := 59) dX2_advance_58 rfl ?_
        refine E_aload0 (q := 60) dX2_advance_59 rfl ?_
        refine E_aload0 (q := 61) dX2_advance_60 rfl ?_
        refine G_X2_start (q := 64) fl_X2_35 dX2_advance_61 rfl ?_
        refine V_int upd2_same ?_
        refine C_V1I (q := 67) lk_X2_207 (sp_X2_kindAt (show _ = nI n by rw [upd2_ne (by decide)]; exact hln) t2 hn hb (fun i hi => by rw [upd2_row (by decide)]; exact hT i hi)) rc_X2 dX2_advance_64 (by decide) (Nat.le_of_ble_eq_true rfl) rfl ?_
        refine P_X2_kind (q := 70) fl_X2_41 dX2_advance_67 rfl ?_
        refine E_aload0 (q := 71) dX2_advance_70 rfl ?_
        refine E_aload0 (q := 72) dX2_advance_71 rfl ?_
        refine G_X2_start (q := 75) fl_X2_35 dX2_advance_72 rfl ?_
        refine V_int (show _ = nI s by rw [upd2_ne (by decide)]; exact upd2_same) ?_
        refine E_aload0 (q := 76) dX2_advance_75 rfl ?_
        refine G_X2_length (q := 79) fl_X2_32 dX2_advance_76 rfl ?_
        refine V_int (show _ = nI n by rw [upd2_ne (by decide), upd2_ne (by decide)]; exact hln) ?_
        refine E_icmp_geN (tgt := 91) (q := 82) dX2_advance_79 (by decide) rfl (by omega) (by omega) (fun h79 => ?_) (fun h79 => ?_)
        · skip
          exact absurd h79 (by omega)
        · skip
          refine E_aload0 (q := 83) dX2_advance_82 rfl ?_
          refine G_X2_start (q := 86) fl_X2_35 dX2_advance_83 rfl ?_
          refine V_int (show _ = nI s by rw [upd2_ne (by decide)]; exact upd2_same) ?_
          refine E_iconst (v := nI 1) (q := 87) dX2_advance_86 (by decide) rfl ?_
          refine E_iaddN (q := 88) dX2_advance_87 rfl ?_
          refine E_goto (q := 95) dX2_advance_88 (by decide) ?_
          refine P_X2_stop (q := 98) fl_X2_38 dX2_advance_95 rfl ?_
          refine E_aload0 (q := 99) dX2_advance_98 rfl ?_
          refine G_X2_kind (q := 102) fl_X2_41 dX2_advance_99 rfl ?_
          refine V_int (show _ = nI (knd b n s) by rw [upd2_ne (by decide)]; exact upd2_same) ?_
          refine E_iconst (v := nI 1) (q := 103) dX2_advance_102 (by decide) rfl ?_
          refine E_icmp_eqN (tgt := 114) (q := 106) dX2_advance_103 (by decide) rfl (by omega) (by omega) (fun h103 => ?_) (fun h103 => ?_)
          · skip
            exact absurd h103 (by omega)
          · skip
            refine E_aload0 (q := 107) dX2_advance_106 rfl ?_
            refine G_X2_kind (q := 110) fl_X2_41 dX2_advance_107 rfl ?_
            refine V_int (show _ = nI (knd b n s) by rw [upd2_ne (by decide)]; exact upd2_same) ?_
            refine E_iconst (v := nI 2) (q := 111) dX2_advance_110 (by decide) rfl ?_
            refine E_icmp_neN (tgt := 153) (q := 114) dX2_advance_111 (by decide) rfl (by omega) (by omega) (fun h111 => ?_) (fun h111 => ?_)
            · skip
              exact E_vreturn rfl rfl dX2_advance_153 (PV_of (by unfold lxM; rw [tokE_one (by omega) (fun z => c1 (Or.inl z)) (fun z => c1 (Or.inr z))]))
            · skip
              exact absurd h111 (by omega)
  have hskip : V D cfX2_advance (rmOf 3 0 0) (QM D (PV (wl D ad (lxM M b n s))) 0 0) 0 0 8 [some (.ref (ad 133))] [] (wl D ad (upd2 M 133 6 (nI p))) := by
    refine upto (n := s) (P := fun i => p ≤ i → V D cfX2_advance (rmOf 3 0 0) (QM D (PV (wl D ad (lxM M b n s))) 0 0) 0 0 8 [some (.ref (ad 133))] [] (wl D ad (upd2 M 133 6 (nI i)))) ?_ ?_ p t1 (Nat.le_refl _)
    · intro _
      refine E_aload0 (q := 9) dX2_advance_8 rfl ?_
      refine G_X2_start (q := 12) fl_X2_35 dX2_advance_9 rfl ?_
      refine V_int upd2_same ?_
      refine E_aload0 (q := 13) dX2_advance_12 rfl ?_
      refine G_X2_length (q := 16) fl_X2_32 dX2_advance_13 rfl ?_
      refine V_int (show _ = nI n by rw [upd2_ne (by decide)]; exact hln) ?_
      refine E_icmp_geN (tgt := 58) (q := 19) dX2_advance_16 (by decide) rfl (by omega) (by omega) (fun h16 => ?_) (fun h16 => ?_)
      · skip
        exact htail
      · skip
        refine E_aload0 (q := 20) dX2_advance_19 rfl ?_
        refine E_aload0 (q := 21) dX2_advance_20 rfl ?_
        refine G_X2_start (q := 24) fl_X2_35 dX2_advance_21 rfl ?_
        refine V_int upd2_same ?_
        refine C_V1I (q := 27) lk_X2_201 (sp_X2_charAt (show s < n by omega) hn hb (fun i hi => by rw [upd2_row (by decide)]; exact hT i hi)) rc_X2 dX2_advance_24 (by decide) (Nat.le_of_ble_eq_true rfl) rfl ?_
        refine E_bipush (v := nI 32) (q := 29) dX2_advance_27 (by decide) rfl ?_
        have h256 := hb s
        refine E_icmp_eqN (tgt := 45) (q := 32) dX2_advance_29 (by decide) rfl (by omega) (by omega) (fun h29 => ?_) (fun h29 => ?_)
        · skip
          exact absurd ⟨by omega, Or.inl h29⟩ t3
        · skip
          refine E_aload0 (q := 33) dX2_advance_32 rfl ?_
          refine E_aload0 (q := 34) dX2_advance_33 rfl ?_
          refine G_X2_start (q := 37) fl_X2_35 dX2_advance_34 rfl ?_
          refine V_int upd2_same ?_
          refine C_V1I (q := 40) lk_X2_201 (sp_X2_charAt (show s < n by omega) hn hb (fun i hi => by rw [upd2_row (by decide)]; exact hT i hi)) rc_X2 dX2_advance_37 (by decide) (Nat.le_of_ble_eq_true rfl) rfl ?_
          refine E_bipush (v := nI 10) (q := 42) dX2_advance_40 (by decide) rfl ?_
          refine E_icmp_neN (tgt := 58) (q := 45) dX2_advance_42 (by decide) rfl (by omega) (by omega) (fun h42 => ?_) (fun h42 => ?_)
          · skip
            exact htail
          · skip
            exact absurd ⟨by omega, Or.inr h42⟩ t3
    · intro i hi ih hpi
      obtain ⟨w1, w2⟩ := t4 i hpi hi
      have h256 := hb i
      refine E_aload0 (q := 9) dX2_advance_8 rfl ?_
      refine G_X2_start (q := 12) fl_X2_35 dX2_advance_9 rfl ?_
      refine V_int upd2_same ?_
      refine E_aload0 (q := 13) dX2_advance_12 rfl ?_
      refine G_X2_length (q := 16) fl_X2_32 dX2_advance_13 rfl ?_
      refine V_int (show _ = nI n by rw [upd2_ne (by decide)]; exact hln) ?_
      refine E_icmp_geN (tgt := 58) (q := 19) dX2_advance_16 (by decide) rfl (by omega) (by omega) (fun h16 => ?_) (fun h16 => ?_)
      · skip
        exact absurd h16 (by omega)
      · skip
        refine E_aload0 (q := 20) dX2_advance_19 rfl ?_
        refine E_aload0 (q := 21) dX2_advance_20 rfl ?_
        refine G_X2_start (q := 24) fl_X2_35 dX2_advance_21 rfl ?_
        refine V_int upd2_same ?_
        refine C_V1I (q := 27) lk_X2_201 (sp_X2_charAt w1 hn hb (fun i hi => by rw [upd2_row (by decide)]; exact hT i hi)) rc_X2 dX2_advance_24 (by decide) (Nat.le_of_ble_eq_true rfl) rfl ?_
        refine E_bipush (v := nI 32) (q := 29) dX2_advance_27 (by decide) rfl ?_
        refine E_icmp_eqN (tgt := 45) (q := 32) dX2_advance_29 (by decide) rfl (by omega) (by omega) (fun h29 => ?_) (fun h29 => ?_)
        · skip
          refine E_aload0 (q := 46) dX2_advance_45 rfl ?_
          refine E_dup (q := 47) dX2_advance_46 rfl rfl ?_
          refine G_X2_start (q := 50) fl_X2_35 dX2_advance_47 rfl ?_
          refine V_int upd2_same ?_
          refine E_iconst (v := nI 1) (q := 51) dX2_advance_50 (by decide) rfl ?_
          refine E_iaddN (q := 52) dX2_advance_51 rfl ?_
          refine P_X2_start (q := 55) fl_X2_35 dX2_advance_52 rfl ?_
          refine E_goto (q := 8) dX2_advance_55 (by decide) ?_
          refine V_ws (congrArg (wl D ad) upd2_tw) ?_
          exact ih (by omega)
        · skip
          refine E_aload0 (q := 33) dX2_advance_32 rfl ?_
          refine E_aload0 (q := 34) dX2_advance_33 rfl ?_
          refine G_X2_start (q := 37) fl_X2_35 dX2_advance_34 rfl ?_
          refine V_int upd2_same ?_
          refine C_V1I (q := 40) lk_X2_201 (sp_X2_charAt w1 hn hb (fun i hi => by rw [upd2_row (by decide)]; exact hT i hi)) rc_X2 dX2_advance_37 (by decide) (Nat.le_of_ble_eq_true rfl) rfl ?_
          refine E_bipush (v := nI 10) (q := 42) dX2_advance_40 (by decide) rfl ?_
          refine E_icmp_neN (tgt := 58) (q := 45) dX2_advance_42 (by decide) rfl (by omega) (by omega) (fun h42 => ?_) (fun h42 => ?_)
          · skip
            exact absurd w2 (by omega)
          · skip
            refine E_aload0 (q := 46) dX2_advance_45 rfl ?_
            refine E_dup (q := 47) dX2_advance_46 rfl rfl ?_
            refine G_X2_start (q := 50) fl_X2_35 dX2_advance_47 rfl ?_
            refine V_int upd2_same ?_
            refine E_iconst (v := nI 1) (q := 51) dX2_advance_50 (by decide) rfl ?_
            refine E_iaddN (q := 52) dX2_advance_51 rfl ?_
            refine P_X2_start (q := 55) fl_X2_35 dX2_advance_52 rfl ?_
            refine E_goto (q := 8) dX2_advance_55 (by decide) ?_
            refine V_ws (congrArg (wl D ad) upd2_tw) ?_
            exact ih (by omega)
  refine E_aload0 (q := 1) dX2_advance_0 rfl ?_
  refine E_aload0 (q := 2) dX2_advance_1 rfl ?_
  refine G_X2_stop (q := 5) fl_X2_38 dX2_advance_2 rfl ?_
  refine V_int hst ?_
  refine P_X2_start (q := 8) fl_X2_35 dX2_advance_5 rfl ?_
  exact hskip
def LdC (M : Mem) (b : Nat → Nat) (n s g : Nat) (A : AS) : Prop := (n ≤ 1000 ∧ s ≤ n ∧ (∀ i, b i < 256) ∧ g < 4) ∧ (M 133 5 = nI n ∧ M 133 6 = nI s ∧ M 133 7 = nI (tokE b n s) ∧ M 133 8 = nI (knd b n s) ∧ M 133 9 = nI g) ∧ (∀ i, i < n → M 134 i = nI (b i)) ∧ SI M 14 A
/-- all but the loader's own cells stays -/
def FrC (M M' : Mem) : Prop := (∀ c, ¬ (14 ≤ c ∧ c ≤ 26) → c ≠ 133 → M' c = M c) ∧ M' 133 1 = M 133 1
theorem FrC.rf : FrC M M := ⟨fun _ _ _ => rfl, rfl⟩
theorem FrC.tr {M1 M2 : Mem} (h : FrC M M1) (h2 : FrC M1 M2) : FrC M M2 := ⟨fun c a d => (h2.1 c a d).trans (h.1 c a d), h2.2.trans h.2⟩
theorem FrC.u {j : Nat} {v : Int32} (hj : j ≠ 1) : FrC M (upd2 M 133 j v) := ⟨fun c _ d => upd2_row d, upd2_ne (fun z => hj z.2.symm)⟩
theorem FrC.lx : FrC M (lxM M b n s) := ((FrC.u (by decide)).tr (FrC.u (by decide))).tr (FrC.u (by decide))
theorem LdC.adv (h : LdC M b n s g A) : LdC (lxM M b n (nxt b n s)) b n (nxt b n s) g A := by
  obtain ⟨⟨h1, h2, h3, h4⟩, ⟨k1, k2, k3, k4, k5⟩, hT, hS⟩ := h
  refine ⟨⟨h1, (nxt_le h2).2.1, h3, h4⟩, ⟨?_, ?_, upd2_same, ?_, ?_⟩, fun i hi => ?_, ?_⟩
  · unfold lxM; rw [upd2_ne (by decide), upd2_ne (by decide), upd2_ne (by decide)]; exact k1
  · unfold lxM; rw [upd2_ne (by decide), upd2_ne (by decide)]; exact upd2_same
  · unfold lxM; rw [upd2_ne (by decide)]; exact upd2_same
  · unfold lxM; rw [upd2_ne (by decide), upd2_ne (by decide), upd2_ne (by decide)]; exact k5
  · unfold lxM; rw [upd2_row (by decide), upd2_row (by decide), upd2_row (by decide)]; exact hT i hi
  · exact hS.to (fun c c1 c2 => by unfold lxM; rw [upd2_row (by omega), upd2_row (by omega), upd2_row (by omega)])
theorem sp_X2_adv (h : LdC M b n s g A) : Spec D 3 yX2_advance cfX2_advance [.ref (ad 133)] (wl D ad M) 0 0 (PV (wl D ad (lxM M b n (nxt b n s)))) := by
  exact sp_X2_advance rfl h.2.1.1 h.2.1.2.2.1 (tokE_le h.1.2.1).2.1 h.1.1 h.1.2.2.1 h.2.2.1
def flM (M : Mem) (c : Int32) (s : Nat) : Mem := upd2 (upd2 M 133 4 c) 133 3 (nI s)
theorem FrC.fl {c : Int32} : FrC M (flM M c s) := (FrC.u (by decide)).tr (FrC.u (by decide))
theorem sp_X2_fail {c : Int32} (h6 : M 133 6 = nI s) : Spec D 1 yX2_fail cfX2_fail [.ref (ad 133), .int (c)] (wl D ad M) 0 0 (PI (nI 0) (wl D ad (flM M c s))) := by
  refine Spec.of (by decide) rfl (Nat.le_of_ble_eq_true rfl) rfl ?_
  refine E_aload0 (q := 1) dX2_fail_0 rfl ?_
  refine E_iload1 (q := 2) dX2_fail_1 rfl ?_
  refine P_X2_error (q := 5) fl_X2_29 dX2_fail_2 rfl ?_
  refine E_aload0 (q := 6) dX2_fail_5 rfl ?_
  refine E_aload0 (q := 7) dX2_fail_6 rfl ?_
  refine G_X2_start (q := 10) fl_X2_35 dX2_fail_7 rfl ?_
  refine V_int (show _ = nI s by rw [upd2_ne (by decide)]; exact h6) ?_
  refine P_X2_errorAt (q := 13) fl_X2_26 dX2_fail_10 rfl ?_
  refine E_iconst (v := nI 0) (q := 14) dX2_fail_13 (by decide) rfl ?_
  exact E_zreturn rfl rfl rfl dX2_fail_14 (PI_of rfl rfl)
def isNm (b : Nat → Nat) (n s : Nat) : Prop := knd b n s = 1 ∧ tokE b n s - s ≤ 6
theorem sp_X2_expectNameT (h : LdC M b n s g A) (hc : isNm b n s) : Spec D 2 yX2_expectName cfX2_expectName [.ref (ad 133)] (wl D ad M) 0 0 (PI (nI 1) (wl D ad M)) := by
  refine Spec.of (by decide) rfl (Nat.le_of_ble_eq_true rfl) rfl ?_
  have hk := hc.1
  have hl := hc.2
  have hle := tokE_le (b := b) h.1.2.1
  have h1000 := h.1.1
  refine E_aload0 (q := 1) dX2_expectName_0 rfl ?_
  refine G_X2_kind (q := 4) fl_X2_41 dX2_expectName_1 rfl ?_
  refine V_int h.2.1.2.2.2.1 ?_
  refine E_iconst (v := nI 1) (q := 5) dX2_expectName_4 (by decide) rfl ?_
  refine E_icmp_neN (tgt := 22) (q := 8) dX2_expectName_5 (by decide) rfl (by omega) (by omega) (fun h5 => ?_) (fun h5 => ?_)
  · skip
    exact absurd hk h5
  · skip
    refine E_aload0 (q := 9) dX2_expectName_8 rfl ?_
    refine G_X2_stop (q := 12) fl_X2_38 dX2_expectName_9 rfl ?_
    refine V_int h.2.1.2.2.1 ?_
    refine E_aload0 (q := 13) dX2_expectName_12 rfl ?_
    refine G_X2_start (q := 16) fl_X2_35 dX2_expectName_13 rfl ?_
    refine V_int h.2.1.2.1 ?_
    refine E_isubN (q := 17) dX2_expectName_16 (by omega) rfl ?_
    refine E_bipush (v := nI 6) (q := 19) dX2_expectName_17 (by decide) rfl ?_
    refine E_icmp_leN (tgt := 31) (q := 22) dX2_expectName_19 (by decide) rfl (by omega) (by omega) (fun h19 => ?_) (fun h19 => ?_)
    · skip
      refine E_iconst (v := nI 1) (q := 32) dX2_expectName_31 (by decide) rfl ?_
      refine E_goto (q := 36) dX2_expectName_32 (by decide) ?_
      exact E_zreturn rfl rfl rfl dX2_expectName_36 (PI_of rfl rfl)
    · skip
      exact absurd h19 (by omega)
theorem sp_X2_expectNameF (h : LdC M b n s g A) (hc : ¬ isNm b n s) : Spec D 2 yX2_expectName cfX2_expectName [.ref (ad 133)] (wl D ad M) 0 0 (PI (nI 0) (wl D ad (flM M (-11) s))) := by
  refine Spec.of (by decide) rfl (Nat.le_of_ble_eq_true rfl) rfl ?_
  have hle := tokE_le (b := b) h.1.2.1
  have h1000 := h.1.1
  have hk4 := knd_le (b := b) (n := n) (q := s)
  refine E_aload0 (q := 1) dX2_expectName_0 rfl ?_
  refine G_X2_kind (q := 4) fl_X2_41 dX2_expectName_1 rfl ?_
  refine V_int h.2.1.2.2.2.1 ?_
  refine E_iconst (v := nI 1) (q := 5) dX2_expectName_4 (by decide) rfl ?_
  refine E_icmp_neN (tgt := 22) (q := 8) dX2_expectName_5 (by decide) rfl (by omega) (by omega) (fun h5 => ?_) (fun h5 => ?_)
  · skip
    refine E_aload0 (q := 23) dX2_expectName_22 rfl ?_
    refine E_bipush (v := -11) (q := 25) dX2_expectName_23 (by decide) rfl ?_
    refine C_V1I (q := 28) lk_X2_102 (sp_X2_fail h.2.1.2.1) rc_X2 dX2_expectName_25 (by decide) (Nat.le_of_ble_eq_true rfl) rfl ?_
    refine E_if_eq (tgt := 35) (q := 31) dX2_expectName_28 (by decide) rfl (fun h28 => ?_) (fun h28 => ?_)
    · skip
      refine E_iconst (v := nI 0) (q := 36) dX2_expectName_35 (by decide) rfl ?_
      exact E_zreturn rfl rfl rfl dX2_expectName_36 (PI_of rfl rfl)
    · first | exact absurd h28 (by decide) | exact absurd (by decide) h28
  · skip
    refine E_aload0 (q := 9) dX2_expectName_8 rfl ?_
    refine G_X2_stop (q := 12) fl_X2_38 dX2_expectName_9 rfl ?_
    refine V_int h.2.1.2.2.1 ?_
    refine E_aload0 (q := 13) dX2_expectName_12 rfl ?_
    refine G_X2_start (q := 16) fl_X2_35 dX2_expectName_13 rfl ?_
    refine V_int h.2.1.2.1 ?_
    refine E_isubN (q := 17) dX2_expectName_16 (by omega) rfl ?_
    refine E_bipush (v := nI 6) (q := 19) dX2_expectName_17 (by decide) rfl ?_
    refine E_icmp_leN (tgt := 31) (q := 22) dX2_expectName_19 (by decide) rfl (by omega) (by omega) (fun h19 => ?_) (fun h19 => ?_)
    · skip
      exact absurd ⟨h5, h19⟩ hc
    · skip
      refine E_aload0 (q := 23) dX2_expectName_22 rfl ?_
      refine E_bipush (v := -11) (q := 25) dX2_expectName_23 (by decide) rfl ?_
      refine C_V1I (q := 28) lk_X2_102 (sp_X2_fail h.2.1.2.1) rc_X2 dX2_expectName_25 (by decide) (Nat.le_of_ble_eq_true rfl) rfl ?_
      refine E_if_eq (tgt := 35) (q := 31) dX2_expectName_28 (by decide) rfl (fun h28 => ?_) (fun h28 => ?_)
      · skip
        refine E_iconst (v := nI 0) (q := 36) dX2_expectName_35 (by decide) rfl ?_
        exact E_zreturn rfl rfl rfl dX2_expectName_36 (PI_of rfl rfl)
      · first | exact absurd h28 (by decide) | exact absurd (by decide) h28
theorem shl5 {m : Nat} (h : m < 2 ^ 25) : nI m <<< (nI 5 &&& 31) = nI (m * 32) := pk_shlN _ 5 (by decide) (by omega)
theorem or32 {m x : Nat} (h : x < 32) : nI (m * 32) ||| nI x = nI (32 * m + x) := by
  rw [nI_or, Nat.mul_comm m 32, show 32 = 2 ^ 5 by rfl, ← Nat.two_pow_add_eq_or_of_lt h]
theorem sp_X2_nameCode (h : LdC M b n s g A) (hk : knd b n s = 1) : Spec D 2 yX2_nameCode cfX2_nameCode [.ref (ad 133)] (wl D ad M) 0 0 (PI (nI (cdN b s (tokE b n s) 6)) (wl D ad M)) := by
  refine Spec.of (by decide) rfl (Nat.le_of_ble_eq_true rfl) rfl ?_
  have hsn := (knd_1.mp hk).1
  obtain ⟨e1, e2, e3, e4⟩ := tokE_sp hsn (Or.inl hk)
  have h1000 := h.1.1
  have hlet : ∀ i, s ≤ i → i < tokE b n s → 97 ≤ b i ∧ b i ≤ 122 := fun i a d => (knd_1.mp ((e4 i a d).trans hk)).2
  have hcl := cdN_lt (b := b) (s := s) (e := tokE b n s) (fun i a d => (hlet i a d).2)
  have hmain : V D cfX2_nameCode (rmOf 2 0 0) (QM D (PI (nI (cdN b s (tokE b n s) 6)) (wl D ad M)) 0 0) 0 0 7 [some (.ref (ad 133)), some (.int (nI (0))), some (.int (nI (s)))] [] (wl D ad M) := by
    refine upto0 (n := 6) (P := fun j => V D cfX2_nameCode (rmOf 2 0 0) (QM D (PI (nI (cdN b s (tokE b n s) 6)) (wl D ad M)) 0 0) 0 0 7 [some (.ref (ad 133)), some (.int (nI (cdN b s (tokE b n s) j))), some (.int (nI (s + j)))] [] (wl D ad M)) ?_ ?_
    · have := hcl 6
      refine E_iload2 (q := 8) dX2_nameCode_7 rfl ?_
      refine E_aload0 (q := 9) dX2_nameCode_8 rfl ?_
      refine G_X2_start (q := 12) fl_X2_35 dX2_nameCode_9 rfl ?_
      refine V_int h.2.1.2.1 ?_
      refine E_bipush (v := nI 6) (q := 14) dX2_nameCode_12 (by decide) rfl ?_
      refine E_iaddN (q := 15) dX2_nameCode_14 rfl ?_
      refine E_icmp_geN (tgt := 51) (q := 18) dX2_nameCode_15 (by decide) rfl (by omega) (by omega) (fun h15 => ?_) (fun h15 => ?_)
      · skip
        refine E_iload1 (q := 52) dX2_nameCode_51 rfl ?_
        exact E_ireturn rfl rfl dX2_nameCode_52 (PI_of rfl rfl)
      · skip
        exact absurd h15 (by omega)
    · intro j hj ih
      have hj5 := Nat.lt_of_lt_of_le (hcl j) (Nat.pow_le_pow_right (by decide) (show 5 * j ≤ 25 by omega))
      have hs1 : cdN b s (tokE b n s) (j + 1) = 32 * cdN b s (tokE b n s) j + (if s + j < tokE b n s then b (s + j) - 96 else 0) := rfl
      by_cases c : s + j < tokE b n s
      · have hlj := hlet (s + j) (by omega) c
        rw [if_pos c] at hs1
        refine E_iload2 (q := 8) dX2_nameCode_7 rfl ?_
        refine E_aload0 (q := 9) dX2_nameCode_8 rfl ?_
        refine G_X2_start (q := 12) fl_X2_35 dX2_nameCode_9 rfl ?_
        refine V_int h.2.1.2.1 ?_
        refine E_bipush (v := nI 6) (q := 14) dX2_nameCode_12 (by decide) rfl ?_
        refine E_iaddN (q := 15) dX2_nameCode_14 rfl ?_
        refine E_icmp_geN (tgt := 51) (q := 18) dX2_nameCode_15 (by decide) rfl (by omega) (by omega) (fun h15 => ?_) (fun h15 => ?_)
        · skip
          exact absurd h15 (by omega)
        · skip
          refine E_iload1 (q := 19) dX2_nameCode_18 rfl ?_
          refine E_iconst (v := nI 5) (q := 20) dX2_nameCode_19 (by decide) rfl ?_
          refine E_ishl (q := 21) dX2_nameCode_20 rfl ?_
          refine V_int (shl5 (by omega)) ?_
          refine E_iload2 (q := 22) dX2_nameCode_21 rfl ?_
          refine E_aload0 (q := 23) dX2_nameCode_22 rfl ?_
          refine G_X2_stop (q := 26) fl_X2_38 dX2_nameCode_23 rfl ?_
          refine V_int h.2.1.2.2.1 ?_
          refine E_icmp_geN (tgt := 42) (q := 29) dX2_nameCode_26 (by decide) rfl (by omega) (by omega) (fun h26 => ?_) (fun h26 => ?_)
          · skip
            exact absurd h26 (by omega)
          · skip
            refine E_aload0 (q := 30) dX2_nameCode_29 rfl ?_
            refine E_iload2 (q := 31) dX2_nameCode_30 rfl ?_
            refine C_V1I (q := 34) lk_X2_201 (sp_X2_charAt (show s + j < n by omega) h.1.1 h.1.2.2.1 h.2.2.1) rc_X2 dX2_nameCode_31 (by decide) (Nat.le_of_ble_eq_true rfl) rfl ?_
            refine E_bipush (v := nI 97) (q := 36) dX2_nameCode_34 (by decide) rfl ?_
            refine E_isubN (q := 37) dX2_nameCode_36 (by omega) rfl ?_
            refine E_iconst (v := nI 1) (q := 38) dX2_nameCode_37 (by decide) rfl ?_
            refine E_iaddN (q := 39) dX2_nameCode_38 rfl ?_
            refine E_goto (q := 43) dX2_nameCode_39 (by decide) ?_
            refine E_iorN (q := 44) dX2_nameCode_43 (show _ = nI (cdN b s (tokE b n s) (j + 1)) by rw [or32 (by omega), hs1]; exact congrArg nI (by omega)) rfl ?_
            refine E_istore1 (q := 45) dX2_nameCode_44 rfl rfl ?_
            refine E_iinc2 (q := 48) dX2_nameCode_45 (nI_inc _) rfl rfl ?_
            refine E_goto (q := 7) dX2_nameCode_48 (by decide) ?_
            exact ih
      · rw [if_neg c, Nat.add_zero] at hs1
        refine E_iload2 (q := 8) dX2_nameCode_7 rfl ?_
        refine E_aload0 (q := 9) dX2_nameCode_8 rfl ?_
        refine G_X2_start (q := 12) fl_X2_35 dX2_nameCode_9 rfl ?_
        refine V_int h.2.1.2.1 ?_
        refine E_bipush (v := nI 6) (q := 14) dX2_nameCode_12 (by decide) rfl ?_
        refine E_iaddN (q := 15) dX2_nameCode_14 rfl ?_
        refine E_icmp_geN (tgt := 51) (q := 18) dX2_nameCode_15 (by decide) rfl (by omega) (by omega) (fun h15 => ?_) (fun h15 => ?_)
        · skip
          exact absurd h15 (by omega)
        · skip
          refine E_iload1 (q := 19) dX2_nameCode_18 rfl ?_
          refine E_iconst (v := nI 5) (q := 20) dX2_nameCode_19 (by decide) rfl ?_
          refine E_ishl (q := 21) dX2_nameCode_20 rfl ?_
          refine V_int (shl5 (by omega)) ?_
          refine E_iload2 (q := 22) dX2_nameCode_21 rfl ?_
          refine E_aload0 (q := 23) dX2_nameCode_22 rfl ?_
          refine G_X2_stop (q := 26) fl_X2_38 dX2_nameCode_23 rfl ?_
          refine V_int h.2.1.2.2.1 ?_
          refine E_icmp_geN (tgt := 42) (q := 29) dX2_nameCode_26 (by decide) rfl (by omega) (by omega) (fun h26 => ?_) (fun h26 => ?_)
          · skip
            refine E_iconst (v := nI 0) (q := 43) dX2_nameCode_42 (by decide) rfl ?_
            refine E_iorN (q := 44) dX2_nameCode_43 (show _ = nI (cdN b s (tokE b n s) (j + 1)) by rw [or32 (by omega), hs1]) rfl ?_
            refine E_istore1 (q := 45) dX2_nameCode_44 rfl rfl ?_
            refine E_iinc2 (q := 48) dX2_nameCode_45 (nI_inc _) rfl rfl ?_
            refine E_goto (q := 7) dX2_nameCode_48 (by decide) ?_
            exact ih
          · skip
            exact absurd h26 (by omega)
  refine E_iconst (v := nI 0) (q := 1) dX2_nameCode_0 (by decide) rfl ?_
  refine E_istore1 (q := 2) dX2_nameCode_1 rfl rfl ?_
  refine E_aload0 (q := 3) dX2_nameCode_2 rfl ?_
  refine G_X2_start (q := 6) fl_X2_35 dX2_nameCode_3 rfl ?_
  refine V_int h.2.1.2.1 ?_
  refine E_istore2 (q := 7) dX2_nameCode_6 rfl rfl ?_
  exact hmain
theorem it_min {x : Nat} (h : x < 2 ^ 31) : (if nI 1000000 < nI x then nI 1000000 else nI x) = nI (if 1000000 < x then 1000000 else x) := by
  by_cases c : 1000000 < x
  · rw [if_pos c, if_pos (nI_lt c h)]
  · rw [if_neg c, if_neg (fun z => c ((nI_ltI (by omega) h).mp z))]
theorem sp_X2_integerValue (h : LdC M b n s g A) (hk : knd b n s = 2) : Spec D 2 yX2_integerValue cfX2_integerValue [.ref (ad 133)] (wl D ad M) 0 0 (PI (nI (itN b s (tokE b n s - s))) (wl D ad M)) := by
  refine Spec.of (by decide) rfl (Nat.le_of_ble_eq_true rfl) rfl ?_
  have hsn := (knd_2.mp hk).1
  obtain ⟨e1, e2, e3, e4⟩ := tokE_sp hsn (Or.inr hk)
  have h1000 := h.1.1
  have hdig : ∀ i, s ≤ i → i < tokE b n s → 48 ≤ b i ∧ b i ≤ 57 := fun i a d => (knd_2.mp ((e4 i a d).trans hk)).2
  have hmain : V D cfX2_integerValue (rmOf 2 0 0) (QM D (PI (nI (itN b s (tokE b n s - s))) (wl D ad M)) 0 0) 0 0 7 [some (.ref (ad 133)), some (.int (nI (0))), some (.int (nI (s)))] [] (wl D ad M) := by
    refine upto0 (n := tokE b n s - s) (P := fun j => V D cfX2_integerValue (rmOf 2 0 0) (QM D (PI (nI (itN b s (tokE b n s - s))) (wl D ad M)) 0 0) 0 0 7 [some (.ref (ad 133)), some (.int (nI (itN b s j))), some (.int (nI (s + j)))] [] (wl D ad M)) ?_ ?_
    · skip
      refine E_iload2 (q := 8) dX2_integerValue_7 rfl ?_
      refine E_aload0 (q := 9) dX2_integerValue_8 rfl ?_
      refine G_X2_stop (q := 12) fl_X2_38 dX2_integerValue_9 rfl ?_
      refine V_int h.2.1.2.2.1 ?_
      refine E_icmp_geN (tgt := 40) (q := 15) dX2_integerValue_12 (by decide) rfl (by omega) (by omega) (fun h12 => ?_) (fun h12 => ?_)
      · skip
        refine E_iload1 (q := 41) dX2_integerValue_40 rfl ?_
        exact E_ireturn rfl rfl dX2_integerValue_41 (PI_of rfl rfl)
      · skip
        exact absurd h12 (by omega)
    · intro j hj ih
      have hlj := hdig (s + j) (by omega) (by omega)
      have hil := itN_le (b := b) (s := s) j
      have hs1 : itN b s (j + 1) = if 1000000 < 10 * itN b s j + (b (s + j) - 48) then 1000000 else 10 * itN b s j + (b (s + j) - 48) := rfl
      refine E_iload2 (q := 8) dX2_integerValue_7 rfl ?_
      refine E_aload0 (q := 9) dX2_integerValue_8 rfl ?_
      refine G_X2_stop (q := 12) fl_X2_38 dX2_integerValue_9 rfl ?_
      refine V_int h.2.1.2.2.1 ?_
      refine E_icmp_geN (tgt := 40) (q := 15) dX2_integerValue_12 (by decide) rfl (by omega) (by omega) (fun h12 => ?_) (fun h12 => ?_)
      · skip
        exact absurd h12 (by omega)
      · skip
        refine E_iload1 (q := 16) dX2_integerValue_15 rfl ?_
        refine E_bipush (v := nI 10) (q := 18) dX2_integerValue_16 (by decide) rfl ?_
        refine E_imulN (q := 19) dX2_integerValue_18 rfl ?_
        refine E_aload0 (q := 20) dX2_integerValue_19 rfl ?_
        refine E_iload2 (q := 21) dX2_integerValue_20 rfl ?_
        refine C_V1I (q := 24) lk_X2_201 (sp_X2_charAt (show s + j < n by omega) h.1.1 h.1.2.2.1 h.2.2.1) rc_X2 dX2_integerValue_21 (by decide) (Nat.le_of_ble_eq_true rfl) rfl ?_
        refine E_iaddN (q := 25) dX2_integerValue_24 rfl ?_
        refine E_bipush (v := nI 48) (q := 27) dX2_integerValue_25 (by decide) rfl ?_
        refine E_isubN (q := 28) dX2_integerValue_27 (by omega) rfl ?_
        refine E_ldc (q := 30) dX2_integerValue_28 cn_X2_206 rfl ?_
        refine E_jmin (q := 33) lk_X2_47.2.1 dX2_integerValue_30 (by decide) (Nat.le_of_ble_eq_true rfl) rfl ?_
        refine V_int (show (if nI 1000000 < nI (itN b s j * 10 + b (s + j) - 48) then nI 1000000 else nI (itN b s j * 10 + b (s + j) - 48)) = nI (itN b s (j + 1)) by rw [hs1, show itN b s j * 10 + b (s + j) - 48 = 10 * itN b s j + (b (s + j) - 48) by omega]; exact it_min (by omega)) ?_
        refine E_istore1 (q := 34) dX2_integerValue_33 rfl rfl ?_
        refine E_iinc2 (q := 37) dX2_integerValue_34 (nI_inc _) rfl rfl ?_
        refine E_goto (q := 7) dX2_integerValue_37 (by decide) ?_
        exact ih
  refine E_iconst (v := nI 0) (q := 1) dX2_integerValue_0 (by decide) rfl ?_
  refine E_istore1 (q := 2) dX2_integerValue_1 rfl rfl ?_
  refine E_aload0 (q := 3) dX2_integerValue_2 rfl ?_
  refine G_X2_start (q := 6) fl_X2_35 dX2_integerValue_3 rfl ?_
  refine V_int h.2.1.2.1 ?_
  refine E_istore2 (q := 7) dX2_integerValue_6 rfl rfl ?_
  exact hmain
theorem sp_X2_expectIntegerK {lo hi : Nat} (h : LdC M b n s g A) (hk : knd b n s ≠ 2) : Spec D 3 yX2_expectInteger cfX2_expectInteger [.ref (ad 133), .int (nI (lo)), .int (nI (hi))] (wl D ad M) 0 0 (PI (nI 0) (wl D ad (flM M (-11) s))) := by
  refine Spec.of (by decide) rfl (Nat.le_of_ble_eq_true rfl) rfl ?_
  have hk4 := knd_le (b := b) (n := n) (q := s)
  refine E_aload0 (q := 1) dX2_expectInteger_0 rfl ?_
  refine G_X2_kind (q := 4) fl_X2_41 dX2_expectInteger_1 rfl ?_
  refine V_int h.2.1.2.2.2.1 ?_
  refine E_iconst (v := nI 2) (q := 5) dX2_expectInteger_4 (by decide) rfl ?_
  refine E_icmp_eqN (tgt := 15) (q := 8) dX2_expectInteger_5 (by decide) rfl (by omega) (by omega) (fun h5 => ?_) (fun h5 => ?_)
  · skip
    exact absurd h5 hk
  · skip
    refine E_aload0 (q := 9) dX2_expectInteger_8 rfl ?_
    refine E_bipush (v := -11) (q := 11) dX2_expectInteger_9 (by decide) rfl ?_
    refine C_V1I (q := 14) lk_X2_102 (sp_X2_fail h.2.1.2.1) rc_X2 dX2_expectInteger_11 (by decide) (Nat.le_of_ble_eq_true rfl) rfl ?_
    exact E_zreturn rfl rfl rfl dX2_expectInteger_14 (PI_of rfl rfl)
theorem sp_X2_expectIntegerR {lo hi : Nat} (h : LdC M b n s g A) (hk : knd b n s = 2) (hlo : lo < 2 ^ 31) (hhi : hi < 2 ^ 31) (hr : ¬ (lo ≤ itN b s (tokE b n s - s) ∧ itN b s (tokE b n s - s) ≤ hi)) : Spec D 3 yX2_expectInteger cfX2_expectInteger [.ref (ad 133), .int (nI (lo)), .int (nI (hi))] (wl D ad M) 0 0 (PI (nI 0) (wl D ad (flM M (-12) s))) := by
  refine Spec.of (by decide) rfl (Nat.le_of_ble_eq_true rfl) rfl ?_
  have hil := itN_le (b := b) (s := s) (tokE b n s - s)
  refine E_aload0 (q := 1) dX2_expectInteger_0 rfl ?_
  refine G_X2_kind (q := 4) fl_X2_41 dX2_expectInteger_1 rfl ?_
  refine V_int h.2.1.2.2.2.1 ?_
  refine E_iconst (v := nI 2) (q := 5) dX2_expectInteger_4 (by decide) rfl ?_
  refine E_icmp_eqN (tgt := 15) (q := 8) dX2_expectInteger_5 (by decide) rfl (by omega) (by omega) (fun h5 => ?_) (fun h5 => ?_)
  · skip
    refine E_aload0 (q := 16) dX2_expectInteger_15 rfl ?_
    refine C_V0I (q := 19) lk_X2_129 (sp_X2_integerValue h hk) rc_X2 dX2_expectInteger_16 (by decide) (Nat.le_of_ble_eq_true rfl) rfl ?_
    refine E_istore3 (q := 20) dX2_expectInteger_19 rfl rfl ?_
    refine E_iload3 (q := 21) dX2_expectInteger_20 rfl ?_
    refine E_iload1 (q := 22) dX2_expectInteger_21 rfl ?_
    refine E_icmp_ltN (tgt := 30) (q := 25) dX2_expectInteger_22 (by decide) rfl (by omega) (by omega) (fun h22 => ?_) (fun h22 => ?_)
    · skip
      refine E_aload0 (q := 31) dX2_expectInteger_30 rfl ?_
      refine E_bipush (v := -12) (q := 33) dX2_expectInteger_31 (by decide) rfl ?_
      refine C_V1I (q := 36) lk_X2_102 (sp_X2_fail h.2.1.2.1) rc_X2 dX2_expectInteger_33 (by decide) (Nat.le_of_ble_eq_true rfl) rfl ?_
      refine E_if_eq (tgt := 43) (q := 39) dX2_expectInteger_36 (by decide) rfl (fun h36 => ?_) (fun h36 => ?_)
      · skip
        refine E_iconst (v := nI 0) (q := 44) dX2_expectInteger_43 (by decide) rfl ?_
        exact E_zreturn rfl rfl rfl dX2_expectInteger_44 (PI_of rfl rfl)
      · first | exact absurd h36 (by decide) | exact absurd (by decide) h36
    · skip
      refine E_iload3 (q := 26) dX2_expectInteger_25 rfl ?_
      refine E_iload2 (q := 27) dX2_expectInteger_26 rfl ?_
      refine E_icmp_leN (tgt := 39) (q := 30) dX2_expectInteger_27 (by decide) rfl (by omega) (by omega) (fun h27 => ?_) (fun h27 => ?_)
      · skip
        exact absurd ⟨h22, h27⟩ hr
      · skip
        refine E_aload0 (q := 31) dX2_expectInteger_30 rfl ?_
        refine E_bipush (v := -12) (q := 33) dX2_expectInteger_31 (by decide) rfl ?_
        refine C_V1I (q := 36) lk_X2_102 (sp_X2_fail h.2.1.2.1) rc_X2 dX2_expectInteger_33 (by decide) (Nat.le_of_ble_eq_true rfl) rfl ?_
        refine E_if_eq (tgt := 43) (q := 39) dX2_expectInteger_36 (by decide) rfl (fun h36 => ?_) (fun h36 => ?_)
        · skip
          refine E_iconst (v := nI 0) (q := 44) dX2_expectInteger_43 (by decide) rfl ?_
          exact E_zreturn rfl rfl rfl dX2_expectInteger_44 (PI_of rfl rfl)
        · first | exact absurd h36 (by decide) | exact absurd (by decide) h36
  · skip
    exact absurd hk h5
theorem sp_X2_expectInteger {lo hi : Nat} (h : LdC M b n s g A) (hk : knd b n s = 2) (hlo : lo < 2 ^ 31) (hhi : hi < 2 ^ 31) (hr : lo ≤ itN b s (tokE b n s - s) ∧ itN b s (tokE b n s - s) ≤ hi) : Spec D 3 yX2_expectInteger cfX2_expectInteger [.ref (ad 133), .int (nI (lo)), .int (nI (hi))] (wl D ad M) 0 0 (PI (nI 1) (wl D ad M)) := by
  refine Spec.of (by decide) rfl (Nat.le_of_ble_eq_true rfl) rfl ?_
  have hil := itN_le (b := b) (s := s) (tokE b n s - s)
  refine E_aload0 (q := 1) dX2_expectInteger_0 rfl ?_
  refine G_X2_kind (q := 4) fl_X2_41 dX2_expectInteger_1 rfl ?_
  refine V_int h.2.1.2.2.2.1 ?_
  refine E_iconst (v := nI 2) (q := 5) dX2_expectInteger_4 (by decide) rfl ?_
  refine E_icmp_eqN (tgt := 15) (q := 8) dX2_expectInteger_5 (by decide) rfl (by omega) (by omega) (fun h5 => ?_) (fun h5 => ?_)
  · skip
    refine E_aload0 (q := 16) dX2_expectInteger_15 rfl ?_
    refine C_V0I (q := 19) lk_X2_129 (sp_X2_integerValue h hk) rc_X2 dX2_expectInteger_16 (by decide) (Nat.le_of_ble_eq_true rfl) rfl ?_
    refine E_istore3 (q := 20) dX2_expectInteger_19 rfl rfl ?_
    refine E_iload3 (q := 21) dX2_expectInteger_20 rfl ?_
    refine E_iload1 (q := 22) dX2_expectInteger_21 rfl ?_
    refine E_icmp_ltN (tgt := 30) (q := 25) dX2_expectInteger_22 (by decide) rfl (by omega) (by omega) (fun h22 => ?_) (fun h22 => ?_)
    · skip
      exact absurd h22 (by omega)
    · skip
      refine E_iload3 (q := 26) dX2_expectInteger_25 rfl ?_
      refine E_iload2 (q := 27) dX2_expectInteger_26 rfl ?_
      refine E_icmp_leN (tgt := 39) (q := 30) dX2_expectInteger_27 (by decide) rfl (by omega) (by omega) (fun h27 => ?_) (fun h27 => ?_)
      · skip
        refine E_iconst (v := nI 1) (q := 40) dX2_expectInteger_39 (by decide) rfl ?_
        refine E_goto (q := 44) dX2_expectInteger_40 (by decide) ?_
        exact E_zreturn rfl rfl rfl dX2_expectInteger_44 (PI_of rfl rfl)
      · skip
        exact absurd h27 (by omega)
  · skip
    exact absurd hk h5
end CLS
