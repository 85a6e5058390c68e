
/-! THE REFERENCE reads settings, statements, texts -/
section MODEL
variable {D : va_G} {ad : Nat → Nat} {M : Mem} {ws : va_W} {A : AS} {b : Nat → Nat} {n s t e p q g wx : Nat}
theorem tb_0 {m k : Nat} (h : ¬ m.testBit k = true) : nI (m / 2 ^ k % 2) = nI 0 := tb_nI0.mpr h
theorem tb_1 {m k : Nat} (h : m.testBit k = true) : nI (m / 2 ^ k % 2) = nI 1 := tb_nI.mpr h
theorem sp_X6_readSetN (h : RdR M b n s g A) (hT : aT A + 1 < 2 ^ 24) (c1 : ¬ isW b n (nxt b n s) 7) (c2 : ¬ isW b n (nxt b n s) 8) : Spec D 10 yX6_readSet cfX6_readSet [.ref (ad 157)] (wl D ad M) 0 0 (PY (RPC D ad M b n (sSet b n s g A))) := by
  refine Spec.of (by decide) rfl (Nat.le_of_ble_eq_true rfl) rfl ?_
  have hw := h.2.2.2.2.2.1
  have hI := h.2.2.2.2.2
  have hb := hI.2.2.1.1
  refine E_aload0 (q := 1) dX6_readSet_0 rfl ?_
  refine C_V0Y (q := 4) lk_X6_254 (sp_X6_advR h) rc_X6 dX6_readSet_1 (by decide) (Nat.le_of_ble_eq_true rfl) rfl ?_
  refine kkEW ?_
  rintro M1 ⟨h1, f1⟩
  refine E_aload0 (q := 5) dX6_readSet_4 rfl ?_
  refine E_ldc2 (q := 8) (v := codeL.getD 7 0) dX6_readSet_5 cn_X6_271 rfl ?_
  refine C_V1I (q := 11) lk_X6_273 (sp_X6_isWord (i := 7) h1 (by decide)) rc_X6 dX6_readSet_8 (by decide) (Nat.le_of_ble_eq_true rfl) rfl ?_
  refine V_int (zI_f1 c1) ?_
  refine E_if_eq (tgt := 18) (q := 14) dX6_readSet_11 (by decide) rfl (fun h11 => ?_) (fun h11 => ?_)
  · skip
    refine E_aload0 (q := 19) dX6_readSet_18 rfl ?_
    refine E_ldc2 (q := 22) (v := codeL.getD 8 0) dX6_readSet_19 cn_X6_277 rfl ?_
    refine C_V1I (q := 25) lk_X6_273 (sp_X6_isWord (i := 8) h1 (by decide)) rc_X6 dX6_readSet_22 (by decide) (Nat.le_of_ble_eq_true rfl) rfl ?_
    refine V_int (zI_f1 c2) ?_
    refine E_if_eq (tgt := 32) (q := 28) dX6_readSet_25 (by decide) rfl (fun h25 => ?_) (fun h25 => ?_)
    · skip
      refine E_iconst (v := -1) (q := 33) dX6_readSet_32 (by decide) rfl ?_
      refine E_istore1 (q := 34) dX6_readSet_33 rfl rfl ?_
      refine E_aload0 (q := 35) dX6_readSet_34 rfl ?_
      refine E_iload1 (q := 36) dX6_readSet_35 rfl ?_
      refine E_if_lt (tgt := 43) (q := 39) dX6_readSet_36 (by decide) rfl (fun h36 => ?_) (fun h36 => ?_)
      · skip
        refine E_iconst (v := nI 0) (q := 44) dX6_readSet_43 (by decide) rfl ?_
        refine E_bipush (v := -11) (q := 46) dX6_readSet_44 (by decide) rfl ?_
        refine C_V2V (q := 49) lk_X6_247 (sp_X6_checkF h1.2.2.2.1) rc_X6 dX6_readSet_46 (by decide) (Nat.le_of_ble_eq_true rfl) rfl ?_
        refine E_aload0 (q := 50) dX6_readSet_49 rfl ?_
        refine G_X6_fault (q := 53) fl_X6_220 dX6_readSet_50 rfl ?_
        refine V_int ft_18 ?_
        refine E_if_eq (tgt := 57) (q := 56) dX6_readSet_53 (by decide) rfl (fun h53 => ?_) (fun h53 => ?_)
        · first | exact absurd h53 (by decide) | exact absurd (by decide) h53
        · skip
          exact E_vreturn rfl rfl dX6_readSet_56 ⟨rfl, RPC_fail (by simp only [sSet, ch_f c1, ch_f c2]) (by decide) h1 f1⟩
      · first | exact absurd h36 (by decide) | exact absurd (by decide) h36
    · first | exact absurd h25 (by decide) | exact absurd (by decide) h25
  · first | exact absurd h11 (by decide) | exact absurd (by decide) h11
theorem sp_X6_readSetG0 (h : RdR M b n s g A) (hT : aT A + 1 < 2 ^ 24) (c1 : isW b n (nxt b n s) 7) (c3 : g.testBit 0 = true) : Spec D 10 yX6_readSet cfX6_readSet [.ref (ad 157)] (wl D ad M) 0 0 (PY (RPC D ad M b n (sSet b n s g A))) := by
  refine Spec.of (by decide) rfl (Nat.le_of_ble_eq_true rfl) rfl ?_
  have hw := h.2.2.2.2.2.1
  have hI := h.2.2.2.2.2
  have hb := hI.2.2.1.1
  have hg4 := h.1.2
  refine E_aload0 (q := 1) dX6_readSet_0 rfl ?_
  refine C_V0Y (q := 4) lk_X6_254 (sp_X6_advR h) rc_X6 dX6_readSet_1 (by decide) (Nat.le_of_ble_eq_true rfl) rfl ?_
  refine kkEW ?_
  rintro M1 ⟨h1, f1⟩
  refine E_aload0 (q := 5) dX6_readSet_4 rfl ?_
  refine E_ldc2 (q := 8) (v := codeL.getD 7 0) dX6_readSet_5 cn_X6_271 rfl ?_
  refine C_V1I (q := 11) lk_X6_273 (sp_X6_isWord (i := 7) h1 (by decide)) rc_X6 dX6_readSet_8 (by decide) (Nat.le_of_ble_eq_true rfl) rfl ?_
  refine V_int (zI_t1 c1) ?_
  refine E_if_eq (tgt := 18) (q := 14) dX6_readSet_11 (by decide) rfl (fun h11 => ?_) (fun h11 => ?_)
  · first | exact absurd h11 (by decide) | exact absurd (by decide) h11
  · skip
    refine E_iconst (v := nI 0) (q := 15) dX6_readSet_14 (by decide) rfl ?_
    refine E_goto (q := 33) dX6_readSet_15 (by decide) ?_
    refine E_istore1 (q := 34) dX6_readSet_33 rfl rfl ?_
    refine E_aload0 (q := 35) dX6_readSet_34 rfl ?_
    refine E_iload1 (q := 36) dX6_readSet_35 rfl ?_
    refine E_if_lt (tgt := 43) (q := 39) dX6_readSet_36 (by decide) rfl (fun h36 => ?_) (fun h36 => ?_)
    · first | exact absurd h36 (by decide) | exact absurd (by decide) h36
    · skip
      refine E_iconst (v := nI 1) (q := 40) dX6_readSet_39 (by decide) rfl ?_
      refine E_goto (q := 44) dX6_readSet_40 (by decide) ?_
      refine E_bipush (v := -11) (q := 46) dX6_readSet_44 (by decide) rfl ?_
      refine C_V2V (q := 49) lk_X6_247 (sp_X6_checkT) rc_X6 dX6_readSet_46 (by decide) (Nat.le_of_ble_eq_true rfl) rfl ?_
      refine E_aload0 (q := 50) dX6_readSet_49 rfl ?_
      refine G_X6_fault (q := 53) fl_X6_220 dX6_readSet_50 rfl ?_
      refine V_int h1.2.2.2.1 ?_
      refine E_if_eq (tgt := 57) (q := 56) dX6_readSet_53 (by decide) rfl (fun h53 => ?_) (fun h53 => ?_)
      · skip
        refine E_aload0 (q := 58) dX6_readSet_57 rfl ?_
        refine E_aload0 (q := 59) dX6_readSet_58 rfl ?_
        refine G_X6_given (q := 62) fl_X6_279 dX6_readSet_59 rfl ?_
        refine V_int h1.2.2.2.2.1 ?_
        refine E_iload1 (q := 63) dX6_readSet_62 rfl ?_
        refine E_ishr (q := 64) dX6_readSet_63 rfl ?_
        refine V_int (shr_nI (by omega) (by decide)) ?_
        refine E_iconst (v := nI 1) (q := 65) dX6_readSet_64 (by decide) rfl ?_
        refine E_iand (q := 66) dX6_readSet_65 rfl ?_
        refine V_int (and_one _) ?_
        refine V_int (tb_1 c3) ?_
        refine E_if_ne (tgt := 73) (q := 69) dX6_readSet_66 (by decide) rfl (fun h66 => ?_) (fun h66 => ?_)
        · skip
          refine E_iconst (v := nI 0) (q := 74) dX6_readSet_73 (by decide) rfl ?_
          refine E_bipush (v := -14) (q := 76) dX6_readSet_74 (by decide) rfl ?_
          refine C_V2V (q := 79) lk_X6_247 (sp_X6_checkF h1.2.2.2.1) rc_X6 dX6_readSet_76 (by decide) (Nat.le_of_ble_eq_true rfl) rfl ?_
          refine E_aload0 (q := 80) dX6_readSet_79 rfl ?_
          refine E_dup (q := 81) dX6_readSet_80 rfl rfl ?_
          refine G_X6_given (q := 84) fl_X6_279 dX6_readSet_81 rfl ?_
          refine V_int (show _ = nI g by unfold ft; rw [upd2_ne (by decide)]; exact h1.2.2.2.2.1) ?_
          refine E_iconst (v := nI 1) (q := 85) dX6_readSet_84 (by decide) rfl ?_
          refine E_iload1 (q := 86) dX6_readSet_85 rfl ?_
          refine E_ishl (q := 87) dX6_readSet_86 rfl ?_
          refine V_int (one_shl (by decide)) ?_
          refine E_ior (q := 88) dX6_readSet_87 rfl ?_
          refine V_int (nI_or _ _) ?_
          refine P_X6_given (q := 91) fl_X6_279 dX6_readSet_88 rfl ?_
          have h18 : (upd2 (ft M1 (-14)) 157 20 (nI (g ||| 2 ^ 0))) 157 18 = -14 := by rw [upd2_ne (by decide)]; exact ft_18
          have hx18 : (upd2 (ft M1 (-14)) 157 20 (nI (g ||| 2 ^ 0))) 157 18 ≠ 0 := by rw [h18]; decide
          refine E_aload0 (q := 92) dX6_readSet_91 rfl ?_
          refine C_V0V (q := 95) lk_X6_254 (sp_X6_advanceX hx18) rc_X6 dX6_readSet_92 (by decide) (Nat.le_of_ble_eq_true rfl) rfl ?_
          refine E_iload1 (q := 96) dX6_readSet_95 rfl ?_
          refine E_if_ne (tgt := 110) (q := 99) dX6_readSet_96 (by decide) rfl (fun h96 => ?_) (fun h96 => ?_)
          · first | exact absurd h96 (by decide) | exact absurd (by decide) h96
          · skip
            refine E_aload0 (q := 100) dX6_readSet_99 rfl ?_
            refine E_iconst (v := nI 1) (q := 101) dX6_readSet_100 (by decide) rfl ?_
            refine E_sipush (v := nI 999) (q := 104) dX6_readSet_101 (by decide) rfl ?_
            refine C_V2I (q := 107) lk_X6_269 (sp_X6_integerX hx18) rc_X6 dX6_readSet_104 (by decide) (Nat.le_of_ble_eq_true rfl) rfl ?_
            refine E_goto (q := 116) dX6_readSet_107 (by decide) ?_
            refine E_istore2 (q := 117) dX6_readSet_116 rfl rfl ?_
            refine E_aload0 (q := 118) dX6_readSet_117 rfl ?_
            refine G_X6_fault (q := 121) fl_X6_220 dX6_readSet_118 rfl ?_
            refine V_int h18 ?_
            refine E_if_ne (tgt := 131) (q := 124) dX6_readSet_121 (by decide) rfl (fun h121 => ?_) (fun h121 => ?_)
            · skip
              exact E_vreturn rfl rfl dX6_readSet_131 ⟨rfl, RPC_failM (t := nxt b n s) (by simp only [sSet, setR, ch_t c1, ch_t c3]) (by decide) h18 (by unfold ft; rw [upd2_ne (by decide), upd2_ne (by decide)]; exact h1.2.2.1.2.1) ((f1.tr FrR.ft).tr (FrR.u (by decide)))⟩
            · first | exact absurd h121 (by decide) | exact absurd (by decide) h121
        · first | exact absurd h66 (by decide) | exact absurd (by decide) h66
      · first | exact absurd h53 (by decide) | exact absurd (by decide) h53
theorem sp_X6_readSetK0 (h : RdR M b n s g A) (hT : aT A + 1 < 2 ^ 24) (c1 : isW b n (nxt b n s) 7) (c3 : ¬ g.testBit 0 = true) (c4 : ¬ knd b n (nxt b n (nxt b n s)) = 2) : Spec D 10 yX6_readSet cfX6_readSet [.ref (ad 157)] (wl D ad M) 0 0 (PY (RPC D ad M b n (sSet b n s g A))) := by
  refine Spec.of (by decide) rfl (Nat.le_of_ble_eq_true rfl) rfl ?_
  have hw := h.2.2.2.2.2.1
  have hI := h.2.2.2.2.2
  have hb := hI.2.2.1.1
  have hg4 := h.1.2
  refine E_aload0 (q := 1) dX6_readSet_0 rfl ?_
  refine C_V0Y (q := 4) lk_X6_254 (sp_X6_advR h) rc_X6 dX6_readSet_1 (by decide) (Nat.le_of_ble_eq_true rfl) rfl ?_
  refine kkEW ?_
  rintro M1 ⟨h1, f1⟩
  refine E_aload0 (q := 5) dX6_readSet_4 rfl ?_
  refine E_ldc2 (q := 8) (v := codeL.getD 7 0) dX6_readSet_5 cn_X6_271 rfl ?_
  refine C_V1I (q := 11) lk_X6_273 (sp_X6_isWord (i := 7) h1 (by decide)) rc_X6 dX6_readSet_8 (by decide) (Nat.le_of_ble_eq_true rfl) rfl ?_
  refine V_int (zI_t1 c1) ?_
  refine E_if_eq (tgt := 18) (q := 14) dX6_readSet_11 (by decide) rfl (fun h11 => ?_) (fun h11 => ?_)
  · first | exact absurd h11 (by decide) | exact absurd (by decide) h11
  · skip
    refine E_iconst (v := nI 0) (q := 15) dX6_readSet_14 (by decide) rfl ?_
    refine E_goto (q := 33) dX6_readSet_15 (by decide) ?_
    refine E_istore1 (q := 34) dX6_readSet_33 rfl rfl ?_
    refine E_aload0 (q := 35) dX6_readSet_34 rfl ?_
    refine E_iload1 (q := 36) dX6_readSet_35 rfl ?_
    refine E_if_lt (tgt := 43) (q := 39) dX6_readSet_36 (by decide) rfl (fun h36 => ?_) (fun h36 => ?_)
    · first | exact absurd h36 (by decide) | exact absurd (by decide) h36
    · skip
      refine E_iconst (v := nI 1) (q := 40) dX6_readSet_39 (by decide) rfl ?_
      refine E_goto (q := 44) dX6_readSet_40 (by decide) ?_
      refine E_bipush (v := -11) (q := 46) dX6_readSet_44 (by decide) rfl ?_
      refine C_V2V (q := 49) lk_X6_247 (sp_X6_checkT) rc_X6 dX6_readSet_46 (by decide) (Nat.le_of_ble_eq_true rfl) rfl ?_
      refine E_aload0 (q := 50) dX6_readSet_49 rfl ?_
      refine G_X6_fault (q := 53) fl_X6_220 dX6_readSet_50 rfl ?_
      refine V_int h1.2.2.2.1 ?_
      refine E_if_eq (tgt := 57) (q := 56) dX6_readSet_53 (by decide) rfl (fun h53 => ?_) (fun h53 => ?_)
      · skip
        refine E_aload0 (q := 58) dX6_readSet_57 rfl ?_
        refine E_aload0 (q := 59) dX6_readSet_58 rfl ?_
        refine G_X6_given (q := 62) fl_X6_279 dX6_readSet_59 rfl ?_
        refine V_int h1.2.2.2.2.1 ?_
        refine E_iload1 (q := 63) dX6_readSet_62 rfl ?_
        refine E_ishr (q := 64) dX6_readSet_63 rfl ?_
        refine V_int (shr_nI (by omega) (by decide)) ?_
        refine E_iconst (v := nI 1) (q := 65) dX6_readSet_64 (by decide) rfl ?_
        refine E_iand (q := 66) dX6_readSet_65 rfl ?_
        refine V_int (and_one _) ?_
        refine V_int (tb_0 c3) ?_
        refine E_if_ne (tgt := 73) (q := 69) dX6_readSet_66 (by decide) rfl (fun h66 => ?_) (fun h66 => ?_)
        · first | exact absurd h66 (by decide) | exact absurd (by decide) h66
        · skip
          refine E_iconst (v := nI 1) (q := 70) dX6_readSet_69 (by decide) rfl ?_
          refine E_goto (q := 74) dX6_readSet_70 (by decide) ?_
          refine E_bipush (v := -14) (q := 76) dX6_readSet_74 (by decide) rfl ?_
          refine C_V2V (q := 79) lk_X6_247 (sp_X6_checkT) rc_X6 dX6_readSet_76 (by decide) (Nat.le_of_ble_eq_true rfl) rfl ?_
          refine E_aload0 (q := 80) dX6_readSet_79 rfl ?_
          refine E_dup (q := 81) dX6_readSet_80 rfl rfl ?_
          refine G_X6_given (q := 84) fl_X6_279 dX6_readSet_81 rfl ?_
          refine V_int h1.2.2.2.2.1 ?_
          refine E_iconst (v := nI 1) (q := 85) dX6_readSet_84 (by decide) rfl ?_
          refine E_iload1 (q := 86) dX6_readSet_85 rfl ?_
          refine E_ishl (q := 87) dX6_readSet_86 rfl ?_
          refine V_int (one_shl (by decide)) ?_
          refine E_ior (q := 88) dX6_readSet_87 rfl ?_
          refine V_int (nI_or _ _) ?_
          refine P_X6_given (q := 91) fl_X6_279 dX6_readSet_88 rfl ?_
          have h1g := h1.giv (show g ||| 2 ^ 0 < 4 by have := Nat.or_lt_two_pow (n := 2) hg4 (show 2 ^ 0 < 2 ^ 2 by decide); omega)
          refine E_aload0 (q := 92) dX6_readSet_91 rfl ?_
          refine C_V0Y (q := 95) lk_X6_254 (sp_X6_advR h1g) rc_X6 dX6_readSet_92 (by decide) (Nat.le_of_ble_eq_true rfl) rfl ?_
          refine kkEW ?_
          rintro M2 ⟨h2, f2⟩
          refine E_iload1 (q := 96) dX6_readSet_95 rfl ?_
          refine E_if_ne (tgt := 110) (q := 99) dX6_readSet_96 (by decide) rfl (fun h96 => ?_) (fun h96 => ?_)
          · first | exact absurd h96 (by decide) | exact absurd (by decide) h96
          · skip
            refine E_aload0 (q := 100) dX6_readSet_99 rfl ?_
            refine E_iconst (v := nI 1) (q := 101) dX6_readSet_100 (by decide) rfl ?_
            refine E_sipush (v := nI 999) (q := 104) dX6_readSet_101 (by decide) rfl ?_
            refine C_V2I (q := 107) lk_X6_269 (sp_X6_integerK h2 c4) rc_X6 dX6_readSet_104 (by decide) (Nat.le_of_ble_eq_true rfl) rfl ?_
            refine E_goto (q := 116) dX6_readSet_107 (by decide) ?_
            refine E_istore2 (q := 117) dX6_readSet_116 rfl rfl ?_
            refine E_aload0 (q := 118) dX6_readSet_117 rfl ?_
            refine G_X6_fault (q := 121) fl_X6_220 dX6_readSet_118 rfl ?_
            refine V_int ft_18 ?_
            refine E_if_ne (tgt := 131) (q := 124) dX6_readSet_121 (by decide) rfl (fun h121 => ?_) (fun h121 => ?_)
            · skip
              exact E_vreturn rfl rfl dX6_readSet_131 ⟨rfl, RPC_fail (by simp only [sSet, setR, ch_t c1, intR, ch_f c3, ch_f c4]) (by decide) h2 ((f1.tr (FrR.u (by decide))).tr f2)⟩
            · first | exact absurd h121 (by decide) | exact absurd (by decide) h121
      · first | exact absurd h53 (by decide) | exact absurd (by decide) h53
theorem sp_X6_readSetR0 (h : RdR M b n s g A) (hT : aT A + 1 < 2 ^ 24) (c1 : isW b n (nxt b n s) 7) (c3 : ¬ g.testBit 0 = true) (c4 : knd b n (nxt b n (nxt b n s)) = 2) (c5 : ¬ (1 ≤ itv b n (nxt b n (nxt b n s)) ∧ itv b n (nxt b n (nxt b n s)) ≤ 999)) : Spec D 10 yX6_readSet cfX6_readSet [.ref (ad 157)] (wl D ad M) 0 0 (PY (RPC D ad M b n (sSet b n s g A))) := by
  refine Spec.of (by decide) rfl (Nat.le_of_ble_eq_true rfl) rfl ?_
  have hw := h.2.2.2.2.2.1
  have hI := h.2.2.2.2.2
  have hb := hI.2.2.1.1
  have hg4 := h.1.2
  refine E_aload0 (q := 1) dX6_readSet_0 rfl ?_
  refine C_V0Y (q := 4) lk_X6_254 (sp_X6_advR h) rc_X6 dX6_readSet_1 (by decide) (Nat.le_of_ble_eq_true rfl) rfl ?_
  refine kkEW ?_
  rintro M1 ⟨h1, f1⟩
  refine E_aload0 (q := 5) dX6_readSet_4 rfl ?_
  refine E_ldc2 (q := 8) (v := codeL.getD 7 0) dX6_readSet_5 cn_X6_271 rfl ?_
  refine C_V1I (q := 11) lk_X6_273 (sp_X6_isWord (i := 7) h1 (by decide)) rc_X6 dX6_readSet_8 (by decide) (Nat.le_of_ble_eq_true rfl) rfl ?_
  refine V_int (zI_t1 c1) ?_
  refine E_if_eq (tgt := 18) (q := 14) dX6_readSet_11 (by decide) rfl (fun h11 => ?_) (fun h11 => ?_)
  · first | exact absurd h11 (by decide) | exact absurd (by decide) h11
  · skip
    refine E_iconst (v := nI 0) (q := 15) dX6_readSet_14 (by decide) rfl ?_
    refine E_goto (q := 33) dX6_readSet_15 (by decide) ?_
    refine E_istore1 (q := 34) dX6_readSet_33 rfl rfl ?_
    refine E_aload0 (q := 35) dX6_readSet_34 rfl ?_
    refine E_iload1 (q := 36) dX6_readSet_35 rfl ?_
    refine E_if_lt (tgt := 43) (q := 39) dX6_readSet_36 (by decide) rfl (fun h36 => ?_) (fun h36 => ?_)
    · first | exact absurd h36 (by decide) | exact absurd (by decide) h36
    · skip
      refine E_iconst (v := nI 1) (q := 40) dX6_readSet_39 (by decide) rfl ?_
      refine E_goto (q := 44) dX6_readSet_40 (by decide) ?_
      refine E_bipush (v := -11) (q := 46) dX6_readSet_44 (by decide) rfl ?_
      refine C_V2V (q := 49) lk_X6_247 (sp_X6_checkT) rc_X6 dX6_readSet_46 (by decide) (Nat.le_of_ble_eq_true rfl) rfl ?_
      refine E_aload0 (q := 50) dX6_readSet_49 rfl ?_
      refine G_X6_fault (q := 53) fl_X6_220 dX6_readSet_50 rfl ?_
      refine V_int h1.2.2.2.1 ?_
      refine E_if_eq (tgt := 57) (q := 56) dX6_readSet_53 (by decide) rfl (fun h53 => ?_) (fun h53 => ?_)
      · skip
        refine E_aload0 (q := 58) dX6_readSet_57 rfl ?_
        refine E_aload0 (q := 59) dX6_readSet_58 rfl ?_
        refine G_X6_given (q := 62) fl_X6_279 dX6_readSet_59 rfl ?_
        refine V_int h1.2.2.2.2.1 ?_
        refine E_iload1 (q := 63) dX6_readSet_62 rfl ?_
        refine E_ishr (q := 64) dX6_readSet_63 rfl ?_
        refine V_int (shr_nI (by omega) (by decide)) ?_
        refine E_iconst (v := nI 1) (q := 65) dX6_readSet_64 (by decide) rfl ?_
        refine E_iand (q := 66) dX6_readSet_65 rfl ?_
        refine V_int (and_one _) ?_
        refine V_int (tb_0 c3) ?_
        refine E_if_ne (tgt := 73) (q := 69) dX6_readSet_66 (by decide) rfl (fun h66 => ?_) (fun h66 => ?_)
        · first | exact absurd h66 (by decide) | exact absurd (by decide) h66
        · skip
          refine E_iconst (v := nI 1) (q := 70) dX6_readSet_69 (by decide) rfl ?_
          refine E_goto (q := 74) dX6_readSet_70 (by decide) ?_
          refine E_bipush (v := -14) (q := 76) dX6_readSet_74 (by decide) rfl ?_
          refine C_V2V (q := 79) lk_X6_247 (sp_X6_checkT) rc_X6 dX6_readSet_76 (by decide) (Nat.le_of_ble_eq_true rfl) rfl ?_
          refine E_aload0 (q := 80) dX6_readSet_79 rfl ?_
          refine E_dup (q := 81) dX6_readSet_80 rfl rfl ?_
          refine G_X6_given (q := 84) fl_X6_279 dX6_readSet_81 rfl ?_
          refine V_int h1.2.2.2.2.1 ?_
          refine E_iconst (v := nI 1) (q := 85) dX6_readSet_84 (by decide) rfl ?_
          refine E_iload1 (q := 86) dX6_readSet_85 rfl ?_
          refine E_ishl (q := 87) dX6_readSet_86 rfl ?_
          refine V_int (one_shl (by decide)) ?_
          refine E_ior (q := 88) dX6_readSet_87 rfl ?_
          refine V_int (nI_or _ _) ?_
          refine P_X6_given (q := 91) fl_X6_279 dX6_readSet_88 rfl ?_
          have h1g := h1.giv (show g ||| 2 ^ 0 < 4 by have := Nat.or_lt_two_pow (n := 2) hg4 (show 2 ^ 0 < 2 ^ 2 by decide); omega)
          refine E_aload0 (q := 92) dX6_readSet_91 rfl ?_
          refine C_V0Y (q := 95) lk_X6_254 (sp_X6_advR h1g) rc_X6 dX6_readSet_92 (by decide) (Nat.le_of_ble_eq_true rfl) rfl ?_
          refine kkEW ?_
          rintro M2 ⟨h2, f2⟩
          refine E_iload1 (q := 96) dX6_readSet_95 rfl ?_
          refine E_if_ne (tgt := 110) (q := 99) dX6_readSet_96 (by decide) rfl (fun h96 => ?_) (fun h96 => ?_)
          · first | exact absurd h96 (by decide) | exact absurd (by decide) h96
          · skip
            refine E_aload0 (q := 100) dX6_readSet_99 rfl ?_
            refine E_iconst (v := nI 1) (q := 101) dX6_readSet_100 (by decide) rfl ?_
            refine E_sipush (v := nI 999) (q := 104) dX6_readSet_101 (by decide) rfl ?_
            refine C_V2I (q := 107) lk_X6_269 (sp_X6_integerR h2 c4 (by decide) (by decide) c5) rc_X6 dX6_readSet_104 (by decide) (Nat.le_of_ble_eq_true rfl) rfl ?_
            refine E_goto (q := 116) dX6_readSet_107 (by decide) ?_
            refine E_istore2 (q := 117) dX6_readSet_116 rfl rfl ?_
            refine E_aload0 (q := 118) dX6_readSet_117 rfl ?_
            refine G_X6_fault (q := 121) fl_X6_220 dX6_readSet_118 rfl ?_
            refine V_int ft_18 ?_
            refine E_if_ne (tgt := 131) (q := 124) dX6_readSet_121 (by decide) rfl (fun h121 => ?_) (fun h121 => ?_)
            · skip
              exact E_vreturn rfl rfl dX6_readSet_131 ⟨rfl, RPC_fail (by simp only [sSet, setR, ch_t c1, intR, ch_f c3, ch_t c4, ch_f c5]) (by decide) h2 ((f1.tr (FrR.u (by decide))).tr f2)⟩
            · first | exact absurd h121 (by decide) | exact absurd (by decide) h121
      · first | exact absurd h53 (by decide) | exact absurd (by decide) h53
theorem sp_X6_readSetO0 (h : RdR M b n s g A) (hT : aT A + 1 < 2 ^ 24) (c1 : isW b n (nxt b n s) 7) (c3 : ¬ g.testBit 0 = true) (c4 : knd b n (nxt b n (nxt b n s)) = 2) (c5 : 1 ≤ itv b n (nxt b n (nxt b n s)) ∧ itv b n (nxt b n (nxt b n s)) ≤ 999) : Spec D 10 yX6_readSet cfX6_readSet [.ref (ad 157)] (wl D ad M) 0 0 (PY (RPC D ad M b n (sSet b n s g A))) := by
  refine Spec.of (by decide) rfl (Nat.le_of_ble_eq_true rfl) rfl ?_
  have hw := h.2.2.2.2.2.1
  have hI := h.2.2.2.2.2
  have hb := hI.2.2.1.1
  have hg4 := h.1.2
  refine E_aload0 (q := 1) dX6_readSet_0 rfl ?_
  refine C_V0Y (q := 4) lk_X6_254 (sp_X6_advR h) rc_X6 dX6_readSet_1 (by decide) (Nat.le_of_ble_eq_true rfl) rfl ?_
  refine kkEW ?_
  rintro M1 ⟨h1, f1⟩
  refine E_aload0 (q := 5) dX6_readSet_4 rfl ?_
  refine E_ldc2 (q := 8) (v := codeL.getD 7 0) dX6_readSet_5 cn_X6_271 rfl ?_
  refine C_V1I (q := 11) lk_X6_273 (sp_X6_isWord (i := 7) h1 (by decide)) rc_X6 dX6_readSet_8 (by decide) (Nat.le_of_ble_eq_true rfl) rfl ?_
  refine V_int (zI_t1 c1) ?_
  refine E_if_eq (tgt := 18) (q := 14) dX6_readSet_11 (by decide) rfl (fun h11 => ?_) (fun h11 => ?_)
  · first | exact absurd h11 (by decide) | exact absurd (by decide) h11
  · skip
    refine E_iconst (v := nI 0) (q := 15) dX6_readSet_14 (by decide) rfl ?_
    refine E_goto (q := 33) dX6_readSet_15 (by decide) ?_
    refine E_istore1 (q := 34) dX6_readSet_33 rfl rfl ?_
    refine E_aload0 (q := 35) dX6_readSet_34 rfl ?_
    refine E_iload1 (q := 36) dX6_readSet_35 rfl ?_
    refine E_if_lt (tgt := 43) (q := 39) dX6_readSet_36 (by decide) rfl (fun h36 => ?_) (fun h36 => ?_)
    · first | exact absurd h36 (by decide) | exact absurd (by decide) h36
    · skip
      refine E_iconst (v := nI 1) (q := 40) dX6_readSet_39 (by decide) rfl ?_
      refine E_goto (q := 44) dX6_readSet_40 (by decide) ?_
      refine E_bipush (v := -11) (q := 46) dX6_readSet_44 (by decide) rfl ?_
      refine C_V2V (q := 49) lk_X6_247 (sp_X6_checkT) rc_X6 dX6_readSet_46 (by decide) (Nat.le_of_ble_eq_true rfl) rfl ?_
      refine E_aload0 (q := 50) dX6_readSet_49 rfl ?_
      refine G_X6_fault (q := 53) fl_X6_220 dX6_readSet_50 rfl ?_
      refine V_int h1.2.2.2.1 ?_
      refine E_if_eq (tgt := 57) (q := 56) dX6_readSet_53 (by decide) rfl (fun h53 => ?_) (fun h53 => ?_)
      · skip
        refine E_aload0 (q := 58) dX6_readSet_57 rfl ?_
        refine E_aload0 (q := 59) dX6_readSet_58 rfl ?_
        refine G_X6_given (q := 62) fl_X6_279 dX6_readSet_59 rfl ?_
        refine V_int h1.2.2.2.2.1 ?_
        refine E_iload1 (q := 63) dX6_readSet_62 rfl ?_
        refine E_ishr (q := 64) dX6_readSet_63 rfl ?_
        refine V_int (shr_nI (by omega) (by decide)) ?_
        refine E_iconst (v := nI 1) (q := 65) dX6_readSet_64 (by decide) rfl ?_
        refine E_iand (q := 66) dX6_readSet_65 rfl ?_
        refine V_int (and_one _) ?_
        refine V_int (tb_0 c3) ?_
        refine E_if_ne (tgt := 73) (q := 69) dX6_readSet_66 (by decide) rfl (fun h66 => ?_) (fun h66 => ?_)
        · first | exact absurd h66 (by decide) | exact absurd (by decide) h66
        · skip
          refine E_iconst (v := nI 1) (q := 70) dX6_readSet_69 (by decide) rfl ?_
          refine E_goto (q := 74) dX6_readSet_70 (by decide) ?_
          refine E_bipush (v := -14) (q := 76) dX6_readSet_74 (by decide) rfl ?_
          refine C_V2V (q := 79) lk_X6_247 (sp_X6_checkT) rc_X6 dX6_readSet_76 (by decide) (Nat.le_of_ble_eq_true rfl) rfl ?_
          refine E_aload0 (q := 80) dX6_readSet_79 rfl ?_
          refine E_dup (q := 81) dX6_readSet_80 rfl rfl ?_
          refine G_X6_given (q := 84) fl_X6_279 dX6_readSet_81 rfl ?_
          refine V_int h1.2.2.2.2.1 ?_
          refine E_iconst (v := nI 1) (q := 85) dX6_readSet_84 (by decide) rfl ?_
          refine E_iload1 (q := 86) dX6_readSet_85 rfl ?_
          refine E_ishl (q := 87) dX6_readSet_86 rfl ?_
          refine V_int (one_shl (by decide)) ?_
          refine E_ior (q := 88) dX6_readSet_87 rfl ?_
          refine V_int (nI_or _ _) ?_
          refine P_X6_given (q := 91) fl_X6_279 dX6_readSet_88 rfl ?_
          have h1g := h1.giv (show g ||| 2 ^ 0 < 4 by have := Nat.or_lt_two_pow (n := 2) hg4 (show 2 ^ 0 < 2 ^ 2 by decide); omega)
          refine E_aload0 (q := 92) dX6_readSet_91 rfl ?_
          refine C_V0Y (q := 95) lk_X6_254 (sp_X6_advR h1g) rc_X6 dX6_readSet_92 (by decide) (Nat.le_of_ble_eq_true rfl) rfl ?_
          refine kkEW ?_
          rintro M2 ⟨h2, f2⟩
          refine E_iload1 (q := 96) dX6_readSet_95 rfl ?_
          refine E_if_ne (tgt := 110) (q := 99) dX6_readSet_96 (by decide) rfl (fun h96 => ?_) (fun h96 => ?_)
          · first | exact absurd h96 (by decide) | exact absurd (by decide) h96
          · skip
            refine E_aload0 (q := 100) dX6_readSet_99 rfl ?_
            refine E_iconst (v := nI 1) (q := 101) dX6_readSet_100 (by decide) rfl ?_
            refine E_sipush (v := nI 999) (q := 104) dX6_readSet_101 (by decide) rfl ?_
            refine C_V2X (q := 107) lk_X6_269 (sp_X6_integer h2 c4 (by decide) (by decide) c5) rc_X6 dX6_readSet_104 (by decide) (Nat.le_of_ble_eq_true rfl) rfl ?_
            refine kkEI ?_
            rintro M3 ⟨h3, f3⟩
            refine E_goto (q := 116) dX6_readSet_107 (by decide) ?_
            refine E_istore2 (q := 117) dX6_readSet_116 rfl rfl ?_
            refine E_aload0 (q := 118) dX6_readSet_117 rfl ?_
            refine G_X6_fault (q := 121) fl_X6_220 dX6_readSet_118 rfl ?_
            refine V_int h3.2.2.2.1 ?_
            refine E_if_ne (tgt := 131) (q := 124) dX6_readSet_121 (by decide) rfl (fun h121 => ?_) (fun h121 => ?_)
            · first | exact absurd h121 (by decide) | exact absurd (by decide) h121
            · skip
              refine E_aload0 (q := 125) dX6_readSet_124 rfl ?_
              have hw1 := h3.2.2.2.2.2.1
              refine G_X6_w (q := 128) (x := 163) hw1 fl_X6_16 dX6_readSet_125 rfl ?_
              refine E_iload1 (q := 129) dX6_readSet_128 rfl ?_
              refine E_iload2 (q := 130) dX6_readSet_129 rfl ?_
              refine E_iastN (q := 131) hw1.2 (show 0 < 739 by decide) (by decide) dX6_readSet_130 rfl ?_
              exact E_vreturn rfl rfl dX6_readSet_131 ⟨rfl, RPC_ok (by simp only [sSet, setR, ch_t c1, intR, ch_f c3, ch_t c4, ch_t c5]) (h3.wr (h3.2.2.2.2.2.set (RowIs.setR (k := 0) h3.2.2.2.2.2.2.1 (by decide)) (setA_WF hI.2.2 (by omega))) (fun c hc => upd2_row hc)) ((((f1.tr (FrR.u (by decide))).tr f2).tr f3).tr (FrR.w (fun c hc => upd2_row hc)))⟩
      · first | exact absurd h53 (by decide) | exact absurd (by decide) h53
theorem sp_X6_readSetG1 (h : RdR M b n s g A) (hT : aT A + 1 < 2 ^ 24) (c1 : ¬ isW b n (nxt b n s) 7) (c2 : isW b n (nxt b n s) 8) (c3 : g.testBit 1 = true) : Spec D 10 yX6_readSet cfX6_readSet [.ref (ad 157)] (wl D ad M) 0 0 (PY (RPC D ad M b n (sSet b n s g A))) := by
  refine Spec.of (by decide) rfl (Nat.le_of_ble_eq_true rfl) rfl ?_
  have hw := h.2.2.2.2.2.1
  have hI := h.2.2.2.2.2
  have hb := hI.2.2.1.1
  have hg4 := h.1.2
  refine E_aload0 (q := 1) dX6_readSet_0 rfl ?_
  refine C_V0Y (q := 4) lk_X6_254 (sp_X6_advR h) rc_X6 dX6_readSet_1 (by decide) (Nat.le_of_ble_eq_true rfl) rfl ?_
  refine kkEW ?_
  rintro M1 ⟨h1, f1⟩
  refine E_aload0 (q := 5) dX6_readSet_4 rfl ?_
  refine E_ldc2 (q := 8) (v := codeL.getD 7 0) dX6_readSet_5 cn_X6_271 rfl ?_
  refine C_V1I (q := 11) lk_X6_273 (sp_X6_isWord (i := 7) h1 (by decide)) rc_X6 dX6_readSet_8 (by decide) (Nat.le_of_ble_eq_true rfl) rfl ?_
  refine V_int (zI_f1 c1) ?_
  refine E_if_eq (tgt := 18) (q := 14) dX6_readSet_11 (by decide) rfl (fun h11 => ?_) (fun h11 => ?_)
  · skip
    refine E_aload0 (q := 19) dX6_readSet_18 rfl ?_
    refine E_ldc2 (q := 22) (v := codeL.getD 8 0) dX6_readSet_19 cn_X6_277 rfl ?_
    refine C_V1I (q := 25) lk_X6_273 (sp_X6_isWord (i := 8) h1 (by decide)) rc_X6 dX6_readSet_22 (by decide) (Nat.le_of_ble_eq_true rfl) rfl ?_
    refine V_int (zI_t1 c2) ?_
    refine E_if_eq (tgt := 32) (q := 28) dX6_readSet_25 (by decide) rfl (fun h25 => ?_) (fun h25 => ?_)
    · first | exact absurd h25 (by decide) | exact absurd (by decide) h25
    · skip
      refine E_iconst (v := nI 1) (q := 29) dX6_readSet_28 (by decide) rfl ?_
      refine E_goto (q := 33) dX6_readSet_29 (by decide) ?_
      refine E_istore1 (q := 34) dX6_readSet_33 rfl rfl ?_
      refine E_aload0 (q := 35) dX6_readSet_34 rfl ?_
      refine E_iload1 (q := 36) dX6_readSet_35 rfl ?_
      refine E_if_lt (tgt := 43) (q := 39) dX6_readSet_36 (by decide) rfl (fun h36 => ?_) (fun h36 => ?_)
      · first | exact absurd h36 (by decide) | exact absurd (by decide) h36
      · skip
        refine E_iconst (v := nI 1) (q := 40) dX6_readSet_39 (by decide) rfl ?_
        refine E_goto (q := 44) dX6_readSet_40 (by decide) ?_
        refine E_bipush (v := -11) (q := 46) dX6_readSet_44 (by decide) rfl ?_
        refine C_V2V (q := 49) lk_X6_247 (sp_X6_checkT) rc_X6 dX6_readSet_46 (by decide) (Nat.le_of_ble_eq_true rfl) rfl ?_
        refine E_aload0 (q := 50) dX6_readSet_49 rfl ?_
        refine G_X6_fault (q := 53) fl_X6_220 dX6_readSet_50 rfl ?_
        refine V_int h1.2.2.2.1 ?_
        refine E_if_eq (tgt := 57) (q := 56) dX6_readSet_53 (by decide) rfl (fun h53 => ?_) (fun h53 => ?_)
        · skip
          refine E_aload0 (q := 58) dX6_readSet_57 rfl ?_
          refine E_aload0 (q := 59) dX6_readSet_58 rfl ?_
          refine G_X6_given (q := 62) fl_X6_279 dX6_readSet_59 rfl ?_
          refine V_int h1.2.2.2.2.1 ?_
          refine E_iload1 (q := 63) dX6_readSet_62 rfl ?_
          refine E_ishr (q := 64) dX6_readSet_63 rfl ?_
          refine V_int (shr_nI (by omega) (by decide)) ?_
          refine E_iconst (v := nI 1) (q := 65) dX6_readSet_64 (by decide) rfl ?_
          refine E_iand (q := 66) dX6_readSet_65 rfl ?_
          refine V_int (and_one _) ?_
          refine V_int (tb_1 c3) ?_
          refine E_if_ne (tgt := 73) (q := 69) dX6_readSet_66 (by decide) rfl (fun h66 => ?_) (fun h66 => ?_)
          · skip
            refine E_iconst (v := nI 0) (q := 74) dX6_readSet_73 (by decide) rfl ?_
            refine E_bipush (v := -14) (q := 76) dX6_readSet_74 (by decide) rfl ?_
            refine C_V2V (q := 79) lk_X6_247 (sp_X6_checkF h1.2.2.2.1) rc_X6 dX6_readSet_76 (by decide) (Nat.le_of_ble_eq_true rfl) rfl ?_
            refine E_aload0 (q := 80) dX6_readSet_79 rfl ?_
            refine E_dup (q := 81) dX6_readSet_80 rfl rfl ?_
            refine G_X6_given (q := 84) fl_X6_279 dX6_readSet_81 rfl ?_
            refine V_int (show _ = nI g by unfold ft; rw [upd2_ne (by decide)]; exact h1.2.2.2.2.1) ?_
            refine E_iconst (v := nI 1) (q := 85) dX6_readSet_84 (by decide) rfl ?_
            refine E_iload1 (q := 86) dX6_readSet_85 rfl ?_
            refine E_ishl (q := 87) dX6_readSet_86 rfl ?_
            refine V_int (one_shl (by decide)) ?_
            refine E_ior (q := 88) dX6_readSet_87 rfl ?_
            refine V_int (nI_or _ _) ?_
            refine P_X6_given (q := 91) fl_X6_279 dX6_readSet_88 rfl ?_
            have h18 : (upd2 (ft M1 (-14)) 157 20 (nI (g ||| 2 ^ 1))) 157 18 = -14 := by rw [upd2_ne (by decide)]; exact ft_18
            have hx18 : (upd2 (ft M1 (-14)) 157 20 (nI (g ||| 2 ^ 1))) 157 18 ≠ 0 := by rw [h18]; decide
            refine E_aload0 (q := 92) dX6_readSet_91 rfl ?_
            refine C_V0V (q := 95) lk_X6_254 (sp_X6_advanceX hx18) rc_X6 dX6_readSet_92 (by decide) (Nat.le_of_ble_eq_true rfl) rfl ?_
            refine E_iload1 (q := 96) dX6_readSet_95 rfl ?_
            refine E_if_ne (tgt := 110) (q := 99) dX6_readSet_96 (by decide) rfl (fun h96 => ?_) (fun h96 => ?_)
            · skip
              refine E_aload0 (q := 111) dX6_readSet_110 rfl ?_
              refine E_iconst (v := nI 0) (q := 112) dX6_readSet_111 (by decide) rfl ?_
              refine E_iconst (v := nI 5) (q := 113) dX6_readSet_112 (by decide) rfl ?_
              refine C_V2I (q := 116) lk_X6_269 (sp_X6_integerX hx18) rc_X6 dX6_readSet_113 (by decide) (Nat.le_of_ble_eq_true rfl) rfl ?_
              refine E_istore2 (q := 117) dX6_readSet_116 rfl rfl ?_
              refine E_aload0 (q := 118) dX6_readSet_117 rfl ?_
              refine G_X6_fault (q := 121) fl_X6_220 dX6_readSet_118 rfl ?_
              refine V_int h18 ?_
              refine E_if_ne (tgt := 131) (q := 124) dX6_readSet_121 (by decide) rfl (fun h121 => ?_) (fun h121 => ?_)
              · skip
                exact E_vreturn rfl rfl dX6_readSet_131 ⟨rfl, RPC_failM (t := nxt b n s) (by simp only [sSet, setR, ch_f c1, ch_t c2, ch_t c3]) (by decide) h18 (by unfold ft; rw [upd2_ne (by decide), upd2_ne (by decide)]; exact h1.2.2.1.2.1) ((f1.tr FrR.ft).tr (FrR.u (by decide)))⟩
              · first | exact absurd h121 (by decide) | exact absurd (by decide) h121
            · first | exact absurd h96 (by decide) | exact absurd (by decide) h96
          · first | exact absurd h66 (by decide) | exact absurd (by decide) h66
        · first | exact absurd h53 (by decide) | exact absurd (by decide) h53
  · first | exact absurd h11 (by decide) | exact absurd (by decide) h11
theorem sp_X6_readSetK1 (h : RdR M b n s g A) (hT : aT A + 1 < 2 ^ 24) (c1 : ¬ isW b n (nxt b n s) 7) (c2 : isW b n (nxt b n s) 8) (c3 : ¬ g.testBit 1 = true) (c4 : ¬ knd b n (nxt b n (nxt b n s)) = 2) : Spec D 10 yX6_readSet cfX6_readSet [.ref (ad 157)] (wl D ad M) 0 0 (PY (RPC D ad M b n (sSet b n s g A))) := by
  refine Spec.of (by decide) rfl (Nat.le_of_ble_eq_true rfl) rfl ?_
  have hw := h.2.2.2.2.2.1
  have hI := h.2.2.2.2.2
  have hb := hI.2.2.1.1
  have hg4 := h.1.2
  refine E_aload0 (q := 1) dX6_readSet_0 rfl ?_
  refine C_V0Y (q := 4) lk_X6_254 (sp_X6_advR h) rc_X6 dX6_readSet_1 (by decide) (Nat.le_of_ble_eq_true rfl) rfl ?_
  refine kkEW ?_
  rintro M1 ⟨h1, f1⟩
  refine E_aload0 (q := 5) dX6_readSet_4 rfl ?_
  refine E_ldc2 (q := 8) (v := codeL.getD 7 0) dX6_readSet_5 cn_X6_271 rfl ?_
  refine C_V1I (q := 11) lk_X6_273 (sp_X6_isWord (i := 7) h1 (by decide)) rc_X6 dX6_readSet_8 (by decide) (Nat.le_of_ble_eq_true rfl) rfl ?_
  refine V_int (zI_f1 c1) ?_
  refine E_if_eq (tgt := 18) (q := 14) dX6_readSet_11 (by decide) rfl (fun h11 => ?_) (fun h11 => ?_)
  · skip
    refine E_aload0 (q := 19) dX6_readSet_18 rfl ?_
    refine E_ldc2 (q := 22) (v := codeL.getD 8 0) dX6_readSet_19 cn_X6_277 rfl ?_
    refine C_V1I (q := 25) lk_X6_273 (sp_X6_isWord (i := 8) h1 (by decide)) rc_X6 dX6_readSet_22 (by decide) (Nat.le_of_ble_eq_true rfl) rfl ?_
    refine V_int (zI_t1 c2) ?_
    refine E_if_eq (tgt := 32) (q := 28) dX6_readSet_25 (by decide) rfl (fun h25 => ?_) (fun h25 => ?_)
    · first | exact absurd h25 (by decide) | exact absurd (by decide) h25
    · skip
      refine E_iconst (v := nI 1) (q := 29) dX6_readSet_28 (by decide) rfl ?_
      refine E_goto (q := 33) dX6_readSet_29 (by decide) ?_
      refine E_istore1 (q := 34) dX6_readSet_33 rfl rfl ?_
      refine E_aload0 (q := 35) dX6_readSet_34 rfl ?_
      refine E_iload1 (q := 36) dX6_readSet_35 rfl ?_
      refine E_if_lt (tgt := 43) (q := 39) dX6_readSet_36 (by decide) rfl (fun h36 => ?_) (fun h36 => ?_)
      · first | exact absurd h36 (by decide) | exact absurd (by decide) h36
      · skip
        refine E_iconst (v := nI 1) (q := 40) dX6_readSet_39 (by decide) rfl ?_
        refine E_goto (q := 44) dX6_readSet_40 (by decide) ?_
        refine E_bipush (v := -11) (q := 46) dX6_readSet_44 (by decide) rfl ?_
        refine C_V2V (q := 49) lk_X6_247 (sp_X6_checkT) rc_X6 dX6_readSet_46 (by decide) (Nat.le_of_ble_eq_true rfl) rfl ?_
        refine E_aload0 (q := 50) dX6_readSet_49 rfl ?_
        refine G_X6_fault (q := 53) fl_X6_220 dX6_readSet_50 rfl ?_
        refine V_int h1.2.2.2.1 ?_
        refine E_if_eq (tgt := 57) (q := 56) dX6_readSet_53 (by decide) rfl (fun h53 => ?_) (fun h53 => ?_)
        · skip
          refine E_aload0 (q := 58) dX6_readSet_57 rfl ?_
          refine E_aload0 (q := 59) dX6_readSet_58 rfl ?_
          refine G_X6_given (q := 62) fl_X6_279 dX6_readSet_59 rfl ?_
          refine V_int h1.2.2.2.2.1 ?_
          refine E_iload1 (q := 63) dX6_readSet_62 rfl ?_
          refine E_ishr (q := 64) dX6_readSet_63 rfl ?_
          refine V_int (shr_nI (by omega) (by decide)) ?_
          refine E_iconst (v := nI 1) (q := 65) dX6_readSet_64 (by decide) rfl ?_
          refine E_iand (q := 66) dX6_readSet_65 rfl ?_
          refine V_int (and_one _) ?_
          refine V_int (tb_0 c3) ?_
          refine E_if_ne (tgt := 73) (q := 69) dX6_readSet_66 (by decide) rfl (fun h66 => ?_) (fun h66 => ?_)
          · first | exact absurd h66 (by decide) | exact absurd (by decide) h66
          · skip
            refine E_iconst (v := nI 1) (q := 70) dX6_readSet_69 (by decide) rfl ?_
            refine E_goto (q := 74) dX6_readSet_70 (by decide) ?_
            refine E_bipush (v := -14) (q := 76) dX6_readSet_74 (by decide) rfl ?_
            refine C_V2V (q := 79) lk_X6_247 (sp_X6_checkT) rc_X6 dX6_readSet_76 (by decide) (Nat.le_of_ble_eq_true rfl) rfl ?_
            refine E_aload0 (q := 80) dX6_readSet_79 rfl ?_
            refine E_dup (q := 81) dX6_readSet_80 rfl rfl ?_
            refine G_X6_given (q := 84) fl_X6_279 dX6_readSet_81 rfl ?_
            refine V_int h1.2.2.2.2.1 ?_
            refine E_iconst (v := nI 1) (q := 85) dX6_readSet_84 (by decide) rfl ?_
            refine E_iload1 (q := 86) dX6_readSet_85 rfl ?_
            refine E_ishl (q := 87) dX6_readSet_86 rfl ?_
            refine V_int (one_shl (by decide)) ?_
            refine E_ior (q := 88) dX6_readSet_87 rfl ?_
            refine V_int (nI_or _ _) ?_
            refine P_X6_given (q := 91) fl_X6_279 dX6_readSet_88 rfl ?_
            have h1g := h1.giv (show g ||| 2 ^ 1 < 4 by have := Nat.or_lt_two_pow (n := 2) hg4 (show 2 ^ 1 < 2 ^ 2 by decide); omega)
            refine E_aload0 (q := 92) dX6_readSet_91 rfl ?_
            refine C_V0Y (q := 95) lk_X6_254 (sp_X6_advR h1g) rc_X6 dX6_readSet_92 (by decide) (Nat.le_of_ble_eq_true rfl) rfl ?_
            refine kkEW ?_
            rintro M2 ⟨h2, f2⟩
            refine E_iload1 (q := 96) dX6_readSet_95 rfl ?_
            refine E_if_ne (tgt := 110) (q := 99) dX6_readSet_96 (by decide) rfl (fun h96 => ?_) (fun h96 => ?_)
            · skip
              refine E_aload0 (q := 111) dX6_readSet_110 rfl ?_
              refine E_iconst (v := nI 0) (q := 112) dX6_readSet_111 (by decide) rfl ?_
              refine E_iconst (v := nI 5) (q := 113) dX6_readSet_112 (by decide) rfl ?_
              refine C_V2I (q := 116) lk_X6_269 (sp_X6_integerK h2 c4) rc_X6 dX6_readSet_113 (by decide) (Nat.le_of_ble_eq_true rfl) rfl ?_
              refine E_istore2 (q := 117) dX6_readSet_116 rfl rfl ?_
              refine E_aload0 (q := 118) dX6_readSet_117 rfl ?_
              refine G_X6_fault (q := 121) fl_X6_220 dX6_readSet_118 rfl ?_
              refine V_int ft_18 ?_
              refine E_if_ne (tgt := 131) (q := 124) dX6_readSet_121 (by decide) rfl (fun h121 => ?_) (fun h121 => ?_)
              · skip
                exact E_vreturn rfl rfl dX6_readSet_131 ⟨rfl, RPC_fail (by simp only [sSet, setR, ch_f c1, ch_t c2, intR, ch_f c3, ch_f c4]) (by decide) h2 ((f1.tr (FrR.u (by decide))).tr f2)⟩
              · first | exact absurd h121 (by decide) | exact absurd (by decide) h121
            · first | exact absurd h96 (by decide) | exact absurd (by decide) h96
        · first | exact absurd h53 (by decide) | exact absurd (by decide) h53
  · first | exact absurd h11 (by decide) | exact absurd (by decide) h11
theorem sp_X6_readSetR1 (h : RdR M b n s g A) (hT : aT A + 1 < 2 ^ 24) (c1 : ¬ isW b n (nxt b n s) 7) (c2 : isW b n (nxt b n s) 8) (c3 : ¬ g.testBit 1 = true) (c4 : knd b n (nxt b n (nxt b n s)) = 2) (c5 : ¬ (0 ≤ itv b n (nxt b n (nxt b n s)) ∧ itv b n (nxt b n (nxt b n s)) ≤ 5)) : Spec D 10 yX6_readSet cfX6_readSet [.ref (ad 157)] (wl D ad M) 0 0 (PY (RPC D ad M b n (sSet b n s g A))) := by
  refine Spec.of (by decide) rfl (Nat.le_of_ble_eq_true rfl) rfl ?_
  have hw := h.2.2.2.2.2.1
  have hI := h.2.2.2.2.2
  have hb := hI.2.2.1.1
  have hg4 := h.1.2
  refine E_aload0 (q := 1) dX6_readSet_0 rfl ?_
  refine C_V0Y (q := 4) lk_X6_254 (sp_X6_advR h) rc_X6 dX6_readSet_1 (by decide) (Nat.le_of_ble_eq_true rfl) rfl ?_
  refine kkEW ?_
  rintro M1 ⟨h1, f1⟩
  refine E_aload0 (q := 5) dX6_readSet_4 rfl ?_
  refine E_ldc2 (q := 8) (v := codeL.getD 7 0) dX6_readSet_5 cn_X6_271 rfl ?_
  refine C_V1I (q := 11) lk_X6_273 (sp_X6_isWord (i := 7) h1 (by decide)) rc_X6 dX6_readSet_8 (by decide) (Nat.le_of_ble_eq_true rfl) rfl ?_
  refine V_int (zI_f1 c1) ?_
  refine E_if_eq (tgt := 18) (q := 14) dX6_readSet_11 (by decide) rfl (fun h11 => ?_) (fun h11 => ?_)
  · skip
    refine E_aload0 (q := 19) dX6_readSet_18 rfl ?_
    refine E_ldc2 (q := 22) (v := codeL.getD 8 0) dX6_readSet_19 cn_X6_277 rfl ?_
    refine C_V1I (q := 25) lk_X6_273 (sp_X6_isWord (i := 8) h1 (by decide)) rc_X6 dX6_readSet_22 (by decide) (Nat.le_of_ble_eq_true rfl) rfl ?_
    refine V_int (zI_t1 c2) ?_
    refine E_if_eq (tgt := 32) (q := 28) dX6_readSet_25 (by decide) rfl (fun h25 => ?_) (fun h25 => ?_)
    · first | exact absurd h25 (by decide) | exact absurd (by decide) h25
    · skip
      refine E_iconst (v := nI 1) (q := 29) dX6_readSet_28 (by decide) rfl ?_
      refine E_goto (q := 33) dX6_readSet_29 (by decide) ?_
      refine E_istore1 (q := 34) dX6_readSet_33 rfl rfl ?_
      refine E_aload0 (q := 35) dX6_readSet_34 rfl ?_
      refine E_iload1 (q := 36) dX6_readSet_35 rfl ?_
      refine E_if_lt (tgt := 43) (q := 39) dX6_readSet_36 (by decide) rfl (fun h36 => ?_) (fun h36 => ?_)
      · first | exact absurd h36 (by decide) | exact absurd (by decide) h36
      · skip
        refine E_iconst (v := nI 1) (q := 40) dX6_readSet_39 (by decide) rfl ?_
        refine E_goto (q := 44) dX6_readSet_40 (by decide) ?_
        refine E_bipush (v := -11) (q := 46) dX6_readSet_44 (by decide) rfl ?_
        refine C_V2V (q := 49) lk_X6_247 (sp_X6_checkT) rc_X6 dX6_readSet_46 (by decide) (Nat.le_of_ble_eq_true rfl) rfl ?_
        refine E_aload0 (q := 50) dX6_readSet_49 rfl ?_
        refine G_X6_fault (q := 53) fl_X6_220 dX6_readSet_50 rfl ?_
        refine V_int h1.2.2.2.1 ?_
        refine E_if_eq (tgt := 57) (q := 56) dX6_readSet_53 (by decide) rfl (fun h53 => ?_) (fun h53 => ?_)
        · skip
          refine E_aload0 (q := 58) dX6_readSet_57 rfl ?_
          refine E_aload0 (q := 59) dX6_readSet_58 rfl ?_
          refine G_X6_given (q := 62) fl_X6_279 dX6_readSet_59 rfl ?_
          refine V_int h1.2.2.2.2.1 ?_
          refine E_iload1 (q := 63) dX6_readSet_62 rfl ?_
          refine E_ishr (q := 64) dX6_readSet_63 rfl ?_
          refine V_int (shr_nI (by omega) (by decide)) ?_
          refine E_iconst (v := nI 1) (q := 65) dX6_readSet_64 (by decide) rfl ?_
          refine E_iand (q := 66) dX6_readSet_65 rfl ?_
          refine V_int (and_one _) ?_
          refine V_int (tb_0 c3) ?_
          refine E_if_ne (tgt := 73) (q := 69) dX6_readSet_66 (by decide) rfl (fun h66 => ?_) (fun h66 => ?_)
          · first | exact absurd h66 (by decide) | exact absurd (by decide) h66
          · skip
            refine E_iconst (v := nI 1) (q := 70) dX6_readSet_69 (by decide) rfl ?_
            refine E_goto (q := 74) dX6_readSet_70 (by decide) ?_
            refine E_bipush (v := -14) (q := 76) dX6_readSet_74 (by decide) rfl ?_
            refine C_V2V (q := 79) lk_X6_247 (sp_X6_checkT) rc_X6 dX6_readSet_76 (by decide) (Nat.le_of_ble_eq_true rfl) rfl ?_
            refine E_aload0 (q := 80) dX6_readSet_79 rfl ?_
            refine E_dup (q := 81) dX6_readSet_80 rfl rfl ?_
            refine G_X6_given (q := 84) fl_X6_279 dX6_readSet_81 rfl ?_
            refine V_int h1.2.2.2.2.1 ?_
            refine E_iconst (v := nI 1) (q := 85) dX6_readSet_84 (by decide) rfl ?_
            refine E_iload1 (q := 86) dX6_readSet_85 rfl ?_
            refine E_ishl (q := 87) dX6_readSet_86 rfl ?_
            refine V_int (one_shl (by decide)) ?_
            refine E_ior (q := 88) dX6_readSet_87 rfl ?_
            refine V_int (nI_or _ _) ?_
            refine P_X6_given (q := 91) fl_X6_279 dX6_readSet_88 rfl ?_
            have h1g := h1.giv (show g ||| 2 ^ 1 < 4 by have := Nat.or_lt_two_pow (n := 2) hg4 (show 2 ^ 1 < 2 ^ 2 by decide); omega)
            refine E_aload0 (q := 92) dX6_readSet_91 rfl ?_
            refine C_V0Y (q := 95) lk_X6_254 (sp_X6_advR h1g) rc_X6 dX6_readSet_92 (by decide) (Nat.le_of_ble_eq_true rfl) rfl ?_
            refine kkEW ?_
            rintro M2 ⟨h2, f2⟩
            refine E_iload1 (q := 96) dX6_readSet_95 rfl ?_
            refine E_if_ne (tgt := 110) (q := 99) dX6_readSet_96 (by decide) rfl (fun h96 => ?_) (fun h96 => ?_)
            · skip
              refine E_aload0 (q := 111) dX6_readSet_110 rfl ?_
              refine E_iconst (v := nI 0) (q := 112) dX6_readSet_111 (by decide) rfl ?_
              refine E_iconst (v := nI 5) (q := 113) dX6_readSet_112 (by decide) rfl ?_
              refine C_V2I (q := 116) lk_X6_269 (sp_X6_integerR h2 c4 (by decide) (by decide) c5) rc_X6 dX6_readSet_113 (by decide) (Nat.le_of_ble_eq_true rfl) rfl ?_
              refine E_istore2 (q := 117) dX6_readSet_116 rfl rfl ?_
              refine E_aload0 (q := 118) dX6_readSet_117 rfl ?_
              refine G_X6_fault (q := 121) fl_X6_220 dX6_readSet_118 rfl ?_
              refine V_int ft_18 ?_
              refine E_if_ne (tgt := 131) (q := 124) dX6_readSet_121 (by decide) rfl (fun h121 => ?_) (fun h121 => ?_)
              · skip
                exact E_vreturn rfl rfl dX6_readSet_131 ⟨rfl, RPC_fail (by simp only [sSet, setR, ch_f c1, ch_t c2, intR, ch_f c3, ch_t c4, ch_f c5]) (by decide) h2 ((f1.tr (FrR.u (by decide))).tr f2)⟩
              · first | exact absurd h121 (by decide) | exact absurd (by decide) h121
            · first | exact absurd h96 (by decide) | exact absurd (by decide) h96
        · first | exact absurd h53 (by decide) | exact absurd (by decide) h53
  · first | exact absurd h11 (by decide) | exact absurd (by decide) h11
theorem sp_X6_readSetO1 (h : RdR M b n s g A) (hT : aT A + 1 < 2 ^ 24) (c1 : ¬ isW b n (nxt b n s) 7) (c2 : isW b n (nxt b n s) 8) (c3 : ¬ g.testBit 1 = true) (c4 : knd b n (nxt b n (nxt b n s)) = 2) (c5 : 0 ≤ itv b n (nxt b n (nxt b n s)) ∧ itv b n (nxt b n (nxt b n s)) ≤ 5) : Spec D 10 yX6_readSet cfX6_readSet [.ref (ad 157)] (wl D ad M) 0 0 (PY (RPC D ad M b n (sSet b n s g A))) := by
  refine Spec.of (by decide) rfl (Nat.le_of_ble_eq_true rfl) rfl ?_
  have hw := h.2.2.2.2.2.1
  have hI := h.2.2.2.2.2
  have hb := hI.2.2.1.1
  have hg4 := h.1.2
  refine E_aload0 (q := 1) dX6_readSet_0 rfl ?_
  refine C_V0Y (q := 4) lk_X6_254 (sp_X6_advR h) rc_X6 dX6_readSet_1 (by decide) (Nat.le_of_ble_eq_true rfl) rfl ?_
  refine kkEW ?_
  rintro M1 ⟨h1, f1⟩
  refine E_aload0 (q := 5) dX6_readSet_4 rfl ?_
  refine E_ldc2 (q := 8) (v := codeL.getD 7 0) dX6_readSet_5 cn_X6_271 rfl ?_
  refine C_V1I (q := 11) lk_X6_273 (sp_X6_isWord (i := 7) h1 (by decide)) rc_X6 dX6_readSet_8 (by decide) (Nat.le_of_ble_eq_true rfl) rfl ?_
  refine V_int (zI_f1 c1) ?_
  refine E_if_eq (tgt := 18) (q := 14) dX6_readSet_11 (by decide) rfl (fun h11 => ?_) (fun h11 => ?_)
  · skip
    refine E_aload0 (q := 19) dX6_readSet_18 rfl ?_
    refine E_ldc2 (q := 22) (v := codeL.getD 8 0) dX6_readSet_19 cn_X6_277 rfl ?_
    refine C_V1I (q := 25) lk_X6_273 (sp_X6_isWord (i := 8) h1 (by decide)) rc_X6 dX6_readSet_22 (by decide) (Nat.le_of_ble_eq_true rfl) rfl ?_
    refine V_int (zI_t1 c2) ?_
    refine E_if_eq (tgt := 32) (q := 28) dX6_readSet_25 (by decide) rfl (fun h25 => ?_) (fun h25 => ?_)
    · first | exact absurd h25 (by decide) | exact absurd (by decide) h25
    · skip
      refine E_iconst (v := nI 1) (q := 29) dX6_readSet_28 (by decide) rfl ?_
      refine E_goto (q := 33) dX6_readSet_29 (by decide) ?_
      refine E_istore1 (q := 34) dX6_readSet_33 rfl rfl ?_
      refine E_aload0 (q := 35) dX6_readSet_34 rfl ?_
      refine E_iload1 (q := 36) dX6_readSet_35 rfl ?_
      refine E_if_lt (tgt := 43) (q := 39) dX6_readSet_36 (by decide) rfl (fun h36 => ?_) (fun h36 => ?_)
      · first | exact absurd h36 (by decide) | exact absurd (by decide) h36
      · skip
        refine E_iconst (v := nI 1) (q := 40) dX6_readSet_39 (by decide) rfl ?_
        refine E_goto (q := 44) dX6_readSet_40 (by decide) ?_
        refine E_bipush (v := -11) (q := 46) dX6_readSet_44 (by decide) rfl ?_
        refine C_V2V (q := 49) lk_X6_247 (sp_X6_checkT) rc_X6 dX6_readSet_46 (by decide) (Nat.le_of_ble_eq_true rfl) rfl ?_
        refine E_aload0 (q := 50) dX6_readSet_49 rfl ?_
        refine G_X6_fault (q := 53) fl_X6_220 dX6_readSet_50 rfl ?_
        refine V_int h1.2.2.2.1 ?_
        refine E_if_eq (tgt := 57) (q := 56) dX6_readSet_53 (by decide) rfl (fun h53 => ?_) (fun h53 => ?_)
        · skip
          refine E_aload0 (q := 58) dX6_readSet_57 rfl ?_
          refine E_aload0 (q := 59) dX6_readSet_58 rfl ?_
          refine G_X6_given (q := 62) fl_X6_279 dX6_readSet_59 rfl ?_
          refine V_int h1.2.2.2.2.1 ?_
          refine E_iload1 (q := 63) dX6_readSet_62 rfl ?_
          refine E_ishr (q := 64) dX6_readSet_63 rfl ?_
          refine V_int (shr_nI (by omega) (by decide)) ?_
          refine E_iconst (v := nI 1) (q := 65) dX6_readSet_64 (by decide) rfl ?_
          refine E_iand (q := 66) dX6_readSet_65 rfl ?_
          refine V_int (and_one _) ?_
          refine V_int (tb_0 c3) ?_
          refine E_if_ne (tgt := 73) (q := 69) dX6_readSet_66 (by decide) rfl (fun h66 => ?_) (fun h66 => ?_)
          · first | exact absurd h66 (by decide) | exact absurd (by decide) h66
          · skip
            refine E_iconst (v := nI 1) (q := 70) dX6_readSet_69 (by decide) rfl ?_
            refine E_goto (q := 74) dX6_readSet_70 (by decide) ?_
            refine E_bipush (v := -14) (q := 76) dX6_readSet_74 (by decide) rfl ?_
            refine C_V2V (q := 79) lk_X6_247 (sp_X6_checkT) rc_X6 dX6_readSet_76 (by decide) (Nat.le_of_ble_eq_true rfl) rfl ?_
            refine E_aload0 (q := 80) dX6_readSet_79 rfl ?_
            refine E_dup (q := 81) dX6_readSet_80 rfl rfl ?_
            refine G_X6_given (q := 84) fl_X6_279 dX6_readSet_81 rfl ?_
            refine V_int h1.2.2.2.2.1 ?_
            refine E_iconst (v := nI 1) (q := 85) dX6_readSet_84 (by decide) rfl ?_
            refine E_iload1 (q := 86) dX6_readSet_85 rfl ?_
            refine E_ishl (q := 87) dX6_readSet_86 rfl ?_
            refine V_int (one_shl (by decide)) ?_
            refine E_ior (q := 88) dX6_readSet_87 rfl ?_
            refine V_int (nI_or _ _) ?_
            refine P_X6_given (q := 91) fl_X6_279 dX6_readSet_88 rfl ?_
            have h1g := h1.giv (show g ||| 2 ^ 1 < 4 by have := Nat.or_lt_two_pow (n := 2) hg4 (show 2 ^ 1 < 2 ^ 2 by decide); omega)
            refine E_aload0 (q := 92) dX6_readSet_91 rfl ?_
            refine C_V0Y (q := 95) lk_X6_254 (sp_X6_advR h1g) rc_X6 dX6_readSet_92 (by decide) (Nat.le_of_ble_eq_true rfl) rfl ?_
            refine kkEW ?_
            rintro M2 ⟨h2, f2⟩
            refine E_iload1 (q := 96) dX6_readSet_95 rfl ?_
            refine E_if_ne (tgt := 110) (q := 99) dX6_readSet_96 (by decide) rfl (fun h96 => ?_) (fun h96 => ?_)
            · skip
              refine E_aload0 (q := 111) dX6_readSet_110 rfl ?_
              refine E_iconst (v := nI 0) (q := 112) dX6_readSet_111 (by decide) rfl ?_
              refine E_iconst (v := nI 5) (q := 113) dX6_readSet_112 (by decide) rfl ?_
              refine C_V2X (q := 116) lk_X6_269 (sp_X6_integer h2 c4 (by decide) (by decide) c5) rc_X6 dX6_readSet_113 (by decide) (Nat.le_of_ble_eq_true rfl) rfl ?_
              refine kkEI ?_
              rintro M3 ⟨h3, f3⟩
              refine E_istore2 (q := 117) dX6_readSet_116 rfl rfl ?_
              refine E_aload0 (q := 118) dX6_readSet_117 rfl ?_
              refine G_X6_fault (q := 121) fl_X6_220 dX6_readSet_118 rfl ?_
              refine V_int h3.2.2.2.1 ?_
              refine E_if_ne (tgt := 131) (q := 124) dX6_readSet_121 (by decide) rfl (fun h121 => ?_) (fun h121 => ?_)
              · first | exact absurd h121 (by decide) | exact absurd (by decide) h121
              · skip
                refine E_aload0 (q := 125) dX6_readSet_124 rfl ?_
                have hw1 := h3.2.2.2.2.2.1
                refine G_X6_w (q := 128) (x := 163) hw1 fl_X6_16 dX6_readSet_125 rfl ?_
                refine E_iload1 (q := 129) dX6_readSet_128 rfl ?_
                refine E_iload2 (q := 130) dX6_readSet_129 rfl ?_
                refine E_iastN (q := 131) hw1.2 (show 1 < 739 by decide) (by decide) dX6_readSet_130 rfl ?_
                exact E_vreturn rfl rfl dX6_readSet_131 ⟨rfl, RPC_ok (by simp only [sSet, setR, ch_f c1, ch_t c2, intR, ch_f c3, ch_t c4, ch_t c5]) (h3.wr (h3.2.2.2.2.2.set (RowIs.setR (k := 1) h3.2.2.2.2.2.2.1 (by decide)) (setA_WF hI.2.2 (by omega))) (fun c hc => upd2_row hc)) ((((f1.tr (FrR.u (by decide))).tr f2).tr f3).tr (FrR.w (fun c hc => upd2_row hc)))⟩
            · first | exact absurd h96 (by decide) | exact absurd (by decide) h96
        · first | exact absurd h53 (by decide) | exact absurd (by decide) h53
  · first | exact absurd h11 (by decide) | exact absurd (by decide) h11
theorem sp_X6_readSet (h : RdR M b n s g A) (hT : aT A + 1 < 2 ^ 24) : Spec D 10 yX6_readSet cfX6_readSet [.ref (ad 157)] (wl D ad M) 0 0 (PY (RPC D ad M b n (sSet b n s g A))) := by
  by_cases c1 : isW b n (nxt b n s) 7
  · by_cases c3 : g.testBit 0 = true
    · exact sp_X6_readSetG0 h hT c1 c3
    · by_cases c4 : knd b n (nxt b n (nxt b n s)) = 2
      · by_cases c5 : 1 ≤ itv b n (nxt b n (nxt b n s)) ∧ itv b n (nxt b n (nxt b n s)) ≤ 999
        · exact sp_X6_readSetO0 h hT c1 c3 c4 c5
        · exact sp_X6_readSetR0 h hT c1 c3 c4 c5
      · exact sp_X6_readSetK0 h hT c1 c3 c4
  · by_cases c2 : isW b n (nxt b n s) 8
    · by_cases c3 : g.testBit 1 = true
      · exact sp_X6_readSetG1 h hT c1 c2 c3
      · by_cases c4 : knd b n (nxt b n (nxt b n s)) = 2
        · by_cases c5 : 0 ≤ itv b n (nxt b n (nxt b n s)) ∧ itv b n (nxt b n (nxt b n s)) ≤ 5
          · exact sp_X6_readSetO1 h hT c1 c2 c3 c4 c5
          · exact sp_X6_readSetR1 h hT c1 c2 c3 c4 c5
        · exact sp_X6_readSetK1 h hT c1 c2 c3 c4
    · exact sp_X6_readSetN h hT c1 c2
def FrS (M M' : Mem) : Prop := (∀ c, c ≠ 157 → c ≠ 163 → M' c = M c) ∧ ∀ j, ¬ (12 ≤ j ∧ j ≤ 21) → j ≠ 1016 → M' 157 j = M 157 j
theorem FrS.rf : FrS M M := ⟨fun _ _ _ => rfl, fun _ _ _ => rfl⟩
theorem FrS.tr {M1 M2 : Mem} (h : FrS M M1) (h2 : FrS M1 M2) : FrS M M2 := ⟨fun c a d => (h2.1 c a d).trans (h.1 c a d), fun j a d => (h2.2 j a d).trans (h.2 j a d)⟩
theorem FrR_s {M1 : Mem} (h : FrR M M1) : FrS M M1 := ⟨h.1, fun j a d => h.2 j (by omega) d⟩
theorem FrS.u {j : Nat} {v : Int32} (hj : 12 ≤ j ∧ j ≤ 21) : FrS M (upd2 M 157 j v) := ⟨fun c a _ => upd2_row a, fun i a _ => upd2_ne (by omega)⟩
/-- a statement's answer, the statements counted -/
def RPS (D : va_G) (ad : Nat → Nat) (M : Mem) (b : Nat → Nat) (n k : Nat) : LR → va_W → Prop
  | .inl (c, t) => fun w => ∃ M', w = wl D ad M' ∧ M' 157 18 = c ∧ c ≠ 0 ∧ M' 157 13 = nI t ∧ FrS M M'
  | .inr (s', g', A') => fun w => ∃ M', w = wl D ad M' ∧ RdR M' b n s' g' A' ∧ M' 157 21 = nI (k + 1) ∧ FrS M M'
theorem RdR.cnt {v : Int32} (h : RdR M b n s g A) : RdR (upd2 M 157 21 v) b n s g A := by
  obtain ⟨h1, ⟨t1, t2, t3, t4⟩, hL, h18, h20, hI⟩ := h
  refine ⟨h1, ⟨by rw [upd2_ne (by decide)]; exact t1, t2, t3, fun i hi => by rw [upd2_row (by decide)]; exact t4 i hi⟩, ?_, by rw [upd2_ne (by decide)]; exact h18, by rw [upd2_ne (by decide)]; exact h20, hI.u (by decide)⟩
  unfold LxR
  rw [upd2_ne (by decide), upd2_ne (by decide), upd2_ne (by decide), upd2_ne (by decide), upd2_ne (by decide), upd2_ne (by decide), upd2_ne (by decide)]
  exact hL
theorem tl_X6_readStatement {r : LR} {w : va_W} {k : Nat} (h21 : M 157 21 = nI k) (hp : RPC D ad M b n r w) : V D cfX6_readStatement (rmOf 12 0 0) (QM D (PY (RPS D ad M b n k (endR b n r))) 0 0) 0 0 126 [some (.ref (ad 157))] [] w := by
  match r, hp with
  | .inl (c, t), hp =>
    obtain ⟨M1, h2, h18, hc, h13, hF⟩ := hp
    have hx : M1 157 18 ≠ 0 := by rw [h18]; exact hc
    rw [h2]
    refine E_aload0 (q := 127) dX6_readStatement_126 rfl ?_
    refine E_aload0 (q := 128) dX6_readStatement_127 rfl ?_
    refine G_X6_token (q := 131) fl_X6_239 dX6_readStatement_128 rfl ?_
    refine E_iconst (v := nI 3) (q := 132) dX6_readStatement_131 (by decide) rfl ?_
    refine E_icmp_ne (tgt := 139) (q := 135) dX6_readStatement_132 (by decide) rfl (fun h132 => ?_) (fun h132 => ?_)
    · skip
      refine E_iconst (v := nI 0) (q := 140) dX6_readStatement_139 (by decide) rfl ?_
      refine E_bipush (v := -11) (q := 142) dX6_readStatement_140 (by decide) rfl ?_
      refine C_V2V (q := 145) lk_X6_247 (sp_X6_checkX hx) rc_X6 dX6_readStatement_142 (by decide) (Nat.le_of_ble_eq_true rfl) rfl ?_
      refine E_aload0 (q := 146) dX6_readStatement_145 rfl ?_
      refine C_V0V (q := 149) lk_X6_254 (sp_X6_advanceX hx) rc_X6 dX6_readStatement_146 (by decide) (Nat.le_of_ble_eq_true rfl) rfl ?_
      refine E_aload0 (q := 150) dX6_readStatement_149 rfl ?_
      refine E_dup (q := 151) dX6_readStatement_150 rfl rfl ?_
      refine G_X6_statements (q := 154) fl_X6_317 dX6_readStatement_151 rfl ?_
      refine E_iconst (v := nI 1) (q := 155) dX6_readStatement_154 (by decide) rfl ?_
      refine E_iadd (q := 156) dX6_readStatement_155 rfl ?_
      refine P_X6_statements (q := 159) fl_X6_317 dX6_readStatement_156 rfl ?_
      exact E_vreturn rfl rfl dX6_readStatement_159 ⟨rfl, _, rfl, by rw [upd2_ne (by decide)]; exact h18, hc, by rw [upd2_ne (by decide)]; exact h13, (FrR_s hF).tr (FrS.u (by decide))⟩
    · skip
      refine E_iconst (v := nI 1) (q := 136) dX6_readStatement_135 (by decide) rfl ?_
      refine E_goto (q := 140) dX6_readStatement_136 (by decide) ?_
      refine E_bipush (v := -11) (q := 142) dX6_readStatement_140 (by decide) rfl ?_
      refine C_V2V (q := 145) lk_X6_247 (sp_X6_checkX hx) rc_X6 dX6_readStatement_142 (by decide) (Nat.le_of_ble_eq_true rfl) rfl ?_
      refine E_aload0 (q := 146) dX6_readStatement_145 rfl ?_
      refine C_V0V (q := 149) lk_X6_254 (sp_X6_advanceX hx) rc_X6 dX6_readStatement_146 (by decide) (Nat.le_of_ble_eq_true rfl) rfl ?_
      refine E_aload0 (q := 150) dX6_readStatement_149 rfl ?_
      refine E_dup (q := 151) dX6_readStatement_150 rfl rfl ?_
      refine G_X6_statements (q := 154) fl_X6_317 dX6_readStatement_151 rfl ?_
      refine E_iconst (v := nI 1) (q := 155) dX6_readStatement_154 (by decide) rfl ?_
      refine E_iadd (q := 156) dX6_readStatement_155 rfl ?_
      refine P_X6_statements (q := 159) fl_X6_317 dX6_readStatement_156 rfl ?_
      exact E_vreturn rfl rfl dX6_readStatement_159 ⟨rfl, _, rfl, by rw [upd2_ne (by decide)]; exact h18, hc, by rw [upd2_ne (by decide)]; exact h13, (FrR_s hF).tr (FrS.u (by decide))⟩
  | .inr (t, g', A'), hp =>
    obtain ⟨M1, h2, h3, hF⟩ := hp
    have hk4 := knd_le (b := b) (n := n) (q := t)
    rw [h2]
    by_cases c : knd b n t = 3
    · skip
      refine E_aload0 (q := 127) dX6_readStatement_126 rfl ?_
      refine E_aload0 (q := 128) dX6_readStatement_127 rfl ?_
      refine G_X6_token (q := 131) fl_X6_239 dX6_readStatement_128 rfl ?_
      refine V_int (h3.2.2.1.2.2.1.trans (congrArg nI c)) ?_
      refine E_iconst (v := nI 3) (q := 132) dX6_readStatement_131 (by decide) rfl ?_
      refine E_icmp_neN (tgt := 139) (q := 135) dX6_readStatement_132 (by decide) rfl (by omega) (by omega) (fun h132 => ?_) (fun h132 => ?_)
      · first | exact absurd h132 (by decide) | exact absurd (by decide) h132
      · skip
        refine E_iconst (v := nI 1) (q := 136) dX6_readStatement_135 (by decide) rfl ?_
        refine E_goto (q := 140) dX6_readStatement_136 (by decide) ?_
        refine E_bipush (v := -11) (q := 142) dX6_readStatement_140 (by decide) rfl ?_
        refine C_V2V (q := 145) lk_X6_247 (sp_X6_checkT) rc_X6 dX6_readStatement_142 (by decide) (Nat.le_of_ble_eq_true rfl) rfl ?_
        refine E_aload0 (q := 146) dX6_readStatement_145 rfl ?_
        refine C_V0Y (q := 149) lk_X6_254 (sp_X6_advR h3) rc_X6 dX6_readStatement_146 (by decide) (Nat.le_of_ble_eq_true rfl) rfl ?_
        refine kkEW ?_
        rintro M2 ⟨h4, f4⟩
        refine E_aload0 (q := 150) dX6_readStatement_149 rfl ?_
        refine E_dup (q := 151) dX6_readStatement_150 rfl rfl ?_
        refine G_X6_statements (q := 154) fl_X6_317 dX6_readStatement_151 rfl ?_
        refine V_int (show _ = nI k by rw [f4.2 21 (by omega) (by omega), hF.2 21 (by omega) (by omega)]; exact h21) ?_
        refine E_iconst (v := nI 1) (q := 155) dX6_readStatement_154 (by decide) rfl ?_
        refine E_iaddN (q := 156) dX6_readStatement_155 rfl ?_
        refine P_X6_statements (q := 159) fl_X6_317 dX6_readStatement_156 rfl ?_
        exact E_vreturn rfl rfl dX6_readStatement_159 ⟨rfl, by rw [show endR b n (.inr (t, g', A')) = .inr (nxt b n t, g', A') by simp only [endR, ch_t c]]; exact ⟨_, rfl, h4.cnt, upd2_same, (FrR_s (hF.tr f4)).tr (FrS.u (by decide))⟩⟩
    · skip
      refine E_aload0 (q := 127) dX6_readStatement_126 rfl ?_
      refine E_aload0 (q := 128) dX6_readStatement_127 rfl ?_
      refine G_X6_token (q := 131) fl_X6_239 dX6_readStatement_128 rfl ?_
      refine V_int h3.2.2.1.2.2.1 ?_
      refine E_iconst (v := nI 3) (q := 132) dX6_readStatement_131 (by decide) rfl ?_
      refine E_icmp_neN (tgt := 139) (q := 135) dX6_readStatement_132 (by decide) rfl (by omega) (by omega) (fun h132 => ?_) (fun h132 => ?_)
      · skip
        refine E_iconst (v := nI 0) (q := 140) dX6_readStatement_139 (by decide) rfl ?_
        refine E_bipush (v := -11) (q := 142) dX6_readStatement_140 (by decide) rfl ?_
        refine C_V2V (q := 145) lk_X6_247 (sp_X6_checkF h3.2.2.2.1) rc_X6 dX6_readStatement_142 (by decide) (Nat.le_of_ble_eq_true rfl) rfl ?_
        refine E_aload0 (q := 146) dX6_readStatement_145 rfl ?_
        refine C_V0V (q := 149) lk_X6_254 (sp_X6_advanceX (ft_ne (by decide))) rc_X6 dX6_readStatement_146 (by decide) (Nat.le_of_ble_eq_true rfl) rfl ?_
        refine E_aload0 (q := 150) dX6_readStatement_149 rfl ?_
        refine E_dup (q := 151) dX6_readStatement_150 rfl rfl ?_
        refine G_X6_statements (q := 154) fl_X6_317 dX6_readStatement_151 rfl ?_
        refine E_iconst (v := nI 1) (q := 155) dX6_readStatement_154 (by decide) rfl ?_
        refine E_iadd (q := 156) dX6_readStatement_155 rfl ?_
        refine P_X6_statements (q := 159) fl_X6_317 dX6_readStatement_156 rfl ?_
        exact E_vreturn rfl rfl dX6_readStatement_159 ⟨rfl, by rw [show endR b n (.inr (t, g', A')) = .inl (-11, t) by simp only [endR, ch_f c]]; exact ⟨_, rfl, by rw [upd2_ne (by decide)]; exact ft_18, by decide, by unfold ft; rw [upd2_ne (by decide), upd2_ne (by decide)]; exact h3.2.2.1.2.1, ((FrR_s hF).tr (FrR_s FrR.ft)).tr (FrS.u (by decide))⟩⟩
      · skip
        exact absurd h132 c
theorem sp_X6_stmVolume {k : Nat} (h21 : M 157 21 = nI k) (h : RdR M b n s g A) (hT : aT A + 1 < 2 ^ 24)  (c0 : isW b n s 0) : Spec D 12 yX6_readStatement cfX6_readStatement [.ref (ad 157)] (wl D ad M) 0 0 (PY (RPS D ad M b n k (endR b n (sStm b n s g A)))) := by
  have hst : sStm b n s g A = sVol b n s g A := by simp only [sStm, ch_t c0]
  rw [hst]
  refine Spec.of (by decide) rfl (Nat.le_of_ble_eq_true rfl) rfl ?_
  refine E_aload0 (q := 1) dX6_readStatement_0 rfl ?_
  refine E_ldc2 (q := 4) (v := codeL.getD 0 0) dX6_readStatement_1 cn_X6_282 rfl ?_
  refine C_V1I (q := 7) lk_X6_273 (sp_X6_isWord (i := 0) h (by decide)) rc_X6 dX6_readStatement_4 (by decide) (Nat.le_of_ble_eq_true rfl) rfl ?_
  refine V_int (zI_t1 c0) ?_
  refine E_if_eq (tgt := 17) (q := 10) dX6_readStatement_7 (by decide) rfl (fun h7 => ?_) (fun h7 => ?_)
  · first | exact absurd h7 (by decide) | exact absurd (by decide) h7
  · skip
    refine E_aload0 (q := 11) dX6_readStatement_10 rfl ?_
    refine C_V0Y (q := 14) lk_X6_284 (sp_X6_readVolume h hT) rc_X6 dX6_readStatement_11 (by decide) (Nat.le_of_ble_eq_true rfl) rfl ?_
    rintro w hp
    refine E_goto (q := 126) dX6_readStatement_14 (by decide) ?_
    exact tl_X6_readStatement h21 hp
theorem sp_X6_stmWrite {k : Nat} (h21 : M 157 21 = nI k) (h : RdR M b n s g A) (hT : aT A + 1 < 2 ^ 24) (c0 : ¬ isW b n s 0) (c1 : isW b n s 1) : Spec D 12 yX6_readStatement cfX6_readStatement [.ref (ad 157)] (wl D ad M) 0 0 (PY (RPS D ad M b n k (endR b n (sStm b n s g A)))) := by
  have hst : sStm b n s g A = sWrite b n s g A := by simp only [sStm, ch_f c0, ch_t c1]
  rw [hst]
  refine Spec.of (by decide) rfl (Nat.le_of_ble_eq_true rfl) rfl ?_
  refine E_aload0 (q := 1) dX6_readStatement_0 rfl ?_
  refine E_ldc2 (q := 4) (v := codeL.getD 0 0) dX6_readStatement_1 cn_X6_282 rfl ?_
  refine C_V1I (q := 7) lk_X6_273 (sp_X6_isWord (i := 0) h (by decide)) rc_X6 dX6_readStatement_4 (by decide) (Nat.le_of_ble_eq_true rfl) rfl ?_
  refine V_int (zI_f1 c0) ?_
  refine E_if_eq (tgt := 17) (q := 10) dX6_readStatement_7 (by decide) rfl (fun h7 => ?_) (fun h7 => ?_)
  · skip
    refine E_aload0 (q := 18) dX6_readStatement_17 rfl ?_
    refine E_ldc2 (q := 21) (v := codeL.getD 1 0) dX6_readStatement_18 cn_X6_287 rfl ?_
    refine C_V1I (q := 24) lk_X6_273 (sp_X6_isWord (i := 1) h (by decide)) rc_X6 dX6_readStatement_21 (by decide) (Nat.le_of_ble_eq_true rfl) rfl ?_
    refine V_int (zI_t1 c1) ?_
    refine E_if_eq (tgt := 34) (q := 27) dX6_readStatement_24 (by decide) rfl (fun h24 => ?_) (fun h24 => ?_)
    · first | exact absurd h24 (by decide) | exact absurd (by decide) h24
    · skip
      refine E_aload0 (q := 28) dX6_readStatement_27 rfl ?_
      refine C_V0Y (q := 31) lk_X6_289 (sp_X6_readWrite h hT) rc_X6 dX6_readStatement_28 (by decide) (Nat.le_of_ble_eq_true rfl) rfl ?_
      rintro w hp
      refine E_goto (q := 126) dX6_readStatement_31 (by decide) ?_
      exact tl_X6_readStatement h21 hp
  · first | exact absurd h7 (by decide) | exact absurd (by decide) h7
theorem sp_X6_stmTrim {k : Nat} (h21 : M 157 21 = nI k) (h : RdR M b n s g A) (hT : aT A + 1 < 2 ^ 24) (c0 : ¬ isW b n s 0) (c1 : ¬ isW b n s 1) (c2 : isW b n s 2) : Spec D 12 yX6_readStatement cfX6_readStatement [.ref (ad 157)] (wl D ad M) 0 0 (PY (RPS D ad M b n k (endR b n (sStm b n s g A)))) := by
  have hst : sStm b n s g A = sTrim b n s g A := by simp only [sStm, ch_f c0, ch_f c1, ch_t c2]
  rw [hst]
  refine Spec.of (by decide) rfl (Nat.le_of_ble_eq_true rfl) rfl ?_
  refine E_aload0 (q := 1) dX6_readStatement_0 rfl ?_
  refine E_ldc2 (q := 4) (v := codeL.getD 0 0) dX6_readStatement_1 cn_X6_282 rfl ?_
  refine C_V1I (q := 7) lk_X6_273 (sp_X6_isWord (i := 0) h (by decide)) rc_X6 dX6_readStatement_4 (by decide) (Nat.le_of_ble_eq_true rfl) rfl ?_
  refine V_int (zI_f1 c0) ?_
  refine E_if_eq (tgt := 17) (q := 10) dX6_readStatement_7 (by decide) rfl (fun h7 => ?_) (fun h7 => ?_)
  · skip
    refine E_aload0 (q := 18) dX6_readStatement_17 rfl ?_
    refine E_ldc2 (q := 21) (v := codeL.getD 1 0) dX6_readStatement_18 cn_X6_287 rfl ?_
    refine C_V1I (q := 24) lk_X6_273 (sp_X6_isWord (i := 1) h (by decide)) rc_X6 dX6_readStatement_21 (by decide) (Nat.le_of_ble_eq_true rfl) rfl ?_
    refine V_int (zI_f1 c1) ?_
    refine E_if_eq (tgt := 34) (q := 27) dX6_readStatement_24 (by decide) rfl (fun h24 => ?_) (fun h24 => ?_)
    · skip
      refine E_aload0 (q := 35) dX6_readStatement_34 rfl ?_
      refine E_ldc2 (q := 38) (v := codeL.getD 2 0) dX6_readStatement_35 cn_X6_292 rfl ?_
      refine C_V1I (q := 41) lk_X6_273 (sp_X6_isWord (i := 2) h (by decide)) rc_X6 dX6_readStatement_38 (by decide) (Nat.le_of_ble_eq_true rfl) rfl ?_
      refine V_int (zI_t1 c2) ?_
      refine E_if_eq (tgt := 51) (q := 44) dX6_readStatement_41 (by decide) rfl (fun h41 => ?_) (fun h41 => ?_)
      · first | exact absurd h41 (by decide) | exact absurd (by decide) h41
      · skip
        refine E_aload0 (q := 45) dX6_readStatement_44 rfl ?_
        refine C_V0Y (q := 48) lk_X6_294 (sp_X6_readTrim h hT) rc_X6 dX6_readStatement_45 (by decide) (Nat.le_of_ble_eq_true rfl) rfl ?_
        rintro w hp
        refine E_goto (q := 126) dX6_readStatement_48 (by decide) ?_
        exact tl_X6_readStatement h21 hp
    · first | exact absurd h24 (by decide) | exact absurd (by decide) h24
  · first | exact absurd h7 (by decide) | exact absurd (by decide) h7
theorem sp_X6_stmSnap {k : Nat} (h21 : M 157 21 = nI k) (h : RdR M b n s g A) (hT : aT A + 1 < 2 ^ 24) (c0 : ¬ isW b n s 0) (c1 : ¬ isW b n s 1) (c2 : ¬ isW b n s 2) (c3 : isW b n s 3) : Spec D 12 yX6_readStatement cfX6_readStatement [.ref (ad 157)] (wl D ad M) 0 0 (PY (RPS D ad M b n k (endR b n (sStm b n s g A)))) := by
  have hst : sStm b n s g A = sSnap b n s g A := by simp only [sStm, ch_f c0, ch_f c1, ch_f c2, ch_t c3]
  rw [hst]
  refine Spec.of (by decide) rfl (Nat.le_of_ble_eq_true rfl) rfl ?_
  refine E_aload0 (q := 1) dX6_readStatement_0 rfl ?_
  refine E_ldc2 (q := 4) (v := codeL.getD 0 0) dX6_readStatement_1 cn_X6_282 rfl ?_
  refine C_V1I (q := 7) lk_X6_273 (sp_X6_isWord (i := 0) h (by decide)) rc_X6 dX6_readStatement_4 (by decide) (Nat.le_of_ble_eq_true rfl) rfl ?_
  refine V_int (zI_f1 c0) ?_
  refine E_if_eq (tgt := 17) (q := 10) dX6_readStatement_7 (by decide) rfl (fun h7 => ?_) (fun h7 => ?_)
  · skip
    refine E_aload0 (q := 18) dX6_readStatement_17 rfl ?_
    refine E_ldc2 (q := 21) (v := codeL.getD 1 0) dX6_readStatement_18 cn_X6_287 rfl ?_
    refine C_V1I (q := 24) lk_X6_273 (sp_X6_isWord (i := 1) h (by decide)) rc_X6 dX6_readStatement_21 (by decide) (Nat.le_of_ble_eq_true rfl) rfl ?_
    refine V_int (zI_f1 c1) ?_
    refine E_if_eq (tgt := 34) (q := 27) dX6_readStatement_24 (by decide) rfl (fun h24 => ?_) (fun h24 => ?_)
    · skip
      refine E_aload0 (q := 35) dX6_readStatement_34 rfl ?_
      refine E_ldc2 (q := 38) (v := codeL.getD 2 0) dX6_readStatement_35 cn_X6_292 rfl ?_
      refine C_V1I (q := 41) lk_X6_273 (sp_X6_isWord (i := 2) h (by decide)) rc_X6 dX6_readStatement_38 (by decide) (Nat.le_of_ble_eq_true rfl) rfl ?_
      refine V_int (zI_f1 c2) ?_
      refine E_if_eq (tgt := 51) (q := 44) dX6_readStatement_41 (by decide) rfl (fun h41 => ?_) (fun h41 => ?_)
      · skip
        refine E_aload0 (q := 52) dX6_readStatement_51 rfl ?_
        refine E_ldc2 (q := 55) (v := codeL.getD 3 0) dX6_readStatement_52 cn_X6_297 rfl ?_
        refine C_V1I (q := 58) lk_X6_273 (sp_X6_isWord (i := 3) h (by decide)) rc_X6 dX6_readStatement_55 (by decide) (Nat.le_of_ble_eq_true rfl) rfl ?_
        refine V_int (zI_t1 c3) ?_
        refine E_if_eq (tgt := 68) (q := 61) dX6_readStatement_58 (by decide) rfl (fun h58 => ?_) (fun h58 => ?_)
        · first | exact absurd h58 (by decide) | exact absurd (by decide) h58
        · skip
          refine E_aload0 (q := 62) dX6_readStatement_61 rfl ?_
          refine C_V0Y (q := 65) lk_X6_299 (sp_X6_readSnap h hT) rc_X6 dX6_readStatement_62 (by decide) (Nat.le_of_ble_eq_true rfl) rfl ?_
          rintro w hp
          refine E_goto (q := 126) dX6_readStatement_65 (by decide) ?_
          exact tl_X6_readStatement h21 hp
      · first | exact absurd h41 (by decide) | exact absurd (by decide) h41
    · first | exact absurd h24 (by decide) | exact absurd (by decide) h24
  · first | exact absurd h7 (by decide) | exact absurd (by decide) h7
theorem sp_X6_stmClone {k : Nat} (h21 : M 157 21 = nI k) (h : RdR M b n s g A) (hT : aT A + 1 < 2 ^ 24) (c0 : ¬ isW b n s 0) (c1 : ¬ isW b n s 1) (c2 : ¬ isW b n s 2) (c3 : ¬ isW b n s 3) (c4 : isW b n s 4) : Spec D 12 yX6_readStatement cfX6_readStatement [.ref (ad 157)] (wl D ad M) 0 0 (PY (RPS D ad M b n k (endR b n (sStm b n s g A)))) := by
  have hst : sStm b n s g A = sClone b n s g A := by simp only [sStm, ch_f c0, ch_f c1, ch_f c2, ch_f c3, ch_t c4]
  rw [hst]
  refine Spec.of (by decide) rfl (Nat.le_of_ble_eq_true rfl) rfl ?_
  refine E_aload0 (q := 1) dX6_readStatement_0 rfl ?_
  refine E_ldc2 (q := 4) (v := codeL.getD 0 0) dX6_readStatement_1 cn_X6_282 rfl ?_
  refine C_V1I (q := 7) lk_X6_273 (sp_X6_isWord (i := 0) h (by decide)) rc_X6 dX6_readStatement_4 (by decide) (Nat.le_of_ble_eq_true rfl) rfl ?_
  refine V_int (zI_f1 c0) ?_
  refine E_if_eq (tgt := 17) (q := 10) dX6_readStatement_7 (by decide) rfl (fun h7 => ?_) (fun h7 => ?_)
  · skip
    refine E_aload0 (q := 18) dX6_readStatement_17 rfl ?_
    refine E_ldc2 (q := 21) (v := codeL.getD 1 0) dX6_readStatement_18 cn_X6_287 rfl ?_
    refine C_V1I (q := 24) lk_X6_273 (sp_X6_isWord (i := 1) h (by decide)) rc_X6 dX6_readStatement_21 (by decide) (Nat.le_of_ble_eq_true rfl) rfl ?_
    refine V_int (zI_f1 c1) ?_
    refine E_if_eq (tgt := 34) (q := 27) dX6_readStatement_24 (by decide) rfl (fun h24 => ?_) (fun h24 => ?_)
    · skip
      refine E_aload0 (q := 35) dX6_readStatement_34 rfl ?_
      refine E_ldc2 (q := 38) (v := codeL.getD 2 0) dX6_readStatement_35 cn_X6_292 rfl ?_
      refine C_V1I (q := 41) lk_X6_273 (sp_X6_isWord (i := 2) h (by decide)) rc_X6 dX6_readStatement_38 (by decide) (Nat.le_of_ble_eq_true rfl) rfl ?_
      refine V_int (zI_f1 c2) ?_
      refine E_if_eq (tgt := 51) (q := 44) dX6_readStatement_41 (by decide) rfl (fun h41 => ?_) (fun h41 => ?_)
      · skip
        refine E_aload0 (q := 52) dX6_readStatement_51 rfl ?_
        refine E_ldc2 (q := 55) (v := codeL.getD 3 0) dX6_readStatement_52 cn_X6_297 rfl ?_
        refine C_V1I (q := 58) lk_X6_273 (sp_X6_isWord (i := 3) h (by decide)) rc_X6 dX6_readStatement_55 (by decide) (Nat.le_of_ble_eq_true rfl) rfl ?_
        refine V_int (zI_f1 c3) ?_
        refine E_if_eq (tgt := 68) (q := 61) dX6_readStatement_58 (by decide) rfl (fun h58 => ?_) (fun h58 => ?_)
        · skip
          refine E_aload0 (q := 69) dX6_readStatement_68 rfl ?_
          refine E_ldc2 (q := 72) (v := codeL.getD 4 0) dX6_readStatement_69 cn_X6_302 rfl ?_
          refine C_V1I (q := 75) lk_X6_273 (sp_X6_isWord (i := 4) h (by decide)) rc_X6 dX6_readStatement_72 (by decide) (Nat.le_of_ble_eq_true rfl) rfl ?_
          refine V_int (zI_t1 c4) ?_
          refine E_if_eq (tgt := 85) (q := 78) dX6_readStatement_75 (by decide) rfl (fun h75 => ?_) (fun h75 => ?_)
          · first | exact absurd h75 (by decide) | exact absurd (by decide) h75
          · skip
            refine E_aload0 (q := 79) dX6_readStatement_78 rfl ?_
            refine C_V0Y (q := 82) lk_X6_304 (sp_X6_readClone h hT) rc_X6 dX6_readStatement_79 (by decide) (Nat.le_of_ble_eq_true rfl) rfl ?_
            rintro w hp
            refine E_goto (q := 126) dX6_readStatement_82 (by decide) ?_
            exact tl_X6_readStatement h21 hp
        · first | exact absurd h58 (by decide) | exact absurd (by decide) h58
      · first | exact absurd h41 (by decide) | exact absurd (by decide) h41
    · first | exact absurd h24 (by decide) | exact absurd (by decide) h24
  · first | exact absurd h7 (by decide) | exact absurd (by decide) h7
theorem sp_X6_stmHold {k : Nat} (h21 : M 157 21 = nI k) (h : RdR M b n s g A) (hT : aT A + 1 < 2 ^ 24) (c0 : ¬ isW b n s 0) (c1 : ¬ isW b n s 1) (c2 : ¬ isW b n s 2) (c3 : ¬ isW b n s 3) (c4 : ¬ isW b n s 4) (c5 : isW b n s 5) : Spec D 12 yX6_readStatement cfX6_readStatement [.ref (ad 157)] (wl D ad M) 0 0 (PY (RPS D ad M b n k (endR b n (sStm b n s g A)))) := by
  have hst : sStm b n s g A = sHold b n s g A := by simp only [sStm, ch_f c0, ch_f c1, ch_f c2, ch_f c3, ch_f c4, ch_t c5]
  rw [hst]
  refine Spec.of (by decide) rfl (Nat.le_of_ble_eq_true rfl) rfl ?_
  refine E_aload0 (q := 1) dX6_readStatement_0 rfl ?_
  refine E_ldc2 (q := 4) (v := codeL.getD 0 0) dX6_readStatement_1 cn_X6_282 rfl ?_
  refine C_V1I (q := 7) lk_X6_273 (sp_X6_isWord (i := 0) h (by decide)) rc_X6 dX6_readStatement_4 (by decide) (Nat.le_of_ble_eq_true rfl) rfl ?_
  refine V_int (zI_f1 c0) ?_
  refine E_if_eq (tgt := 17) (q := 10) dX6_readStatement_7 (by decide) rfl (fun h7 => ?_) (fun h7 => ?_)
  · skip
    refine E_aload0 (q := 18) dX6_readStatement_17 rfl ?_
    refine E_ldc2 (q := 21) (v := codeL.getD 1 0) dX6_readStatement_18 cn_X6_287 rfl ?_
    refine C_V1I (q := 24) lk_X6_273 (sp_X6_isWord (i := 1) h (by decide)) rc_X6 dX6_readStatement_21 (by decide) (Nat.le_of_ble_eq_true rfl) rfl ?_
    refine V_int (zI_f1 c1) ?_
    refine E_if_eq (tgt := 34) (q := 27) dX6_readStatement_24 (by decide) rfl (fun h24 => ?_) (fun h24 => ?_)
    · skip
      refine E_aload0 (q := 35) dX6_readStatement_34 rfl ?_
      refine E_ldc2 (q := 38) (v := codeL.getD 2 0) dX6_readStatement_35 cn_X6_292 rfl ?_
      refine C_V1I (q := 41) lk_X6_273 (sp_X6_isWord (i := 2) h (by decide)) rc_X6 dX6_readStatement_38 (by decide) (Nat.le_of_ble_eq_true rfl) rfl ?_
      refine V_int (zI_f1 c2) ?_
      refine E_if_eq (tgt := 51) (q := 44) dX6_readStatement_41 (by decide) rfl (fun h41 => ?_) (fun h41 => ?_)
      · skip
        refine E_aload0 (q := 52) dX6_readStatement_51 rfl ?_
        refine E_ldc2 (q := 55) (v := codeL.getD 3 0) dX6_readStatement_52 cn_X6_297 rfl ?_
        refine C_V1I (q := 58) lk_X6_273 (sp_X6_isWord (i := 3) h (by decide)) rc_X6 dX6_readStatement_55 (by decide) (Nat.le_of_ble_eq_true rfl) rfl ?_
        refine V_int (zI_f1 c3) ?_
        refine E_if_eq (tgt := 68) (q := 61) dX6_readStatement_58 (by decide) rfl (fun h58 => ?_) (fun h58 => ?_)
        · skip
          refine E_aload0 (q := 69) dX6_readStatement_68 rfl ?_
          refine E_ldc2 (q := 72) (v := codeL.getD 4 0) dX6_readStatement_69 cn_X6_302 rfl ?_
          refine C_V1I (q := 75) lk_X6_273 (sp_X6_isWord (i := 4) h (by decide)) rc_X6 dX6_readStatement_72 (by decide) (Nat.le_of_ble_eq_true rfl) rfl ?_
          refine V_int (zI_f1 c4) ?_
          refine E_if_eq (tgt := 85) (q := 78) dX6_readStatement_75 (by decide) rfl (fun h75 => ?_) (fun h75 => ?_)
          · skip
            refine E_aload0 (q := 86) dX6_readStatement_85 rfl ?_
            refine E_ldc2 (q := 89) (v := codeL.getD 5 0) dX6_readStatement_86 cn_X6_307 rfl ?_
            refine C_V1I (q := 92) lk_X6_273 (sp_X6_isWord (i := 5) h (by decide)) rc_X6 dX6_readStatement_89 (by decide) (Nat.le_of_ble_eq_true rfl) rfl ?_
            refine V_int (zI_t1 c5) ?_
            refine E_if_eq (tgt := 102) (q := 95) dX6_readStatement_92 (by decide) rfl (fun h92 => ?_) (fun h92 => ?_)
            · first | exact absurd h92 (by decide) | exact absurd (by decide) h92
            · skip
              refine E_aload0 (q := 96) dX6_readStatement_95 rfl ?_
              refine C_V0Y (q := 99) lk_X6_309 (sp_X6_readHold h hT) rc_X6 dX6_readStatement_96 (by decide) (Nat.le_of_ble_eq_true rfl) rfl ?_
              rintro w hp
              refine E_goto (q := 126) dX6_readStatement_99 (by decide) ?_
              exact tl_X6_readStatement h21 hp
          · first | exact absurd h75 (by decide) | exact absurd (by decide) h75
        · first | exact absurd h58 (by decide) | exact absurd (by decide) h58
      · first | exact absurd h41 (by decide) | exact absurd (by decide) h41
    · first | exact absurd h24 (by decide) | exact absurd (by decide) h24
  · first | exact absurd h7 (by decide) | exact absurd (by decide) h7
theorem sp_X6_stmSet {k : Nat} (h21 : M 157 21 = nI k) (h : RdR M b n s g A) (hT : aT A + 1 < 2 ^ 24) (c0 : ¬ isW b n s 0) (c1 : ¬ isW b n s 1) (c2 : ¬ isW b n s 2) (c3 : ¬ isW b n s 3) (c4 : ¬ isW b n s 4) (c5 : ¬ isW b n s 5) (c6 : isW b n s 6) : Spec D 12 yX6_readStatement cfX6_readStatement [.ref (ad 157)] (wl D ad M) 0 0 (PY (RPS D ad M b n k (endR b n (sStm b n s g A)))) := by
  have hst : sStm b n s g A = sSet b n s g A := by simp only [sStm, ch_f c0, ch_f c1, ch_f c2, ch_f c3, ch_f c4, ch_f c5, ch_t c6]
  rw [hst]
  refine Spec.of (by decide) rfl (Nat.le_of_ble_eq_true rfl) rfl ?_
  refine E_aload0 (q := 1) dX6_readStatement_0 rfl ?_
  refine E_ldc2 (q := 4) (v := codeL.getD 0 0) dX6_readStatement_1 cn_X6_282 rfl ?_
  refine C_V1I (q := 7) lk_X6_273 (sp_X6_isWord (i := 0) h (by decide)) rc_X6 dX6_readStatement_4 (by decide) (Nat.le_of_ble_eq_true rfl) rfl ?_
  refine V_int (zI_f1 c0) ?_
  refine E_if_eq (tgt := 17) (q := 10) dX6_readStatement_7 (by decide) rfl (fun h7 => ?_) (fun h7 => ?_)
  · skip
    refine E_aload0 (q := 18) dX6_readStatement_17 rfl ?_
    refine E_ldc2 (q := 21) (v := codeL.getD 1 0) dX6_readStatement_18 cn_X6_287 rfl ?_
    refine C_V1I (q := 24) lk_X6_273 (sp_X6_isWord (i := 1) h (by decide)) rc_X6 dX6_readStatement_21 (by decide) (Nat.le_of_ble_eq_true rfl) rfl ?_
    refine V_int (zI_f1 c1) ?_
    refine E_if_eq (tgt := 34) (q := 27) dX6_readStatement_24 (by decide) rfl (fun h24 => ?_) (fun h24 => ?_)
    · skip
      refine E_aload0 (q := 35) dX6_readStatement_34 rfl ?_
      refine E_ldc2 (q := 38) (v := codeL.getD 2 0) dX6_readStatement_35 cn_X6_292 rfl ?_
      refine C_V1I (q := 41) lk_X6_273 (sp_X6_isWord (i := 2) h (by decide)) rc_X6 dX6_readStatement_38 (by decide) (Nat.le_of_ble_eq_true rfl) rfl ?_
      refine V_int (zI_f1 c2) ?_
      refine E_if_eq (tgt := 51) (q := 44) dX6_readStatement_41 (by decide) rfl (fun h41 => ?_) (fun h41 => ?_)
      · skip
        refine E_aload0 (q := 52) dX6_readStatement_51 rfl ?_
        refine E_ldc2 (q := 55) (v := codeL.getD 3 0) dX6_readStatement_52 cn_X6_297 rfl ?_
        refine C_V1I (q := 58) lk_X6_273 (sp_X6_isWord (i := 3) h (by decide)) rc_X6 dX6_readStatement_55 (by decide) (Nat.le_of_ble_eq_true rfl) rfl ?_
        refine V_int (zI_f1 c3) ?_
        refine E_if_eq (tgt := 68) (q := 61) dX6_readStatement_58 (by decide) rfl (fun h58 => ?_) (fun h58 => ?_)
        · skip
          refine E_aload0 (q := 69) dX6_readStatement_68 rfl ?_
          refine E_ldc2 (q := 72) (v := codeL.getD 4 0) dX6_readStatement_69 cn_X6_302 rfl ?_
          refine C_V1I (q := 75) lk_X6_273 (sp_X6_isWord (i := 4) h (by decide)) rc_X6 dX6_readStatement_72 (by decide) (Nat.le_of_ble_eq_true rfl) rfl ?_
          refine V_int (zI_f1 c4) ?_
          refine E_if_eq (tgt := 85) (q := 78) dX6_readStatement_75 (by decide) rfl (fun h75 => ?_) (fun h75 => ?_)
          · skip
            refine E_aload0 (q := 86) dX6_readStatement_85 rfl ?_
            refine E_ldc2 (q := 89) (v := codeL.getD 5 0) dX6_readStatement_86 cn_X6_307 rfl ?_
            refine C_V1I (q := 92) lk_X6_273 (sp_X6_isWord (i := 5) h (by decide)) rc_X6 dX6_readStatement_89 (by decide) (Nat.le_of_ble_eq_true rfl) rfl ?_
            refine V_int (zI_f1 c5) ?_
            refine E_if_eq (tgt := 102) (q := 95) dX6_readStatement_92 (by decide) rfl (fun h92 => ?_) (fun h92 => ?_)
            · skip
              refine E_aload0 (q := 103) dX6_readStatement_102 rfl ?_
              refine E_ldc2 (q := 106) (v := codeL.getD 6 0) dX6_readStatement_103 cn_X6_312 rfl ?_
              refine C_V1I (q := 109) lk_X6_273 (sp_X6_isWord (i := 6) h (by decide)) rc_X6 dX6_readStatement_106 (by decide) (Nat.le_of_ble_eq_true rfl) rfl ?_
              refine V_int (zI_t1 c6) ?_
              refine E_if_eq (tgt := 119) (q := 112) dX6_readStatement_109 (by decide) rfl (fun h109 => ?_) (fun h109 => ?_)
              · first | exact absurd h109 (by decide) | exact absurd (by decide) h109
              · skip
                refine E_aload0 (q := 113) dX6_readStatement_112 rfl ?_
                refine C_V0Y (q := 116) lk_X6_314 (sp_X6_readSet h hT) rc_X6 dX6_readStatement_113 (by decide) (Nat.le_of_ble_eq_true rfl) rfl ?_
                rintro w hp
                refine E_goto (q := 126) dX6_readStatement_116 (by decide) ?_
                exact tl_X6_readStatement h21 hp
            · first | exact absurd h92 (by decide) | exact absurd (by decide) h92
          · first | exact absurd h75 (by decide) | exact absurd (by decide) h75
        · first | exact absurd h58 (by decide) | exact absurd (by decide) h58
      · first | exact absurd h41 (by decide) | exact absurd (by decide) h41
    · first | exact absurd h24 (by decide) | exact absurd (by decide) h24
  · first | exact absurd h7 (by decide) | exact absurd (by decide) h7
theorem sp_X6_stmNone {k : Nat} (h21 : M 157 21 = nI k) (h : RdR M b n s g A) (hT : aT A + 1 < 2 ^ 24) (c0 : ¬ isW b n s 0) (c1 : ¬ isW b n s 1) (c2 : ¬ isW b n s 2) (c3 : ¬ isW b n s 3) (c4 : ¬ isW b n s 4) (c5 : ¬ isW b n s 5) (c6 : ¬ isW b n s 6) : Spec D 12 yX6_readStatement cfX6_readStatement [.ref (ad 157)] (wl D ad M) 0 0 (PY (RPS D ad M b n k (endR b n (sStm b n s g A)))) := by
  have hst : sStm b n s g A = .inl (-11, s) := by simp only [sStm, ch_f c0, ch_f c1, ch_f c2, ch_f c3, ch_f c4, ch_f c5, ch_f c6]
  rw [hst]
  refine Spec.of (by decide) rfl (Nat.le_of_ble_eq_true rfl) rfl ?_
  refine E_aload0 (q := 1) dX6_readStatement_0 rfl ?_
  refine E_ldc2 (q := 4) (v := codeL.getD 0 0) dX6_readStatement_1 cn_X6_282 rfl ?_
  refine C_V1I (q := 7) lk_X6_273 (sp_X6_isWord (i := 0) h (by decide)) rc_X6 dX6_readStatement_4 (by decide) (Nat.le_of_ble_eq_true rfl) rfl ?_
  refine V_int (zI_f1 c0) ?_
  refine E_if_eq (tgt := 17) (q := 10) dX6_readStatement_7 (by decide) rfl (fun h7 => ?_) (fun h7 => ?_)
  · skip
    refine E_aload0 (q := 18) dX6_readStatement_17 rfl ?_
    refine E_ldc2 (q := 21) (v := codeL.getD 1 0) dX6_readStatement_18 cn_X6_287 rfl ?_
    refine C_V1I (q := 24) lk_X6_273 (sp_X6_isWord (i := 1) h (by decide)) rc_X6 dX6_readStatement_21 (by decide) (Nat.le_of_ble_eq_true rfl) rfl ?_
    refine V_int (zI_f1 c1) ?_
    refine E_if_eq (tgt := 34) (q := 27) dX6_readStatement_24 (by decide) rfl (fun h24 => ?_) (fun h24 => ?_)
    · skip
      refine E_aload0 (q := 35) dX6_readStatement_34 rfl ?_
      refine E_ldc2 (q := 38) (v := codeL.getD 2 0) dX6_readStatement_35 cn_X6_292 rfl ?_
      refine C_V1I (q := 41) lk_X6_273 (sp_X6_isWord (i := 2) h (by decide)) rc_X6 dX6_readStatement_38 (by decide) (Nat.le_of_ble_eq_true rfl) rfl ?_
      refine V_int (zI_f1 c2) ?_
      refine E_if_eq (tgt := 51) (q := 44) dX6_readStatement_41 (by decide) rfl (fun h41 => ?_) (fun h41 => ?_)
      · skip
        refine E_aload0 (q := 52) dX6_readStatement_51 rfl ?_
        refine E_ldc2 (q := 55) (v := codeL.getD 3 0) dX6_readStatement_52 cn_X6_297 rfl ?_
        refine C_V1I (q := 58) lk_X6_273 (sp_X6_isWord (i := 3) h (by decide)) rc_X6 dX6_readStatement_55 (by decide) (Nat.le_of_ble_eq_true rfl) rfl ?_
        refine V_int (zI_f1 c3) ?_
        refine E_if_eq (tgt := 68) (q := 61) dX6_readStatement_58 (by decide) rfl (fun h58 => ?_) (fun h58 => ?_)
        · skip
          refine E_aload0 (q := 69) dX6_readStatement_68 rfl ?_
          refine E_ldc2 (q := 72) (v := codeL.getD 4 0) dX6_readStatement_69 cn_X6_302 rfl ?_
          refine C_V1I (q := 75) lk_X6_273 (sp_X6_isWord (i := 4) h (by decide)) rc_X6 dX6_readStatement_72 (by decide) (Nat.le_of_ble_eq_true rfl) rfl ?_
          refine V_int (zI_f1 c4) ?_
          refine E_if_eq (tgt := 85) (q := 78) dX6_readStatement_75 (by decide) rfl (fun h75 => ?_) (fun h75 => ?_)
          · skip
            refine E_aload0 (q := 86) dX6_readStatement_85 rfl ?_
            refine E_ldc2 (q := 89) (v := codeL.getD 5 0) dX6_readStatement_86 cn_X6_307 rfl ?_
            refine C_V1I (q := 92) lk_X6_273 (sp_X6_isWord (i := 5) h (by decide)) rc_X6 dX6_readStatement_89 (by decide) (Nat.le_of_ble_eq_true rfl) rfl ?_
            refine V_int (zI_f1 c5) ?_
            refine E_if_eq (tgt := 102) (q := 95) dX6_readStatement_92 (by decide) rfl (fun h92 => ?_) (fun h92 => ?_)
            · skip
              refine E_aload0 (q := 103) dX6_readStatement_102 rfl ?_
              refine E_ldc2 (q := 106) (v := codeL.getD 6 0) dX6_readStatement_103 cn_X6_312 rfl ?_
              refine C_V1I (q := 109) lk_X6_273 (sp_X6_isWord (i := 6) h (by decide)) rc_X6 dX6_readStatement_106 (by decide) (Nat.le_of_ble_eq_true rfl) rfl ?_
              refine V_int (zI_f1 c6) ?_
              refine E_if_eq (tgt := 119) (q := 112) dX6_readStatement_109 (by decide) rfl (fun h109 => ?_) (fun h109 => ?_)
              · skip
                refine E_aload0 (q := 120) dX6_readStatement_119 rfl ?_
                refine E_iconst (v := nI 0) (q := 121) dX6_readStatement_120 (by decide) rfl ?_
                refine E_bipush (v := -11) (q := 123) dX6_readStatement_121 (by decide) rfl ?_
                refine C_V2V (q := 126) lk_X6_247 (sp_X6_checkF h.2.2.2.1) rc_X6 dX6_readStatement_123 (by decide) (Nat.le_of_ble_eq_true rfl) rfl ?_
                exact tl_X6_readStatement h21 (RPC_fail rfl (by decide) h FrR.rf)
              · first | exact absurd h109 (by decide) | exact absurd (by decide) h109
            · first | exact absurd h92 (by decide) | exact absurd (by decide) h92
          · first | exact absurd h75 (by decide) | exact absurd (by decide) h75
        · first | exact absurd h58 (by decide) | exact absurd (by decide) h58
      · first | exact absurd h41 (by decide) | exact absurd (by decide) h41
    · first | exact absurd h24 (by decide) | exact absurd (by decide) h24
  · first | exact absurd h7 (by decide) | exact absurd (by decide) h7
theorem sp_X6_readStatement {k : Nat} (h21 : M 157 21 = nI k) (h : RdR M b n s g A) (hT : aT A + 1 < 2 ^ 24) : Spec D 12 yX6_readStatement cfX6_readStatement [.ref (ad 157)] (wl D ad M) 0 0 (PY (RPS D ad M b n k (endR b n (sStm b n s g A)))) := by
  by_cases c0 : isW b n s 0
  · exact sp_X6_stmVolume h21 h hT c0
  by_cases c1 : isW b n s 1
  · exact sp_X6_stmWrite h21 h hT c0 c1
  by_cases c2 : isW b n s 2
  · exact sp_X6_stmTrim h21 h hT c0 c1 c2
  by_cases c3 : isW b n s 3
  · exact sp_X6_stmSnap h21 h hT c0 c1 c2 c3
  by_cases c4 : isW b n s 4
  · exact sp_X6_stmClone h21 h hT c0 c1 c2 c3 c4
  by_cases c5 : isW b n s 5
  · exact sp_X6_stmHold h21 h hT c0 c1 c2 c3 c4 c5
  by_cases c6 : isW b n s 6
  · exact sp_X6_stmSet h21 h hT c0 c1 c2 c3 c4 c5 c6
  exact sp_X6_stmNone h21 h hT c0 c1 c2 c3 c4 c5 c6
/-- a whole text: what the reading leaves -/
def RPL (D : va_G) (ad : Nat → Nat) (M : Mem) (n : Nat) : Sum (Int32 × Nat) (Nat × AS) → va_W → Prop
  | .inl (c, t) => fun w => ∃ M', w = wl D ad M' ∧ M' 157 18 = c ∧ c ≠ 0 ∧ M' 157 13 = nI t ∧ t ≤ n ∧ FrS M M'
  | .inr (k, B) => fun w => ∃ M', w = wl D ad M' ∧ RI M' 163 B ∧ M' 157 18 = nI 0 ∧ M' 157 21 = nI k ∧ k ≤ n ∧ aT B ≤ k ∧ FrS M M'
theorem lp_loadF {Qf : QF} {M1 : Mem} {x c : Int32} (hkk : V D cfX6_load (rmOf 14 0 0) Qf 0 0 90 [some (.ref (ad 157)), some (.int x)] [] (wl D ad M1)) (p2 : M1 157 18 = c) (hc : c ≠ 0) : V D cfX6_load (rmOf 14 0 0) Qf 0 0 69 [some (.ref (ad 157)), some (.int x)] [] (wl D ad M1) := by
  refine E_aload0 (q := 70) dX6_load_69 rfl ?_
  refine G_X6_fault (q := 73) fl_X6_220 dX6_load_70 rfl ?_
  refine V_int p2 ?_
  refine E_if_ne (tgt := 90) (q := 76) dX6_load_73 (by decide) rfl (fun h73 => ?_) (fun h73 => ?_)
  · skip
    exact hkk
  · skip
    exact absurd h73 hc
theorem lp_load {Qf : QF} {M0 : Mem} {x : Int32} {r : Sum (Int32 × Nat) (Nat × AS)} (hkk : ∀ w, RPL D ad M0 n r w → V D cfX6_load (rmOf 14 0 0) Qf 0 0 90 [some (.ref (ad 157)), some (.int x)] [] w) : ∀ (f : Nat) {M : Mem} {s g k : Nat} {A : AS}, ldF b n f s g A k = r → n < s + f → RdR M b n s g A → M 157 21 = nI k → k ≤ s → aT A ≤ k → FrS M0 M → V D cfX6_load (rmOf 14 0 0) Qf 0 0 69 [some (.ref (ad 157)), some (.int x)] [] (wl D ad M) := by
  intro f
  induction f with
  | zero => intro M s g k A _ hf h; have := h.1.1; omega
  | succ f ih =>
    intro M s g k A hr0 hf h h21 hk hT hF
    have hn := h.2.1.2.1
    have hsn := h.1.1
    have hk4 := knd_le (b := b) (n := n) (q := s)
    by_cases c : knd b n s = 0
    · have hr : ldF b n (f + 1) s g A k = .inr (k, A) := by simp only [ldF, ch_t c]
      have hq := hr0.symm.trans hr
      subst hq
      refine E_aload0 (q := 70) dX6_load_69 rfl ?_
      refine G_X6_fault (q := 73) fl_X6_220 dX6_load_70 rfl ?_
      refine V_int h.2.2.2.1 ?_
      refine E_if_ne (tgt := 90) (q := 76) dX6_load_73 (by decide) rfl (fun h73 => ?_) (fun h73 => ?_)
      · first | exact absurd h73 (by decide) | exact absurd (by decide) h73
      · skip
        refine E_aload0 (q := 77) dX6_load_76 rfl ?_
        refine G_X6_token (q := 80) fl_X6_239 dX6_load_77 rfl ?_
        refine V_int (h.2.2.1.2.2.1.trans (congrArg nI c)) ?_
        refine E_if_eq (tgt := 90) (q := 83) dX6_load_80 (by decide) rfl (fun h80 => ?_) (fun h80 => ?_)
        · skip
          exact hkk _ ⟨M, rfl, h.2.2.2.2.2, h.2.2.2.1, h21, by omega, hT, hF⟩
        · first | exact absurd h80 (by decide) | exact absurd (by decide) h80
    · have hlt : s < n := Nat.lt_of_not_le fun z => c (knd_0.mpr z)
      have hgd := endR_gd (b := b) (sStm_gd (b := b) (g := g) (A := A) hlt)
      have hr : ldF b n (f + 1) s g A k = (match endR b n (sStm b n s g A) with | .inl e => .inl e | .inr (s', g', A') => ldF b n f s' g' A' (k + 1)) := by simp only [ldF, ch_f c]; rfl
      have hq := hr0.symm.trans hr
      clear hr0 hr
      refine E_aload0 (q := 70) dX6_load_69 rfl ?_
      refine G_X6_fault (q := 73) fl_X6_220 dX6_load_70 rfl ?_
      refine V_int h.2.2.2.1 ?_
      refine E_if_ne (tgt := 90) (q := 76) dX6_load_73 (by decide) rfl (fun h73 => ?_) (fun h73 => ?_)
      · first | exact absurd h73 (by decide) | exact absurd (by decide) h73
      · skip
        refine E_aload0 (q := 77) dX6_load_76 rfl ?_
        refine G_X6_token (q := 80) fl_X6_239 dX6_load_77 rfl ?_
        refine V_int h.2.2.1.2.2.1 ?_
        refine E_if_eq (tgt := 90) (q := 83) dX6_load_80 (by decide) rfl (fun h80 => ?_) (fun h80 => ?_)
        · skip
          exact absurd ((nI_z (by omega)).mp h80) c
        · skip
          refine E_aload0 (q := 84) dX6_load_83 rfl ?_
          refine C_V0Y (q := 87) lk_X6_320 (sp_X6_readStatement h21 h (by omega)) rc_X6 dX6_load_84 (by decide) (Nat.le_of_ble_eq_true rfl) rfl ?_
          rintro w hp
          refine E_goto (q := 69) dX6_load_87 (by decide) ?_
          revert hp hgd hq
          generalize endR b n (sStm b n s g A) = u
          intro hgd hq hp
          match u, hgd, hq, hp with
          | .inl (c', t), hgd, hq, hp =>
            obtain ⟨M1, p1, p2, p3, p4, p5⟩ := hp
            rw [p1]
            exact lp_loadF (hkk _ (by rw [hq]; exact ⟨M1, rfl, p2, p3, p4, hgd.1, hF.tr p5⟩)) p2 p3
          | .inr (s', g', A'), hgd, hq, hp =>
            obtain ⟨M1, p1, p2, p3, p4⟩ := hp
            rw [p1]
            exact ih hq.symm (by have := hgd.1; omega) p2 p3 (by have := hgd.1; omega) (by have := hgd.2.2; omega) (hF.tr p4)
end MODEL