
/-! THE REFERENCE reads statements -/
section MODEL
variable {D : va_G} {ad : Nat → Nat} {M : Mem} {ws : va_W} {A : AS} {b : Nat → Nat} {n s t e p q g wx : Nat}
def RPC (D : va_G) (ad : Nat → Nat) (M : Mem) (b : Nat → Nat) (n : Nat) : LR → va_W → Prop
  | .inl (c, t) => fun w => ∃ M', w = wl D ad M' ∧ M' 157 18 = c ∧ c ≠ 0 ∧ M' 157 13 = nI t ∧ FrR M M'
  | .inr (s', g', A') => fun w => ∃ M', w = wl D ad M' ∧ RdR M' b n s' g' A' ∧ FrR M M'
theorem RPC_fail {r : LR} {M1 : Mem} {c : Int32} {g' : Nat} {B : AS} (hr : r = .inl (c, t)) (hc : c ≠ 0) (h : RdR M1 b n t g' B) (hF : FrR M M1) : RPC D ad M b n r (wl D ad (ft M1 c)) := by
  rw [hr]
  exact ⟨_, rfl, ft_18, hc, by unfold ft; rw [upd2_ne (by decide)]; exact h.2.2.1.2.1, hF.tr FrR.ft⟩
theorem RPC_failM {r : LR} {M1 : Mem} {c : Int32} (hr : r = .inl (c, t)) (hc : c ≠ 0) (h18 : M1 157 18 = c) (h13 : M1 157 13 = nI t) (hF : FrR M M1) : RPC D ad M b n r (wl D ad M1) := by
  rw [hr]
  exact ⟨_, rfl, h18, hc, h13, hF⟩
theorem RPC_ok {r : LR} {M1 : Mem} {s' g' : Nat} {A' : AS} (hr : r = .inr (s', g', A')) (hL : RdR M1 b n s' g' A') (h : FrR M M1) : RPC D ad M b n r (wl D ad M1) := by
  rw [hr]
  exact ⟨_, rfl, hL, h⟩
theorem RdR.wr {M1 : Mem} {B : AS} (h : RdR M b n s g A) (hI : RI M1 163 B) (e : ∀ c, c ≠ 163 → M1 c = M c) : RdR M1 b n s g B := by
  obtain ⟨h1, ⟨t1, t2, t3, t4⟩, hL, h18, h20, _⟩ := h
  refine ⟨h1, ⟨by rw [e 157 (by decide)]; exact t1, t2, t3, fun i hi => by rw [e 162 (by decide)]; exact t4 i hi⟩, ?_, by rw [e 157 (by decide)]; exact h18, by rw [e 157 (by decide)]; exact h20, hI⟩
  unfold LxR
  rw [e 157 (by decide)]
  exact hL
theorem RdR.giv {g' : Nat} (h : RdR M b n s g A) (hg : g' < 4) : RdR (upd2 M 157 20 (nI g')) b n s g' A := by
  obtain ⟨h1, ⟨t1, t2, t3, t4⟩, hL, h18, h20, hI⟩ := h
  refine ⟨⟨h1.1, hg⟩, ⟨by rw [upd2_ne (by decide)]; exact t1, t2, t3, fun i hi => by rw [upd2_row (by decide)]; exact t4 i hi⟩, ?_, by rw [upd2_ne (by decide)]; exact h18, upd2_same, hI.u (by decide)⟩
  unfold LxR
  rw [upd2_ne (by decide), upd2_ne (by decide), upd2_ne (by decide), upd2_ne (by decide), upd2_ne (by decide), upd2_ne (by decide), upd2_ne (by decide)]
  exact hL
theorem RI.set {j : Nat} {v : Int32} {B : AS} (h : RI M wx A) (hR : RowIs (upd (M wx) j v) B) (hB : WF B) : RI (upd2 M wx j v) wx B := by
  have hne := h.1.ne
  exact ⟨⟨by rw [upd2_row (fun z => hne z.symm)]; exact h.1.1, h.1.2⟩, by rw [upd2_upd]; exact hR, hB⟩
theorem sp_X6_layT {v a : Nat} (h : RI M wx A) (hv : v < 6) (ha : a < 12) : Spec D 1 yX6_lay cfX6_lay [.ref (ad 157), .int (nI (16 + v)), .int (nI (a)), .int (nI (0)), .int (nI (0))] (wl D ad M) 0 0 (PY (RQ D ad M wx (trmA A v a))) := by
  refine Spec.of (by decide) rfl (Nat.le_of_ble_eq_true rfl) rfl ?_
  have hw := h.1
  have hne := h.1.ne
  have hfin : RI (upd2 (upd2 M wx (211 + 12 * (16 + v) + a) (nI 0)) wx (475 + 12 * (16 + v) + a) (nI 0)) wx (trmA A v a) := ⟨⟨by rw [upd2_row (fun z => hne z.symm), upd2_row (fun z => hne z.symm)]; exact h.1.1, h.1.2⟩, by rw [upd2_upd, upd2_upd]; exact h.2.1.trm h.2.2 hv ha, trmA_WF h.2.2⟩
  refine E_aload0 (q := 1) dX6_lay_0 rfl ?_
  refine G_X6_w (q := 4) (x := wx) (by repeat (first | exact hw | refine WX.w ?_ | refine WX.u (by decide) ?_)) fl_X6_16 dX6_lay_1 rfl ?_
  refine E_sipush (v := nI 211) (q := 7) dX6_lay_4 (by decide) rfl ?_
  refine E_bipush (v := nI 12) (q := 9) dX6_lay_7 (by decide) rfl ?_
  refine E_iload1 (q := 10) dX6_lay_9 rfl ?_
  refine E_imulN (q := 11) dX6_lay_10 rfl ?_
  refine E_iaddN (q := 12) dX6_lay_11 rfl ?_
  refine E_iload2 (q := 13) dX6_lay_12 rfl ?_
  refine E_iaddN (q := 14) dX6_lay_13 rfl ?_
  refine E_iload3 (q := 15) dX6_lay_14 rfl ?_
  refine E_iastN (q := 16) hw.2 (by omega) (by decide) dX6_lay_15 rfl ?_
  refine E_aload0 (q := 17) dX6_lay_16 rfl ?_
  refine G_X6_w (q := 20) (x := wx) (by repeat (first | exact hw | refine WX.w ?_ | refine WX.u (by decide) ?_)) fl_X6_16 dX6_lay_17 rfl ?_
  refine E_sipush (v := nI 475) (q := 23) dX6_lay_20 (by decide) rfl ?_
  refine E_bipush (v := nI 12) (q := 25) dX6_lay_23 (by decide) rfl ?_
  refine E_iload1 (q := 26) dX6_lay_25 rfl ?_
  refine E_imulN (q := 27) dX6_lay_26 rfl ?_
  refine E_iaddN (q := 28) dX6_lay_27 rfl ?_
  refine E_iload2 (q := 29) dX6_lay_28 rfl ?_
  refine E_iaddN (q := 30) dX6_lay_29 rfl ?_
  refine E_iload4 (q := 32) dX6_lay_30 rfl ?_
  refine E_iastN (q := 33) hw.2 (by omega) (by decide) dX6_lay_32 rfl ?_
  exact E_vreturn rfl rfl dX6_lay_33 ⟨rfl, _, rfl, hfin, fun c hc => by rw [upd2_row hc, upd2_row hc]⟩
theorem sp_X6_readVolumeC (h : RdR M b n s g A) (hT : aT A + 1 < 2 ^ 24) (c0 : ¬ aV A < 6) : Spec D 10 yX6_readVolume cfX6_readVolume [.ref (ad 157)] (wl D ad M) 0 0 (PY (RPC D ad M b n (sVol b n s g A))) := by
  refine Spec.of (by decide) rfl (Nat.le_of_ble_eq_true rfl) rfl ?_
  have hw := h.2.2.2.2.2.1
  have hI := h.2.2.2.2.2
  have hb := hI.2.2.1.1
  refine E_aload0 (q := 1) dX6_readVolume_0 rfl ?_
  refine E_aload0 (q := 2) dX6_readVolume_1 rfl ?_
  refine G_X6_w (q := 5) (x := 163) (by repeat (first | exact hw | refine WX.w ?_ | refine WX.u (by decide) ?_)) fl_X6_16 dX6_readVolume_2 rfl ?_
  refine E_iconst (v := nI 3) (q := 6) dX6_readVolume_5 (by decide) rfl ?_
  refine E_ialdN (q := 7) hw.2 (by omega) (by decide) dX6_readVolume_6 rfl ?_
  refine V_int hI.2.1.1.2.2.2.1 ?_
  refine E_bipush (v := nI 6) (q := 9) dX6_readVolume_7 (by decide) rfl ?_
  refine E_icmp_geN (tgt := 16) (q := 12) dX6_readVolume_9 (by decide) rfl (by omega) (by omega) (fun h9 => ?_) (fun h9 => ?_)
  · skip
    refine E_iconst (v := nI 0) (q := 17) dX6_readVolume_16 (by decide) rfl ?_
    refine E_bipush (v := -15) (q := 19) dX6_readVolume_17 (by decide) rfl ?_
    refine C_V2V (q := 22) lk_X6_247 (sp_X6_checkF h.2.2.2.1) rc_X6 dX6_readVolume_19 (by decide) (Nat.le_of_ble_eq_true rfl) rfl ?_
    refine E_aload0 (q := 23) dX6_readVolume_22 rfl ?_
    refine C_V0V (q := 26) lk_X6_254 (sp_X6_advanceX (ft_ne (by decide))) rc_X6 dX6_readVolume_23 (by decide) (Nat.le_of_ble_eq_true rfl) rfl ?_
    refine E_aload0 (q := 27) dX6_readVolume_26 rfl ?_
    refine E_iconst (v := nI 0) (q := 28) dX6_readVolume_27 (by decide) rfl ?_
    refine C_V1X (q := 31) lk_X6_263 (sp_X6_newNameVX (ft_ne (by decide)) hI.ft) rc_X6 dX6_readVolume_28 (by decide) (Nat.le_of_ble_eq_true rfl) rfl ?_
    rintro y w hy
    rw [hy]
    refine E_istore1 (q := 32) dX6_readVolume_31 rfl rfl ?_
    refine E_aload0 (q := 33) dX6_readVolume_32 rfl ?_
    refine G_X6_fault (q := 36) fl_X6_220 dX6_readVolume_33 rfl ?_
    refine V_int ft_18 ?_
    refine E_if_ne (tgt := 46) (q := 39) dX6_readVolume_36 (by decide) rfl (fun h36 => ?_) (fun h36 => ?_)
    · skip
      exact E_vreturn rfl rfl dX6_readVolume_46 ⟨rfl, RPC_fail (by simp only [sVol, ch_f c0]) (by decide) h FrR.rf⟩
    · first | exact absurd h36 (by decide) | exact absurd (by decide) h36
  · skip
    exact absurd h9 (by omega)
theorem sp_X6_readVolumeN (h : RdR M b n s g A) (hT : aT A + 1 < 2 ^ 24) (c0 : aV A < 6) (c1 : ¬ isNm b n (nxt b n s)) : Spec D 10 yX6_readVolume cfX6_readVolume [.ref (ad 157)] (wl D ad M) 0 0 (PY (RPC D ad M b n (sVol b n s g A))) := by
  refine Spec.of (by decide) rfl (Nat.le_of_ble_eq_true rfl) rfl ?_
  have hw := h.2.2.2.2.2.1
  have hI := h.2.2.2.2.2
  have hb := hI.2.2.1.1
  refine E_aload0 (q := 1) dX6_readVolume_0 rfl ?_
  refine E_aload0 (q := 2) dX6_readVolume_1 rfl ?_
  refine G_X6_w (q := 5) (x := 163) (by repeat (first | exact hw | refine WX.w ?_ | refine WX.u (by decide) ?_)) fl_X6_16 dX6_readVolume_2 rfl ?_
  refine E_iconst (v := nI 3) (q := 6) dX6_readVolume_5 (by decide) rfl ?_
  refine E_ialdN (q := 7) hw.2 (by omega) (by decide) dX6_readVolume_6 rfl ?_
  refine V_int hI.2.1.1.2.2.2.1 ?_
  refine E_bipush (v := nI 6) (q := 9) dX6_readVolume_7 (by decide) rfl ?_
  refine E_icmp_geN (tgt := 16) (q := 12) dX6_readVolume_9 (by decide) rfl (by omega) (by omega) (fun h9 => ?_) (fun h9 => ?_)
  · skip
    exact absurd h9 (by omega)
  · skip
    refine E_iconst (v := nI 1) (q := 13) dX6_readVolume_12 (by decide) rfl ?_
    refine E_goto (q := 17) dX6_readVolume_13 (by decide) ?_
    refine E_bipush (v := -15) (q := 19) dX6_readVolume_17 (by decide) rfl ?_
    refine C_V2V (q := 22) lk_X6_247 (sp_X6_checkT) rc_X6 dX6_readVolume_19 (by decide) (Nat.le_of_ble_eq_true rfl) rfl ?_
    refine E_aload0 (q := 23) dX6_readVolume_22 rfl ?_
    refine C_V0Y (q := 26) lk_X6_254 (sp_X6_advR h) rc_X6 dX6_readVolume_23 (by decide) (Nat.le_of_ble_eq_true rfl) rfl ?_
    refine kkEW ?_
    rintro M1 ⟨h1, f1⟩
    refine E_aload0 (q := 27) dX6_readVolume_26 rfl ?_
    refine E_iconst (v := nI 0) (q := 28) dX6_readVolume_27 (by decide) rfl ?_
    refine C_V1X (q := 31) lk_X6_263 (sp_X6_newNameVN h1 c1) rc_X6 dX6_readVolume_28 (by decide) (Nat.le_of_ble_eq_true rfl) rfl ?_
    rintro y w hy
    rw [hy]
    refine E_istore1 (q := 32) dX6_readVolume_31 rfl rfl ?_
    refine E_aload0 (q := 33) dX6_readVolume_32 rfl ?_
    refine G_X6_fault (q := 36) fl_X6_220 dX6_readVolume_33 rfl ?_
    refine V_int ft_18 ?_
    refine E_if_ne (tgt := 46) (q := 39) dX6_readVolume_36 (by decide) rfl (fun h36 => ?_) (fun h36 => ?_)
    · skip
      exact E_vreturn rfl rfl dX6_readVolume_46 ⟨rfl, RPC_fail (by simp only [sVol, nmR, ch_t c0, ch_f c1]) (by decide) h1 f1⟩
    · first | exact absurd h36 (by decide) | exact absurd (by decide) h36
theorem sp_X6_readVolumeF (h : RdR M b n s g A) (hT : aT A + 1 < 2 ^ 24) (c0 : aV A < 6) (c1 : isNm b n (nxt b n s)) (c2 : ¬ fV A (nmc b n (nxt b n s)) = -1) : Spec D 10 yX6_readVolume cfX6_readVolume [.ref (ad 157)] (wl D ad M) 0 0 (PY (RPC D ad M b n (sVol b n s g A))) := by
  refine Spec.of (by decide) rfl (Nat.le_of_ble_eq_true rfl) rfl ?_
  have hw := h.2.2.2.2.2.1
  have hI := h.2.2.2.2.2
  have hb := hI.2.2.1.1
  refine E_aload0 (q := 1) dX6_readVolume_0 rfl ?_
  refine E_aload0 (q := 2) dX6_readVolume_1 rfl ?_
  refine G_X6_w (q := 5) (x := 163) (by repeat (first | exact hw | refine WX.w ?_ | refine WX.u (by decide) ?_)) fl_X6_16 dX6_readVolume_2 rfl ?_
  refine E_iconst (v := nI 3) (q := 6) dX6_readVolume_5 (by decide) rfl ?_
  refine E_ialdN (q := 7) hw.2 (by omega) (by decide) dX6_readVolume_6 rfl ?_
  refine V_int hI.2.1.1.2.2.2.1 ?_
  refine E_bipush (v := nI 6) (q := 9) dX6_readVolume_7 (by decide) rfl ?_
  refine E_icmp_geN (tgt := 16) (q := 12) dX6_readVolume_9 (by decide) rfl (by omega) (by omega) (fun h9 => ?_) (fun h9 => ?_)
  · skip
    exact absurd h9 (by omega)
  · skip
    refine E_iconst (v := nI 1) (q := 13) dX6_readVolume_12 (by decide) rfl ?_
    refine E_goto (q := 17) dX6_readVolume_13 (by decide) ?_
    refine E_bipush (v := -15) (q := 19) dX6_readVolume_17 (by decide) rfl ?_
    refine C_V2V (q := 22) lk_X6_247 (sp_X6_checkT) rc_X6 dX6_readVolume_19 (by decide) (Nat.le_of_ble_eq_true rfl) rfl ?_
    refine E_aload0 (q := 23) dX6_readVolume_22 rfl ?_
    refine C_V0Y (q := 26) lk_X6_254 (sp_X6_advR h) rc_X6 dX6_readVolume_23 (by decide) (Nat.le_of_ble_eq_true rfl) rfl ?_
    refine kkEW ?_
    rintro M1 ⟨h1, f1⟩
    refine E_aload0 (q := 27) dX6_readVolume_26 rfl ?_
    refine E_iconst (v := nI 0) (q := 28) dX6_readVolume_27 (by decide) rfl ?_
    refine C_V1X (q := 31) lk_X6_263 (sp_X6_newNameVF h1 c1 c2) rc_X6 dX6_readVolume_28 (by decide) (Nat.le_of_ble_eq_true rfl) rfl ?_
    rintro y w hy
    rw [hy]
    refine E_istore1 (q := 32) dX6_readVolume_31 rfl rfl ?_
    refine E_aload0 (q := 33) dX6_readVolume_32 rfl ?_
    refine G_X6_fault (q := 36) fl_X6_220 dX6_readVolume_33 rfl ?_
    refine V_int ft_18 ?_
    refine E_if_ne (tgt := 46) (q := 39) dX6_readVolume_36 (by decide) rfl (fun h36 => ?_) (fun h36 => ?_)
    · skip
      exact E_vreturn rfl rfl dX6_readVolume_46 ⟨rfl, RPC_fail (by simp only [sVol, nmR, ch_t c0, ch_t c1, ch_f c2]) (by decide) h1 f1⟩
    · first | exact absurd h36 (by decide) | exact absurd (by decide) h36
theorem sp_X6_readVolumeK (h : RdR M b n s g A) (hT : aT A + 1 < 2 ^ 24) (c0 : aV A < 6) (c1 : isNm b n (nxt b n s)) (c2 : fV A (nmc b n (nxt b n s)) = -1) : Spec D 10 yX6_readVolume cfX6_readVolume [.ref (ad 157)] (wl D ad M) 0 0 (PY (RPC D ad M b n (sVol b n s g A))) := by
  refine Spec.of (by decide) rfl (Nat.le_of_ble_eq_true rfl) rfl ?_
  have hw := h.2.2.2.2.2.1
  have hI := h.2.2.2.2.2
  have hb := hI.2.2.1.1
  have hml := nmc_lt c1.1
  refine E_aload0 (q := 1) dX6_readVolume_0 rfl ?_
  refine E_aload0 (q := 2) dX6_readVolume_1 rfl ?_
  refine G_X6_w (q := 5) (x := 163) (by repeat (first | exact hw | refine WX.w ?_ | refine WX.u (by decide) ?_)) fl_X6_16 dX6_readVolume_2 rfl ?_
  refine E_iconst (v := nI 3) (q := 6) dX6_readVolume_5 (by decide) rfl ?_
  refine E_ialdN (q := 7) hw.2 (by omega) (by decide) dX6_readVolume_6 rfl ?_
  refine V_int hI.2.1.1.2.2.2.1 ?_
  refine E_bipush (v := nI 6) (q := 9) dX6_readVolume_7 (by decide) rfl ?_
  refine E_icmp_geN (tgt := 16) (q := 12) dX6_readVolume_9 (by decide) rfl (by omega) (by omega) (fun h9 => ?_) (fun h9 => ?_)
  · skip
    exact absurd h9 (by omega)
  · skip
    refine E_iconst (v := nI 1) (q := 13) dX6_readVolume_12 (by decide) rfl ?_
    refine E_goto (q := 17) dX6_readVolume_13 (by decide) ?_
    refine E_bipush (v := -15) (q := 19) dX6_readVolume_17 (by decide) rfl ?_
    refine C_V2V (q := 22) lk_X6_247 (sp_X6_checkT) rc_X6 dX6_readVolume_19 (by decide) (Nat.le_of_ble_eq_true rfl) rfl ?_
    refine E_aload0 (q := 23) dX6_readVolume_22 rfl ?_
    refine C_V0Y (q := 26) lk_X6_254 (sp_X6_advR h) rc_X6 dX6_readVolume_23 (by decide) (Nat.le_of_ble_eq_true rfl) rfl ?_
    refine kkEW ?_
    rintro M1 ⟨h1, f1⟩
    refine E_aload0 (q := 27) dX6_readVolume_26 rfl ?_
    refine E_iconst (v := nI 0) (q := 28) dX6_readVolume_27 (by decide) rfl ?_
    refine C_V1X (q := 31) lk_X6_263 (sp_X6_newNameV h1 c1 c2) rc_X6 dX6_readVolume_28 (by decide) (Nat.le_of_ble_eq_true rfl) rfl ?_
    refine kkEI ?_
    rintro M2 ⟨h2, f2⟩
    refine E_istore1 (q := 32) dX6_readVolume_31 rfl rfl ?_
    refine E_aload0 (q := 33) dX6_readVolume_32 rfl ?_
    refine G_X6_fault (q := 36) fl_X6_220 dX6_readVolume_33 rfl ?_
    refine V_int h2.2.2.2.1 ?_
    refine E_if_ne (tgt := 46) (q := 39) dX6_readVolume_36 (by decide) rfl (fun h36 => ?_) (fun h36 => ?_)
    · first | exact absurd h36 (by decide) | exact absurd (by decide) h36
    · skip
      refine E_aload0 (q := 40) dX6_readVolume_39 rfl ?_
      refine E_iconst (v := -1) (q := 41) dX6_readVolume_40 (by decide) rfl ?_
      refine E_iload1 (q := 42) dX6_readVolume_41 rfl ?_
      refine C_V2X (q := 45) lk_X6_186 (sp_X6_mkVN h2.2.2.2.2.2 c0 hml) rc_X6 dX6_readVolume_42 (by decide) (Nat.le_of_ble_eq_true rfl) rfl ?_
      refine kkEI ?_
      rintro M3 ⟨q3, e3⟩
      refine E_pop (q := 46) dX6_readVolume_45 rfl rfl ?_
      exact E_vreturn rfl rfl dX6_readVolume_46 ⟨rfl, RPC_ok (by simp only [sVol, nmR, ch_t c0, ch_t c1, ch_t c2]) (h2.wr q3 e3) ((f1.tr f2).tr (FrR.w e3))⟩
theorem sp_X6_readVolume (h : RdR M b n s g A) (hT : aT A + 1 < 2 ^ 24) : Spec D 10 yX6_readVolume cfX6_readVolume [.ref (ad 157)] (wl D ad M) 0 0 (PY (RPC D ad M b n (sVol b n s g A))) := by
  by_cases c0 : aV A < 6
  · by_cases c1 : isNm b n (nxt b n s)
    · by_cases c2 : fV A (nmc b n (nxt b n s)) = -1
      · exact sp_X6_readVolumeK h hT c0 c1 c2
      · exact sp_X6_readVolumeF h hT c0 c1 c2
    · exact sp_X6_readVolumeN h hT c0 c1
  · exact sp_X6_readVolumeC h hT c0
theorem sp_X6_readWriteN (h : RdR M b n s g A) (hT : aT A + 1 < 2 ^ 24) (c1 : ¬ isNm b n (nxt b n s)) : Spec D 10 yX6_readWrite cfX6_readWrite [.ref (ad 157)] (wl D ad M) 0 0 (PY (RPC D ad M b n (sWrite b n s g A))) := by
  refine Spec.of (by decide) rfl (Nat.le_of_ble_eq_true rfl) rfl ?_
  have hw := h.2.2.2.2.2.1
  have hI := h.2.2.2.2.2
  have hb := hI.2.2.1.1
  refine E_aload0 (q := 1) dX6_readWrite_0 rfl ?_
  refine C_V0Y (q := 4) lk_X6_254 (sp_X6_advR h) rc_X6 dX6_readWrite_1 (by decide) (Nat.le_of_ble_eq_true rfl) rfl ?_
  refine kkEW ?_
  rintro M1 ⟨h1, f1⟩
  refine E_aload0 (q := 5) dX6_readWrite_4 rfl ?_
  refine E_iconst (v := nI 0) (q := 6) dX6_readWrite_5 (by decide) rfl ?_
  refine C_V1I (q := 9) lk_X6_266 (sp_X6_thingN h1 c1) rc_X6 dX6_readWrite_6 (by decide) (Nat.le_of_ble_eq_true rfl) rfl ?_
  refine E_istore1 (q := 10) dX6_readWrite_9 rfl rfl ?_
  refine E_aload0 (q := 11) dX6_readWrite_10 rfl ?_
  refine E_iconst (v := nI 0) (q := 12) dX6_readWrite_11 (by decide) rfl ?_
  refine E_bipush (v := nI 11) (q := 14) dX6_readWrite_12 (by decide) rfl ?_
  refine C_V2I (q := 17) lk_X6_269 (sp_X6_integerX (ft_ne (by decide))) rc_X6 dX6_readWrite_14 (by decide) (Nat.le_of_ble_eq_true rfl) rfl ?_
  refine E_istore2 (q := 18) dX6_readWrite_17 rfl rfl ?_
  refine E_aload0 (q := 19) dX6_readWrite_18 rfl ?_
  refine E_iconst (v := nI 1) (q := 20) dX6_readWrite_19 (by decide) rfl ?_
  refine E_bipush (v := nI 9) (q := 22) dX6_readWrite_20 (by decide) rfl ?_
  refine C_V2I (q := 25) lk_X6_251 (sp_X6_integerHereX (ft_ne (by decide))) rc_X6 dX6_readWrite_22 (by decide) (Nat.le_of_ble_eq_true rfl) rfl ?_
  refine E_istore3 (q := 26) dX6_readWrite_25 rfl rfl ?_
  refine E_aload0 (q := 27) dX6_readWrite_26 rfl ?_
  refine E_aload0 (q := 28) dX6_readWrite_27 rfl ?_
  refine G_X6_fault (q := 31) fl_X6_220 dX6_readWrite_28 rfl ?_
  refine V_int ft_18 ?_
  refine E_if_ne (tgt := 44) (q := 34) dX6_readWrite_31 (by decide) rfl (fun h31 => ?_) (fun h31 => ?_)
  · skip
    refine E_iconst (v := nI 1) (q := 45) dX6_readWrite_44 (by decide) rfl ?_
    refine E_goto (q := 49) dX6_readWrite_45 (by decide) ?_
    refine E_bipush (v := -16) (q := 51) dX6_readWrite_49 (by decide) rfl ?_
    refine C_V2V (q := 54) lk_X6_247 (sp_X6_checkT) rc_X6 dX6_readWrite_51 (by decide) (Nat.le_of_ble_eq_true rfl) rfl ?_
    refine E_aload0 (q := 55) dX6_readWrite_54 rfl ?_
    refine G_X6_fault (q := 58) fl_X6_220 dX6_readWrite_55 rfl ?_
    refine V_int ft_18 ?_
    refine E_if_ne (tgt := 69) (q := 61) dX6_readWrite_58 (by decide) rfl (fun h58 => ?_) (fun h58 => ?_)
    · skip
      refine E_aload0 (q := 70) dX6_readWrite_69 rfl ?_
      refine C_V0V (q := 73) lk_X6_254 (sp_X6_advanceX (ft_ne (by decide))) rc_X6 dX6_readWrite_70 (by decide) (Nat.le_of_ble_eq_true rfl) rfl ?_
      exact E_vreturn rfl rfl dX6_readWrite_73 ⟨rfl, RPC_fail (by simp only [sWrite, volR, nmR, ch_f c1]) (by decide) h1 f1⟩
    · first | exact absurd h58 (by decide) | exact absurd (by decide) h58
  · first | exact absurd h31 (by decide) | exact absurd (by decide) h31
theorem sp_X6_readWriteF (h : RdR M b n s g A) (hT : aT A + 1 < 2 ^ 24) (c1 : isNm b n (nxt b n s)) (c2 : fV A (nmc b n (nxt b n s)) = -1) : Spec D 10 yX6_readWrite cfX6_readWrite [.ref (ad 157)] (wl D ad M) 0 0 (PY (RPC D ad M b n (sWrite b n s g A))) := by
  refine Spec.of (by decide) rfl (Nat.le_of_ble_eq_true rfl) rfl ?_
  have hw := h.2.2.2.2.2.1
  have hI := h.2.2.2.2.2
  have hb := hI.2.2.1.1
  refine E_aload0 (q := 1) dX6_readWrite_0 rfl ?_
  refine C_V0Y (q := 4) lk_X6_254 (sp_X6_advR h) rc_X6 dX6_readWrite_1 (by decide) (Nat.le_of_ble_eq_true rfl) rfl ?_
  refine kkEW ?_
  rintro M1 ⟨h1, f1⟩
  refine E_aload0 (q := 5) dX6_readWrite_4 rfl ?_
  refine E_iconst (v := nI 0) (q := 6) dX6_readWrite_5 (by decide) rfl ?_
  refine C_V1I (q := 9) lk_X6_266 (sp_X6_thingF h1 c1 c2) rc_X6 dX6_readWrite_6 (by decide) (Nat.le_of_ble_eq_true rfl) rfl ?_
  refine E_istore1 (q := 10) dX6_readWrite_9 rfl rfl ?_
  refine E_aload0 (q := 11) dX6_readWrite_10 rfl ?_
  refine E_iconst (v := nI 0) (q := 12) dX6_readWrite_11 (by decide) rfl ?_
  refine E_bipush (v := nI 11) (q := 14) dX6_readWrite_12 (by decide) rfl ?_
  refine C_V2I (q := 17) lk_X6_269 (sp_X6_integerX (ft_ne (by decide))) rc_X6 dX6_readWrite_14 (by decide) (Nat.le_of_ble_eq_true rfl) rfl ?_
  refine E_istore2 (q := 18) dX6_readWrite_17 rfl rfl ?_
  refine E_aload0 (q := 19) dX6_readWrite_18 rfl ?_
  refine E_iconst (v := nI 1) (q := 20) dX6_readWrite_19 (by decide) rfl ?_
  refine E_bipush (v := nI 9) (q := 22) dX6_readWrite_20 (by decide) rfl ?_
  refine C_V2I (q := 25) lk_X6_251 (sp_X6_integerHereX (ft_ne (by decide))) rc_X6 dX6_readWrite_22 (by decide) (Nat.le_of_ble_eq_true rfl) rfl ?_
  refine E_istore3 (q := 26) dX6_readWrite_25 rfl rfl ?_
  refine E_aload0 (q := 27) dX6_readWrite_26 rfl ?_
  refine E_aload0 (q := 28) dX6_readWrite_27 rfl ?_
  refine G_X6_fault (q := 31) fl_X6_220 dX6_readWrite_28 rfl ?_
  refine V_int ft_18 ?_
  refine E_if_ne (tgt := 44) (q := 34) dX6_readWrite_31 (by decide) rfl (fun h31 => ?_) (fun h31 => ?_)
  · skip
    refine E_iconst (v := nI 1) (q := 45) dX6_readWrite_44 (by decide) rfl ?_
    refine E_goto (q := 49) dX6_readWrite_45 (by decide) ?_
    refine E_bipush (v := -16) (q := 51) dX6_readWrite_49 (by decide) rfl ?_
    refine C_V2V (q := 54) lk_X6_247 (sp_X6_checkT) rc_X6 dX6_readWrite_51 (by decide) (Nat.le_of_ble_eq_true rfl) rfl ?_
    refine E_aload0 (q := 55) dX6_readWrite_54 rfl ?_
    refine G_X6_fault (q := 58) fl_X6_220 dX6_readWrite_55 rfl ?_
    refine V_int ft_18 ?_
    refine E_if_ne (tgt := 69) (q := 61) dX6_readWrite_58 (by decide) rfl (fun h58 => ?_) (fun h58 => ?_)
    · skip
      refine E_aload0 (q := 70) dX6_readWrite_69 rfl ?_
      refine C_V0V (q := 73) lk_X6_254 (sp_X6_advanceX (ft_ne (by decide))) rc_X6 dX6_readWrite_70 (by decide) (Nat.le_of_ble_eq_true rfl) rfl ?_
      exact E_vreturn rfl rfl dX6_readWrite_73 ⟨rfl, RPC_fail (by simp only [sWrite, volR, nmR, ch_t c1, ch_t c2]) (by decide) h1 f1⟩
    · first | exact absurd h58 (by decide) | exact absurd (by decide) h58
  · first | exact absurd h31 (by decide) | exact absurd (by decide) h31
theorem sp_X6_readWriteK1 (h : RdR M b n s g A) (hT : aT A + 1 < 2 ^ 24) (c1 : isNm b n (nxt b n s)) {v : Nat} (hv : v < 6) (hvt : th A (16 + v)) (hf : fV A (nmc b n (nxt b n s)) = nI v) (hcl : (fV A (nmc b n (nxt b n s))).toNatClampNeg = v) (c2 : ¬ fV A (nmc b n (nxt b n s)) = -1) (c3 : ¬ knd b n (nxt b n (nxt b n s)) = 2) : Spec D 10 yX6_readWrite cfX6_readWrite [.ref (ad 157)] (wl D ad M) 0 0 (PY (RPC D ad M b n (sWrite b n s g A))) := by
  refine Spec.of (by decide) rfl (Nat.le_of_ble_eq_true rfl) rfl ?_
  have hw := h.2.2.2.2.2.1
  have hI := h.2.2.2.2.2
  have hb := hI.2.2.1.1
  refine E_aload0 (q := 1) dX6_readWrite_0 rfl ?_
  refine C_V0Y (q := 4) lk_X6_254 (sp_X6_advR h) rc_X6 dX6_readWrite_1 (by decide) (Nat.le_of_ble_eq_true rfl) rfl ?_
  refine kkEW ?_
  rintro M1 ⟨h1, f1⟩
  refine E_aload0 (q := 5) dX6_readWrite_4 rfl ?_
  refine E_iconst (v := nI 0) (q := 6) dX6_readWrite_5 (by decide) rfl ?_
  refine C_V1X (q := 9) lk_X6_266 (sp_X6_thing h1 c1 hv hf) rc_X6 dX6_readWrite_6 (by decide) (Nat.le_of_ble_eq_true rfl) rfl ?_
  refine kkEI ?_
  rintro M2 ⟨h2, f2⟩
  refine E_istore1 (q := 10) dX6_readWrite_9 rfl rfl ?_
  refine E_aload0 (q := 11) dX6_readWrite_10 rfl ?_
  refine E_iconst (v := nI 0) (q := 12) dX6_readWrite_11 (by decide) rfl ?_
  refine E_bipush (v := nI 11) (q := 14) dX6_readWrite_12 (by decide) rfl ?_
  refine C_V2I (q := 17) lk_X6_269 (sp_X6_integerK h2 c3) rc_X6 dX6_readWrite_14 (by decide) (Nat.le_of_ble_eq_true rfl) rfl ?_
  refine E_istore2 (q := 18) dX6_readWrite_17 rfl rfl ?_
  refine E_aload0 (q := 19) dX6_readWrite_18 rfl ?_
  refine E_iconst (v := nI 1) (q := 20) dX6_readWrite_19 (by decide) rfl ?_
  refine E_bipush (v := nI 9) (q := 22) dX6_readWrite_20 (by decide) rfl ?_
  refine C_V2I (q := 25) lk_X6_251 (sp_X6_integerHereX (ft_ne (by decide))) rc_X6 dX6_readWrite_22 (by decide) (Nat.le_of_ble_eq_true rfl) rfl ?_
  refine E_istore3 (q := 26) dX6_readWrite_25 rfl rfl ?_
  refine E_aload0 (q := 27) dX6_readWrite_26 rfl ?_
  refine E_aload0 (q := 28) dX6_readWrite_27 rfl ?_
  refine G_X6_fault (q := 31) fl_X6_220 dX6_readWrite_28 rfl ?_
  refine V_int ft_18 ?_
  refine E_if_ne (tgt := 44) (q := 34) dX6_readWrite_31 (by decide) rfl (fun h31 => ?_) (fun h31 => ?_)
  · skip
    refine E_iconst (v := nI 1) (q := 45) dX6_readWrite_44 (by decide) rfl ?_
    refine E_goto (q := 49) dX6_readWrite_45 (by decide) ?_
    refine E_bipush (v := -16) (q := 51) dX6_readWrite_49 (by decide) rfl ?_
    refine C_V2V (q := 54) lk_X6_247 (sp_X6_checkT) rc_X6 dX6_readWrite_51 (by decide) (Nat.le_of_ble_eq_true rfl) rfl ?_
    refine E_aload0 (q := 55) dX6_readWrite_54 rfl ?_
    refine G_X6_fault (q := 58) fl_X6_220 dX6_readWrite_55 rfl ?_
    refine V_int ft_18 ?_
    refine E_if_ne (tgt := 69) (q := 61) dX6_readWrite_58 (by decide) rfl (fun h58 => ?_) (fun h58 => ?_)
    · skip
      refine E_aload0 (q := 70) dX6_readWrite_69 rfl ?_
      refine C_V0V (q := 73) lk_X6_254 (sp_X6_advanceX (ft_ne (by decide))) rc_X6 dX6_readWrite_70 (by decide) (Nat.le_of_ble_eq_true rfl) rfl ?_
      exact E_vreturn rfl rfl dX6_readWrite_73 ⟨rfl, RPC_fail (by simp only [sWrite, volR, nmR, intR, ch_t c1, ch_f c2, ch_f c3]) (by decide) h2 (f1.tr f2)⟩
    · first | exact absurd h58 (by decide) | exact absurd (by decide) h58
  · first | exact absurd h31 (by decide) | exact absurd (by decide) h31
theorem sp_X6_readWriteR1 (h : RdR M b n s g A) (hT : aT A + 1 < 2 ^ 24) (c1 : isNm b n (nxt b n s)) {v : Nat} (hv : v < 6) (hvt : th A (16 + v)) (hf : fV A (nmc b n (nxt b n s)) = nI v) (hcl : (fV A (nmc b n (nxt b n s))).toNatClampNeg = v) (c2 : ¬ fV A (nmc b n (nxt b n s)) = -1) (c3 : knd b n (nxt b n (nxt b n s)) = 2) (c4 : ¬ (0 ≤ itv b n (nxt b n (nxt b n s)) ∧ itv b n (nxt b n (nxt b n s)) ≤ 11)) : Spec D 10 yX6_readWrite cfX6_readWrite [.ref (ad 157)] (wl D ad M) 0 0 (PY (RPC D ad M b n (sWrite b n s g A))) := by
  refine Spec.of (by decide) rfl (Nat.le_of_ble_eq_true rfl) rfl ?_
  have hw := h.2.2.2.2.2.1
  have hI := h.2.2.2.2.2
  have hb := hI.2.2.1.1
  refine E_aload0 (q := 1) dX6_readWrite_0 rfl ?_
  refine C_V0Y (q := 4) lk_X6_254 (sp_X6_advR h) rc_X6 dX6_readWrite_1 (by decide) (Nat.le_of_ble_eq_true rfl) rfl ?_
  refine kkEW ?_
  rintro M1 ⟨h1, f1⟩
  refine E_aload0 (q := 5) dX6_readWrite_4 rfl ?_
  refine E_iconst (v := nI 0) (q := 6) dX6_readWrite_5 (by decide) rfl ?_
  refine C_V1X (q := 9) lk_X6_266 (sp_X6_thing h1 c1 hv hf) rc_X6 dX6_readWrite_6 (by decide) (Nat.le_of_ble_eq_true rfl) rfl ?_
  refine kkEI ?_
  rintro M2 ⟨h2, f2⟩
  refine E_istore1 (q := 10) dX6_readWrite_9 rfl rfl ?_
  refine E_aload0 (q := 11) dX6_readWrite_10 rfl ?_
  refine E_iconst (v := nI 0) (q := 12) dX6_readWrite_11 (by decide) rfl ?_
  refine E_bipush (v := nI 11) (q := 14) dX6_readWrite_12 (by decide) rfl ?_
  refine C_V2I (q := 17) lk_X6_269 (sp_X6_integerR h2 c3 (by decide) (by decide) c4) rc_X6 dX6_readWrite_14 (by decide) (Nat.le_of_ble_eq_true rfl) rfl ?_
  refine E_istore2 (q := 18) dX6_readWrite_17 rfl rfl ?_
  refine E_aload0 (q := 19) dX6_readWrite_18 rfl ?_
  refine E_iconst (v := nI 1) (q := 20) dX6_readWrite_19 (by decide) rfl ?_
  refine E_bipush (v := nI 9) (q := 22) dX6_readWrite_20 (by decide) rfl ?_
  refine C_V2I (q := 25) lk_X6_251 (sp_X6_integerHereX (ft_ne (by decide))) rc_X6 dX6_readWrite_22 (by decide) (Nat.le_of_ble_eq_true rfl) rfl ?_
  refine E_istore3 (q := 26) dX6_readWrite_25 rfl rfl ?_
  refine E_aload0 (q := 27) dX6_readWrite_26 rfl ?_
  refine E_aload0 (q := 28) dX6_readWrite_27 rfl ?_
  refine G_X6_fault (q := 31) fl_X6_220 dX6_readWrite_28 rfl ?_
  refine V_int ft_18 ?_
  refine E_if_ne (tgt := 44) (q := 34) dX6_readWrite_31 (by decide) rfl (fun h31 => ?_) (fun h31 => ?_)
  · skip
    refine E_iconst (v := nI 1) (q := 45) dX6_readWrite_44 (by decide) rfl ?_
    refine E_goto (q := 49) dX6_readWrite_45 (by decide) ?_
    refine E_bipush (v := -16) (q := 51) dX6_readWrite_49 (by decide) rfl ?_
    refine C_V2V (q := 54) lk_X6_247 (sp_X6_checkT) rc_X6 dX6_readWrite_51 (by decide) (Nat.le_of_ble_eq_true rfl) rfl ?_
    refine E_aload0 (q := 55) dX6_readWrite_54 rfl ?_
    refine G_X6_fault (q := 58) fl_X6_220 dX6_readWrite_55 rfl ?_
    refine V_int ft_18 ?_
    refine E_if_ne (tgt := 69) (q := 61) dX6_readWrite_58 (by decide) rfl (fun h58 => ?_) (fun h58 => ?_)
    · skip
      refine E_aload0 (q := 70) dX6_readWrite_69 rfl ?_
      refine C_V0V (q := 73) lk_X6_254 (sp_X6_advanceX (ft_ne (by decide))) rc_X6 dX6_readWrite_70 (by decide) (Nat.le_of_ble_eq_true rfl) rfl ?_
      exact E_vreturn rfl rfl dX6_readWrite_73 ⟨rfl, RPC_fail (by simp only [sWrite, volR, nmR, intR, ch_t c1, ch_f c2, ch_t c3, ch_f c4]) (by decide) h2 (f1.tr f2)⟩
    · first | exact absurd h58 (by decide) | exact absurd (by decide) h58
  · first | exact absurd h31 (by decide) | exact absurd (by decide) h31
theorem sp_X6_readWriteK2 (h : RdR M b n s g A) (hT : aT A + 1 < 2 ^ 24) (c1 : isNm b n (nxt b n s)) {v : Nat} (hv : v < 6) (hvt : th A (16 + v)) (hf : fV A (nmc b n (nxt b n s)) = nI v) (hcl : (fV A (nmc b n (nxt b n s))).toNatClampNeg = v) (c2 : ¬ fV A (nmc b n (nxt b n s)) = -1) (c3 : knd b n (nxt b n (nxt b n s)) = 2) (c4 : 0 ≤ itv b n (nxt b n (nxt b n s)) ∧ itv b n (nxt b n (nxt b n s)) ≤ 11) (c5 : ¬ knd b n (nxt b n (nxt b n (nxt b n s))) = 2) : Spec D 10 yX6_readWrite cfX6_readWrite [.ref (ad 157)] (wl D ad M) 0 0 (PY (RPC D ad M b n (sWrite b n s g A))) := by
  refine Spec.of (by decide) rfl (Nat.le_of_ble_eq_true rfl) rfl ?_
  have hw := h.2.2.2.2.2.1
  have hI := h.2.2.2.2.2
  have hb := hI.2.2.1.1
  refine E_aload0 (q := 1) dX6_readWrite_0 rfl ?_
  refine C_V0Y (q := 4) lk_X6_254 (sp_X6_advR h) rc_X6 dX6_readWrite_1 (by decide) (Nat.le_of_ble_eq_true rfl) rfl ?_
  refine kkEW ?_
  rintro M1 ⟨h1, f1⟩
  refine E_aload0 (q := 5) dX6_readWrite_4 rfl ?_
  refine E_iconst (v := nI 0) (q := 6) dX6_readWrite_5 (by decide) rfl ?_
  refine C_V1X (q := 9) lk_X6_266 (sp_X6_thing h1 c1 hv hf) rc_X6 dX6_readWrite_6 (by decide) (Nat.le_of_ble_eq_true rfl) rfl ?_
  refine kkEI ?_
  rintro M2 ⟨h2, f2⟩
  refine E_istore1 (q := 10) dX6_readWrite_9 rfl rfl ?_
  refine E_aload0 (q := 11) dX6_readWrite_10 rfl ?_
  refine E_iconst (v := nI 0) (q := 12) dX6_readWrite_11 (by decide) rfl ?_
  refine E_bipush (v := nI 11) (q := 14) dX6_readWrite_12 (by decide) rfl ?_
  refine C_V2X (q := 17) lk_X6_269 (sp_X6_integer h2 c3 (by decide) (by decide) c4) rc_X6 dX6_readWrite_14 (by decide) (Nat.le_of_ble_eq_true rfl) rfl ?_
  refine kkEI ?_
  rintro M3 ⟨h3, f3⟩
  refine E_istore2 (q := 18) dX6_readWrite_17 rfl rfl ?_
  refine E_aload0 (q := 19) dX6_readWrite_18 rfl ?_
  refine E_iconst (v := nI 1) (q := 20) dX6_readWrite_19 (by decide) rfl ?_
  refine E_bipush (v := nI 9) (q := 22) dX6_readWrite_20 (by decide) rfl ?_
  refine C_V2I (q := 25) lk_X6_251 (sp_X6_integerHereK h3 c5) rc_X6 dX6_readWrite_22 (by decide) (Nat.le_of_ble_eq_true rfl) rfl ?_
  refine E_istore3 (q := 26) dX6_readWrite_25 rfl rfl ?_
  refine E_aload0 (q := 27) dX6_readWrite_26 rfl ?_
  refine E_aload0 (q := 28) dX6_readWrite_27 rfl ?_
  refine G_X6_fault (q := 31) fl_X6_220 dX6_readWrite_28 rfl ?_
  refine V_int ft_18 ?_
  refine E_if_ne (tgt := 44) (q := 34) dX6_readWrite_31 (by decide) rfl (fun h31 => ?_) (fun h31 => ?_)
  · skip
    refine E_iconst (v := nI 1) (q := 45) dX6_readWrite_44 (by decide) rfl ?_
    refine E_goto (q := 49) dX6_readWrite_45 (by decide) ?_
    refine E_bipush (v := -16) (q := 51) dX6_readWrite_49 (by decide) rfl ?_
    refine C_V2V (q := 54) lk_X6_247 (sp_X6_checkT) rc_X6 dX6_readWrite_51 (by decide) (Nat.le_of_ble_eq_true rfl) rfl ?_
    refine E_aload0 (q := 55) dX6_readWrite_54 rfl ?_
    refine G_X6_fault (q := 58) fl_X6_220 dX6_readWrite_55 rfl ?_
    refine V_int ft_18 ?_
    refine E_if_ne (tgt := 69) (q := 61) dX6_readWrite_58 (by decide) rfl (fun h58 => ?_) (fun h58 => ?_)
    · skip
      refine E_aload0 (q := 70) dX6_readWrite_69 rfl ?_
      refine C_V0V (q := 73) lk_X6_254 (sp_X6_advanceX (ft_ne (by decide))) rc_X6 dX6_readWrite_70 (by decide) (Nat.le_of_ble_eq_true rfl) rfl ?_
      exact E_vreturn rfl rfl dX6_readWrite_73 ⟨rfl, RPC_fail (by simp only [sWrite, volR, nmR, intR, ch_t c1, ch_f c2, ch_t c3, ch_t c4, ch_f c5]) (by decide) h3 ((f1.tr f2).tr f3)⟩
    · first | exact absurd h58 (by decide) | exact absurd (by decide) h58
  · first | exact absurd h31 (by decide) | exact absurd (by decide) h31
theorem sp_X6_readWriteR2 (h : RdR M b n s g A) (hT : aT A + 1 < 2 ^ 24) (c1 : isNm b n (nxt b n s)) {v : Nat} (hv : v < 6) (hvt : th A (16 + v)) (hf : fV A (nmc b n (nxt b n s)) = nI v) (hcl : (fV A (nmc b n (nxt b n s))).toNatClampNeg = v) (c2 : ¬ fV A (nmc b n (nxt b n s)) = -1) (c3 : knd b n (nxt b n (nxt b n s)) = 2) (c4 : 0 ≤ itv b n (nxt b n (nxt b n s)) ∧ itv b n (nxt b n (nxt b n s)) ≤ 11) (c5 : knd b n (nxt b n (nxt b n (nxt b n s))) = 2) (c6 : ¬ (1 ≤ itv b n (nxt b n (nxt b n (nxt b n s))) ∧ itv b n (nxt b n (nxt b n (nxt b n s))) ≤ 9)) : Spec D 10 yX6_readWrite cfX6_readWrite [.ref (ad 157)] (wl D ad M) 0 0 (PY (RPC D ad M b n (sWrite b n s g A))) := by
  refine Spec.of (by decide) rfl (Nat.le_of_ble_eq_true rfl) rfl ?_
  have hw := h.2.2.2.2.2.1
  have hI := h.2.2.2.2.2
  have hb := hI.2.2.1.1
  refine E_aload0 (q := 1) dX6_readWrite_0 rfl ?_
  refine C_V0Y (q := 4) lk_X6_254 (sp_X6_advR h) rc_X6 dX6_readWrite_1 (by decide) (Nat.le_of_ble_eq_true rfl) rfl ?_
  refine kkEW ?_
  rintro M1 ⟨h1, f1⟩
  refine E_aload0 (q := 5) dX6_readWrite_4 rfl ?_
  refine E_iconst (v := nI 0) (q := 6) dX6_readWrite_5 (by decide) rfl ?_
  refine C_V1X (q := 9) lk_X6_266 (sp_X6_thing h1 c1 hv hf) rc_X6 dX6_readWrite_6 (by decide) (Nat.le_of_ble_eq_true rfl) rfl ?_
  refine kkEI ?_
  rintro M2 ⟨h2, f2⟩
  refine E_istore1 (q := 10) dX6_readWrite_9 rfl rfl ?_
  refine E_aload0 (q := 11) dX6_readWrite_10 rfl ?_
  refine E_iconst (v := nI 0) (q := 12) dX6_readWrite_11 (by decide) rfl ?_
  refine E_bipush (v := nI 11) (q := 14) dX6_readWrite_12 (by decide) rfl ?_
  refine C_V2X (q := 17) lk_X6_269 (sp_X6_integer h2 c3 (by decide) (by decide) c4) rc_X6 dX6_readWrite_14 (by decide) (Nat.le_of_ble_eq_true rfl) rfl ?_
  refine kkEI ?_
  rintro M3 ⟨h3, f3⟩
  refine E_istore2 (q := 18) dX6_readWrite_17 rfl rfl ?_
  refine E_aload0 (q := 19) dX6_readWrite_18 rfl ?_
  refine E_iconst (v := nI 1) (q := 20) dX6_readWrite_19 (by decide) rfl ?_
  refine E_bipush (v := nI 9) (q := 22) dX6_readWrite_20 (by decide) rfl ?_
  refine C_V2I (q := 25) lk_X6_251 (sp_X6_integerHereR h3 c5 (by decide) (by decide) c6) rc_X6 dX6_readWrite_22 (by decide) (Nat.le_of_ble_eq_true rfl) rfl ?_
  refine E_istore3 (q := 26) dX6_readWrite_25 rfl rfl ?_
  refine E_aload0 (q := 27) dX6_readWrite_26 rfl ?_
  refine E_aload0 (q := 28) dX6_readWrite_27 rfl ?_
  refine G_X6_fault (q := 31) fl_X6_220 dX6_readWrite_28 rfl ?_
  refine V_int ft_18 ?_
  refine E_if_ne (tgt := 44) (q := 34) dX6_readWrite_31 (by decide) rfl (fun h31 => ?_) (fun h31 => ?_)
  · skip
    refine E_iconst (v := nI 1) (q := 45) dX6_readWrite_44 (by decide) rfl ?_
    refine E_goto (q := 49) dX6_readWrite_45 (by decide) ?_
    refine E_bipush (v := -16) (q := 51) dX6_readWrite_49 (by decide) rfl ?_
    refine C_V2V (q := 54) lk_X6_247 (sp_X6_checkT) rc_X6 dX6_readWrite_51 (by decide) (Nat.le_of_ble_eq_true rfl) rfl ?_
    refine E_aload0 (q := 55) dX6_readWrite_54 rfl ?_
    refine G_X6_fault (q := 58) fl_X6_220 dX6_readWrite_55 rfl ?_
    refine V_int ft_18 ?_
    refine E_if_ne (tgt := 69) (q := 61) dX6_readWrite_58 (by decide) rfl (fun h58 => ?_) (fun h58 => ?_)
    · skip
      refine E_aload0 (q := 70) dX6_readWrite_69 rfl ?_
      refine C_V0V (q := 73) lk_X6_254 (sp_X6_advanceX (ft_ne (by decide))) rc_X6 dX6_readWrite_70 (by decide) (Nat.le_of_ble_eq_true rfl) rfl ?_
      exact E_vreturn rfl rfl dX6_readWrite_73 ⟨rfl, RPC_fail (by simp only [sWrite, volR, nmR, intR, ch_t c1, ch_f c2, ch_t c3, ch_t c4, ch_t c5, ch_f c6]) (by decide) h3 ((f1.tr f2).tr f3)⟩
    · first | exact absurd h58 (by decide) | exact absurd (by decide) h58
  · first | exact absurd h31 (by decide) | exact absurd (by decide) h31
theorem sp_X6_readWriteF2 (h : RdR M b n s g A) (hT : aT A + 1 < 2 ^ 24) (c1 : isNm b n (nxt b n s)) {v : Nat} (hv : v < 6) (hvt : th A (16 + v)) (hf : fV A (nmc b n (nxt b n s)) = nI v) (hcl : (fV A (nmc b n (nxt b n s))).toNatClampNeg = v) (c2 : ¬ fV A (nmc b n (nxt b n s)) = -1) (c3 : knd b n (nxt b n (nxt b n s)) = 2) (c4 : 0 ≤ itv b n (nxt b n (nxt b n s)) ∧ itv b n (nxt b n (nxt b n s)) ≤ 11) (c5 : knd b n (nxt b n (nxt b n (nxt b n s))) = 2) (c6 : 1 ≤ itv b n (nxt b n (nxt b n (nxt b n s))) ∧ itv b n (nxt b n (nxt b n (nxt b n s))) ≤ 9) (c7 : ¬ wrI A v (itv b n (nxt b n (nxt b n s))) (itv b n (nxt b n (nxt b n (nxt b n s)))) = 0) : Spec D 10 yX6_readWrite cfX6_readWrite [.ref (ad 157)] (wl D ad M) 0 0 (PY (RPC D ad M b n (sWrite b n s g A))) := by
  refine Spec.of (by decide) rfl (Nat.le_of_ble_eq_true rfl) rfl ?_
  have hw := h.2.2.2.2.2.1
  have hI := h.2.2.2.2.2
  have hb := hI.2.2.1.1
  refine E_aload0 (q := 1) dX6_readWrite_0 rfl ?_
  refine C_V0Y (q := 4) lk_X6_254 (sp_X6_advR h) rc_X6 dX6_readWrite_1 (by decide) (Nat.le_of_ble_eq_true rfl) rfl ?_
  refine kkEW ?_
  rintro M1 ⟨h1, f1⟩
  refine E_aload0 (q := 5) dX6_readWrite_4 rfl ?_
  refine E_iconst (v := nI 0) (q := 6) dX6_readWrite_5 (by decide) rfl ?_
  refine C_V1X (q := 9) lk_X6_266 (sp_X6_thing h1 c1 hv hf) rc_X6 dX6_readWrite_6 (by decide) (Nat.le_of_ble_eq_true rfl) rfl ?_
  refine kkEI ?_
  rintro M2 ⟨h2, f2⟩
  refine E_istore1 (q := 10) dX6_readWrite_9 rfl rfl ?_
  refine E_aload0 (q := 11) dX6_readWrite_10 rfl ?_
  refine E_iconst (v := nI 0) (q := 12) dX6_readWrite_11 (by decide) rfl ?_
  refine E_bipush (v := nI 11) (q := 14) dX6_readWrite_12 (by decide) rfl ?_
  refine C_V2X (q := 17) lk_X6_269 (sp_X6_integer h2 c3 (by decide) (by decide) c4) rc_X6 dX6_readWrite_14 (by decide) (Nat.le_of_ble_eq_true rfl) rfl ?_
  refine kkEI ?_
  rintro M3 ⟨h3, f3⟩
  refine E_istore2 (q := 18) dX6_readWrite_17 rfl rfl ?_
  refine E_aload0 (q := 19) dX6_readWrite_18 rfl ?_
  refine E_iconst (v := nI 1) (q := 20) dX6_readWrite_19 (by decide) rfl ?_
  refine E_bipush (v := nI 9) (q := 22) dX6_readWrite_20 (by decide) rfl ?_
  refine C_V2I (q := 25) lk_X6_251 (sp_X6_integerHere h3 c5 (by decide) (by decide) c6) rc_X6 dX6_readWrite_22 (by decide) (Nat.le_of_ble_eq_true rfl) rfl ?_
  refine E_istore3 (q := 26) dX6_readWrite_25 rfl rfl ?_
  refine E_aload0 (q := 27) dX6_readWrite_26 rfl ?_
  refine E_aload0 (q := 28) dX6_readWrite_27 rfl ?_
  refine G_X6_fault (q := 31) fl_X6_220 dX6_readWrite_28 rfl ?_
  refine V_int h3.2.2.2.1 ?_
  refine E_if_ne (tgt := 44) (q := 34) dX6_readWrite_31 (by decide) rfl (fun h31 => ?_) (fun h31 => ?_)
  · first | exact absurd h31 (by decide) | exact absurd (by decide) h31
  · skip
    refine E_aload0 (q := 35) dX6_readWrite_34 rfl ?_
    refine E_iload1 (q := 36) dX6_readWrite_35 rfl ?_
    refine E_iload2 (q := 37) dX6_readWrite_36 rfl ?_
    refine E_iload3 (q := 38) dX6_readWrite_37 rfl ?_
    refine C_V3I (q := 41) lk_X6_172 (sp_X6_writing h3.2.2.2.2.2 hv hvt (show itv b n (nxt b n (nxt b n s)) < 12 by omega) c6) rc_X6 dX6_readWrite_38 (by decide) (Nat.le_of_ble_eq_true rfl) rfl ?_
    refine E_if_ne (tgt := 48) (q := 44) dX6_readWrite_41 (by decide) rfl (fun h41 => ?_) (fun h41 => ?_)
    · skip
      refine E_iconst (v := nI 0) (q := 49) dX6_readWrite_48 (by decide) rfl ?_
      refine E_bipush (v := -16) (q := 51) dX6_readWrite_49 (by decide) rfl ?_
      refine C_V2V (q := 54) lk_X6_247 (sp_X6_checkF h3.2.2.2.1) rc_X6 dX6_readWrite_51 (by decide) (Nat.le_of_ble_eq_true rfl) rfl ?_
      refine E_aload0 (q := 55) dX6_readWrite_54 rfl ?_
      refine G_X6_fault (q := 58) fl_X6_220 dX6_readWrite_55 rfl ?_
      refine V_int ft_18 ?_
      refine E_if_ne (tgt := 69) (q := 61) dX6_readWrite_58 (by decide) rfl (fun h58 => ?_) (fun h58 => ?_)
      · skip
        refine E_aload0 (q := 70) dX6_readWrite_69 rfl ?_
        refine C_V0V (q := 73) lk_X6_254 (sp_X6_advanceX (ft_ne (by decide))) rc_X6 dX6_readWrite_70 (by decide) (Nat.le_of_ble_eq_true rfl) rfl ?_
        exact E_vreturn rfl rfl dX6_readWrite_73 ⟨rfl, RPC_fail (by simp only [sWrite, volR, nmR, intR, ch_t c1, ch_f c2, ch_t c3, ch_t c4, ch_t c5, ch_t c6, hcl, ch_f c7]) (by decide) h3 ((f1.tr f2).tr f3)⟩
      · first | exact absurd h58 (by decide) | exact absurd (by decide) h58
    · skip
      exact absurd h41 c7
theorem sp_X6_readWriteK (h : RdR M b n s g A) (hT : aT A + 1 < 2 ^ 24) (c1 : isNm b n (nxt b n s)) {v : Nat} (hv : v < 6) (hvt : th A (16 + v)) (hf : fV A (nmc b n (nxt b n s)) = nI v) (hcl : (fV A (nmc b n (nxt b n s))).toNatClampNeg = v) (c2 : ¬ fV A (nmc b n (nxt b n s)) = -1) (c3 : knd b n (nxt b n (nxt b n s)) = 2) (c4 : 0 ≤ itv b n (nxt b n (nxt b n s)) ∧ itv b n (nxt b n (nxt b n s)) ≤ 11) (c5 : knd b n (nxt b n (nxt b n (nxt b n s))) = 2) (c6 : 1 ≤ itv b n (nxt b n (nxt b n (nxt b n s))) ∧ itv b n (nxt b n (nxt b n (nxt b n s))) ≤ 9) (c7 : wrI A v (itv b n (nxt b n (nxt b n s))) (itv b n (nxt b n (nxt b n (nxt b n s)))) = 0) : Spec D 10 yX6_readWrite cfX6_readWrite [.ref (ad 157)] (wl D ad M) 0 0 (PY (RPC D ad M b n (sWrite b n s g A))) := by
  refine Spec.of (by decide) rfl (Nat.le_of_ble_eq_true rfl) rfl ?_
  have hw := h.2.2.2.2.2.1
  have hI := h.2.2.2.2.2
  have hb := hI.2.2.1.1
  refine E_aload0 (q := 1) dX6_readWrite_0 rfl ?_
  refine C_V0Y (q := 4) lk_X6_254 (sp_X6_advR h) rc_X6 dX6_readWrite_1 (by decide) (Nat.le_of_ble_eq_true rfl) rfl ?_
  refine kkEW ?_
  rintro M1 ⟨h1, f1⟩
  refine E_aload0 (q := 5) dX6_readWrite_4 rfl ?_
  refine E_iconst (v := nI 0) (q := 6) dX6_readWrite_5 (by decide) rfl ?_
  refine C_V1X (q := 9) lk_X6_266 (sp_X6_thing h1 c1 hv hf) rc_X6 dX6_readWrite_6 (by decide) (Nat.le_of_ble_eq_true rfl) rfl ?_
  refine kkEI ?_
  rintro M2 ⟨h2, f2⟩
  refine E_istore1 (q := 10) dX6_readWrite_9 rfl rfl ?_
  refine E_aload0 (q := 11) dX6_readWrite_10 rfl ?_
  refine E_iconst (v := nI 0) (q := 12) dX6_readWrite_11 (by decide) rfl ?_
  refine E_bipush (v := nI 11) (q := 14) dX6_readWrite_12 (by decide) rfl ?_
  refine C_V2X (q := 17) lk_X6_269 (sp_X6_integer h2 c3 (by decide) (by decide) c4) rc_X6 dX6_readWrite_14 (by decide) (Nat.le_of_ble_eq_true rfl) rfl ?_
  refine kkEI ?_
  rintro M3 ⟨h3, f3⟩
  refine E_istore2 (q := 18) dX6_readWrite_17 rfl rfl ?_
  refine E_aload0 (q := 19) dX6_readWrite_18 rfl ?_
  refine E_iconst (v := nI 1) (q := 20) dX6_readWrite_19 (by decide) rfl ?_
  refine E_bipush (v := nI 9) (q := 22) dX6_readWrite_20 (by decide) rfl ?_
  refine C_V2I (q := 25) lk_X6_251 (sp_X6_integerHere h3 c5 (by decide) (by decide) c6) rc_X6 dX6_readWrite_22 (by decide) (Nat.le_of_ble_eq_true rfl) rfl ?_
  refine E_istore3 (q := 26) dX6_readWrite_25 rfl rfl ?_
  refine E_aload0 (q := 27) dX6_readWrite_26 rfl ?_
  refine E_aload0 (q := 28) dX6_readWrite_27 rfl ?_
  refine G_X6_fault (q := 31) fl_X6_220 dX6_readWrite_28 rfl ?_
  refine V_int h3.2.2.2.1 ?_
  refine E_if_ne (tgt := 44) (q := 34) dX6_readWrite_31 (by decide) rfl (fun h31 => ?_) (fun h31 => ?_)
  · first | exact absurd h31 (by decide) | exact absurd (by decide) h31
  · skip
    refine E_aload0 (q := 35) dX6_readWrite_34 rfl ?_
    refine E_iload1 (q := 36) dX6_readWrite_35 rfl ?_
    refine E_iload2 (q := 37) dX6_readWrite_36 rfl ?_
    refine E_iload3 (q := 38) dX6_readWrite_37 rfl ?_
    refine C_V3I (q := 41) lk_X6_172 (sp_X6_writing h3.2.2.2.2.2 hv hvt (show itv b n (nxt b n (nxt b n s)) < 12 by omega) c6) rc_X6 dX6_readWrite_38 (by decide) (Nat.le_of_ble_eq_true rfl) rfl ?_
    refine E_if_ne (tgt := 48) (q := 44) dX6_readWrite_41 (by decide) rfl (fun h41 => ?_) (fun h41 => ?_)
    · skip
      exact absurd c7 h41
    · skip
      refine E_iconst (v := nI 1) (q := 45) dX6_readWrite_44 (by decide) rfl ?_
      refine E_goto (q := 49) dX6_readWrite_45 (by decide) ?_
      refine E_bipush (v := -16) (q := 51) dX6_readWrite_49 (by decide) rfl ?_
      refine C_V2V (q := 54) lk_X6_247 (sp_X6_checkT) rc_X6 dX6_readWrite_51 (by decide) (Nat.le_of_ble_eq_true rfl) rfl ?_
      refine E_aload0 (q := 55) dX6_readWrite_54 rfl ?_
      refine G_X6_fault (q := 58) fl_X6_220 dX6_readWrite_55 rfl ?_
      refine V_int h3.2.2.2.1 ?_
      refine E_if_ne (tgt := 69) (q := 61) dX6_readWrite_58 (by decide) rfl (fun h58 => ?_) (fun h58 => ?_)
      · first | exact absurd h58 (by decide) | exact absurd (by decide) h58
      · skip
        refine E_aload0 (q := 62) dX6_readWrite_61 rfl ?_
        refine E_iload1 (q := 63) dX6_readWrite_62 rfl ?_
        refine E_iload2 (q := 64) dX6_readWrite_63 rfl ?_
        refine E_iload3 (q := 65) dX6_readWrite_64 rfl ?_
        refine C_V3X (q := 68) lk_X6_189 (sp_X6_mkBl h3.2.2.2.2.2 hv hvt (show itv b n (nxt b n (nxt b n s)) < 12 by omega) c6 hT) rc_X6 dX6_readWrite_65 (by decide) (Nat.le_of_ble_eq_true rfl) rfl ?_
        refine kkEI ?_
        rintro M4 ⟨q4, e4⟩
        refine E_pop (q := 69) dX6_readWrite_68 rfl rfl ?_
        have h4 := h3.wr q4 e4
        refine E_aload0 (q := 70) dX6_readWrite_69 rfl ?_
        refine C_V0Y (q := 73) lk_X6_254 (sp_X6_advR h4) rc_X6 dX6_readWrite_70 (by decide) (Nat.le_of_ble_eq_true rfl) rfl ?_
        refine kkEW ?_
        rintro M5 ⟨h5, f5⟩
        exact E_vreturn rfl rfl dX6_readWrite_73 ⟨rfl, RPC_ok (by simp only [sWrite, volR, nmR, intR, ch_t c1, ch_f c2, ch_t c3, ch_t c4, ch_t c5, ch_t c6, hcl, ch_t c7]) h5 ((((f1.tr f2).tr f3).tr (FrR.w e4)).tr f5)⟩
theorem sp_X6_readWrite (h : RdR M b n s g A) (hT : aT A + 1 < 2 ^ 24) : Spec D 10 yX6_readWrite cfX6_readWrite [.ref (ad 157)] (wl D ad M) 0 0 (PY (RPC D ad M b n (sWrite b n s g A))) := by
  by_cases c1 : isNm b n (nxt b n s)
  · rcases fV_or A (nmc b n (nxt b n s)) with c2 | ⟨v, hv, hvt, hf, hcl, c2⟩
    · exact sp_X6_readWriteF h hT c1 c2
    · by_cases c3 : knd b n (nxt b n (nxt b n s)) = 2
      · by_cases c4 : 0 ≤ itv b n (nxt b n (nxt b n s)) ∧ itv b n (nxt b n (nxt b n s)) ≤ 11
        · by_cases c5 : knd b n (nxt b n (nxt b n (nxt b n s))) = 2
          · by_cases c6 : 1 ≤ itv b n (nxt b n (nxt b n (nxt b n s))) ∧ itv b n (nxt b n (nxt b n (nxt b n s))) ≤ 9
            · by_cases c7 : wrI A v (itv b n (nxt b n (nxt b n s))) (itv b n (nxt b n (nxt b n (nxt b n s)))) = 0
              · exact sp_X6_readWriteK h hT c1 hv hvt hf hcl c2 c3 c4 c5 c6 c7
              · exact sp_X6_readWriteF2 h hT c1 hv hvt hf hcl c2 c3 c4 c5 c6 c7
            · exact sp_X6_readWriteR2 h hT c1 hv hvt hf hcl c2 c3 c4 c5 c6
          · exact sp_X6_readWriteK2 h hT c1 hv hvt hf hcl c2 c3 c4 c5
        · exact sp_X6_readWriteR1 h hT c1 hv hvt hf hcl c2 c3 c4
      · exact sp_X6_readWriteK1 h hT c1 hv hvt hf hcl c2 c3
  · exact sp_X6_readWriteN h hT c1
theorem sp_X6_readTrimN (h : RdR M b n s g A) (hT : aT A + 1 < 2 ^ 24) (c1 : ¬ isNm b n (nxt b n s)) : Spec D 10 yX6_readTrim cfX6_readTrim [.ref (ad 157)] (wl D ad M) 0 0 (PY (RPC D ad M b n (sTrim b n s g A))) := by
  refine Spec.of (by decide) rfl (Nat.le_of_ble_eq_true rfl) rfl ?_
  have hw := h.2.2.2.2.2.1
  have hI := h.2.2.2.2.2
  have hb := hI.2.2.1.1
  refine E_aload0 (q := 1) dX6_readTrim_0 rfl ?_
  refine C_V0Y (q := 4) lk_X6_254 (sp_X6_advR h) rc_X6 dX6_readTrim_1 (by decide) (Nat.le_of_ble_eq_true rfl) rfl ?_
  refine kkEW ?_
  rintro M1 ⟨h1, f1⟩
  refine E_aload0 (q := 5) dX6_readTrim_4 rfl ?_
  refine E_iconst (v := nI 0) (q := 6) dX6_readTrim_5 (by decide) rfl ?_
  refine C_V1I (q := 9) lk_X6_266 (sp_X6_thingN h1 c1) rc_X6 dX6_readTrim_6 (by decide) (Nat.le_of_ble_eq_true rfl) rfl ?_
  refine E_istore1 (q := 10) dX6_readTrim_9 rfl rfl ?_
  refine E_aload0 (q := 11) dX6_readTrim_10 rfl ?_
  refine E_iconst (v := nI 0) (q := 12) dX6_readTrim_11 (by decide) rfl ?_
  refine E_bipush (v := nI 11) (q := 14) dX6_readTrim_12 (by decide) rfl ?_
  refine C_V2I (q := 17) lk_X6_269 (sp_X6_integerX (ft_ne (by decide))) rc_X6 dX6_readTrim_14 (by decide) (Nat.le_of_ble_eq_true rfl) rfl ?_
  refine E_istore2 (q := 18) dX6_readTrim_17 rfl rfl ?_
  refine E_aload0 (q := 19) dX6_readTrim_18 rfl ?_
  refine G_X6_fault (q := 22) fl_X6_220 dX6_readTrim_19 rfl ?_
  refine V_int ft_18 ?_
  refine E_if_ne (tgt := 36) (q := 25) dX6_readTrim_22 (by decide) rfl (fun h22 => ?_) (fun h22 => ?_)
  · skip
    exact E_vreturn rfl rfl dX6_readTrim_36 ⟨rfl, RPC_fail (by simp only [sTrim, volR, nmR, ch_f c1]) (by decide) h1 f1⟩
  · first | exact absurd h22 (by decide) | exact absurd (by decide) h22
theorem sp_X6_readTrimF (h : RdR M b n s g A) (hT : aT A + 1 < 2 ^ 24) (c1 : isNm b n (nxt b n s)) (c2 : fV A (nmc b n (nxt b n s)) = -1) : Spec D 10 yX6_readTrim cfX6_readTrim [.ref (ad 157)] (wl D ad M) 0 0 (PY (RPC D ad M b n (sTrim b n s g A))) := by
  refine Spec.of (by decide) rfl (Nat.le_of_ble_eq_true rfl) rfl ?_
  have hw := h.2.2.2.2.2.1
  have hI := h.2.2.2.2.2
  have hb := hI.2.2.1.1
  refine E_aload0 (q := 1) dX6_readTrim_0 rfl ?_
  refine C_V0Y (q := 4) lk_X6_254 (sp_X6_advR h) rc_X6 dX6_readTrim_1 (by decide) (Nat.le_of_ble_eq_true rfl) rfl ?_
  refine kkEW ?_
  rintro M1 ⟨h1, f1⟩
  refine E_aload0 (q := 5) dX6_readTrim_4 rfl ?_
  refine E_iconst (v := nI 0) (q := 6) dX6_readTrim_5 (by decide) rfl ?_
  refine C_V1I (q := 9) lk_X6_266 (sp_X6_thingF h1 c1 c2) rc_X6 dX6_readTrim_6 (by decide) (Nat.le_of_ble_eq_true rfl) rfl ?_
  refine E_istore1 (q := 10) dX6_readTrim_9 rfl rfl ?_
  refine E_aload0 (q := 11) dX6_readTrim_10 rfl ?_
  refine E_iconst (v := nI 0) (q := 12) dX6_readTrim_11 (by decide) rfl ?_
  refine E_bipush (v := nI 11) (q := 14) dX6_readTrim_12 (by decide) rfl ?_
  refine C_V2I (q := 17) lk_X6_269 (sp_X6_integerX (ft_ne (by decide))) rc_X6 dX6_readTrim_14 (by decide) (Nat.le_of_ble_eq_true rfl) rfl ?_
  refine E_istore2 (q := 18) dX6_readTrim_17 rfl rfl ?_
  refine E_aload0 (q := 19) dX6_readTrim_18 rfl ?_
  refine G_X6_fault (q := 22) fl_X6_220 dX6_readTrim_19 rfl ?_
  refine V_int ft_18 ?_
  refine E_if_ne (tgt := 36) (q := 25) dX6_readTrim_22 (by decide) rfl (fun h22 => ?_) (fun h22 => ?_)
  · skip
    exact E_vreturn rfl rfl dX6_readTrim_36 ⟨rfl, RPC_fail (by simp only [sTrim, volR, nmR, ch_t c1, ch_t c2]) (by decide) h1 f1⟩
  · first | exact absurd h22 (by decide) | exact absurd (by decide) h22
theorem sp_X6_readTrimK1 (h : RdR M b n s g A) (hT : aT A + 1 < 2 ^ 24) (c1 : isNm b n (nxt b n s)) {v : Nat} (hv : v < 6) (hvt : th A (16 + v)) (hf : fV A (nmc b n (nxt b n s)) = nI v) (hcl : (fV A (nmc b n (nxt b n s))).toNatClampNeg = v) (c2 : ¬ fV A (nmc b n (nxt b n s)) = -1) (c3 : ¬ knd b n (nxt b n (nxt b n s)) = 2) : Spec D 10 yX6_readTrim cfX6_readTrim [.ref (ad 157)] (wl D ad M) 0 0 (PY (RPC D ad M b n (sTrim b n s g A))) := by
  refine Spec.of (by decide) rfl (Nat.le_of_ble_eq_true rfl) rfl ?_
  have hw := h.2.2.2.2.2.1
  have hI := h.2.2.2.2.2
  have hb := hI.2.2.1.1
  refine E_aload0 (q := 1) dX6_readTrim_0 rfl ?_
  refine C_V0Y (q := 4) lk_X6_254 (sp_X6_advR h) rc_X6 dX6_readTrim_1 (by decide) (Nat.le_of_ble_eq_true rfl) rfl ?_
  refine kkEW ?_
  rintro M1 ⟨h1, f1⟩
  refine E_aload0 (q := 5) dX6_readTrim_4 rfl ?_
  refine E_iconst (v := nI 0) (q := 6) dX6_readTrim_5 (by decide) rfl ?_
  refine C_V1X (q := 9) lk_X6_266 (sp_X6_thing h1 c1 hv hf) rc_X6 dX6_readTrim_6 (by decide) (Nat.le_of_ble_eq_true rfl) rfl ?_
  refine kkEI ?_
  rintro M2 ⟨h2, f2⟩
  refine E_istore1 (q := 10) dX6_readTrim_9 rfl rfl ?_
  refine E_aload0 (q := 11) dX6_readTrim_10 rfl ?_
  refine E_iconst (v := nI 0) (q := 12) dX6_readTrim_11 (by decide) rfl ?_
  refine E_bipush (v := nI 11) (q := 14) dX6_readTrim_12 (by decide) rfl ?_
  refine C_V2I (q := 17) lk_X6_269 (sp_X6_integerK h2 c3) rc_X6 dX6_readTrim_14 (by decide) (Nat.le_of_ble_eq_true rfl) rfl ?_
  refine E_istore2 (q := 18) dX6_readTrim_17 rfl rfl ?_
  refine E_aload0 (q := 19) dX6_readTrim_18 rfl ?_
  refine G_X6_fault (q := 22) fl_X6_220 dX6_readTrim_19 rfl ?_
  refine V_int ft_18 ?_
  refine E_if_ne (tgt := 36) (q := 25) dX6_readTrim_22 (by decide) rfl (fun h22 => ?_) (fun h22 => ?_)
  · skip
    exact E_vreturn rfl rfl dX6_readTrim_36 ⟨rfl, RPC_fail (by simp only [sTrim, volR, nmR, intR, ch_t c1, ch_f c2, ch_f c3]) (by decide) h2 (f1.tr f2)⟩
  · first | exact absurd h22 (by decide) | exact absurd (by decide) h22
theorem sp_X6_readTrimR1 (h : RdR M b n s g A) (hT : aT A + 1 < 2 ^ 24) (c1 : isNm b n (nxt b n s)) {v : Nat} (hv : v < 6) (hvt : th A (16 + v)) (hf : fV A (nmc b n (nxt b n s)) = nI v) (hcl : (fV A (nmc b n (nxt b n s))).toNatClampNeg = v) (c2 : ¬ fV A (nmc b n (nxt b n s)) = -1) (c3 : knd b n (nxt b n (nxt b n s)) = 2) (c4 : ¬ (0 ≤ itv b n (nxt b n (nxt b n s)) ∧ itv b n (nxt b n (nxt b n s)) ≤ 11)) : Spec D 10 yX6_readTrim cfX6_readTrim [.ref (ad 157)] (wl D ad M) 0 0 (PY (RPC D ad M b n (sTrim b n s g A))) := by
  refine Spec.of (by decide) rfl (Nat.le_of_ble_eq_true rfl) rfl ?_
  have hw := h.2.2.2.2.2.1
  have hI := h.2.2.2.2.2
  have hb := hI.2.2.1.1
  refine E_aload0 (q := 1) dX6_readTrim_0 rfl ?_
  refine C_V0Y (q := 4) lk_X6_254 (sp_X6_advR h) rc_X6 dX6_readTrim_1 (by decide) (Nat.le_of_ble_eq_true rfl) rfl ?_
  refine kkEW ?_
  rintro M1 ⟨h1, f1⟩
  refine E_aload0 (q := 5) dX6_readTrim_4 rfl ?_
  refine E_iconst (v := nI 0) (q := 6) dX6_readTrim_5 (by decide) rfl ?_
  refine C_V1X (q := 9) lk_X6_266 (sp_X6_thing h1 c1 hv hf) rc_X6 dX6_readTrim_6 (by decide) (Nat.le_of_ble_eq_true rfl) rfl ?_
  refine kkEI ?_
  rintro M2 ⟨h2, f2⟩
  refine E_istore1 (q := 10) dX6_readTrim_9 rfl rfl ?_
  refine E_aload0 (q := 11) dX6_readTrim_10 rfl ?_
  refine E_iconst (v := nI 0) (q := 12) dX6_readTrim_11 (by decide) rfl ?_
  refine E_bipush (v := nI 11) (q := 14) dX6_readTrim_12 (by decide) rfl ?_
  refine C_V2I (q := 17) lk_X6_269 (sp_X6_integerR h2 c3 (by decide) (by decide) c4) rc_X6 dX6_readTrim_14 (by decide) (Nat.le_of_ble_eq_true rfl) rfl ?_
  refine E_istore2 (q := 18) dX6_readTrim_17 rfl rfl ?_
  refine E_aload0 (q := 19) dX6_readTrim_18 rfl ?_
  refine G_X6_fault (q := 22) fl_X6_220 dX6_readTrim_19 rfl ?_
  refine V_int ft_18 ?_
  refine E_if_ne (tgt := 36) (q := 25) dX6_readTrim_22 (by decide) rfl (fun h22 => ?_) (fun h22 => ?_)
  · skip
    exact E_vreturn rfl rfl dX6_readTrim_36 ⟨rfl, RPC_fail (by simp only [sTrim, volR, nmR, intR, ch_t c1, ch_f c2, ch_t c3, ch_f c4]) (by decide) h2 (f1.tr f2)⟩
  · first | exact absurd h22 (by decide) | exact absurd (by decide) h22
theorem sp_X6_readTrimK (h : RdR M b n s g A) (hT : aT A + 1 < 2 ^ 24) (c1 : isNm b n (nxt b n s)) {v : Nat} (hv : v < 6) (hvt : th A (16 + v)) (hf : fV A (nmc b n (nxt b n s)) = nI v) (hcl : (fV A (nmc b n (nxt b n s))).toNatClampNeg = v) (c2 : ¬ fV A (nmc b n (nxt b n s)) = -1) (c3 : knd b n (nxt b n (nxt b n s)) = 2) (c4 : 0 ≤ itv b n (nxt b n (nxt b n s)) ∧ itv b n (nxt b n (nxt b n s)) ≤ 11) : Spec D 10 yX6_readTrim cfX6_readTrim [.ref (ad 157)] (wl D ad M) 0 0 (PY (RPC D ad M b n (sTrim b n s g A))) := by
  refine Spec.of (by decide) rfl (Nat.le_of_ble_eq_true rfl) rfl ?_
  have hw := h.2.2.2.2.2.1
  have hI := h.2.2.2.2.2
  have hb := hI.2.2.1.1
  refine E_aload0 (q := 1) dX6_readTrim_0 rfl ?_
  refine C_V0Y (q := 4) lk_X6_254 (sp_X6_advR h) rc_X6 dX6_readTrim_1 (by decide) (Nat.le_of_ble_eq_true rfl) rfl ?_
  refine kkEW ?_
  rintro M1 ⟨h1, f1⟩
  refine E_aload0 (q := 5) dX6_readTrim_4 rfl ?_
  refine E_iconst (v := nI 0) (q := 6) dX6_readTrim_5 (by decide) rfl ?_
  refine C_V1X (q := 9) lk_X6_266 (sp_X6_thing h1 c1 hv hf) rc_X6 dX6_readTrim_6 (by decide) (Nat.le_of_ble_eq_true rfl) rfl ?_
  refine kkEI ?_
  rintro M2 ⟨h2, f2⟩
  refine E_istore1 (q := 10) dX6_readTrim_9 rfl rfl ?_
  refine E_aload0 (q := 11) dX6_readTrim_10 rfl ?_
  refine E_iconst (v := nI 0) (q := 12) dX6_readTrim_11 (by decide) rfl ?_
  refine E_bipush (v := nI 11) (q := 14) dX6_readTrim_12 (by decide) rfl ?_
  refine C_V2X (q := 17) lk_X6_269 (sp_X6_integer h2 c3 (by decide) (by decide) c4) rc_X6 dX6_readTrim_14 (by decide) (Nat.le_of_ble_eq_true rfl) rfl ?_
  refine kkEI ?_
  rintro M3 ⟨h3, f3⟩
  refine E_istore2 (q := 18) dX6_readTrim_17 rfl rfl ?_
  refine E_aload0 (q := 19) dX6_readTrim_18 rfl ?_
  refine G_X6_fault (q := 22) fl_X6_220 dX6_readTrim_19 rfl ?_
  refine V_int h3.2.2.2.1 ?_
  refine E_if_ne (tgt := 36) (q := 25) dX6_readTrim_22 (by decide) rfl (fun h22 => ?_) (fun h22 => ?_)
  · first | exact absurd h22 (by decide) | exact absurd (by decide) h22
  · skip
    refine E_aload0 (q := 26) dX6_readTrim_25 rfl ?_
    refine E_bipush (v := nI 16) (q := 28) dX6_readTrim_26 (by decide) rfl ?_
    refine E_iload1 (q := 29) dX6_readTrim_28 rfl ?_
    refine E_iaddN (q := 30) dX6_readTrim_29 rfl ?_
    refine E_iload2 (q := 31) dX6_readTrim_30 rfl ?_
    refine E_iconst (v := nI 0) (q := 32) dX6_readTrim_31 (by decide) rfl ?_
    refine E_iconst (v := nI 0) (q := 33) dX6_readTrim_32 (by decide) rfl ?_
    refine C_V4Y (q := 36) lk_X6_83 (sp_X6_layT h3.2.2.2.2.2 hv (show itv b n (nxt b n (nxt b n s)) < 12 by omega)) rc_X6 dX6_readTrim_33 (by decide) (Nat.le_of_ble_eq_true rfl) rfl ?_
    refine kkEW ?_
    rintro M4 ⟨q4, e4⟩
    exact E_vreturn rfl rfl dX6_readTrim_36 ⟨rfl, RPC_ok (by simp only [sTrim, volR, nmR, intR, ch_t c1, ch_f c2, ch_t c3, ch_t c4, hcl]) (h3.wr q4 e4) (((f1.tr f2).tr f3).tr (FrR.w e4))⟩
theorem sp_X6_readTrim (h : RdR M b n s g A) (hT : aT A + 1 < 2 ^ 24) : Spec D 10 yX6_readTrim cfX6_readTrim [.ref (ad 157)] (wl D ad M) 0 0 (PY (RPC D ad M b n (sTrim b n s g A))) := by
  by_cases c1 : isNm b n (nxt b n s)
  · rcases fV_or A (nmc b n (nxt b n s)) with c2 | ⟨v, hv, hvt, hf, hcl, c2⟩
    · exact sp_X6_readTrimF h hT c1 c2
    · by_cases c3 : knd b n (nxt b n (nxt b n s)) = 2
      · by_cases c4 : 0 ≤ itv b n (nxt b n (nxt b n s)) ∧ itv b n (nxt b n (nxt b n s)) ≤ 11
        · exact sp_X6_readTrimK h hT c1 hv hvt hf hcl c2 c3 c4
        · exact sp_X6_readTrimR1 h hT c1 hv hvt hf hcl c2 c3 c4
      · exact sp_X6_readTrimK1 h hT c1 hv hvt hf hcl c2 c3
  · exact sp_X6_readTrimN h hT c1
theorem sp_X6_readSnapC (h : RdR M b n s g A) (hT : aT A + 1 < 2 ^ 24) (c0 : ¬ aS A < 16) : Spec D 10 yX6_readSnap cfX6_readSnap [.ref (ad 157)] (wl D ad M) 0 0 (PY (RPC D ad M b n (sSnap b n s g A))) := by
  refine Spec.of (by decide) rfl (Nat.le_of_ble_eq_true rfl) rfl ?_
  have hw := h.2.2.2.2.2.1
  have hI := h.2.2.2.2.2
  have hb := hI.2.2.1.1
  refine E_aload0 (q := 1) dX6_readSnap_0 rfl ?_
  refine E_aload0 (q := 2) dX6_readSnap_1 rfl ?_
  refine G_X6_w (q := 5) (x := 163) (by repeat (first | exact hw | refine WX.w ?_ | refine WX.u (by decide) ?_)) fl_X6_16 dX6_readSnap_2 rfl ?_
  refine E_iconst (v := nI 4) (q := 6) dX6_readSnap_5 (by decide) rfl ?_
  refine E_ialdN (q := 7) hw.2 (by omega) (by decide) dX6_readSnap_6 rfl ?_
  refine V_int hI.2.1.1.2.2.2.2 ?_
  refine E_bipush (v := nI 16) (q := 9) dX6_readSnap_7 (by decide) rfl ?_
  refine E_icmp_geN (tgt := 16) (q := 12) dX6_readSnap_9 (by decide) rfl (by omega) (by omega) (fun h9 => ?_) (fun h9 => ?_)
  · skip
    refine E_iconst (v := nI 0) (q := 17) dX6_readSnap_16 (by decide) rfl ?_
    refine E_bipush (v := -15) (q := 19) dX6_readSnap_17 (by decide) rfl ?_
    refine C_V2V (q := 22) lk_X6_247 (sp_X6_checkF h.2.2.2.1) rc_X6 dX6_readSnap_19 (by decide) (Nat.le_of_ble_eq_true rfl) rfl ?_
    refine E_aload0 (q := 23) dX6_readSnap_22 rfl ?_
    refine C_V0V (q := 26) lk_X6_254 (sp_X6_advanceX (ft_ne (by decide))) rc_X6 dX6_readSnap_23 (by decide) (Nat.le_of_ble_eq_true rfl) rfl ?_
    refine E_aload0 (q := 27) dX6_readSnap_26 rfl ?_
    refine E_iconst (v := nI 0) (q := 28) dX6_readSnap_27 (by decide) rfl ?_
    refine C_V1I (q := 31) lk_X6_266 (sp_X6_thingX (ft_ne (by decide)) hI.ft) rc_X6 dX6_readSnap_28 (by decide) (Nat.le_of_ble_eq_true rfl) rfl ?_
    refine E_istore1 (q := 32) dX6_readSnap_31 rfl rfl ?_
    refine E_aload0 (q := 33) dX6_readSnap_32 rfl ?_
    refine E_iconst (v := nI 1) (q := 34) dX6_readSnap_33 (by decide) rfl ?_
    refine C_V1X (q := 37) lk_X6_263 (sp_X6_newNameSX (ft_ne (by decide)) hI.ft) rc_X6 dX6_readSnap_34 (by decide) (Nat.le_of_ble_eq_true rfl) rfl ?_
    rintro y w hy
    rw [hy]
    refine E_istore2 (q := 38) dX6_readSnap_37 rfl rfl ?_
    refine E_aload0 (q := 39) dX6_readSnap_38 rfl ?_
    refine G_X6_fault (q := 42) fl_X6_220 dX6_readSnap_39 rfl ?_
    refine V_int ft_18 ?_
    refine E_if_ne (tgt := 52) (q := 45) dX6_readSnap_42 (by decide) rfl (fun h42 => ?_) (fun h42 => ?_)
    · skip
      exact E_vreturn rfl rfl dX6_readSnap_52 ⟨rfl, RPC_fail (by simp only [sSnap, ch_f c0]) (by decide) h FrR.rf⟩
    · first | exact absurd h42 (by decide) | exact absurd (by decide) h42
  · skip
    exact absurd h9 (by omega)
theorem sp_X6_readSnapN (h : RdR M b n s g A) (hT : aT A + 1 < 2 ^ 24) (c0 : aS A < 16) (c1 : ¬ isNm b n (nxt b n s)) : Spec D 10 yX6_readSnap cfX6_readSnap [.ref (ad 157)] (wl D ad M) 0 0 (PY (RPC D ad M b n (sSnap b n s g A))) := by
  refine Spec.of (by decide) rfl (Nat.le_of_ble_eq_true rfl) rfl ?_
  have hw := h.2.2.2.2.2.1
  have hI := h.2.2.2.2.2
  have hb := hI.2.2.1.1
  refine E_aload0 (q := 1) dX6_readSnap_0 rfl ?_
  refine E_aload0 (q := 2) dX6_readSnap_1 rfl ?_
  refine G_X6_w (q := 5) (x := 163) (by repeat (first | exact hw | refine WX.w ?_ | refine WX.u (by decide) ?_)) fl_X6_16 dX6_readSnap_2 rfl ?_
  refine E_iconst (v := nI 4) (q := 6) dX6_readSnap_5 (by decide) rfl ?_
  refine E_ialdN (q := 7) hw.2 (by omega) (by decide) dX6_readSnap_6 rfl ?_
  refine V_int hI.2.1.1.2.2.2.2 ?_
  refine E_bipush (v := nI 16) (q := 9) dX6_readSnap_7 (by decide) rfl ?_
  refine E_icmp_geN (tgt := 16) (q := 12) dX6_readSnap_9 (by decide) rfl (by omega) (by omega) (fun h9 => ?_) (fun h9 => ?_)
  · skip
    exact absurd h9 (by omega)
  · skip
    refine E_iconst (v := nI 1) (q := 13) dX6_readSnap_12 (by decide) rfl ?_
    refine E_goto (q := 17) dX6_readSnap_13 (by decide) ?_
    refine E_bipush (v := -15) (q := 19) dX6_readSnap_17 (by decide) rfl ?_
    refine C_V2V (q := 22) lk_X6_247 (sp_X6_checkT) rc_X6 dX6_readSnap_19 (by decide) (Nat.le_of_ble_eq_true rfl) rfl ?_
    refine E_aload0 (q := 23) dX6_readSnap_22 rfl ?_
    refine C_V0Y (q := 26) lk_X6_254 (sp_X6_advR h) rc_X6 dX6_readSnap_23 (by decide) (Nat.le_of_ble_eq_true rfl) rfl ?_
    refine kkEW ?_
    rintro M1 ⟨h1, f1⟩
    refine E_aload0 (q := 27) dX6_readSnap_26 rfl ?_
    refine E_iconst (v := nI 0) (q := 28) dX6_readSnap_27 (by decide) rfl ?_
    refine C_V1I (q := 31) lk_X6_266 (sp_X6_thingN h1 c1) rc_X6 dX6_readSnap_28 (by decide) (Nat.le_of_ble_eq_true rfl) rfl ?_
    refine E_istore1 (q := 32) dX6_readSnap_31 rfl rfl ?_
    refine E_aload0 (q := 33) dX6_readSnap_32 rfl ?_
    refine E_iconst (v := nI 1) (q := 34) dX6_readSnap_33 (by decide) rfl ?_
    refine C_V1X (q := 37) lk_X6_263 (sp_X6_newNameSX (ft_ne (by decide)) h1.2.2.2.2.2.ft) rc_X6 dX6_readSnap_34 (by decide) (Nat.le_of_ble_eq_true rfl) rfl ?_
    rintro y w hy
    rw [hy]
    refine E_istore2 (q := 38) dX6_readSnap_37 rfl rfl ?_
    refine E_aload0 (q := 39) dX6_readSnap_38 rfl ?_
    refine G_X6_fault (q := 42) fl_X6_220 dX6_readSnap_39 rfl ?_
    refine V_int ft_18 ?_
    refine E_if_ne (tgt := 52) (q := 45) dX6_readSnap_42 (by decide) rfl (fun h42 => ?_) (fun h42 => ?_)
    · skip
      exact E_vreturn rfl rfl dX6_readSnap_52 ⟨rfl, RPC_fail (by simp only [sSnap, volR, nmR, ch_t c0, ch_f c1]) (by decide) h1 f1⟩
    · first | exact absurd h42 (by decide) | exact absurd (by decide) h42
theorem sp_X6_readSnapF (h : RdR M b n s g A) (hT : aT A + 1 < 2 ^ 24) (c0 : aS A < 16) (c1 : isNm b n (nxt b n s)) (c2 : fV A (nmc b n (nxt b n s)) = -1) : Spec D 10 yX6_readSnap cfX6_readSnap [.ref (ad 157)] (wl D ad M) 0 0 (PY (RPC D ad M b n (sSnap b n s g A))) := by
  refine Spec.of (by decide) rfl (Nat.le_of_ble_eq_true rfl) rfl ?_
  have hw := h.2.2.2.2.2.1
  have hI := h.2.2.2.2.2
  have hb := hI.2.2.1.1
  refine E_aload0 (q := 1) dX6_readSnap_0 rfl ?_
  refine E_aload0 (q := 2) dX6_readSnap_1 rfl ?_
  refine G_X6_w (q := 5) (x := 163) (by repeat (first | exact hw | refine WX.w ?_ | refine WX.u (by decide) ?_)) fl_X6_16 dX6_readSnap_2 rfl ?_
  refine E_iconst (v := nI 4) (q := 6) dX6_readSnap_5 (by decide) rfl ?_
  refine E_ialdN (q := 7) hw.2 (by omega) (by decide) dX6_readSnap_6 rfl ?_
  refine V_int hI.2.1.1.2.2.2.2 ?_
  refine E_bipush (v := nI 16) (q := 9) dX6_readSnap_7 (by decide) rfl ?_
  refine E_icmp_geN (tgt := 16) (q := 12) dX6_readSnap_9 (by decide) rfl (by omega) (by omega) (fun h9 => ?_) (fun h9 => ?_)
  · skip
    exact absurd h9 (by omega)
  · skip
    refine E_iconst (v := nI 1) (q := 13) dX6_readSnap_12 (by decide) rfl ?_
    refine E_goto (q := 17) dX6_readSnap_13 (by decide) ?_
    refine E_bipush (v := -15) (q := 19) dX6_readSnap_17 (by decide) rfl ?_
    refine C_V2V (q := 22) lk_X6_247 (sp_X6_checkT) rc_X6 dX6_readSnap_19 (by decide) (Nat.le_of_ble_eq_true rfl) rfl ?_
    refine E_aload0 (q := 23) dX6_readSnap_22 rfl ?_
    refine C_V0Y (q := 26) lk_X6_254 (sp_X6_advR h) rc_X6 dX6_readSnap_23 (by decide) (Nat.le_of_ble_eq_true rfl) rfl ?_
    refine kkEW ?_
    rintro M1 ⟨h1, f1⟩
    refine E_aload0 (q := 27) dX6_readSnap_26 rfl ?_
    refine E_iconst (v := nI 0) (q := 28) dX6_readSnap_27 (by decide) rfl ?_
    refine C_V1I (q := 31) lk_X6_266 (sp_X6_thingF h1 c1 c2) rc_X6 dX6_readSnap_28 (by decide) (Nat.le_of_ble_eq_true rfl) rfl ?_
    refine E_istore1 (q := 32) dX6_readSnap_31 rfl rfl ?_
    refine E_aload0 (q := 33) dX6_readSnap_32 rfl ?_
    refine E_iconst (v := nI 1) (q := 34) dX6_readSnap_33 (by decide) rfl ?_
    refine C_V1X (q := 37) lk_X6_263 (sp_X6_newNameSX (ft_ne (by decide)) h1.2.2.2.2.2.ft) rc_X6 dX6_readSnap_34 (by decide) (Nat.le_of_ble_eq_true rfl) rfl ?_
    rintro y w hy
    rw [hy]
    refine E_istore2 (q := 38) dX6_readSnap_37 rfl rfl ?_
    refine E_aload0 (q := 39) dX6_readSnap_38 rfl ?_
    refine G_X6_fault (q := 42) fl_X6_220 dX6_readSnap_39 rfl ?_
    refine V_int ft_18 ?_
    refine E_if_ne (tgt := 52) (q := 45) dX6_readSnap_42 (by decide) rfl (fun h42 => ?_) (fun h42 => ?_)
    · skip
      exact E_vreturn rfl rfl dX6_readSnap_52 ⟨rfl, RPC_fail (by simp only [sSnap, volR, nmR, ch_t c0, ch_t c1, ch_t c2]) (by decide) h1 f1⟩
    · first | exact absurd h42 (by decide) | exact absurd (by decide) h42
theorem sp_X6_readSnapN2 (h : RdR M b n s g A) (hT : aT A + 1 < 2 ^ 24) (c0 : aS A < 16) (c1 : isNm b n (nxt b n s)) {v : Nat} (hv : v < 6) (hvt : th A (16 + v)) (hf : fV A (nmc b n (nxt b n s)) = nI v) (hcl : (fV A (nmc b n (nxt b n s))).toNatClampNeg = v) (c2 : ¬ fV A (nmc b n (nxt b n s)) = -1) (c3 : ¬ isNm b n (nxt b n (nxt b n s))) : Spec D 10 yX6_readSnap cfX6_readSnap [.ref (ad 157)] (wl D ad M) 0 0 (PY (RPC D ad M b n (sSnap b n s g A))) := by
  refine Spec.of (by decide) rfl (Nat.le_of_ble_eq_true rfl) rfl ?_
  have hw := h.2.2.2.2.2.1
  have hI := h.2.2.2.2.2
  have hb := hI.2.2.1.1
  refine E_aload0 (q := 1) dX6_readSnap_0 rfl ?_
  refine E_aload0 (q := 2) dX6_readSnap_1 rfl ?_
  refine G_X6_w (q := 5) (x := 163) (by repeat (first | exact hw | refine WX.w ?_ | refine WX.u (by decide) ?_)) fl_X6_16 dX6_readSnap_2 rfl ?_
  refine E_iconst (v := nI 4) (q := 6) dX6_readSnap_5 (by decide) rfl ?_
  refine E_ialdN (q := 7) hw.2 (by omega) (by decide) dX6_readSnap_6 rfl ?_
  refine V_int hI.2.1.1.2.2.2.2 ?_
  refine E_bipush (v := nI 16) (q := 9) dX6_readSnap_7 (by decide) rfl ?_
  refine E_icmp_geN (tgt := 16) (q := 12) dX6_readSnap_9 (by decide) rfl (by omega) (by omega) (fun h9 => ?_) (fun h9 => ?_)
  · skip
    exact absurd h9 (by omega)
  · skip
    refine E_iconst (v := nI 1) (q := 13) dX6_readSnap_12 (by decide) rfl ?_
    refine E_goto (q := 17) dX6_readSnap_13 (by decide) ?_
    refine E_bipush (v := -15) (q := 19) dX6_readSnap_17 (by decide) rfl ?_
    refine C_V2V (q := 22) lk_X6_247 (sp_X6_checkT) rc_X6 dX6_readSnap_19 (by decide) (Nat.le_of_ble_eq_true rfl) rfl ?_
    refine E_aload0 (q := 23) dX6_readSnap_22 rfl ?_
    refine C_V0Y (q := 26) lk_X6_254 (sp_X6_advR h) rc_X6 dX6_readSnap_23 (by decide) (Nat.le_of_ble_eq_true rfl) rfl ?_
    refine kkEW ?_
    rintro M1 ⟨h1, f1⟩
    refine E_aload0 (q := 27) dX6_readSnap_26 rfl ?_
    refine E_iconst (v := nI 0) (q := 28) dX6_readSnap_27 (by decide) rfl ?_
    refine C_V1X (q := 31) lk_X6_266 (sp_X6_thing h1 c1 hv hf) rc_X6 dX6_readSnap_28 (by decide) (Nat.le_of_ble_eq_true rfl) rfl ?_
    refine kkEI ?_
    rintro M2 ⟨h2, f2⟩
    refine E_istore1 (q := 32) dX6_readSnap_31 rfl rfl ?_
    refine E_aload0 (q := 33) dX6_readSnap_32 rfl ?_
    refine E_iconst (v := nI 1) (q := 34) dX6_readSnap_33 (by decide) rfl ?_
    refine C_V1X (q := 37) lk_X6_263 (sp_X6_newNameSN h2 c3) rc_X6 dX6_readSnap_34 (by decide) (Nat.le_of_ble_eq_true rfl) rfl ?_
    rintro y w hy
    rw [hy]
    refine E_istore2 (q := 38) dX6_readSnap_37 rfl rfl ?_
    refine E_aload0 (q := 39) dX6_readSnap_38 rfl ?_
    refine G_X6_fault (q := 42) fl_X6_220 dX6_readSnap_39 rfl ?_
    refine V_int ft_18 ?_
    refine E_if_ne (tgt := 52) (q := 45) dX6_readSnap_42 (by decide) rfl (fun h42 => ?_) (fun h42 => ?_)
    · skip
      exact E_vreturn rfl rfl dX6_readSnap_52 ⟨rfl, RPC_fail (by simp only [sSnap, volR, nmR, ch_t c0, ch_t c1, ch_f c2, ch_f c3]) (by decide) h2 (f1.tr f2)⟩
    · first | exact absurd h42 (by decide) | exact absurd (by decide) h42
theorem sp_X6_readSnapD (h : RdR M b n s g A) (hT : aT A + 1 < 2 ^ 24) (c0 : aS A < 16) (c1 : isNm b n (nxt b n s)) {v : Nat} (hv : v < 6) (hvt : th A (16 + v)) (hf : fV A (nmc b n (nxt b n s)) = nI v) (hcl : (fV A (nmc b n (nxt b n s))).toNatClampNeg = v) (c2 : ¬ fV A (nmc b n (nxt b n s)) = -1) (c3 : isNm b n (nxt b n (nxt b n s))) (c4 : ¬ fS A (nmc b n (nxt b n (nxt b n s))) = -1) : Spec D 10 yX6_readSnap cfX6_readSnap [.ref (ad 157)] (wl D ad M) 0 0 (PY (RPC D ad M b n (sSnap b n s g A))) := by
  refine Spec.of (by decide) rfl (Nat.le_of_ble_eq_true rfl) rfl ?_
  have hw := h.2.2.2.2.2.1
  have hI := h.2.2.2.2.2
  have hb := hI.2.2.1.1
  refine E_aload0 (q := 1) dX6_readSnap_0 rfl ?_
  refine E_aload0 (q := 2) dX6_readSnap_1 rfl ?_
  refine G_X6_w (q := 5) (x := 163) (by repeat (first | exact hw | refine WX.w ?_ | refine WX.u (by decide) ?_)) fl_X6_16 dX6_readSnap_2 rfl ?_
  refine E_iconst (v := nI 4) (q := 6) dX6_readSnap_5 (by decide) rfl ?_
  refine E_ialdN (q := 7) hw.2 (by omega) (by decide) dX6_readSnap_6 rfl ?_
  refine V_int hI.2.1.1.2.2.2.2 ?_
  refine E_bipush (v := nI 16) (q := 9) dX6_readSnap_7 (by decide) rfl ?_
  refine E_icmp_geN (tgt := 16) (q := 12) dX6_readSnap_9 (by decide) rfl (by omega) (by omega) (fun h9 => ?_) (fun h9 => ?_)
  · skip
    exact absurd h9 (by omega)
  · skip
    refine E_iconst (v := nI 1) (q := 13) dX6_readSnap_12 (by decide) rfl ?_
    refine E_goto (q := 17) dX6_readSnap_13 (by decide) ?_
    refine E_bipush (v := -15) (q := 19) dX6_readSnap_17 (by decide) rfl ?_
    refine C_V2V (q := 22) lk_X6_247 (sp_X6_checkT) rc_X6 dX6_readSnap_19 (by decide) (Nat.le_of_ble_eq_true rfl) rfl ?_
    refine E_aload0 (q := 23) dX6_readSnap_22 rfl ?_
    refine C_V0Y (q := 26) lk_X6_254 (sp_X6_advR h) rc_X6 dX6_readSnap_23 (by decide) (Nat.le_of_ble_eq_true rfl) rfl ?_
    refine kkEW ?_
    rintro M1 ⟨h1, f1⟩
    refine E_aload0 (q := 27) dX6_readSnap_26 rfl ?_
    refine E_iconst (v := nI 0) (q := 28) dX6_readSnap_27 (by decide) rfl ?_
    refine C_V1X (q := 31) lk_X6_266 (sp_X6_thing h1 c1 hv hf) rc_X6 dX6_readSnap_28 (by decide) (Nat.le_of_ble_eq_true rfl) rfl ?_
    refine kkEI ?_
    rintro M2 ⟨h2, f2⟩
    refine E_istore1 (q := 32) dX6_readSnap_31 rfl rfl ?_
    refine E_aload0 (q := 33) dX6_readSnap_32 rfl ?_
    refine E_iconst (v := nI 1) (q := 34) dX6_readSnap_33 (by decide) rfl ?_
    refine C_V1X (q := 37) lk_X6_263 (sp_X6_newNameSF h2 c3 c4) rc_X6 dX6_readSnap_34 (by decide) (Nat.le_of_ble_eq_true rfl) rfl ?_
    rintro y w hy
    rw [hy]
    refine E_istore2 (q := 38) dX6_readSnap_37 rfl rfl ?_
    refine E_aload0 (q := 39) dX6_readSnap_38 rfl ?_
    refine G_X6_fault (q := 42) fl_X6_220 dX6_readSnap_39 rfl ?_
    refine V_int ft_18 ?_
    refine E_if_ne (tgt := 52) (q := 45) dX6_readSnap_42 (by decide) rfl (fun h42 => ?_) (fun h42 => ?_)
    · skip
      exact E_vreturn rfl rfl dX6_readSnap_52 ⟨rfl, RPC_fail (by simp only [sSnap, volR, nmR, ch_t c0, ch_t c1, ch_f c2, ch_t c3, ch_f c4]) (by decide) h2 (f1.tr f2)⟩
    · first | exact absurd h42 (by decide) | exact absurd (by decide) h42
theorem sp_X6_readSnapK (h : RdR M b n s g A) (hT : aT A + 1 < 2 ^ 24) (c0 : aS A < 16) (c1 : isNm b n (nxt b n s)) {v : Nat} (hv : v < 6) (hvt : th A (16 + v)) (hf : fV A (nmc b n (nxt b n s)) = nI v) (hcl : (fV A (nmc b n (nxt b n s))).toNatClampNeg = v) (c2 : ¬ fV A (nmc b n (nxt b n s)) = -1) (c3 : isNm b n (nxt b n (nxt b n s))) (c4 : fS A (nmc b n (nxt b n (nxt b n s))) = -1) : Spec D 10 yX6_readSnap cfX6_readSnap [.ref (ad 157)] (wl D ad M) 0 0 (PY (RPC D ad M b n (sSnap b n s g A))) := by
  refine Spec.of (by decide) rfl (Nat.le_of_ble_eq_true rfl) rfl ?_
  have hw := h.2.2.2.2.2.1
  have hI := h.2.2.2.2.2
  have hb := hI.2.2.1.1
  have hml := nmc_lt c3.1
  refine E_aload0 (q := 1) dX6_readSnap_0 rfl ?_
  refine E_aload0 (q := 2) dX6_readSnap_1 rfl ?_
  refine G_X6_w (q := 5) (x := 163) (by repeat (first | exact hw | refine WX.w ?_ | refine WX.u (by decide) ?_)) fl_X6_16 dX6_readSnap_2 rfl ?_
  refine E_iconst (v := nI 4) (q := 6) dX6_readSnap_5 (by decide) rfl ?_
  refine E_ialdN (q := 7) hw.2 (by omega) (by decide) dX6_readSnap_6 rfl ?_
  refine V_int hI.2.1.1.2.2.2.2 ?_
  refine E_bipush (v := nI 16) (q := 9) dX6_readSnap_7 (by decide) rfl ?_
  refine E_icmp_geN (tgt := 16) (q := 12) dX6_readSnap_9 (by decide) rfl (by omega) (by omega) (fun h9 => ?_) (fun h9 => ?_)
  · skip
    exact absurd h9 (by omega)
  · skip
    refine E_iconst (v := nI 1) (q := 13) dX6_readSnap_12 (by decide) rfl ?_
    refine E_goto (q := 17) dX6_readSnap_13 (by decide) ?_
    refine E_bipush (v := -15) (q := 19) dX6_readSnap_17 (by decide) rfl ?_
    refine C_V2V (q := 22) lk_X6_247 (sp_X6_checkT) rc_X6 dX6_readSnap_19 (by decide) (Nat.le_of_ble_eq_true rfl) rfl ?_
    refine E_aload0 (q := 23) dX6_readSnap_22 rfl ?_
    refine C_V0Y (q := 26) lk_X6_254 (sp_X6_advR h) rc_X6 dX6_readSnap_23 (by decide) (Nat.le_of_ble_eq_true rfl) rfl ?_
    refine kkEW ?_
    rintro M1 ⟨h1, f1⟩
    refine E_aload0 (q := 27) dX6_readSnap_26 rfl ?_
    refine E_iconst (v := nI 0) (q := 28) dX6_readSnap_27 (by decide) rfl ?_
    refine C_V1X (q := 31) lk_X6_266 (sp_X6_thing h1 c1 hv hf) rc_X6 dX6_readSnap_28 (by decide) (Nat.le_of_ble_eq_true rfl) rfl ?_
    refine kkEI ?_
    rintro M2 ⟨h2, f2⟩
    refine E_istore1 (q := 32) dX6_readSnap_31 rfl rfl ?_
    refine E_aload0 (q := 33) dX6_readSnap_32 rfl ?_
    refine E_iconst (v := nI 1) (q := 34) dX6_readSnap_33 (by decide) rfl ?_
    refine C_V1X (q := 37) lk_X6_263 (sp_X6_newNameS h2 c3 c4) rc_X6 dX6_readSnap_34 (by decide) (Nat.le_of_ble_eq_true rfl) rfl ?_
    refine kkEI ?_
    rintro M3 ⟨h3, f3⟩
    refine E_istore2 (q := 38) dX6_readSnap_37 rfl rfl ?_
    refine E_aload0 (q := 39) dX6_readSnap_38 rfl ?_
    refine G_X6_fault (q := 42) fl_X6_220 dX6_readSnap_39 rfl ?_
    refine V_int h3.2.2.2.1 ?_
    refine E_if_ne (tgt := 52) (q := 45) dX6_readSnap_42 (by decide) rfl (fun h42 => ?_) (fun h42 => ?_)
    · first | exact absurd h42 (by decide) | exact absurd (by decide) h42
    · skip
      refine E_aload0 (q := 46) dX6_readSnap_45 rfl ?_
      refine E_iload1 (q := 47) dX6_readSnap_46 rfl ?_
      refine E_iload2 (q := 48) dX6_readSnap_47 rfl ?_
      refine C_V2X (q := 51) lk_X6_192 (sp_X6_mkSn h3.2.2.2.2.2 c0 hml hv hvt hT) rc_X6 dX6_readSnap_48 (by decide) (Nat.le_of_ble_eq_true rfl) rfl ?_
      refine kkEI ?_
      rintro M4 ⟨q4, e4⟩
      refine E_pop (q := 52) dX6_readSnap_51 rfl rfl ?_
      exact E_vreturn rfl rfl dX6_readSnap_52 ⟨rfl, RPC_ok (by simp only [sSnap, volR, nmR, ch_t c0, ch_t c1, ch_f c2, ch_t c3, ch_t c4, hcl]) (h3.wr q4 e4) (((f1.tr f2).tr f3).tr (FrR.w e4))⟩
theorem sp_X6_readSnap (h : RdR M b n s g A) (hT : aT A + 1 < 2 ^ 24) : Spec D 10 yX6_readSnap cfX6_readSnap [.ref (ad 157)] (wl D ad M) 0 0 (PY (RPC D ad M b n (sSnap b n s g A))) := by
  by_cases c0 : aS A < 16
  · by_cases c1 : isNm b n (nxt b n s)
    · rcases fV_or A (nmc b n (nxt b n s)) with c2 | ⟨v, hv, hvt, hf, hcl, c2⟩
      · exact sp_X6_readSnapF h hT c0 c1 c2
      · by_cases c3 : isNm b n (nxt b n (nxt b n s))
        · by_cases c4 : fS A (nmc b n (nxt b n (nxt b n s))) = -1
          · exact sp_X6_readSnapK h hT c0 c1 hv hvt hf hcl c2 c3 c4
          · exact sp_X6_readSnapD h hT c0 c1 hv hvt hf hcl c2 c3 c4
        · exact sp_X6_readSnapN2 h hT c0 c1 hv hvt hf hcl c2 c3
    · exact sp_X6_readSnapN h hT c0 c1
  · exact sp_X6_readSnapC h hT c0
theorem sp_X6_readCloneC (h : RdR M b n s g A) (hT : aT A + 1 < 2 ^ 24) (c0 : ¬ aV A < 6) : Spec D 10 yX6_readClone cfX6_readClone [.ref (ad 157)] (wl D ad M) 0 0 (PY (RPC D ad M b n (sClone b n s g A))) := by
  refine Spec.of (by decide) rfl (Nat.le_of_ble_eq_true rfl) rfl ?_
  have hw := h.2.2.2.2.2.1
  have hI := h.2.2.2.2.2
  have hb := hI.2.2.1.1
  refine E_aload0 (q := 1) dX6_readClone_0 rfl ?_
  refine E_aload0 (q := 2) dX6_readClone_1 rfl ?_
  refine G_X6_w (q := 5) (x := 163) (by repeat (first | exact hw | refine WX.w ?_ | refine WX.u (by decide) ?_)) fl_X6_16 dX6_readClone_2 rfl ?_
  refine E_iconst (v := nI 3) (q := 6) dX6_readClone_5 (by decide) rfl ?_
  refine E_ialdN (q := 7) hw.2 (by omega) (by decide) dX6_readClone_6 rfl ?_
  refine V_int hI.2.1.1.2.2.2.1 ?_
  refine E_bipush (v := nI 6) (q := 9) dX6_readClone_7 (by decide) rfl ?_
  refine E_icmp_geN (tgt := 16) (q := 12) dX6_readClone_9 (by decide) rfl (by omega) (by omega) (fun h9 => ?_) (fun h9 => ?_)
  · skip
    refine E_iconst (v := nI 0) (q := 17) dX6_readClone_16 (by decide) rfl ?_
    refine E_bipush (v := -15) (q := 19) dX6_readClone_17 (by decide) rfl ?_
    refine C_V2V (q := 22) lk_X6_247 (sp_X6_checkF h.2.2.2.1) rc_X6 dX6_readClone_19 (by decide) (Nat.le_of_ble_eq_true rfl) rfl ?_
    refine E_aload0 (q := 23) dX6_readClone_22 rfl ?_
    refine C_V0V (q := 26) lk_X6_254 (sp_X6_advanceX (ft_ne (by decide))) rc_X6 dX6_readClone_23 (by decide) (Nat.le_of_ble_eq_true rfl) rfl ?_
    refine E_aload0 (q := 27) dX6_readClone_26 rfl ?_
    refine E_iconst (v := nI 1) (q := 28) dX6_readClone_27 (by decide) rfl ?_
    refine C_V1I (q := 31) lk_X6_260 (sp_X6_thingHereSX (ft_ne (by decide)) hI.ft) rc_X6 dX6_readClone_28 (by decide) (Nat.le_of_ble_eq_true rfl) rfl ?_
    refine E_istore1 (q := 32) dX6_readClone_31 rfl rfl ?_
    refine E_aload0 (q := 33) dX6_readClone_32 rfl ?_
    refine E_aload0 (q := 34) dX6_readClone_33 rfl ?_
    refine G_X6_fault (q := 37) fl_X6_220 dX6_readClone_34 rfl ?_
    refine V_int ft_18 ?_
    refine E_if_ne (tgt := 57) (q := 40) dX6_readClone_37 (by decide) rfl (fun h37 => ?_) (fun h37 => ?_)
    · skip
      refine E_iconst (v := nI 1) (q := 58) dX6_readClone_57 (by decide) rfl ?_
      refine E_goto (q := 62) dX6_readClone_58 (by decide) ?_
      refine E_bipush (v := -15) (q := 64) dX6_readClone_62 (by decide) rfl ?_
      refine C_V2V (q := 67) lk_X6_247 (sp_X6_checkT) rc_X6 dX6_readClone_64 (by decide) (Nat.le_of_ble_eq_true rfl) rfl ?_
      refine E_aload0 (q := 68) dX6_readClone_67 rfl ?_
      refine C_V0V (q := 71) lk_X6_254 (sp_X6_advanceX (ft_ne (by decide))) rc_X6 dX6_readClone_68 (by decide) (Nat.le_of_ble_eq_true rfl) rfl ?_
      refine E_aload0 (q := 72) dX6_readClone_71 rfl ?_
      refine E_iconst (v := nI 0) (q := 73) dX6_readClone_72 (by decide) rfl ?_
      refine C_V1X (q := 76) lk_X6_263 (sp_X6_newNameVX (ft_ne (by decide)) hI.ft) rc_X6 dX6_readClone_73 (by decide) (Nat.le_of_ble_eq_true rfl) rfl ?_
      rintro y w hy
      rw [hy]
      refine E_istore2 (q := 77) dX6_readClone_76 rfl rfl ?_
      refine E_aload0 (q := 78) dX6_readClone_77 rfl ?_
      refine G_X6_fault (q := 81) fl_X6_220 dX6_readClone_78 rfl ?_
      refine V_int ft_18 ?_
      refine E_if_ne (tgt := 91) (q := 84) dX6_readClone_81 (by decide) rfl (fun h81 => ?_) (fun h81 => ?_)
      · skip
        exact E_vreturn rfl rfl dX6_readClone_91 ⟨rfl, RPC_fail (by simp only [sClone, ch_f c0]) (by decide) h FrR.rf⟩
      · first | exact absurd h81 (by decide) | exact absurd (by decide) h81
    · first | exact absurd h37 (by decide) | exact absurd (by decide) h37
  · skip
    exact absurd h9 (by omega)
theorem sp_X6_readCloneN (h : RdR M b n s g A) (hT : aT A + 1 < 2 ^ 24) (c0 : aV A < 6) (c1 : ¬ isNm b n (nxt b n s)) : Spec D 10 yX6_readClone cfX6_readClone [.ref (ad 157)] (wl D ad M) 0 0 (PY (RPC D ad M b n (sClone b n s g A))) := by
  refine Spec.of (by decide) rfl (Nat.le_of_ble_eq_true rfl) rfl ?_
  have hw := h.2.2.2.2.2.1
  have hI := h.2.2.2.2.2
  have hb := hI.2.2.1.1
  refine E_aload0 (q := 1) dX6_readClone_0 rfl ?_
  refine E_aload0 (q := 2) dX6_readClone_1 rfl ?_
  refine G_X6_w (q := 5) (x := 163) (by repeat (first | exact hw | refine WX.w ?_ | refine WX.u (by decide) ?_)) fl_X6_16 dX6_readClone_2 rfl ?_
  refine E_iconst (v := nI 3) (q := 6) dX6_readClone_5 (by decide) rfl ?_
  refine E_ialdN (q := 7) hw.2 (by omega) (by decide) dX6_readClone_6 rfl ?_
  refine V_int hI.2.1.1.2.2.2.1 ?_
  refine E_bipush (v := nI 6) (q := 9) dX6_readClone_7 (by decide) rfl ?_
  refine E_icmp_geN (tgt := 16) (q := 12) dX6_readClone_9 (by decide) rfl (by omega) (by omega) (fun h9 => ?_) (fun h9 => ?_)
  · skip
    exact absurd h9 (by omega)
  · skip
    refine E_iconst (v := nI 1) (q := 13) dX6_readClone_12 (by decide) rfl ?_
    refine E_goto (q := 17) dX6_readClone_13 (by decide) ?_
    refine E_bipush (v := -15) (q := 19) dX6_readClone_17 (by decide) rfl ?_
    refine C_V2V (q := 22) lk_X6_247 (sp_X6_checkT) rc_X6 dX6_readClone_19 (by decide) (Nat.le_of_ble_eq_true rfl) rfl ?_
    refine E_aload0 (q := 23) dX6_readClone_22 rfl ?_
    refine C_V0Y (q := 26) lk_X6_254 (sp_X6_advR h) rc_X6 dX6_readClone_23 (by decide) (Nat.le_of_ble_eq_true rfl) rfl ?_
    refine kkEW ?_
    rintro M1 ⟨h1, f1⟩
    refine E_aload0 (q := 27) dX6_readClone_26 rfl ?_
    refine E_iconst (v := nI 1) (q := 28) dX6_readClone_27 (by decide) rfl ?_
    refine C_V1I (q := 31) lk_X6_260 (sp_X6_thingHereSN h1 c1) rc_X6 dX6_readClone_28 (by decide) (Nat.le_of_ble_eq_true rfl) rfl ?_
    refine E_istore1 (q := 32) dX6_readClone_31 rfl rfl ?_
    refine E_aload0 (q := 33) dX6_readClone_32 rfl ?_
    refine E_aload0 (q := 34) dX6_readClone_33 rfl ?_
    refine G_X6_fault (q := 37) fl_X6_220 dX6_readClone_34 rfl ?_
    refine V_int ft_18 ?_
    refine E_if_ne (tgt := 57) (q := 40) dX6_readClone_37 (by decide) rfl (fun h37 => ?_) (fun h37 => ?_)
    · skip
      refine E_iconst (v := nI 1) (q := 58) dX6_readClone_57 (by decide) rfl ?_
      refine E_goto (q := 62) dX6_readClone_58 (by decide) ?_
      refine E_bipush (v := -15) (q := 64) dX6_readClone_62 (by decide) rfl ?_
      refine C_V2V (q := 67) lk_X6_247 (sp_X6_checkT) rc_X6 dX6_readClone_64 (by decide) (Nat.le_of_ble_eq_true rfl) rfl ?_
      refine E_aload0 (q := 68) dX6_readClone_67 rfl ?_
      refine C_V0V (q := 71) lk_X6_254 (sp_X6_advanceX (ft_ne (by decide))) rc_X6 dX6_readClone_68 (by decide) (Nat.le_of_ble_eq_true rfl) rfl ?_
      refine E_aload0 (q := 72) dX6_readClone_71 rfl ?_
      refine E_iconst (v := nI 0) (q := 73) dX6_readClone_72 (by decide) rfl ?_
      refine C_V1X (q := 76) lk_X6_263 (sp_X6_newNameVX (ft_ne (by decide)) h1.2.2.2.2.2.ft) rc_X6 dX6_readClone_73 (by decide) (Nat.le_of_ble_eq_true rfl) rfl ?_
      rintro y w hy
      rw [hy]
      refine E_istore2 (q := 77) dX6_readClone_76 rfl rfl ?_
      refine E_aload0 (q := 78) dX6_readClone_77 rfl ?_
      refine G_X6_fault (q := 81) fl_X6_220 dX6_readClone_78 rfl ?_
      refine V_int ft_18 ?_
      refine E_if_ne (tgt := 91) (q := 84) dX6_readClone_81 (by decide) rfl (fun h81 => ?_) (fun h81 => ?_)
      · skip
        exact E_vreturn rfl rfl dX6_readClone_91 ⟨rfl, RPC_fail (by simp only [sClone, snpR, nmR, ch_t c0, ch_f c1]) (by decide) h1 f1⟩
      · first | exact absurd h81 (by decide) | exact absurd (by decide) h81
    · first | exact absurd h37 (by decide) | exact absurd (by decide) h37
theorem sp_X6_readCloneF (h : RdR M b n s g A) (hT : aT A + 1 < 2 ^ 24) (c0 : aV A < 6) (c1 : isNm b n (nxt b n s)) (c2 : fS A (nmc b n (nxt b n s)) = -1) : Spec D 10 yX6_readClone cfX6_readClone [.ref (ad 157)] (wl D ad M) 0 0 (PY (RPC D ad M b n (sClone b n s g A))) := by
  refine Spec.of (by decide) rfl (Nat.le_of_ble_eq_true rfl) rfl ?_
  have hw := h.2.2.2.2.2.1
  have hI := h.2.2.2.2.2
  have hb := hI.2.2.1.1
  refine E_aload0 (q := 1) dX6_readClone_0 rfl ?_
  refine E_aload0 (q := 2) dX6_readClone_1 rfl ?_
  refine G_X6_w (q := 5) (x := 163) (by repeat (first | exact hw | refine WX.w ?_ | refine WX.u (by decide) ?_)) fl_X6_16 dX6_readClone_2 rfl ?_
  refine E_iconst (v := nI 3) (q := 6) dX6_readClone_5 (by decide) rfl ?_
  refine E_ialdN (q := 7) hw.2 (by omega) (by decide) dX6_readClone_6 rfl ?_
  refine V_int hI.2.1.1.2.2.2.1 ?_
  refine E_bipush (v := nI 6) (q := 9) dX6_readClone_7 (by decide) rfl ?_
  refine E_icmp_geN (tgt := 16) (q := 12) dX6_readClone_9 (by decide) rfl (by omega) (by omega) (fun h9 => ?_) (fun h9 => ?_)
  · skip
    exact absurd h9 (by omega)
  · skip
    refine E_iconst (v := nI 1) (q := 13) dX6_readClone_12 (by decide) rfl ?_
    refine E_goto (q := 17) dX6_readClone_13 (by decide) ?_
    refine E_bipush (v := -15) (q := 19) dX6_readClone_17 (by decide) rfl ?_
    refine C_V2V (q := 22) lk_X6_247 (sp_X6_checkT) rc_X6 dX6_readClone_19 (by decide) (Nat.le_of_ble_eq_true rfl) rfl ?_
    refine E_aload0 (q := 23) dX6_readClone_22 rfl ?_
    refine C_V0Y (q := 26) lk_X6_254 (sp_X6_advR h) rc_X6 dX6_readClone_23 (by decide) (Nat.le_of_ble_eq_true rfl) rfl ?_
    refine kkEW ?_
    rintro M1 ⟨h1, f1⟩
    refine E_aload0 (q := 27) dX6_readClone_26 rfl ?_
    refine E_iconst (v := nI 1) (q := 28) dX6_readClone_27 (by decide) rfl ?_
    refine C_V1I (q := 31) lk_X6_260 (sp_X6_thingHereSF h1 c1 c2) rc_X6 dX6_readClone_28 (by decide) (Nat.le_of_ble_eq_true rfl) rfl ?_
    refine E_istore1 (q := 32) dX6_readClone_31 rfl rfl ?_
    refine E_aload0 (q := 33) dX6_readClone_32 rfl ?_
    refine E_aload0 (q := 34) dX6_readClone_33 rfl ?_
    refine G_X6_fault (q := 37) fl_X6_220 dX6_readClone_34 rfl ?_
    refine V_int ft_18 ?_
    refine E_if_ne (tgt := 57) (q := 40) dX6_readClone_37 (by decide) rfl (fun h37 => ?_) (fun h37 => ?_)
    · skip
      refine E_iconst (v := nI 1) (q := 58) dX6_readClone_57 (by decide) rfl ?_
      refine E_goto (q := 62) dX6_readClone_58 (by decide) ?_
      refine E_bipush (v := -15) (q := 64) dX6_readClone_62 (by decide) rfl ?_
      refine C_V2V (q := 67) lk_X6_247 (sp_X6_checkT) rc_X6 dX6_readClone_64 (by decide) (Nat.le_of_ble_eq_true rfl) rfl ?_
      refine E_aload0 (q := 68) dX6_readClone_67 rfl ?_
      refine C_V0V (q := 71) lk_X6_254 (sp_X6_advanceX (ft_ne (by decide))) rc_X6 dX6_readClone_68 (by decide) (Nat.le_of_ble_eq_true rfl) rfl ?_
      refine E_aload0 (q := 72) dX6_readClone_71 rfl ?_
      refine E_iconst (v := nI 0) (q := 73) dX6_readClone_72 (by decide) rfl ?_
      refine C_V1X (q := 76) lk_X6_263 (sp_X6_newNameVX (ft_ne (by decide)) h1.2.2.2.2.2.ft) rc_X6 dX6_readClone_73 (by decide) (Nat.le_of_ble_eq_true rfl) rfl ?_
      rintro y w hy
      rw [hy]
      refine E_istore2 (q := 77) dX6_readClone_76 rfl rfl ?_
      refine E_aload0 (q := 78) dX6_readClone_77 rfl ?_
      refine G_X6_fault (q := 81) fl_X6_220 dX6_readClone_78 rfl ?_
      refine V_int ft_18 ?_
      refine E_if_ne (tgt := 91) (q := 84) dX6_readClone_81 (by decide) rfl (fun h81 => ?_) (fun h81 => ?_)
      · skip
        exact E_vreturn rfl rfl dX6_readClone_91 ⟨rfl, RPC_fail (by simp only [sClone, snpR, nmR, ch_t c0, ch_t c1, ch_t c2]) (by decide) h1 f1⟩
      · first | exact absurd h81 (by decide) | exact absurd (by decide) h81
    · first | exact absurd h37 (by decide) | exact absurd (by decide) h37
theorem sp_X6_readCloneL (h : RdR M b n s g A) (hT : aT A + 1 < 2 ^ 24) (c0 : aV A < 6) (c1 : isNm b n (nxt b n s)) {v : Nat} (hv : v < 16) (hvt : th A v) (hf : fS A (nmc b n (nxt b n s)) = nI v) (hcl : (fS A (nmc b n (nxt b n s))).toNatClampNeg = v) (c2 : ¬ fS A (nmc b n (nxt b n s)) = -1) (c3 : ¬ popN (clo A v) < aC A) : Spec D 10 yX6_readClone cfX6_readClone [.ref (ad 157)] (wl D ad M) 0 0 (PY (RPC D ad M b n (sClone b n s g A))) := by
  refine Spec.of (by decide) rfl (Nat.le_of_ble_eq_true rfl) rfl ?_
  have hw := h.2.2.2.2.2.1
  have hI := h.2.2.2.2.2
  have hb := hI.2.2.1.1
  have hclt := clo_lt (A := A) (s := v)
  have hpl := popN_le (clo A v)
  refine E_aload0 (q := 1) dX6_readClone_0 rfl ?_
  refine E_aload0 (q := 2) dX6_readClone_1 rfl ?_
  refine G_X6_w (q := 5) (x := 163) (by repeat (first | exact hw | refine WX.w ?_ | refine WX.u (by decide) ?_)) fl_X6_16 dX6_readClone_2 rfl ?_
  refine E_iconst (v := nI 3) (q := 6) dX6_readClone_5 (by decide) rfl ?_
  refine E_ialdN (q := 7) hw.2 (by omega) (by decide) dX6_readClone_6 rfl ?_
  refine V_int hI.2.1.1.2.2.2.1 ?_
  refine E_bipush (v := nI 6) (q := 9) dX6_readClone_7 (by decide) rfl ?_
  refine E_icmp_geN (tgt := 16) (q := 12) dX6_readClone_9 (by decide) rfl (by omega) (by omega) (fun h9 => ?_) (fun h9 => ?_)
  · skip
    exact absurd h9 (by omega)
  · skip
    refine E_iconst (v := nI 1) (q := 13) dX6_readClone_12 (by decide) rfl ?_
    refine E_goto (q := 17) dX6_readClone_13 (by decide) ?_
    refine E_bipush (v := -15) (q := 19) dX6_readClone_17 (by decide) rfl ?_
    refine C_V2V (q := 22) lk_X6_247 (sp_X6_checkT) rc_X6 dX6_readClone_19 (by decide) (Nat.le_of_ble_eq_true rfl) rfl ?_
    refine E_aload0 (q := 23) dX6_readClone_22 rfl ?_
    refine C_V0Y (q := 26) lk_X6_254 (sp_X6_advR h) rc_X6 dX6_readClone_23 (by decide) (Nat.le_of_ble_eq_true rfl) rfl ?_
    refine kkEW ?_
    rintro M1 ⟨h1, f1⟩
    refine E_aload0 (q := 27) dX6_readClone_26 rfl ?_
    refine E_iconst (v := nI 1) (q := 28) dX6_readClone_27 (by decide) rfl ?_
    refine C_V1I (q := 31) lk_X6_260 (sp_X6_thingHereS h1 c1 hv hf) rc_X6 dX6_readClone_28 (by decide) (Nat.le_of_ble_eq_true rfl) rfl ?_
    refine E_istore1 (q := 32) dX6_readClone_31 rfl rfl ?_
    refine E_aload0 (q := 33) dX6_readClone_32 rfl ?_
    refine E_aload0 (q := 34) dX6_readClone_33 rfl ?_
    refine G_X6_fault (q := 37) fl_X6_220 dX6_readClone_34 rfl ?_
    refine V_int h1.2.2.2.1 ?_
    refine E_if_ne (tgt := 57) (q := 40) dX6_readClone_37 (by decide) rfl (fun h37 => ?_) (fun h37 => ?_)
    · first | exact absurd h37 (by decide) | exact absurd (by decide) h37
    · skip
      refine E_aload0 (q := 41) dX6_readClone_40 rfl ?_
      refine E_iload1 (q := 42) dX6_readClone_41 rfl ?_
      have hw1 := h1.2.2.2.2.2.1
      refine C_V1I (q := 45) lk_X6_132 (sp_X6_clones h1.2.2.2.2.2 hv) rc_X6 dX6_readClone_42 (by decide) (Nat.le_of_ble_eq_true rfl) rfl ?_
      refine C_S1I (q := 48) lk_X6_121 (sp_X6_bits (by omega)) dX6_readClone_45 (by decide) (Nat.le_of_ble_eq_true rfl) rfl ?_
      refine E_aload0 (q := 49) dX6_readClone_48 rfl ?_
      refine G_X6_w (q := 52) (x := 163) hw1 fl_X6_16 dX6_readClone_49 rfl ?_
      refine E_iconst (v := nI 1) (q := 53) dX6_readClone_52 (by decide) rfl ?_
      refine E_ialdN (q := 54) hw1.2 (show 1 < 739 by decide) (by decide) dX6_readClone_53 rfl ?_
      refine V_int h1.2.2.2.2.2.2.1.1.2.1 ?_
      refine E_icmp_geN (tgt := 61) (q := 57) dX6_readClone_54 (by decide) rfl (by omega) (by omega) (fun h54 => ?_) (fun h54 => ?_)
      · skip
        refine E_iconst (v := nI 0) (q := 62) dX6_readClone_61 (by decide) rfl ?_
        refine E_bipush (v := -15) (q := 64) dX6_readClone_62 (by decide) rfl ?_
        refine C_V2V (q := 67) lk_X6_247 (sp_X6_checkF h1.2.2.2.1) rc_X6 dX6_readClone_64 (by decide) (Nat.le_of_ble_eq_true rfl) rfl ?_
        refine E_aload0 (q := 68) dX6_readClone_67 rfl ?_
        refine C_V0V (q := 71) lk_X6_254 (sp_X6_advanceX (ft_ne (by decide))) rc_X6 dX6_readClone_68 (by decide) (Nat.le_of_ble_eq_true rfl) rfl ?_
        refine E_aload0 (q := 72) dX6_readClone_71 rfl ?_
        refine E_iconst (v := nI 0) (q := 73) dX6_readClone_72 (by decide) rfl ?_
        refine C_V1X (q := 76) lk_X6_263 (sp_X6_newNameVX (ft_ne (by decide)) h1.2.2.2.2.2.ft) rc_X6 dX6_readClone_73 (by decide) (Nat.le_of_ble_eq_true rfl) rfl ?_
        rintro y w hy
        rw [hy]
        refine E_istore2 (q := 77) dX6_readClone_76 rfl rfl ?_
        refine E_aload0 (q := 78) dX6_readClone_77 rfl ?_
        refine G_X6_fault (q := 81) fl_X6_220 dX6_readClone_78 rfl ?_
        refine V_int ft_18 ?_
        refine E_if_ne (tgt := 91) (q := 84) dX6_readClone_81 (by decide) rfl (fun h81 => ?_) (fun h81 => ?_)
        · skip
          exact E_vreturn rfl rfl dX6_readClone_91 ⟨rfl, RPC_fail (by simp only [sClone, snpR, nmR, ch_t c0, ch_t c1, ch_f c2, hcl, ch_f c3]) (by decide) h1 f1⟩
        · first | exact absurd h81 (by decide) | exact absurd (by decide) h81
      · skip
        exact absurd h54 (by omega)
theorem sp_X6_readCloneN2 (h : RdR M b n s g A) (hT : aT A + 1 < 2 ^ 24) (c0 : aV A < 6) (c1 : isNm b n (nxt b n s)) {v : Nat} (hv : v < 16) (hvt : th A v) (hf : fS A (nmc b n (nxt b n s)) = nI v) (hcl : (fS A (nmc b n (nxt b n s))).toNatClampNeg = v) (c2 : ¬ fS A (nmc b n (nxt b n s)) = -1) (c3 : popN (clo A v) < aC A) (c4 : ¬ isNm b n (nxt b n (nxt b n s))) : Spec D 10 yX6_readClone cfX6_readClone [.ref (ad 157)] (wl D ad M) 0 0 (PY (RPC D ad M b n (sClone b n s g A))) := by
  refine Spec.of (by decide) rfl (Nat.le_of_ble_eq_true rfl) rfl ?_
  have hw := h.2.2.2.2.2.1
  have hI := h.2.2.2.2.2
  have hb := hI.2.2.1.1
  have hclt := clo_lt (A := A) (s := v)
  have hpl := popN_le (clo A v)
  refine E_aload0 (q := 1) dX6_readClone_0 rfl ?_
  refine E_aload0 (q := 2) dX6_readClone_1 rfl ?_
  refine G_X6_w (q := 5) (x := 163) (by repeat (first | exact hw | refine WX.w ?_ | refine WX.u (by decide) ?_)) fl_X6_16 dX6_readClone_2 rfl ?_
  refine E_iconst (v := nI 3) (q := 6) dX6_readClone_5 (by decide) rfl ?_
  refine E_ialdN (q := 7) hw.2 (by omega) (by decide) dX6_readClone_6 rfl ?_
  refine V_int hI.2.1.1.2.2.2.1 ?_
  refine E_bipush (v := nI 6) (q := 9) dX6_readClone_7 (by decide) rfl ?_
  refine E_icmp_geN (tgt := 16) (q := 12) dX6_readClone_9 (by decide) rfl (by omega) (by omega) (fun h9 => ?_) (fun h9 => ?_)
  · skip
    exact absurd h9 (by omega)
  · skip
    refine E_iconst (v := nI 1) (q := 13) dX6_readClone_12 (by decide) rfl ?_
    refine E_goto (q := 17) dX6_readClone_13 (by decide) ?_
    refine E_bipush (v := -15) (q := 19) dX6_readClone_17 (by decide) rfl ?_
    refine C_V2V (q := 22) lk_X6_247 (sp_X6_checkT) rc_X6 dX6_readClone_19 (by decide) (Nat.le_of_ble_eq_true rfl) rfl ?_
    refine E_aload0 (q := 23) dX6_readClone_22 rfl ?_
    refine C_V0Y (q := 26) lk_X6_254 (sp_X6_advR h) rc_X6 dX6_readClone_23 (by decide) (Nat.le_of_ble_eq_true rfl) rfl ?_
    refine kkEW ?_
    rintro M1 ⟨h1, f1⟩
    refine E_aload0 (q := 27) dX6_readClone_26 rfl ?_
    refine E_iconst (v := nI 1) (q := 28) dX6_readClone_27 (by decide) rfl ?_
    refine C_V1I (q := 31) lk_X6_260 (sp_X6_thingHereS h1 c1 hv hf) rc_X6 dX6_readClone_28 (by decide) (Nat.le_of_ble_eq_true rfl) rfl ?_
    refine E_istore1 (q := 32) dX6_readClone_31 rfl rfl ?_
    refine E_aload0 (q := 33) dX6_readClone_32 rfl ?_
    refine E_aload0 (q := 34) dX6_readClone_33 rfl ?_
    refine G_X6_fault (q := 37) fl_X6_220 dX6_readClone_34 rfl ?_
    refine V_int h1.2.2.2.1 ?_
    refine E_if_ne (tgt := 57) (q := 40) dX6_readClone_37 (by decide) rfl (fun h37 => ?_) (fun h37 => ?_)
    · first | exact absurd h37 (by decide) | exact absurd (by decide) h37
    · skip
      refine E_aload0 (q := 41) dX6_readClone_40 rfl ?_
      refine E_iload1 (q := 42) dX6_readClone_41 rfl ?_
      have hw1 := h1.2.2.2.2.2.1
      refine C_V1I (q := 45) lk_X6_132 (sp_X6_clones h1.2.2.2.2.2 hv) rc_X6 dX6_readClone_42 (by decide) (Nat.le_of_ble_eq_true rfl) rfl ?_
      refine C_S1I (q := 48) lk_X6_121 (sp_X6_bits (by omega)) dX6_readClone_45 (by decide) (Nat.le_of_ble_eq_true rfl) rfl ?_
      refine E_aload0 (q := 49) dX6_readClone_48 rfl ?_
      refine G_X6_w (q := 52) (x := 163) hw1 fl_X6_16 dX6_readClone_49 rfl ?_
      refine E_iconst (v := nI 1) (q := 53) dX6_readClone_52 (by decide) rfl ?_
      refine E_ialdN (q := 54) hw1.2 (show 1 < 739 by decide) (by decide) dX6_readClone_53 rfl ?_
      refine V_int h1.2.2.2.2.2.2.1.1.2.1 ?_
      refine E_icmp_geN (tgt := 61) (q := 57) dX6_readClone_54 (by decide) rfl (by omega) (by omega) (fun h54 => ?_) (fun h54 => ?_)
      · skip
        exact absurd h54 (by omega)
      · skip
        refine E_iconst (v := nI 1) (q := 58) dX6_readClone_57 (by decide) rfl ?_
        refine E_goto (q := 62) dX6_readClone_58 (by decide) ?_
        refine E_bipush (v := -15) (q := 64) dX6_readClone_62 (by decide) rfl ?_
        refine C_V2V (q := 67) lk_X6_247 (sp_X6_checkT) rc_X6 dX6_readClone_64 (by decide) (Nat.le_of_ble_eq_true rfl) rfl ?_
        refine E_aload0 (q := 68) dX6_readClone_67 rfl ?_
        refine C_V0Y (q := 71) lk_X6_254 (sp_X6_advR h1) rc_X6 dX6_readClone_68 (by decide) (Nat.le_of_ble_eq_true rfl) rfl ?_
        refine kkEW ?_
        rintro M2 ⟨h2, f2⟩
        refine E_aload0 (q := 72) dX6_readClone_71 rfl ?_
        refine E_iconst (v := nI 0) (q := 73) dX6_readClone_72 (by decide) rfl ?_
        refine C_V1X (q := 76) lk_X6_263 (sp_X6_newNameVN h2 c4) rc_X6 dX6_readClone_73 (by decide) (Nat.le_of_ble_eq_true rfl) rfl ?_
        rintro y w hy
        rw [hy]
        refine E_istore2 (q := 77) dX6_readClone_76 rfl rfl ?_
        refine E_aload0 (q := 78) dX6_readClone_77 rfl ?_
        refine G_X6_fault (q := 81) fl_X6_220 dX6_readClone_78 rfl ?_
        refine V_int ft_18 ?_
        refine E_if_ne (tgt := 91) (q := 84) dX6_readClone_81 (by decide) rfl (fun h81 => ?_) (fun h81 => ?_)
        · skip
          exact E_vreturn rfl rfl dX6_readClone_91 ⟨rfl, RPC_fail (by simp only [sClone, snpR, nmR, ch_t c0, ch_t c1, ch_f c2, hcl, ch_t c3, ch_f c4]) (by decide) h2 (f1.tr f2)⟩
        · first | exact absurd h81 (by decide) | exact absurd (by decide) h81
theorem sp_X6_readCloneD (h : RdR M b n s g A) (hT : aT A + 1 < 2 ^ 24) (c0 : aV A < 6) (c1 : isNm b n (nxt b n s)) {v : Nat} (hv : v < 16) (hvt : th A v) (hf : fS A (nmc b n (nxt b n s)) = nI v) (hcl : (fS A (nmc b n (nxt b n s))).toNatClampNeg = v) (c2 : ¬ fS A (nmc b n (nxt b n s)) = -1) (c3 : popN (clo A v) < aC A) (c4 : isNm b n (nxt b n (nxt b n s))) (c5 : ¬ fV A (nmc b n (nxt b n (nxt b n s))) = -1) : Spec D 10 yX6_readClone cfX6_readClone [.ref (ad 157)] (wl D ad M) 0 0 (PY (RPC D ad M b n (sClone b n s g A))) := by
  refine Spec.of (by decide) rfl (Nat.le_of_ble_eq_true rfl) rfl ?_
  have hw := h.2.2.2.2.2.1
  have hI := h.2.2.2.2.2
  have hb := hI.2.2.1.1
  have hclt := clo_lt (A := A) (s := v)
  have hpl := popN_le (clo A v)
  refine E_aload0 (q := 1) dX6_readClone_0 rfl ?_
  refine E_aload0 (q := 2) dX6_readClone_1 rfl ?_
  refine G_X6_w (q := 5) (x := 163) (by repeat (first | exact hw | refine WX.w ?_ | refine WX.u (by decide) ?_)) fl_X6_16 dX6_readClone_2 rfl ?_
  refine E_iconst (v := nI 3) (q := 6) dX6_readClone_5 (by decide) rfl ?_
  refine E_ialdN (q := 7) hw.2 (by omega) (by decide) dX6_readClone_6 rfl ?_
  refine V_int hI.2.1.1.2.2.2.1 ?_
  refine E_bipush (v := nI 6) (q := 9) dX6_readClone_7 (by decide) rfl ?_
  refine E_icmp_geN (tgt := 16) (q := 12) dX6_readClone_9 (by decide) rfl (by omega) (by omega) (fun h9 => ?_) (fun h9 => ?_)
  · skip
    exact absurd h9 (by omega)
  · skip
    refine E_iconst (v := nI 1) (q := 13) dX6_readClone_12 (by decide) rfl ?_
    refine E_goto (q := 17) dX6_readClone_13 (by decide) ?_
    refine E_bipush (v := -15) (q := 19) dX6_readClone_17 (by decide) rfl ?_
    refine C_V2V (q := 22) lk_X6_247 (sp_X6_checkT) rc_X6 dX6_readClone_19 (by decide) (Nat.le_of_ble_eq_true rfl) rfl ?_
    refine E_aload0 (q := 23) dX6_readClone_22 rfl ?_
    refine C_V0Y (q := 26) lk_X6_254 (sp_X6_advR h) rc_X6 dX6_readClone_23 (by decide) (Nat.le_of_ble_eq_true rfl) rfl ?_
    refine kkEW ?_
    rintro M1 ⟨h1, f1⟩
    refine E_aload0 (q := 27) dX6_readClone_26 rfl ?_
    refine E_iconst (v := nI 1) (q := 28) dX6_readClone_27 (by decide) rfl ?_
    refine C_V1I (q := 31) lk_X6_260 (sp_X6_thingHereS h1 c1 hv hf) rc_X6 dX6_readClone_28 (by decide) (Nat.le_of_ble_eq_true rfl) rfl ?_
    refine E_istore1 (q := 32) dX6_readClone_31 rfl rfl ?_
    refine E_aload0 (q := 33) dX6_readClone_32 rfl ?_
    refine E_aload0 (q := 34) dX6_readClone_33 rfl ?_
    refine G_X6_fault (q := 37) fl_X6_220 dX6_readClone_34 rfl ?_
    refine V_int h1.2.2.2.1 ?_
    refine E_if_ne (tgt := 57) (q := 40) dX6_readClone_37 (by decide) rfl (fun h37 => ?_) (fun h37 => ?_)
    · first | exact absurd h37 (by decide) | exact absurd (by decide) h37
    · skip
      refine E_aload0 (q := 41) dX6_readClone_40 rfl ?_
      refine E_iload1 (q := 42) dX6_readClone_41 rfl ?_
      have hw1 := h1.2.2.2.2.2.1
      refine C_V1I (q := 45) lk_X6_132 (sp_X6_clones h1.2.2.2.2.2 hv) rc_X6 dX6_readClone_42 (by decide) (Nat.le_of_ble_eq_true rfl) rfl ?_
      refine C_S1I (q := 48) lk_X6_121 (sp_X6_bits (by omega)) dX6_readClone_45 (by decide) (Nat.le_of_ble_eq_true rfl) rfl ?_
      refine E_aload0 (q := 49) dX6_readClone_48 rfl ?_
      refine G_X6_w (q := 52) (x := 163) hw1 fl_X6_16 dX6_readClone_49 rfl ?_
      refine E_iconst (v := nI 1) (q := 53) dX6_readClone_52 (by decide) rfl ?_
      refine E_ialdN (q := 54) hw1.2 (show 1 < 739 by decide) (by decide) dX6_readClone_53 rfl ?_
      refine V_int h1.2.2.2.2.2.2.1.1.2.1 ?_
      refine E_icmp_geN (tgt := 61) (q := 57) dX6_readClone_54 (by decide) rfl (by omega) (by omega) (fun h54 => ?_) (fun h54 => ?_)
      · skip
        exact absurd h54 (by omega)
      · skip
        refine E_iconst (v := nI 1) (q := 58) dX6_readClone_57 (by decide) rfl ?_
        refine E_goto (q := 62) dX6_readClone_58 (by decide) ?_
        refine E_bipush (v := -15) (q := 64) dX6_readClone_62 (by decide) rfl ?_
        refine C_V2V (q := 67) lk_X6_247 (sp_X6_checkT) rc_X6 dX6_readClone_64 (by decide) (Nat.le_of_ble_eq_true rfl) rfl ?_
        refine E_aload0 (q := 68) dX6_readClone_67 rfl ?_
        refine C_V0Y (q := 71) lk_X6_254 (sp_X6_advR h1) rc_X6 dX6_readClone_68 (by decide) (Nat.le_of_ble_eq_true rfl) rfl ?_
        refine kkEW ?_
        rintro M2 ⟨h2, f2⟩
        refine E_aload0 (q := 72) dX6_readClone_71 rfl ?_
        refine E_iconst (v := nI 0) (q := 73) dX6_readClone_72 (by decide) rfl ?_
        refine C_V1X (q := 76) lk_X6_263 (sp_X6_newNameVF h2 c4 c5) rc_X6 dX6_readClone_73 (by decide) (Nat.le_of_ble_eq_true rfl) rfl ?_
        rintro y w hy
        rw [hy]
        refine E_istore2 (q := 77) dX6_readClone_76 rfl rfl ?_
        refine E_aload0 (q := 78) dX6_readClone_77 rfl ?_
        refine G_X6_fault (q := 81) fl_X6_220 dX6_readClone_78 rfl ?_
        refine V_int ft_18 ?_
        refine E_if_ne (tgt := 91) (q := 84) dX6_readClone_81 (by decide) rfl (fun h81 => ?_) (fun h81 => ?_)
        · skip
          exact E_vreturn rfl rfl dX6_readClone_91 ⟨rfl, RPC_fail (by simp only [sClone, snpR, nmR, ch_t c0, ch_t c1, ch_f c2, hcl, ch_t c3, ch_t c4, ch_f c5]) (by decide) h2 (f1.tr f2)⟩
        · first | exact absurd h81 (by decide) | exact absurd (by decide) h81
theorem sp_X6_readCloneK (h : RdR M b n s g A) (hT : aT A + 1 < 2 ^ 24) (c0 : aV A < 6) (c1 : isNm b n (nxt b n s)) {v : Nat} (hv : v < 16) (hvt : th A v) (hf : fS A (nmc b n (nxt b n s)) = nI v) (hcl : (fS A (nmc b n (nxt b n s))).toNatClampNeg = v) (c2 : ¬ fS A (nmc b n (nxt b n s)) = -1) (c3 : popN (clo A v) < aC A) (c4 : isNm b n (nxt b n (nxt b n s))) (c5 : fV A (nmc b n (nxt b n (nxt b n s))) = -1) : Spec D 10 yX6_readClone cfX6_readClone [.ref (ad 157)] (wl D ad M) 0 0 (PY (RPC D ad M b n (sClone b n s g A))) := by
  refine Spec.of (by decide) rfl (Nat.le_of_ble_eq_true rfl) rfl ?_
  have hw := h.2.2.2.2.2.1
  have hI := h.2.2.2.2.2
  have hb := hI.2.2.1.1
  have hclt := clo_lt (A := A) (s := v)
  have hpl := popN_le (clo A v)
  have hml := nmc_lt c4.1
  refine E_aload0 (q := 1) dX6_readClone_0 rfl ?_
  refine E_aload0 (q := 2) dX6_readClone_1 rfl ?_
  refine G_X6_w (q := 5) (x := 163) (by repeat (first | exact hw | refine WX.w ?_ | refine WX.u (by decide) ?_)) fl_X6_16 dX6_readClone_2 rfl ?_
  refine E_iconst (v := nI 3) (q := 6) dX6_readClone_5 (by decide) rfl ?_
  refine E_ialdN (q := 7) hw.2 (by omega) (by decide) dX6_readClone_6 rfl ?_
  refine V_int hI.2.1.1.2.2.2.1 ?_
  refine E_bipush (v := nI 6) (q := 9) dX6_readClone_7 (by decide) rfl ?_
  refine E_icmp_geN (tgt := 16) (q := 12) dX6_readClone_9 (by decide) rfl (by omega) (by omega) (fun h9 => ?_) (fun h9 => ?_)
  · skip
    exact absurd h9 (by omega)
  · skip
    refine E_iconst (v := nI 1) (q := 13) dX6_readClone_12 (by decide) rfl ?_
    refine E_goto (q := 17) dX6_readClone_13 (by decide) ?_
    refine E_bipush (v := -15) (q := 19) dX6_readClone_17 (by decide) rfl ?_
    refine C_V2V (q := 22) lk_X6_247 (sp_X6_checkT) rc_X6 dX6_readClone_19 (by decide) (Nat.le_of_ble_eq_true rfl) rfl ?_
    refine E_aload0 (q := 23) dX6_readClone_22 rfl ?_
    refine C_V0Y (q := 26) lk_X6_254 (sp_X6_advR h) rc_X6 dX6_readClone_23 (by decide) (Nat.le_of_ble_eq_true rfl) rfl ?_
    refine kkEW ?_
    rintro M1 ⟨h1, f1⟩
    refine E_aload0 (q := 27) dX6_readClone_26 rfl ?_
    refine E_iconst (v := nI 1) (q := 28) dX6_readClone_27 (by decide) rfl ?_
    refine C_V1I (q := 31) lk_X6_260 (sp_X6_thingHereS h1 c1 hv hf) rc_X6 dX6_readClone_28 (by decide) (Nat.le_of_ble_eq_true rfl) rfl ?_
    refine E_istore1 (q := 32) dX6_readClone_31 rfl rfl ?_
    refine E_aload0 (q := 33) dX6_readClone_32 rfl ?_
    refine E_aload0 (q := 34) dX6_readClone_33 rfl ?_
    refine G_X6_fault (q := 37) fl_X6_220 dX6_readClone_34 rfl ?_
    refine V_int h1.2.2.2.1 ?_
    refine E_if_ne (tgt := 57) (q := 40) dX6_readClone_37 (by decide) rfl (fun h37 => ?_) (fun h37 => ?_)
    · first | exact absurd h37 (by decide) | exact absurd (by decide) h37
    · skip
      refine E_aload0 (q := 41) dX6_readClone_40 rfl ?_
      refine E_iload1 (q := 42) dX6_readClone_41 rfl ?_
      have hw1 := h1.2.2.2.2.2.1
      refine C_V1I (q := 45) lk_X6_132 (sp_X6_clones h1.2.2.2.2.2 hv) rc_X6 dX6_readClone_42 (by decide) (Nat.le_of_ble_eq_true rfl) rfl ?_
      refine C_S1I (q := 48) lk_X6_121 (sp_X6_bits (by omega)) dX6_readClone_45 (by decide) (Nat.le_of_ble_eq_true rfl) rfl ?_
      refine E_aload0 (q := 49) dX6_readClone_48 rfl ?_
      refine G_X6_w (q := 52) (x := 163) hw1 fl_X6_16 dX6_readClone_49 rfl ?_
      refine E_iconst (v := nI 1) (q := 53) dX6_readClone_52 (by decide) rfl ?_
      refine E_ialdN (q := 54) hw1.2 (show 1 < 739 by decide) (by decide) dX6_readClone_53 rfl ?_
      refine V_int h1.2.2.2.2.2.2.1.1.2.1 ?_
      refine E_icmp_geN (tgt := 61) (q := 57) dX6_readClone_54 (by decide) rfl (by omega) (by omega) (fun h54 => ?_) (fun h54 => ?_)
      · skip
        exact absurd h54 (by omega)
      · skip
        refine E_iconst (v := nI 1) (q := 58) dX6_readClone_57 (by decide) rfl ?_
        refine E_goto (q := 62) dX6_readClone_58 (by decide) ?_
        refine E_bipush (v := -15) (q := 64) dX6_readClone_62 (by decide) rfl ?_
        refine C_V2V (q := 67) lk_X6_247 (sp_X6_checkT) rc_X6 dX6_readClone_64 (by decide) (Nat.le_of_ble_eq_true rfl) rfl ?_
        refine E_aload0 (q := 68) dX6_readClone_67 rfl ?_
        refine C_V0Y (q := 71) lk_X6_254 (sp_X6_advR h1) rc_X6 dX6_readClone_68 (by decide) (Nat.le_of_ble_eq_true rfl) rfl ?_
        refine kkEW ?_
        rintro M2 ⟨h2, f2⟩
        refine E_aload0 (q := 72) dX6_readClone_71 rfl ?_
        refine E_iconst (v := nI 0) (q := 73) dX6_readClone_72 (by decide) rfl ?_
        refine C_V1X (q := 76) lk_X6_263 (sp_X6_newNameV h2 c4 c5) rc_X6 dX6_readClone_73 (by decide) (Nat.le_of_ble_eq_true rfl) rfl ?_
        refine kkEI ?_
        rintro M3 ⟨h3, f3⟩
        refine E_istore2 (q := 77) dX6_readClone_76 rfl rfl ?_
        refine E_aload0 (q := 78) dX6_readClone_77 rfl ?_
        refine G_X6_fault (q := 81) fl_X6_220 dX6_readClone_78 rfl ?_
        refine V_int h3.2.2.2.1 ?_
        refine E_if_ne (tgt := 91) (q := 84) dX6_readClone_81 (by decide) rfl (fun h81 => ?_) (fun h81 => ?_)
        · first | exact absurd h81 (by decide) | exact absurd (by decide) h81
        · skip
          refine E_aload0 (q := 85) dX6_readClone_84 rfl ?_
          refine E_iload1 (q := 86) dX6_readClone_85 rfl ?_
          refine E_iload2 (q := 87) dX6_readClone_86 rfl ?_
          refine C_V2X (q := 90) lk_X6_186 (sp_X6_mkVS h3.2.2.2.2.2 c0 hml hv hvt) rc_X6 dX6_readClone_87 (by decide) (Nat.le_of_ble_eq_true rfl) rfl ?_
          refine kkEI ?_
          rintro M4 ⟨q4, e4⟩
          refine E_pop (q := 91) dX6_readClone_90 rfl rfl ?_
          exact E_vreturn rfl rfl dX6_readClone_91 ⟨rfl, RPC_ok (by simp only [sClone, snpR, nmR, ch_t c0, ch_t c1, ch_f c2, hcl, ch_t c3, ch_t c4, ch_t c5]) (h3.wr q4 e4) (((f1.tr f2).tr f3).tr (FrR.w e4))⟩
theorem sp_X6_readClone (h : RdR M b n s g A) (hT : aT A + 1 < 2 ^ 24) : Spec D 10 yX6_readClone cfX6_readClone [.ref (ad 157)] (wl D ad M) 0 0 (PY (RPC D ad M b n (sClone b n s g A))) := by
  by_cases c0 : aV A < 6
  · by_cases c1 : isNm b n (nxt b n s)
    · rcases fS_or A (nmc b n (nxt b n s)) with c2 | ⟨v, hv, hvt, hf, hcl, c2⟩
      · exact sp_X6_readCloneF h hT c0 c1 c2
      · by_cases c3 : popN (clo A v) < aC A
        · by_cases c4 : isNm b n (nxt b n (nxt b n s))
          · by_cases c5 : fV A (nmc b n (nxt b n (nxt b n s))) = -1
            · exact sp_X6_readCloneK h hT c0 c1 hv hvt hf hcl c2 c3 c4 c5
            · exact sp_X6_readCloneD h hT c0 c1 hv hvt hf hcl c2 c3 c4 c5
          · exact sp_X6_readCloneN2 h hT c0 c1 hv hvt hf hcl c2 c3 c4
        · exact sp_X6_readCloneL h hT c0 c1 hv hvt hf hcl c2 c3
    · exact sp_X6_readCloneN h hT c0 c1
  · exact sp_X6_readCloneC h hT c0
theorem sp_X6_readHoldN (h : RdR M b n s g A) (hT : aT A + 1 < 2 ^ 24) (c1 : ¬ isNm b n (nxt b n s)) : Spec D 10 yX6_readHold cfX6_readHold [.ref (ad 157)] (wl D ad M) 0 0 (PY (RPC D ad M b n (sHold b n s g A))) := by
  refine Spec.of (by decide) rfl (Nat.le_of_ble_eq_true rfl) rfl ?_
  have hw := h.2.2.2.2.2.1
  have hI := h.2.2.2.2.2
  have hb := hI.2.2.1.1
  refine E_aload0 (q := 1) dX6_readHold_0 rfl ?_
  refine C_V0Y (q := 4) lk_X6_254 (sp_X6_advR h) rc_X6 dX6_readHold_1 (by decide) (Nat.le_of_ble_eq_true rfl) rfl ?_
  refine kkEW ?_
  rintro M1 ⟨h1, f1⟩
  refine E_aload0 (q := 5) dX6_readHold_4 rfl ?_
  refine E_iconst (v := nI 1) (q := 6) dX6_readHold_5 (by decide) rfl ?_
  refine C_V1I (q := 9) lk_X6_260 (sp_X6_thingHereSN h1 c1) rc_X6 dX6_readHold_6 (by decide) (Nat.le_of_ble_eq_true rfl) rfl ?_
  refine E_istore1 (q := 10) dX6_readHold_9 rfl rfl ?_
  refine E_aload0 (q := 11) dX6_readHold_10 rfl ?_
  refine E_aload0 (q := 12) dX6_readHold_11 rfl ?_
  refine G_X6_fault (q := 15) fl_X6_220 dX6_readHold_12 rfl ?_
  refine V_int ft_18 ?_
  refine E_if_ne (tgt := 27) (q := 18) dX6_readHold_15 (by decide) rfl (fun h15 => ?_) (fun h15 => ?_)
  · skip
    refine E_iconst (v := nI 1) (q := 28) dX6_readHold_27 (by decide) rfl ?_
    refine E_goto (q := 32) dX6_readHold_28 (by decide) ?_
    refine E_bipush (v := -14) (q := 34) dX6_readHold_32 (by decide) rfl ?_
    refine C_V2V (q := 37) lk_X6_247 (sp_X6_checkT) rc_X6 dX6_readHold_34 (by decide) (Nat.le_of_ble_eq_true rfl) rfl ?_
    refine E_aload0 (q := 38) dX6_readHold_37 rfl ?_
    refine G_X6_fault (q := 41) fl_X6_220 dX6_readHold_38 rfl ?_
    refine V_int ft_18 ?_
    refine E_if_ne (tgt := 55) (q := 44) dX6_readHold_41 (by decide) rfl (fun h41 => ?_) (fun h41 => ?_)
    · skip
      refine E_aload0 (q := 56) dX6_readHold_55 rfl ?_
      refine C_V0V (q := 59) lk_X6_254 (sp_X6_advanceX (ft_ne (by decide))) rc_X6 dX6_readHold_56 (by decide) (Nat.le_of_ble_eq_true rfl) rfl ?_
      exact E_vreturn rfl rfl dX6_readHold_59 ⟨rfl, RPC_fail (by simp only [sHold, snpR, nmR, ch_f c1]) (by decide) h1 f1⟩
    · first | exact absurd h41 (by decide) | exact absurd (by decide) h41
  · first | exact absurd h15 (by decide) | exact absurd (by decide) h15
theorem sp_X6_readHoldF (h : RdR M b n s g A) (hT : aT A + 1 < 2 ^ 24) (c1 : isNm b n (nxt b n s)) (c2 : fS A (nmc b n (nxt b n s)) = -1) : Spec D 10 yX6_readHold cfX6_readHold [.ref (ad 157)] (wl D ad M) 0 0 (PY (RPC D ad M b n (sHold b n s g A))) := by
  refine Spec.of (by decide) rfl (Nat.le_of_ble_eq_true rfl) rfl ?_
  have hw := h.2.2.2.2.2.1
  have hI := h.2.2.2.2.2
  have hb := hI.2.2.1.1
  refine E_aload0 (q := 1) dX6_readHold_0 rfl ?_
  refine C_V0Y (q := 4) lk_X6_254 (sp_X6_advR h) rc_X6 dX6_readHold_1 (by decide) (Nat.le_of_ble_eq_true rfl) rfl ?_
  refine kkEW ?_
  rintro M1 ⟨h1, f1⟩
  refine E_aload0 (q := 5) dX6_readHold_4 rfl ?_
  refine E_iconst (v := nI 1) (q := 6) dX6_readHold_5 (by decide) rfl ?_
  refine C_V1I (q := 9) lk_X6_260 (sp_X6_thingHereSF h1 c1 c2) rc_X6 dX6_readHold_6 (by decide) (Nat.le_of_ble_eq_true rfl) rfl ?_
  refine E_istore1 (q := 10) dX6_readHold_9 rfl rfl ?_
  refine E_aload0 (q := 11) dX6_readHold_10 rfl ?_
  refine E_aload0 (q := 12) dX6_readHold_11 rfl ?_
  refine G_X6_fault (q := 15) fl_X6_220 dX6_readHold_12 rfl ?_
  refine V_int ft_18 ?_
  refine E_if_ne (tgt := 27) (q := 18) dX6_readHold_15 (by decide) rfl (fun h15 => ?_) (fun h15 => ?_)
  · skip
    refine E_iconst (v := nI 1) (q := 28) dX6_readHold_27 (by decide) rfl ?_
    refine E_goto (q := 32) dX6_readHold_28 (by decide) ?_
    refine E_bipush (v := -14) (q := 34) dX6_readHold_32 (by decide) rfl ?_
    refine C_V2V (q := 37) lk_X6_247 (sp_X6_checkT) rc_X6 dX6_readHold_34 (by decide) (Nat.le_of_ble_eq_true rfl) rfl ?_
    refine E_aload0 (q := 38) dX6_readHold_37 rfl ?_
    refine G_X6_fault (q := 41) fl_X6_220 dX6_readHold_38 rfl ?_
    refine V_int ft_18 ?_
    refine E_if_ne (tgt := 55) (q := 44) dX6_readHold_41 (by decide) rfl (fun h41 => ?_) (fun h41 => ?_)
    · skip
      refine E_aload0 (q := 56) dX6_readHold_55 rfl ?_
      refine C_V0V (q := 59) lk_X6_254 (sp_X6_advanceX (ft_ne (by decide))) rc_X6 dX6_readHold_56 (by decide) (Nat.le_of_ble_eq_true rfl) rfl ?_
      exact E_vreturn rfl rfl dX6_readHold_59 ⟨rfl, RPC_fail (by simp only [sHold, snpR, nmR, ch_t c1, ch_t c2]) (by decide) h1 f1⟩
    · first | exact absurd h41 (by decide) | exact absurd (by decide) h41
  · first | exact absurd h15 (by decide) | exact absurd (by decide) h15
theorem sp_X6_readHoldL (h : RdR M b n s g A) (hT : aT A + 1 < 2 ^ 24) (c1 : isNm b n (nxt b n s)) {v : Nat} (hv : v < 16) (hvt : th A v) (hf : fS A (nmc b n (nxt b n s)) = nI v) (hcl : (fS A (nmc b n (nxt b n s))).toNatClampNeg = v) (c2 : ¬ fS A (nmc b n (nxt b n s)) = -1) (c3 : A.1 4 v = 1) : Spec D 10 yX6_readHold cfX6_readHold [.ref (ad 157)] (wl D ad M) 0 0 (PY (RPC D ad M b n (sHold b n s g A))) := by
  refine Spec.of (by decide) rfl (Nat.le_of_ble_eq_true rfl) rfl ?_
  have hw := h.2.2.2.2.2.1
  have hI := h.2.2.2.2.2
  have hb := hI.2.2.1.1
  refine E_aload0 (q := 1) dX6_readHold_0 rfl ?_
  refine C_V0Y (q := 4) lk_X6_254 (sp_X6_advR h) rc_X6 dX6_readHold_1 (by decide) (Nat.le_of_ble_eq_true rfl) rfl ?_
  refine kkEW ?_
  rintro M1 ⟨h1, f1⟩
  refine E_aload0 (q := 5) dX6_readHold_4 rfl ?_
  refine E_iconst (v := nI 1) (q := 6) dX6_readHold_5 (by decide) rfl ?_
  refine C_V1I (q := 9) lk_X6_260 (sp_X6_thingHereS h1 c1 hv hf) rc_X6 dX6_readHold_6 (by decide) (Nat.le_of_ble_eq_true rfl) rfl ?_
  refine E_istore1 (q := 10) dX6_readHold_9 rfl rfl ?_
  refine E_aload0 (q := 11) dX6_readHold_10 rfl ?_
  refine E_aload0 (q := 12) dX6_readHold_11 rfl ?_
  refine G_X6_fault (q := 15) fl_X6_220 dX6_readHold_12 rfl ?_
  refine V_int h1.2.2.2.1 ?_
  refine E_if_ne (tgt := 27) (q := 18) dX6_readHold_15 (by decide) rfl (fun h15 => ?_) (fun h15 => ?_)
  · first | exact absurd h15 (by decide) | exact absurd (by decide) h15
  · skip
    refine E_aload0 (q := 19) dX6_readHold_18 rfl ?_
    refine E_iload1 (q := 20) dX6_readHold_19 rfl ?_
    refine E_iconst (v := nI 3) (q := 21) dX6_readHold_20 (by decide) rfl ?_
    refine C_V2I (q := 24) lk_X6_67 (sp_X6_snpH h1.2.2.2.2.2 hv hvt) rc_X6 dX6_readHold_21 (by decide) (Nat.le_of_ble_eq_true rfl) rfl ?_
    rw [c3]
    refine E_if_ne (tgt := 31) (q := 27) dX6_readHold_24 (by decide) rfl (fun h24 => ?_) (fun h24 => ?_)
    · skip
      refine E_iconst (v := nI 0) (q := 32) dX6_readHold_31 (by decide) rfl ?_
      refine E_bipush (v := -14) (q := 34) dX6_readHold_32 (by decide) rfl ?_
      refine C_V2V (q := 37) lk_X6_247 (sp_X6_checkF h1.2.2.2.1) rc_X6 dX6_readHold_34 (by decide) (Nat.le_of_ble_eq_true rfl) rfl ?_
      refine E_aload0 (q := 38) dX6_readHold_37 rfl ?_
      refine G_X6_fault (q := 41) fl_X6_220 dX6_readHold_38 rfl ?_
      refine V_int ft_18 ?_
      refine E_if_ne (tgt := 55) (q := 44) dX6_readHold_41 (by decide) rfl (fun h41 => ?_) (fun h41 => ?_)
      · skip
        refine E_aload0 (q := 56) dX6_readHold_55 rfl ?_
        refine C_V0V (q := 59) lk_X6_254 (sp_X6_advanceX (ft_ne (by decide))) rc_X6 dX6_readHold_56 (by decide) (Nat.le_of_ble_eq_true rfl) rfl ?_
        exact E_vreturn rfl rfl dX6_readHold_59 ⟨rfl, RPC_fail (by simp only [sHold, snpR, nmR, ch_t c1, ch_f c2, hcl, ch_t c3]) (by decide) h1 f1⟩
      · first | exact absurd h41 (by decide) | exact absurd (by decide) h41
    · first | exact absurd h24 (by decide) | exact absurd (by decide) h24
theorem sp_X6_readHoldK (h : RdR M b n s g A) (hT : aT A + 1 < 2 ^ 24) (c1 : isNm b n (nxt b n s)) {v : Nat} (hv : v < 16) (hvt : th A v) (hf : fS A (nmc b n (nxt b n s)) = nI v) (hcl : (fS A (nmc b n (nxt b n s))).toNatClampNeg = v) (c2 : ¬ fS A (nmc b n (nxt b n s)) = -1) (c3 : ¬ A.1 4 v = 1) : Spec D 10 yX6_readHold cfX6_readHold [.ref (ad 157)] (wl D ad M) 0 0 (PY (RPC D ad M b n (sHold b n s g A))) := by
  refine Spec.of (by decide) rfl (Nat.le_of_ble_eq_true rfl) rfl ?_
  have hw := h.2.2.2.2.2.1
  have hI := h.2.2.2.2.2
  have hb := hI.2.2.1.1
  have hb0 : A.1 4 v = 0 := by have := hI.2.2.1.2.2.1 v hv; omega
  refine E_aload0 (q := 1) dX6_readHold_0 rfl ?_
  refine C_V0Y (q := 4) lk_X6_254 (sp_X6_advR h) rc_X6 dX6_readHold_1 (by decide) (Nat.le_of_ble_eq_true rfl) rfl ?_
  refine kkEW ?_
  rintro M1 ⟨h1, f1⟩
  refine E_aload0 (q := 5) dX6_readHold_4 rfl ?_
  refine E_iconst (v := nI 1) (q := 6) dX6_readHold_5 (by decide) rfl ?_
  refine C_V1I (q := 9) lk_X6_260 (sp_X6_thingHereS h1 c1 hv hf) rc_X6 dX6_readHold_6 (by decide) (Nat.le_of_ble_eq_true rfl) rfl ?_
  refine E_istore1 (q := 10) dX6_readHold_9 rfl rfl ?_
  refine E_aload0 (q := 11) dX6_readHold_10 rfl ?_
  refine E_aload0 (q := 12) dX6_readHold_11 rfl ?_
  refine G_X6_fault (q := 15) fl_X6_220 dX6_readHold_12 rfl ?_
  refine V_int h1.2.2.2.1 ?_
  refine E_if_ne (tgt := 27) (q := 18) dX6_readHold_15 (by decide) rfl (fun h15 => ?_) (fun h15 => ?_)
  · first | exact absurd h15 (by decide) | exact absurd (by decide) h15
  · skip
    refine E_aload0 (q := 19) dX6_readHold_18 rfl ?_
    refine E_iload1 (q := 20) dX6_readHold_19 rfl ?_
    refine E_iconst (v := nI 3) (q := 21) dX6_readHold_20 (by decide) rfl ?_
    refine C_V2I (q := 24) lk_X6_67 (sp_X6_snpH h1.2.2.2.2.2 hv hvt) rc_X6 dX6_readHold_21 (by decide) (Nat.le_of_ble_eq_true rfl) rfl ?_
    rw [hb0]
    refine E_if_ne (tgt := 31) (q := 27) dX6_readHold_24 (by decide) rfl (fun h24 => ?_) (fun h24 => ?_)
    · first | exact absurd h24 (by decide) | exact absurd (by decide) h24
    · skip
      refine E_iconst (v := nI 1) (q := 28) dX6_readHold_27 (by decide) rfl ?_
      refine E_goto (q := 32) dX6_readHold_28 (by decide) ?_
      refine E_bipush (v := -14) (q := 34) dX6_readHold_32 (by decide) rfl ?_
      refine C_V2V (q := 37) lk_X6_247 (sp_X6_checkT) rc_X6 dX6_readHold_34 (by decide) (Nat.le_of_ble_eq_true rfl) rfl ?_
      refine E_aload0 (q := 38) dX6_readHold_37 rfl ?_
      refine G_X6_fault (q := 41) fl_X6_220 dX6_readHold_38 rfl ?_
      refine V_int h1.2.2.2.1 ?_
      refine E_if_ne (tgt := 55) (q := 44) dX6_readHold_41 (by decide) rfl (fun h41 => ?_) (fun h41 => ?_)
      · first | exact absurd h41 (by decide) | exact absurd (by decide) h41
      · skip
        refine E_aload0 (q := 45) dX6_readHold_44 rfl ?_
        have hw1 := h1.2.2.2.2.2.1
        refine G_X6_w (q := 48) (x := 163) hw1 fl_X6_16 dX6_readHold_45 rfl ?_
        refine E_iload1 (q := 49) dX6_readHold_48 rfl ?_
        refine E_iconst (v := nI 3) (q := 50) dX6_readHold_49 (by decide) rfl ?_
        refine C_S2I (q := 53) lk_X6_57 (sp_X6_ofSnapshot) dX6_readHold_50 (by decide) (Nat.le_of_ble_eq_true rfl) rfl ?_
        refine E_iconst (v := nI 1) (q := 54) dX6_readHold_53 (by decide) rfl ?_
        refine E_iastN (q := 55) hw1.2 (show 131 + 5 * v + 3 < 739 by omega) (by decide) dX6_readHold_54 rfl ?_
        have h2 := h1.wr (h1.2.2.2.2.2.set (RowIs.hldR (b := 1) h1.2.2.2.2.2.2.1 hv) (hldA_WF hI.2.2 hvt (by decide))) (fun c hc => upd2_row hc)
        refine E_aload0 (q := 56) dX6_readHold_55 rfl ?_
        refine C_V0Y (q := 59) lk_X6_254 (sp_X6_advR h2) rc_X6 dX6_readHold_56 (by decide) (Nat.le_of_ble_eq_true rfl) rfl ?_
        refine kkEW ?_
        rintro M3 ⟨h3, f3⟩
        exact E_vreturn rfl rfl dX6_readHold_59 ⟨rfl, RPC_ok (by simp only [sHold, snpR, nmR, ch_t c1, ch_f c2, hcl, ch_f c3]) h3 ((f1.tr (FrR.w (fun c hc => upd2_row hc))).tr f3)⟩
theorem sp_X6_readHold (h : RdR M b n s g A) (hT : aT A + 1 < 2 ^ 24) : Spec D 10 yX6_readHold cfX6_readHold [.ref (ad 157)] (wl D ad M) 0 0 (PY (RPC D ad M b n (sHold b n s g A))) := by
  by_cases c1 : isNm b n (nxt b n s)
  · rcases fS_or A (nmc b n (nxt b n s)) with c2 | ⟨v, hv, hvt, hf, hcl, c2⟩
    · exact sp_X6_readHoldF h hT c1 c2
    · by_cases c3 : A.1 4 v = 1
      · exact sp_X6_readHoldL h hT c1 hv hvt hf hcl c2 c3
      · exact sp_X6_readHoldK h hT c1 hv hvt hf hcl c2 c3
  · exact sp_X6_readHoldN h hT c1
end MODEL