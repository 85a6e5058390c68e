
/-! THE CLASS reads statements, further ones, and texts -/
section CLS
variable {D : va_G} {ad : Nat → Nat} {M : Mem} {ws : va_W} {A : AS} {b : Nat → Nat} {n s t e p q g : Nat} {adK adV : Nat → Nat}
theorem sp_X2_readSnapC (h : LdC M b n s g A) (hT : aT A + 1 < 2 ^ 24) (c0 : ¬ aS A < 16) : Spec D 8 yX2_readSnap cfX2_readSnap [.ref (ad 133)] (wl D ad M) 0 0 (PX (LPC D ad M b n (sSnap b n s g A))) := by
  refine Spec.of (by decide) rfl (Nat.le_of_ble_eq_true rfl) rfl ?_
  have hS := h.2.2.2
  have hs16 := hS.2.2.1.1.2.2.1
  refine E_aload0 (q := 1) dX2_readSnap_0 rfl ?_
  refine G_X2_draft (q := 4) fl_X2_22 dX2_readSnap_1 rfl ?_
  refine G_X4_snapshotsCome (q := 7) isSt_14 fl_X2_149 dX2_readSnap_4 rfl ?_
  refine V_int hS.2.1.1.2.2.1 ?_
  refine E_bipush (v := nI 16) (q := 9) dX2_readSnap_7 (by decide) rfl ?_
  refine E_icmp_ltN (tgt := 19) (q := 12) dX2_readSnap_9 (by decide) rfl (by omega) (by omega) (fun h9 => ?_) (fun h9 => ?_)
  · skip
    exact absurd h9 c0
  · skip
    refine E_aload0 (q := 13) dX2_readSnap_12 rfl ?_
    refine E_bipush (v := -15) (q := 15) dX2_readSnap_13 (by decide) rfl ?_
    refine C_V1I (q := 18) lk_X2_102 (sp_X2_fail h.2.1.2.1) rc_X2 dX2_readSnap_15 (by decide) (Nat.le_of_ble_eq_true rfl) rfl ?_
    exact E_zreturn rfl rfl rfl dX2_readSnap_18 ⟨_, rfl, LPC_fail (by simp only [sSnap, ch_f c0]) FrC.rf⟩
theorem sp_X2_readSnapN (h : LdC M b n s g A) (hT : aT A + 1 < 2 ^ 24) (c0 : aS A < 16) (c1 : ¬ isNm b n (nxt b n s)) : Spec D 8 yX2_readSnap cfX2_readSnap [.ref (ad 133)] (wl D ad M) 0 0 (PX (LPC D ad M b n (sSnap b n s g A))) := by
  refine Spec.of (by decide) rfl (Nat.le_of_ble_eq_true rfl) rfl ?_
  have hS := h.2.2.2
  have h1 := h.adv
  refine E_aload0 (q := 1) dX2_readSnap_0 rfl ?_
  refine G_X2_draft (q := 4) fl_X2_22 dX2_readSnap_1 rfl ?_
  refine G_X4_snapshotsCome (q := 7) isSt_14 fl_X2_149 dX2_readSnap_4 rfl ?_
  refine V_int hS.2.1.1.2.2.1 ?_
  refine E_bipush (v := nI 16) (q := 9) dX2_readSnap_7 (by decide) rfl ?_
  refine E_icmp_ltN (tgt := 19) (q := 12) dX2_readSnap_9 (by decide) rfl (by omega) (by omega) (fun h9 => ?_) (fun h9 => ?_)
  · skip
    refine E_aload0 (q := 20) dX2_readSnap_19 rfl ?_
    refine C_V0V (q := 23) lk_X2_56 (sp_X2_adv h) rc_X2 dX2_readSnap_20 (by decide) (Nat.le_of_ble_eq_true rfl) rfl ?_
    refine E_aload0 (q := 24) dX2_readSnap_23 rfl ?_
    refine C_V0I (q := 27) lk_X2_122 (sp_X2_expectVolumeN h1 c1) rc_X2 dX2_readSnap_24 (by decide) (Nat.le_of_ble_eq_true rfl) rfl ?_
    refine E_istore1 (q := 28) dX2_readSnap_27 rfl rfl ?_
    refine E_iload1 (q := 29) dX2_readSnap_28 rfl ?_
    refine E_iconst (v := -1) (q := 30) dX2_readSnap_29 (by decide) rfl ?_
    refine E_icmp_ne (tgt := 35) (q := 33) dX2_readSnap_30 (by decide) rfl (fun h30 => ?_) (fun h30 => ?_)
    · first | exact absurd h30 (by decide) | exact absurd (by decide) h30
    · skip
      refine E_iconst (v := nI 0) (q := 34) dX2_readSnap_33 (by decide) rfl ?_
      exact E_zreturn rfl rfl rfl dX2_readSnap_34 ⟨_, rfl, LPC_fail (by simp only [sSnap, volR, nmR, ch_t c0, ch_f c1]) (Fr3.lx).1⟩
  · skip
    exact absurd h9 (by omega)
theorem sp_X2_readSnapF (h : LdC M b n s g A) (hT : aT A + 1 < 2 ^ 24) (c0 : aS A < 16) (c1 : isNm b n (nxt b n s)) (c2 : fV A (nmc b n (nxt b n s)) = -1) : Spec D 8 yX2_readSnap cfX2_readSnap [.ref (ad 133)] (wl D ad M) 0 0 (PX (LPC D ad M b n (sSnap b n s g A))) := by
  refine Spec.of (by decide) rfl (Nat.le_of_ble_eq_true rfl) rfl ?_
  have hS := h.2.2.2
  have h1 := h.adv
  refine E_aload0 (q := 1) dX2_readSnap_0 rfl ?_
  refine G_X2_draft (q := 4) fl_X2_22 dX2_readSnap_1 rfl ?_
  refine G_X4_snapshotsCome (q := 7) isSt_14 fl_X2_149 dX2_readSnap_4 rfl ?_
  refine V_int hS.2.1.1.2.2.1 ?_
  refine E_bipush (v := nI 16) (q := 9) dX2_readSnap_7 (by decide) rfl ?_
  refine E_icmp_ltN (tgt := 19) (q := 12) dX2_readSnap_9 (by decide) rfl (by omega) (by omega) (fun h9 => ?_) (fun h9 => ?_)
  · skip
    refine E_aload0 (q := 20) dX2_readSnap_19 rfl ?_
    refine C_V0V (q := 23) lk_X2_56 (sp_X2_adv h) rc_X2 dX2_readSnap_20 (by decide) (Nat.le_of_ble_eq_true rfl) rfl ?_
    refine E_aload0 (q := 24) dX2_readSnap_23 rfl ?_
    refine C_V0I (q := 27) lk_X2_122 (sp_X2_expectVolumeF h1 c1 c2) rc_X2 dX2_readSnap_24 (by decide) (Nat.le_of_ble_eq_true rfl) rfl ?_
    refine E_istore1 (q := 28) dX2_readSnap_27 rfl rfl ?_
    refine E_iload1 (q := 29) dX2_readSnap_28 rfl ?_
    refine E_iconst (v := -1) (q := 30) dX2_readSnap_29 (by decide) rfl ?_
    refine E_icmp_ne (tgt := 35) (q := 33) dX2_readSnap_30 (by decide) rfl (fun h30 => ?_) (fun h30 => ?_)
    · first | exact absurd h30 (by decide) | exact absurd (by decide) h30
    · skip
      refine E_iconst (v := nI 0) (q := 34) dX2_readSnap_33 (by decide) rfl ?_
      exact E_zreturn rfl rfl rfl dX2_readSnap_34 ⟨_, rfl, LPC_fail (by simp only [sSnap, volR, nmR, ch_t c0, ch_t c1, ch_t c2]) (Fr3.lx).1⟩
  · skip
    exact absurd h9 (by omega)
theorem sp_X2_readSnapN2 (h : LdC M b n s g A) (hT : aT A + 1 < 2 ^ 24) (c0 : aS A < 16) (c1 : isNm b n (nxt b n s)) {v : Nat} (hv : v < 6) (hvt : th A (16 + v)) (hf : fV A (nmc b n (nxt b n s)) = nI v) (hcl : (fV A (nmc b n (nxt b n s))).toNatClampNeg = v) (c2 : ¬ fV A (nmc b n (nxt b n s)) = -1) (c3 : ¬ isNm b n (nxt b n (nxt b n s))) : Spec D 8 yX2_readSnap cfX2_readSnap [.ref (ad 133)] (wl D ad M) 0 0 (PX (LPC D ad M b n (sSnap b n s g A))) := by
  refine Spec.of (by decide) rfl (Nat.le_of_ble_eq_true rfl) rfl ?_
  have hS := h.2.2.2
  have h1 := h.adv
  have h2 := h1.adv
  refine E_aload0 (q := 1) dX2_readSnap_0 rfl ?_
  refine G_X2_draft (q := 4) fl_X2_22 dX2_readSnap_1 rfl ?_
  refine G_X4_snapshotsCome (q := 7) isSt_14 fl_X2_149 dX2_readSnap_4 rfl ?_
  refine V_int hS.2.1.1.2.2.1 ?_
  refine E_bipush (v := nI 16) (q := 9) dX2_readSnap_7 (by decide) rfl ?_
  refine E_icmp_ltN (tgt := 19) (q := 12) dX2_readSnap_9 (by decide) rfl (by omega) (by omega) (fun h9 => ?_) (fun h9 => ?_)
  · skip
    refine E_aload0 (q := 20) dX2_readSnap_19 rfl ?_
    refine C_V0V (q := 23) lk_X2_56 (sp_X2_adv h) rc_X2 dX2_readSnap_20 (by decide) (Nat.le_of_ble_eq_true rfl) rfl ?_
    refine E_aload0 (q := 24) dX2_readSnap_23 rfl ?_
    refine C_V0I (q := 27) lk_X2_122 (sp_X2_expectVolume h1 c1 hv hf) rc_X2 dX2_readSnap_24 (by decide) (Nat.le_of_ble_eq_true rfl) rfl ?_
    refine E_istore1 (q := 28) dX2_readSnap_27 rfl rfl ?_
    refine E_iload1 (q := 29) dX2_readSnap_28 rfl ?_
    refine E_iconst (v := -1) (q := 30) dX2_readSnap_29 (by decide) rfl ?_
    refine E_icmp_ne (tgt := 35) (q := 33) dX2_readSnap_30 (by decide) rfl (fun h30 => ?_) (fun h30 => ?_)
    · skip
      refine E_aload0 (q := 36) dX2_readSnap_35 rfl ?_
      refine C_V0V (q := 39) lk_X2_56 (sp_X2_adv h1) rc_X2 dX2_readSnap_36 (by decide) (Nat.le_of_ble_eq_true rfl) rfl ?_
      refine E_aload0 (q := 40) dX2_readSnap_39 rfl ?_
      refine C_V0I (q := 43) lk_X2_152 (sp_X2_expectNewSnapshotNameN h2 c3) rc_X2 dX2_readSnap_40 (by decide) (Nat.le_of_ble_eq_true rfl) rfl ?_
      refine E_if_ne (tgt := 48) (q := 46) dX2_readSnap_43 (by decide) rfl (fun h43 => ?_) (fun h43 => ?_)
      · first | exact absurd h43 (by decide) | exact absurd (by decide) h43
      · skip
        refine E_iconst (v := nI 0) (q := 47) dX2_readSnap_46 (by decide) rfl ?_
        exact E_zreturn rfl rfl rfl dX2_readSnap_47 ⟨_, rfl, LPC_fail (by simp only [sSnap, volR, nmR, ch_t c0, ch_t c1, ch_f c2, ch_f c3]) (Fr3.lx.tr Fr3.lx).1⟩
    · skip
      exact absurd h30 (nI_nm1 (by omega))
  · skip
    exact absurd h9 (by omega)
theorem sp_X2_readSnapD (h : LdC M b n s g A) (hT : aT A + 1 < 2 ^ 24) (c0 : aS A < 16) (c1 : isNm b n (nxt b n s)) {v : Nat} (hv : v < 6) (hvt : th A (16 + v)) (hf : fV A (nmc b n (nxt b n s)) = nI v) (hcl : (fV A (nmc b n (nxt b n s))).toNatClampNeg = v) (c2 : ¬ fV A (nmc b n (nxt b n s)) = -1) (c3 : isNm b n (nxt b n (nxt b n s))) (c4 : ¬ fS A (nmc b n (nxt b n (nxt b n s))) = -1) : Spec D 8 yX2_readSnap cfX2_readSnap [.ref (ad 133)] (wl D ad M) 0 0 (PX (LPC D ad M b n (sSnap b n s g A))) := by
  refine Spec.of (by decide) rfl (Nat.le_of_ble_eq_true rfl) rfl ?_
  have hS := h.2.2.2
  have h1 := h.adv
  have h2 := h1.adv
  refine E_aload0 (q := 1) dX2_readSnap_0 rfl ?_
  refine G_X2_draft (q := 4) fl_X2_22 dX2_readSnap_1 rfl ?_
  refine G_X4_snapshotsCome (q := 7) isSt_14 fl_X2_149 dX2_readSnap_4 rfl ?_
  refine V_int hS.2.1.1.2.2.1 ?_
  refine E_bipush (v := nI 16) (q := 9) dX2_readSnap_7 (by decide) rfl ?_
  refine E_icmp_ltN (tgt := 19) (q := 12) dX2_readSnap_9 (by decide) rfl (by omega) (by omega) (fun h9 => ?_) (fun h9 => ?_)
  · skip
    refine E_aload0 (q := 20) dX2_readSnap_19 rfl ?_
    refine C_V0V (q := 23) lk_X2_56 (sp_X2_adv h) rc_X2 dX2_readSnap_20 (by decide) (Nat.le_of_ble_eq_true rfl) rfl ?_
    refine E_aload0 (q := 24) dX2_readSnap_23 rfl ?_
    refine C_V0I (q := 27) lk_X2_122 (sp_X2_expectVolume h1 c1 hv hf) rc_X2 dX2_readSnap_24 (by decide) (Nat.le_of_ble_eq_true rfl) rfl ?_
    refine E_istore1 (q := 28) dX2_readSnap_27 rfl rfl ?_
    refine E_iload1 (q := 29) dX2_readSnap_28 rfl ?_
    refine E_iconst (v := -1) (q := 30) dX2_readSnap_29 (by decide) rfl ?_
    refine E_icmp_ne (tgt := 35) (q := 33) dX2_readSnap_30 (by decide) rfl (fun h30 => ?_) (fun h30 => ?_)
    · skip
      refine E_aload0 (q := 36) dX2_readSnap_35 rfl ?_
      refine C_V0V (q := 39) lk_X2_56 (sp_X2_adv h1) rc_X2 dX2_readSnap_36 (by decide) (Nat.le_of_ble_eq_true rfl) rfl ?_
      refine E_aload0 (q := 40) dX2_readSnap_39 rfl ?_
      refine C_V0I (q := 43) lk_X2_152 (sp_X2_expectNewSnapshotNameF h2 c3 c4) rc_X2 dX2_readSnap_40 (by decide) (Nat.le_of_ble_eq_true rfl) rfl ?_
      refine E_if_ne (tgt := 48) (q := 46) dX2_readSnap_43 (by decide) rfl (fun h43 => ?_) (fun h43 => ?_)
      · first | exact absurd h43 (by decide) | exact absurd (by decide) h43
      · skip
        refine E_iconst (v := nI 0) (q := 47) dX2_readSnap_46 (by decide) rfl ?_
        exact E_zreturn rfl rfl rfl dX2_readSnap_47 ⟨_, rfl, LPC_fail (by simp only [sSnap, volR, nmR, ch_t c0, ch_t c1, ch_f c2, ch_t c3, ch_f c4]) (Fr3.lx.tr Fr3.lx).1⟩
    · skip
      exact absurd h30 (nI_nm1 (by omega))
  · skip
    exact absurd h9 (by omega)
theorem sp_X2_readSnapK (h : LdC M b n s g A) (hT : aT A + 1 < 2 ^ 24) (c0 : aS A < 16) (c1 : isNm b n (nxt b n s)) {v : Nat} (hv : v < 6) (hvt : th A (16 + v)) (hf : fV A (nmc b n (nxt b n s)) = nI v) (hcl : (fV A (nmc b n (nxt b n s))).toNatClampNeg = v) (c2 : ¬ fV A (nmc b n (nxt b n s)) = -1) (c3 : isNm b n (nxt b n (nxt b n s))) (c4 : fS A (nmc b n (nxt b n (nxt b n s))) = -1) : Spec D 8 yX2_readSnap cfX2_readSnap [.ref (ad 133)] (wl D ad M) 0 0 (PX (LPC D ad M b n (sSnap b n s g A))) := by
  refine Spec.of (by decide) rfl (Nat.le_of_ble_eq_true rfl) rfl ?_
  have hS := h.2.2.2
  have h1 := h.adv
  have h2 := h1.adv
  have hml := nmc_lt c3.1
  refine E_aload0 (q := 1) dX2_readSnap_0 rfl ?_
  refine G_X2_draft (q := 4) fl_X2_22 dX2_readSnap_1 rfl ?_
  refine G_X4_snapshotsCome (q := 7) isSt_14 fl_X2_149 dX2_readSnap_4 rfl ?_
  refine V_int hS.2.1.1.2.2.1 ?_
  refine E_bipush (v := nI 16) (q := 9) dX2_readSnap_7 (by decide) rfl ?_
  refine E_icmp_ltN (tgt := 19) (q := 12) dX2_readSnap_9 (by decide) rfl (by omega) (by omega) (fun h9 => ?_) (fun h9 => ?_)
  · skip
    refine E_aload0 (q := 20) dX2_readSnap_19 rfl ?_
    refine C_V0V (q := 23) lk_X2_56 (sp_X2_adv h) rc_X2 dX2_readSnap_20 (by decide) (Nat.le_of_ble_eq_true rfl) rfl ?_
    refine E_aload0 (q := 24) dX2_readSnap_23 rfl ?_
    refine C_V0I (q := 27) lk_X2_122 (sp_X2_expectVolume h1 c1 hv hf) rc_X2 dX2_readSnap_24 (by decide) (Nat.le_of_ble_eq_true rfl) rfl ?_
    refine E_istore1 (q := 28) dX2_readSnap_27 rfl rfl ?_
    refine E_iload1 (q := 29) dX2_readSnap_28 rfl ?_
    refine E_iconst (v := -1) (q := 30) dX2_readSnap_29 (by decide) rfl ?_
    refine E_icmp_ne (tgt := 35) (q := 33) dX2_readSnap_30 (by decide) rfl (fun h30 => ?_) (fun h30 => ?_)
    · skip
      refine E_aload0 (q := 36) dX2_readSnap_35 rfl ?_
      refine C_V0V (q := 39) lk_X2_56 (sp_X2_adv h1) rc_X2 dX2_readSnap_36 (by decide) (Nat.le_of_ble_eq_true rfl) rfl ?_
      refine E_aload0 (q := 40) dX2_readSnap_39 rfl ?_
      refine C_V0I (q := 43) lk_X2_152 (sp_X2_expectNewSnapshotName h2 c3 c4) rc_X2 dX2_readSnap_40 (by decide) (Nat.le_of_ble_eq_true rfl) rfl ?_
      refine E_if_ne (tgt := 48) (q := 46) dX2_readSnap_43 (by decide) rfl (fun h43 => ?_) (fun h43 => ?_)
      · skip
        refine E_aload0 (q := 49) dX2_readSnap_48 rfl ?_
        refine G_X2_draft (q := 52) fl_X2_22 dX2_readSnap_49 rfl ?_
        refine E_aload0 (q := 53) dX2_readSnap_52 rfl ?_
        refine C_V0I (q := 56) lk_X2_115 (sp_X2_nameCode h2 c3.1) rc_X2 dX2_readSnap_53 (by decide) (Nat.le_of_ble_eq_true rfl) rfl ?_
        refine E_iload1 (q := 57) dX2_readSnap_56 rfl ?_
        refine C_V2X (q := 60) lk_X2_155 (sp_X4_addSnapshot h2.2.2.2 c0 hv) (rc_X4 isSt_14) dX2_readSnap_57 (by decide) (Nat.le_of_ble_eq_true rfl) rfl ?_
        refine kkEI ?_
        rintro M2 ⟨hb2, hk2⟩
        refine E_pop (q := 61) dX2_readSnap_60 rfl rfl ?_
        have h3 := h2.dr hb2 (mkSnp_WF hS.2.2 c0 hv hvt hml hT) hk2
        refine E_aload0 (q := 62) dX2_readSnap_61 rfl ?_
        refine C_V0V (q := 65) lk_X2_56 (sp_X2_adv h3) rc_X2 dX2_readSnap_62 (by decide) (Nat.le_of_ble_eq_true rfl) rfl ?_
        refine E_iconst (v := nI 1) (q := 66) dX2_readSnap_65 (by decide) rfl ?_
        exact E_zreturn rfl rfl rfl dX2_readSnap_66 ⟨_, rfl, LPC_ok (by simp only [sSnap, volR, nmR, ch_t c0, ch_t c1, ch_f c2, ch_t c3, ch_t c4, hcl]; rfl) h3.adv (((Fr3.lx.tr Fr3.lx).tr (Fr3.dr hk2)).tr Fr3.lx)⟩
      · first | exact absurd h43 (by decide) | exact absurd (by decide) h43
    · skip
      exact absurd h30 (nI_nm1 (by omega))
  · skip
    exact absurd h9 (by omega)
theorem sp_X2_readSnap (h : LdC M b n s g A) (hT : aT A + 1 < 2 ^ 24) : Spec D 8 yX2_readSnap cfX2_readSnap [.ref (ad 133)] (wl D ad M) 0 0 (PX (LPC D ad M b n (sSnap b n s g A))) := by
  by_cases c0 : aS A < 16
  · by_cases c1 : isNm b n (nxt b n s)
    · rcases fV_or A (nmc b n (nxt b n s)) with c2 | ⟨v, hv, hvt, hf, hcl, c2⟩
      · exact sp_X2_readSnapF h hT c0 c1 c2
      · by_cases c3 : isNm b n (nxt b n (nxt b n s))
        · by_cases c4 : fS A (nmc b n (nxt b n (nxt b n s))) = -1
          · exact sp_X2_readSnapK h hT c0 c1 hv hvt hf hcl c2 c3 c4
          · exact sp_X2_readSnapD h hT c0 c1 hv hvt hf hcl c2 c3 c4
        · exact sp_X2_readSnapN2 h hT c0 c1 hv hvt hf hcl c2 c3
    · exact sp_X2_readSnapN h hT c0 c1
  · exact sp_X2_readSnapC h hT c0
theorem sp_X2_readCloneC (h : LdC M b n s g A) (hT : aT A + 1 < 2 ^ 24) (c0 : ¬ aV A < 6) : Spec D 8 yX2_readClone cfX2_readClone [.ref (ad 133)] (wl D ad M) 0 0 (PX (LPC D ad M b n (sClone b n s g A))) := by
  refine Spec.of (by decide) rfl (Nat.le_of_ble_eq_true rfl) rfl ?_
  have hS := h.2.2.2
  have hv6 := hS.2.2.1.1.2.1
  refine E_aload0 (q := 1) dX2_readClone_0 rfl ?_
  refine G_X2_draft (q := 4) fl_X2_22 dX2_readClone_1 rfl ?_
  refine G_X4_volumesCome (q := 7) isSt_14 fl_X2_109 dX2_readClone_4 rfl ?_
  refine V_int hS.2.1.1.2.1 ?_
  refine E_bipush (v := nI 6) (q := 9) dX2_readClone_7 (by decide) rfl ?_
  refine E_icmp_ltN (tgt := 19) (q := 12) dX2_readClone_9 (by decide) rfl (by omega) (by omega) (fun h9 => ?_) (fun h9 => ?_)
  · skip
    exact absurd h9 c0
  · skip
    refine E_aload0 (q := 13) dX2_readClone_12 rfl ?_
    refine E_bipush (v := -15) (q := 15) dX2_readClone_13 (by decide) rfl ?_
    refine C_V1I (q := 18) lk_X2_102 (sp_X2_fail h.2.1.2.1) rc_X2 dX2_readClone_15 (by decide) (Nat.le_of_ble_eq_true rfl) rfl ?_
    exact E_zreturn rfl rfl rfl dX2_readClone_18 ⟨_, rfl, LPC_fail (by simp only [sClone, ch_f c0]) FrC.rf⟩
theorem sp_X2_readCloneN (h : LdC M b n s g A) (hT : aT A + 1 < 2 ^ 24) (c0 : aV A < 6) (c1 : ¬ isNm b n (nxt b n s)) : Spec D 8 yX2_readClone cfX2_readClone [.ref (ad 133)] (wl D ad M) 0 0 (PX (LPC D ad M b n (sClone b n s g A))) := by
  refine Spec.of (by decide) rfl (Nat.le_of_ble_eq_true rfl) rfl ?_
  have hS := h.2.2.2
  have h1 := h.adv
  refine E_aload0 (q := 1) dX2_readClone_0 rfl ?_
  refine G_X2_draft (q := 4) fl_X2_22 dX2_readClone_1 rfl ?_
  refine G_X4_volumesCome (q := 7) isSt_14 fl_X2_109 dX2_readClone_4 rfl ?_
  refine V_int hS.2.1.1.2.1 ?_
  refine E_bipush (v := nI 6) (q := 9) dX2_readClone_7 (by decide) rfl ?_
  refine E_icmp_ltN (tgt := 19) (q := 12) dX2_readClone_9 (by decide) rfl (by omega) (by omega) (fun h9 => ?_) (fun h9 => ?_)
  · skip
    refine E_aload0 (q := 20) dX2_readClone_19 rfl ?_
    refine C_V0V (q := 23) lk_X2_56 (sp_X2_adv h) rc_X2 dX2_readClone_20 (by decide) (Nat.le_of_ble_eq_true rfl) rfl ?_
    refine E_aload0 (q := 24) dX2_readClone_23 rfl ?_
    refine C_V0I (q := 27) lk_X2_158 (sp_X2_expectSnapshotN h1 c1) rc_X2 dX2_readClone_24 (by decide) (Nat.le_of_ble_eq_true rfl) rfl ?_
    refine E_istore1 (q := 28) dX2_readClone_27 rfl rfl ?_
    refine E_iload1 (q := 29) dX2_readClone_28 rfl ?_
    refine E_iconst (v := -1) (q := 30) dX2_readClone_29 (by decide) rfl ?_
    refine E_icmp_ne (tgt := 35) (q := 33) dX2_readClone_30 (by decide) rfl (fun h30 => ?_) (fun h30 => ?_)
    · first | exact absurd h30 (by decide) | exact absurd (by decide) h30
    · skip
      refine E_iconst (v := nI 0) (q := 34) dX2_readClone_33 (by decide) rfl ?_
      exact E_zreturn rfl rfl rfl dX2_readClone_34 ⟨_, rfl, LPC_fail (by simp only [sClone, snpR, nmR, ch_t c0, ch_f c1]) (Fr3.lx).1⟩
  · skip
    exact absurd h9 (by omega)
theorem sp_X2_readCloneF (h : LdC M b n s g A) (hT : aT A + 1 < 2 ^ 24) (c0 : aV A < 6) (c1 : isNm b n (nxt b n s)) (c2 : fS A (nmc b n (nxt b n s)) = -1) : Spec D 8 yX2_readClone cfX2_readClone [.ref (ad 133)] (wl D ad M) 0 0 (PX (LPC D ad M b n (sClone b n s g A))) := by
  refine Spec.of (by decide) rfl (Nat.le_of_ble_eq_true rfl) rfl ?_
  have hS := h.2.2.2
  have h1 := h.adv
  refine E_aload0 (q := 1) dX2_readClone_0 rfl ?_
  refine G_X2_draft (q := 4) fl_X2_22 dX2_readClone_1 rfl ?_
  refine G_X4_volumesCome (q := 7) isSt_14 fl_X2_109 dX2_readClone_4 rfl ?_
  refine V_int hS.2.1.1.2.1 ?_
  refine E_bipush (v := nI 6) (q := 9) dX2_readClone_7 (by decide) rfl ?_
  refine E_icmp_ltN (tgt := 19) (q := 12) dX2_readClone_9 (by decide) rfl (by omega) (by omega) (fun h9 => ?_) (fun h9 => ?_)
  · skip
    refine E_aload0 (q := 20) dX2_readClone_19 rfl ?_
    refine C_V0V (q := 23) lk_X2_56 (sp_X2_adv h) rc_X2 dX2_readClone_20 (by decide) (Nat.le_of_ble_eq_true rfl) rfl ?_
    refine E_aload0 (q := 24) dX2_readClone_23 rfl ?_
    refine C_V0I (q := 27) lk_X2_158 (sp_X2_expectSnapshotF h1 c1 c2) rc_X2 dX2_readClone_24 (by decide) (Nat.le_of_ble_eq_true rfl) rfl ?_
    refine E_istore1 (q := 28) dX2_readClone_27 rfl rfl ?_
    refine E_iload1 (q := 29) dX2_readClone_28 rfl ?_
    refine E_iconst (v := -1) (q := 30) dX2_readClone_29 (by decide) rfl ?_
    refine E_icmp_ne (tgt := 35) (q := 33) dX2_readClone_30 (by decide) rfl (fun h30 => ?_) (fun h30 => ?_)
    · first | exact absurd h30 (by decide) | exact absurd (by decide) h30
    · skip
      refine E_iconst (v := nI 0) (q := 34) dX2_readClone_33 (by decide) rfl ?_
      exact E_zreturn rfl rfl rfl dX2_readClone_34 ⟨_, rfl, LPC_fail (by simp only [sClone, snpR, nmR, ch_t c0, ch_t c1, ch_t c2]) (Fr3.lx).1⟩
  · skip
    exact absurd h9 (by omega)
theorem sp_X2_readCloneL (h : LdC M b n s g A) (hT : aT A + 1 < 2 ^ 24) (c0 : aV A < 6) (c1 : isNm b n (nxt b n s)) {v : Nat} (hv : v < 16) (hvt : th A v) (hf : fS A (nmc b n (nxt b n s)) = nI v) (hcl : (fS A (nmc b n (nxt b n s))).toNatClampNeg = v) (c2 : ¬ fS A (nmc b n (nxt b n s)) = -1) (c3 : ¬ popN (clo A v) < aC A) : Spec D 8 yX2_readClone cfX2_readClone [.ref (ad 133)] (wl D ad M) 0 0 (PX (LPC D ad M b n (sClone b n s g A))) := by
  refine Spec.of (by decide) rfl (Nat.le_of_ble_eq_true rfl) rfl ?_
  have hS := h.2.2.2
  have h1 := h.adv
  refine E_aload0 (q := 1) dX2_readClone_0 rfl ?_
  refine G_X2_draft (q := 4) fl_X2_22 dX2_readClone_1 rfl ?_
  refine G_X4_volumesCome (q := 7) isSt_14 fl_X2_109 dX2_readClone_4 rfl ?_
  refine V_int hS.2.1.1.2.1 ?_
  refine E_bipush (v := nI 6) (q := 9) dX2_readClone_7 (by decide) rfl ?_
  refine E_icmp_ltN (tgt := 19) (q := 12) dX2_readClone_9 (by decide) rfl (by omega) (by omega) (fun h9 => ?_) (fun h9 => ?_)
  · skip
    refine E_aload0 (q := 20) dX2_readClone_19 rfl ?_
    refine C_V0V (q := 23) lk_X2_56 (sp_X2_adv h) rc_X2 dX2_readClone_20 (by decide) (Nat.le_of_ble_eq_true rfl) rfl ?_
    refine E_aload0 (q := 24) dX2_readClone_23 rfl ?_
    refine C_V0I (q := 27) lk_X2_158 (sp_X2_expectSnapshot h1 c1 hv hf) rc_X2 dX2_readClone_24 (by decide) (Nat.le_of_ble_eq_true rfl) rfl ?_
    refine E_istore1 (q := 28) dX2_readClone_27 rfl rfl ?_
    refine E_iload1 (q := 29) dX2_readClone_28 rfl ?_
    refine E_iconst (v := -1) (q := 30) dX2_readClone_29 (by decide) rfl ?_
    refine E_icmp_ne (tgt := 35) (q := 33) dX2_readClone_30 (by decide) rfl (fun h30 => ?_) (fun h30 => ?_)
    · skip
      refine E_aload0 (q := 36) dX2_readClone_35 rfl ?_
      refine G_X2_draft (q := 39) fl_X2_22 dX2_readClone_36 rfl ?_
      refine E_iload1 (q := 40) dX2_readClone_39 rfl ?_
      refine C_V1I (q := 43) lk_X2_161 (sp_X4_canBeCloned h1.2.2.2 hv) (rc_X4 isSt_14) dX2_readClone_40 (by decide) (Nat.le_of_ble_eq_true rfl) rfl ?_
      refine E_if_ne (tgt := 53) (q := 46) dX2_readClone_43 (by decide) rfl (fun h43 => ?_) (fun h43 => ?_)
      · skip
        exact absurd (zI_n h43) c3
      · skip
        refine E_aload0 (q := 47) dX2_readClone_46 rfl ?_
        refine E_bipush (v := -15) (q := 49) dX2_readClone_47 (by decide) rfl ?_
        refine C_V1I (q := 52) lk_X2_102 (sp_X2_fail h1.2.1.2.1) rc_X2 dX2_readClone_49 (by decide) (Nat.le_of_ble_eq_true rfl) rfl ?_
        exact E_zreturn rfl rfl rfl dX2_readClone_52 ⟨_, rfl, LPC_fail (by simp only [sClone, snpR, nmR, ch_t c0, ch_t c1, ch_f c2, hcl, ch_f c3]) (Fr3.lx).1⟩
    · skip
      exact absurd h30 (nI_nm1 (by omega))
  · skip
    exact absurd h9 (by omega)
theorem sp_X2_readCloneN2 (h : LdC M b n s g A) (hT : aT A + 1 < 2 ^ 24) (c0 : aV A < 6) (c1 : isNm b n (nxt b n s)) {v : Nat} (hv : v < 16) (hvt : th A v) (hf : fS A (nmc b n (nxt b n s)) = nI v) (hcl : (fS A (nmc b n (nxt b n s))).toNatClampNeg = v) (c2 : ¬ fS A (nmc b n (nxt b n s)) = -1) (c3 : popN (clo A v) < aC A) (c4 : ¬ isNm b n (nxt b n (nxt b n s))) : Spec D 8 yX2_readClone cfX2_readClone [.ref (ad 133)] (wl D ad M) 0 0 (PX (LPC D ad M b n (sClone b n s g A))) := by
  refine Spec.of (by decide) rfl (Nat.le_of_ble_eq_true rfl) rfl ?_
  have hS := h.2.2.2
  have h1 := h.adv
  have h2 := h1.adv
  refine E_aload0 (q := 1) dX2_readClone_0 rfl ?_
  refine G_X2_draft (q := 4) fl_X2_22 dX2_readClone_1 rfl ?_
  refine G_X4_volumesCome (q := 7) isSt_14 fl_X2_109 dX2_readClone_4 rfl ?_
  refine V_int hS.2.1.1.2.1 ?_
  refine E_bipush (v := nI 6) (q := 9) dX2_readClone_7 (by decide) rfl ?_
  refine E_icmp_ltN (tgt := 19) (q := 12) dX2_readClone_9 (by decide) rfl (by omega) (by omega) (fun h9 => ?_) (fun h9 => ?_)
  · skip
    refine E_aload0 (q := 20) dX2_readClone_19 rfl ?_
    refine C_V0V (q := 23) lk_X2_56 (sp_X2_adv h) rc_X2 dX2_readClone_20 (by decide) (Nat.le_of_ble_eq_true rfl) rfl ?_
    refine E_aload0 (q := 24) dX2_readClone_23 rfl ?_
    refine C_V0I (q := 27) lk_X2_158 (sp_X2_expectSnapshot h1 c1 hv hf) rc_X2 dX2_readClone_24 (by decide) (Nat.le_of_ble_eq_true rfl) rfl ?_
    refine E_istore1 (q := 28) dX2_readClone_27 rfl rfl ?_
    refine E_iload1 (q := 29) dX2_readClone_28 rfl ?_
    refine E_iconst (v := -1) (q := 30) dX2_readClone_29 (by decide) rfl ?_
    refine E_icmp_ne (tgt := 35) (q := 33) dX2_readClone_30 (by decide) rfl (fun h30 => ?_) (fun h30 => ?_)
    · skip
      refine E_aload0 (q := 36) dX2_readClone_35 rfl ?_
      refine G_X2_draft (q := 39) fl_X2_22 dX2_readClone_36 rfl ?_
      refine E_iload1 (q := 40) dX2_readClone_39 rfl ?_
      refine C_V1I (q := 43) lk_X2_161 (sp_X4_canBeCloned h1.2.2.2 hv) (rc_X4 isSt_14) dX2_readClone_40 (by decide) (Nat.le_of_ble_eq_true rfl) rfl ?_
      refine E_if_ne (tgt := 53) (q := 46) dX2_readClone_43 (by decide) rfl (fun h43 => ?_) (fun h43 => ?_)
      · skip
        refine E_aload0 (q := 54) dX2_readClone_53 rfl ?_
        refine C_V0V (q := 57) lk_X2_56 (sp_X2_adv h1) rc_X2 dX2_readClone_54 (by decide) (Nat.le_of_ble_eq_true rfl) rfl ?_
        refine E_aload0 (q := 58) dX2_readClone_57 rfl ?_
        refine C_V0I (q := 61) lk_X2_112 (sp_X2_expectNewVolumeNameN h2 c4) rc_X2 dX2_readClone_58 (by decide) (Nat.le_of_ble_eq_true rfl) rfl ?_
        refine E_if_ne (tgt := 66) (q := 64) dX2_readClone_61 (by decide) rfl (fun h61 => ?_) (fun h61 => ?_)
        · first | exact absurd h61 (by decide) | exact absurd (by decide) h61
        · skip
          refine E_iconst (v := nI 0) (q := 65) dX2_readClone_64 (by decide) rfl ?_
          exact E_zreturn rfl rfl rfl dX2_readClone_65 ⟨_, rfl, LPC_fail (by simp only [sClone, snpR, nmR, ch_t c0, ch_t c1, ch_f c2, hcl, ch_t c3, ch_f c4]) (Fr3.lx.tr Fr3.lx).1⟩
      · skip
        exact absurd c3 (zI_0 h43)
    · skip
      exact absurd h30 (nI_nm1 (by omega))
  · skip
    exact absurd h9 (by omega)
theorem sp_X2_readCloneD (h : LdC M b n s g A) (hT : aT A + 1 < 2 ^ 24) (c0 : aV A < 6) (c1 : isNm b n (nxt b n s)) {v : Nat} (hv : v < 16) (hvt : th A v) (hf : fS A (nmc b n (nxt b n s)) = nI v) (hcl : (fS A (nmc b n (nxt b n s))).toNatClampNeg = v) (c2 : ¬ fS A (nmc b n (nxt b n s)) = -1) (c3 : popN (clo A v) < aC A) (c4 : isNm b n (nxt b n (nxt b n s))) (c5 : ¬ fV A (nmc b n (nxt b n (nxt b n s))) = -1) : Spec D 8 yX2_readClone cfX2_readClone [.ref (ad 133)] (wl D ad M) 0 0 (PX (LPC D ad M b n (sClone b n s g A))) := by
  refine Spec.of (by decide) rfl (Nat.le_of_ble_eq_true rfl) rfl ?_
  have hS := h.2.2.2
  have h1 := h.adv
  have h2 := h1.adv
  refine E_aload0 (q := 1) dX2_readClone_0 rfl ?_
  refine G_X2_draft (q := 4) fl_X2_22 dX2_readClone_1 rfl ?_
  refine G_X4_volumesCome (q := 7) isSt_14 fl_X2_109 dX2_readClone_4 rfl ?_
  refine V_int hS.2.1.1.2.1 ?_
  refine E_bipush (v := nI 6) (q := 9) dX2_readClone_7 (by decide) rfl ?_
  refine E_icmp_ltN (tgt := 19) (q := 12) dX2_readClone_9 (by decide) rfl (by omega) (by omega) (fun h9 => ?_) (fun h9 => ?_)
  · skip
    refine E_aload0 (q := 20) dX2_readClone_19 rfl ?_
    refine C_V0V (q := 23) lk_X2_56 (sp_X2_adv h) rc_X2 dX2_readClone_20 (by decide) (Nat.le_of_ble_eq_true rfl) rfl ?_
    refine E_aload0 (q := 24) dX2_readClone_23 rfl ?_
    refine C_V0I (q := 27) lk_X2_158 (sp_X2_expectSnapshot h1 c1 hv hf) rc_X2 dX2_readClone_24 (by decide) (Nat.le_of_ble_eq_true rfl) rfl ?_
    refine E_istore1 (q := 28) dX2_readClone_27 rfl rfl ?_
    refine E_iload1 (q := 29) dX2_readClone_28 rfl ?_
    refine E_iconst (v := -1) (q := 30) dX2_readClone_29 (by decide) rfl ?_
    refine E_icmp_ne (tgt := 35) (q := 33) dX2_readClone_30 (by decide) rfl (fun h30 => ?_) (fun h30 => ?_)
    · skip
      refine E_aload0 (q := 36) dX2_readClone_35 rfl ?_
      refine G_X2_draft (q := 39) fl_X2_22 dX2_readClone_36 rfl ?_
      refine E_iload1 (q := 40) dX2_readClone_39 rfl ?_
      refine C_V1I (q := 43) lk_X2_161 (sp_X4_canBeCloned h1.2.2.2 hv) (rc_X4 isSt_14) dX2_readClone_40 (by decide) (Nat.le_of_ble_eq_true rfl) rfl ?_
      refine E_if_ne (tgt := 53) (q := 46) dX2_readClone_43 (by decide) rfl (fun h43 => ?_) (fun h43 => ?_)
      · skip
        refine E_aload0 (q := 54) dX2_readClone_53 rfl ?_
        refine C_V0V (q := 57) lk_X2_56 (sp_X2_adv h1) rc_X2 dX2_readClone_54 (by decide) (Nat.le_of_ble_eq_true rfl) rfl ?_
        refine E_aload0 (q := 58) dX2_readClone_57 rfl ?_
        refine C_V0I (q := 61) lk_X2_112 (sp_X2_expectNewVolumeNameF h2 c4 c5) rc_X2 dX2_readClone_58 (by decide) (Nat.le_of_ble_eq_true rfl) rfl ?_
        refine E_if_ne (tgt := 66) (q := 64) dX2_readClone_61 (by decide) rfl (fun h61 => ?_) (fun h61 => ?_)
        · first | exact absurd h61 (by decide) | exact absurd (by decide) h61
        · skip
          refine E_iconst (v := nI 0) (q := 65) dX2_readClone_64 (by decide) rfl ?_
          exact E_zreturn rfl rfl rfl dX2_readClone_65 ⟨_, rfl, LPC_fail (by simp only [sClone, snpR, nmR, ch_t c0, ch_t c1, ch_f c2, hcl, ch_t c3, ch_t c4, ch_f c5]) (Fr3.lx.tr Fr3.lx).1⟩
      · skip
        exact absurd c3 (zI_0 h43)
    · skip
      exact absurd h30 (nI_nm1 (by omega))
  · skip
    exact absurd h9 (by omega)
theorem sp_X2_readCloneK (h : LdC M b n s g A) (hT : aT A + 1 < 2 ^ 24) (c0 : aV A < 6) (c1 : isNm b n (nxt b n s)) {v : Nat} (hv : v < 16) (hvt : th A v) (hf : fS A (nmc b n (nxt b n s)) = nI v) (hcl : (fS A (nmc b n (nxt b n s))).toNatClampNeg = v) (c2 : ¬ fS A (nmc b n (nxt b n s)) = -1) (c3 : popN (clo A v) < aC A) (c4 : isNm b n (nxt b n (nxt b n s))) (c5 : fV A (nmc b n (nxt b n (nxt b n s))) = -1) : Spec D 8 yX2_readClone cfX2_readClone [.ref (ad 133)] (wl D ad M) 0 0 (PX (LPC D ad M b n (sClone b n s g A))) := by
  refine Spec.of (by decide) rfl (Nat.le_of_ble_eq_true rfl) rfl ?_
  have hS := h.2.2.2
  have h1 := h.adv
  have h2 := h1.adv
  have hml := nmc_lt c4.1
  refine E_aload0 (q := 1) dX2_readClone_0 rfl ?_
  refine G_X2_draft (q := 4) fl_X2_22 dX2_readClone_1 rfl ?_
  refine G_X4_volumesCome (q := 7) isSt_14 fl_X2_109 dX2_readClone_4 rfl ?_
  refine V_int hS.2.1.1.2.1 ?_
  refine E_bipush (v := nI 6) (q := 9) dX2_readClone_7 (by decide) rfl ?_
  refine E_icmp_ltN (tgt := 19) (q := 12) dX2_readClone_9 (by decide) rfl (by omega) (by omega) (fun h9 => ?_) (fun h9 => ?_)
  · skip
    refine E_aload0 (q := 20) dX2_readClone_19 rfl ?_
    refine C_V0V (q := 23) lk_X2_56 (sp_X2_adv h) rc_X2 dX2_readClone_20 (by decide) (Nat.le_of_ble_eq_true rfl) rfl ?_
    refine E_aload0 (q := 24) dX2_readClone_23 rfl ?_
    refine C_V0I (q := 27) lk_X2_158 (sp_X2_expectSnapshot h1 c1 hv hf) rc_X2 dX2_readClone_24 (by decide) (Nat.le_of_ble_eq_true rfl) rfl ?_
    refine E_istore1 (q := 28) dX2_readClone_27 rfl rfl ?_
    refine E_iload1 (q := 29) dX2_readClone_28 rfl ?_
    refine E_iconst (v := -1) (q := 30) dX2_readClone_29 (by decide) rfl ?_
    refine E_icmp_ne (tgt := 35) (q := 33) dX2_readClone_30 (by decide) rfl (fun h30 => ?_) (fun h30 => ?_)
    · skip
      refine E_aload0 (q := 36) dX2_readClone_35 rfl ?_
      refine G_X2_draft (q := 39) fl_X2_22 dX2_readClone_36 rfl ?_
      refine E_iload1 (q := 40) dX2_readClone_39 rfl ?_
      refine C_V1I (q := 43) lk_X2_161 (sp_X4_canBeCloned h1.2.2.2 hv) (rc_X4 isSt_14) dX2_readClone_40 (by decide) (Nat.le_of_ble_eq_true rfl) rfl ?_
      refine E_if_ne (tgt := 53) (q := 46) dX2_readClone_43 (by decide) rfl (fun h43 => ?_) (fun h43 => ?_)
      · skip
        refine E_aload0 (q := 54) dX2_readClone_53 rfl ?_
        refine C_V0V (q := 57) lk_X2_56 (sp_X2_adv h1) rc_X2 dX2_readClone_54 (by decide) (Nat.le_of_ble_eq_true rfl) rfl ?_
        refine E_aload0 (q := 58) dX2_readClone_57 rfl ?_
        refine C_V0I (q := 61) lk_X2_112 (sp_X2_expectNewVolumeName h2 c4 c5) rc_X2 dX2_readClone_58 (by decide) (Nat.le_of_ble_eq_true rfl) rfl ?_
        refine E_if_ne (tgt := 66) (q := 64) dX2_readClone_61 (by decide) rfl (fun h61 => ?_) (fun h61 => ?_)
        · skip
          refine E_aload0 (q := 67) dX2_readClone_66 rfl ?_
          refine G_X2_draft (q := 70) fl_X2_22 dX2_readClone_67 rfl ?_
          refine E_aload0 (q := 71) dX2_readClone_70 rfl ?_
          refine C_V0I (q := 74) lk_X2_115 (sp_X2_nameCode h2 c4.1) rc_X2 dX2_readClone_71 (by decide) (Nat.le_of_ble_eq_true rfl) rfl ?_
          refine E_iload1 (q := 75) dX2_readClone_74 rfl ?_
          refine C_V2X (q := 78) lk_X2_119 (sp_X4_addVolumeS h2.2.2.2 c0 hv) (rc_X4 isSt_14) dX2_readClone_75 (by decide) (Nat.le_of_ble_eq_true rfl) rfl ?_
          refine kkEI ?_
          rintro M2 ⟨hb2, hk2⟩
          refine E_pop (q := 79) dX2_readClone_78 rfl rfl ?_
          have h3 := h2.dr hb2 (mkVol_WF hS.2.2 c0 hml (Or.inr ⟨v, rfl, hv, hvt⟩)) hk2
          refine E_aload0 (q := 80) dX2_readClone_79 rfl ?_
          refine C_V0V (q := 83) lk_X2_56 (sp_X2_adv h3) rc_X2 dX2_readClone_80 (by decide) (Nat.le_of_ble_eq_true rfl) rfl ?_
          refine E_iconst (v := nI 1) (q := 84) dX2_readClone_83 (by decide) rfl ?_
          exact E_zreturn rfl rfl rfl dX2_readClone_84 ⟨_, rfl, LPC_ok (by simp only [sClone, snpR, nmR, ch_t c0, ch_t c1, ch_f c2, hcl, ch_t c3, ch_t c4, ch_t c5]; rfl) h3.adv (((Fr3.lx.tr Fr3.lx).tr (Fr3.dr hk2)).tr Fr3.lx)⟩
        · first | exact absurd h61 (by decide) | exact absurd (by decide) h61
      · skip
        exact absurd c3 (zI_0 h43)
    · skip
      exact absurd h30 (nI_nm1 (by omega))
  · skip
    exact absurd h9 (by omega)
theorem sp_X2_readClone (h : LdC M b n s g A) (hT : aT A + 1 < 2 ^ 24) : Spec D 8 yX2_readClone cfX2_readClone [.ref (ad 133)] (wl D ad M) 0 0 (PX (LPC D ad M b n (sClone b n s g A))) := by
  by_cases c0 : aV A < 6
  · by_cases c1 : isNm b n (nxt b n s)
    · rcases fS_or A (nmc b n (nxt b n s)) with c2 | ⟨v, hv, hvt, hf, hcl, c2⟩
      · exact sp_X2_readCloneF h hT c0 c1 c2
      · by_cases c3 : popN (clo A v) < aC A
        · by_cases c4 : isNm b n (nxt b n (nxt b n s))
          · by_cases c5 : fV A (nmc b n (nxt b n (nxt b n s))) = -1
            · exact sp_X2_readCloneK h hT c0 c1 hv hvt hf hcl c2 c3 c4 c5
            · exact sp_X2_readCloneD h hT c0 c1 hv hvt hf hcl c2 c3 c4 c5
          · exact sp_X2_readCloneN2 h hT c0 c1 hv hvt hf hcl c2 c3 c4
        · exact sp_X2_readCloneL h hT c0 c1 hv hvt hf hcl c2 c3
    · exact sp_X2_readCloneN h hT c0 c1
  · exact sp_X2_readCloneC h hT c0
theorem xor_or {a k : Nat} (h : ¬ a.testBit k = true) : a ^^^ 2 ^ k = a ||| 2 ^ k := eq_bits fun i => by
  rw [or_bit, pow_bit, Nat.testBit_xor, Nat.testBit_two_pow]
  by_cases c : k = i
  · subst c
    have : a.testBit k = false := by cases hx : a.testBit k with
      | false => rfl
      | true => exact absurd hx h
    rw [this]; simp
  · simp [c]
theorem sp_X2_readHoldN (h : LdC M b n s g A) (hT : aT A + 1 < 2 ^ 24) (c1 : ¬ isNm b n (nxt b n s)) : Spec D 8 yX2_readHold cfX2_readHold [.ref (ad 133)] (wl D ad M) 0 0 (PX (LPC D ad M b n (sHold b n s g A))) := by
  refine Spec.of (by decide) rfl (Nat.le_of_ble_eq_true rfl) rfl ?_
  have hS := h.2.2.2
  have h1 := h.adv
  refine E_aload0 (q := 1) dX2_readHold_0 rfl ?_
  refine C_V0V (q := 4) lk_X2_56 (sp_X2_adv h) rc_X2 dX2_readHold_1 (by decide) (Nat.le_of_ble_eq_true rfl) rfl ?_
  refine E_aload0 (q := 5) dX2_readHold_4 rfl ?_
  refine C_V0I (q := 8) lk_X2_158 (sp_X2_expectSnapshotN h1 c1) rc_X2 dX2_readHold_5 (by decide) (Nat.le_of_ble_eq_true rfl) rfl ?_
  refine E_istore1 (q := 9) dX2_readHold_8 rfl rfl ?_
  refine E_iload1 (q := 10) dX2_readHold_9 rfl ?_
  refine E_iconst (v := -1) (q := 11) dX2_readHold_10 (by decide) rfl ?_
  refine E_icmp_ne (tgt := 16) (q := 14) dX2_readHold_11 (by decide) rfl (fun h11 => ?_) (fun h11 => ?_)
  · first | exact absurd h11 (by decide) | exact absurd (by decide) h11
  · skip
    refine E_iconst (v := nI 0) (q := 15) dX2_readHold_14 (by decide) rfl ?_
    exact E_zreturn rfl rfl rfl dX2_readHold_15 ⟨_, rfl, LPC_fail (by simp only [sHold, snpR, nmR, ch_f c1]) (Fr3.lx).1⟩
theorem sp_X2_readHoldF (h : LdC M b n s g A) (hT : aT A + 1 < 2 ^ 24) (c1 : isNm b n (nxt b n s)) (c2 : fS A (nmc b n (nxt b n s)) = -1) : Spec D 8 yX2_readHold cfX2_readHold [.ref (ad 133)] (wl D ad M) 0 0 (PX (LPC D ad M b n (sHold b n s g A))) := by
  refine Spec.of (by decide) rfl (Nat.le_of_ble_eq_true rfl) rfl ?_
  have hS := h.2.2.2
  have h1 := h.adv
  refine E_aload0 (q := 1) dX2_readHold_0 rfl ?_
  refine C_V0V (q := 4) lk_X2_56 (sp_X2_adv h) rc_X2 dX2_readHold_1 (by decide) (Nat.le_of_ble_eq_true rfl) rfl ?_
  refine E_aload0 (q := 5) dX2_readHold_4 rfl ?_
  refine C_V0I (q := 8) lk_X2_158 (sp_X2_expectSnapshotF h1 c1 c2) rc_X2 dX2_readHold_5 (by decide) (Nat.le_of_ble_eq_true rfl) rfl ?_
  refine E_istore1 (q := 9) dX2_readHold_8 rfl rfl ?_
  refine E_iload1 (q := 10) dX2_readHold_9 rfl ?_
  refine E_iconst (v := -1) (q := 11) dX2_readHold_10 (by decide) rfl ?_
  refine E_icmp_ne (tgt := 16) (q := 14) dX2_readHold_11 (by decide) rfl (fun h11 => ?_) (fun h11 => ?_)
  · first | exact absurd h11 (by decide) | exact absurd (by decide) h11
  · skip
    refine E_iconst (v := nI 0) (q := 15) dX2_readHold_14 (by decide) rfl ?_
    exact E_zreturn rfl rfl rfl dX2_readHold_15 ⟨_, rfl, LPC_fail (by simp only [sHold, snpR, nmR, ch_t c1, ch_t c2]) (Fr3.lx).1⟩
theorem sp_X2_readHoldL (h : LdC M b n s g A) (hT : aT A + 1 < 2 ^ 24) (c1 : isNm b n (nxt b n s)) {v : Nat} (hv : v < 16) (hvt : th A v) (hf : fS A (nmc b n (nxt b n s)) = nI v) (hcl : (fS A (nmc b n (nxt b n s))).toNatClampNeg = v) (c2 : ¬ fS A (nmc b n (nxt b n s)) = -1) (c3 : A.1 4 v = 1) : Spec D 8 yX2_readHold cfX2_readHold [.ref (ad 133)] (wl D ad M) 0 0 (PX (LPC D ad M b n (sHold b n s g A))) := by
  refine Spec.of (by decide) rfl (Nat.le_of_ble_eq_true rfl) rfl ?_
  have hS := h.2.2.2
  have h1 := h.adv
  have hhl := hdM_lt (A := A)
  refine E_aload0 (q := 1) dX2_readHold_0 rfl ?_
  refine C_V0V (q := 4) lk_X2_56 (sp_X2_adv h) rc_X2 dX2_readHold_1 (by decide) (Nat.le_of_ble_eq_true rfl) rfl ?_
  refine E_aload0 (q := 5) dX2_readHold_4 rfl ?_
  refine C_V0I (q := 8) lk_X2_158 (sp_X2_expectSnapshot h1 c1 hv hf) rc_X2 dX2_readHold_5 (by decide) (Nat.le_of_ble_eq_true rfl) rfl ?_
  refine E_istore1 (q := 9) dX2_readHold_8 rfl rfl ?_
  refine E_iload1 (q := 10) dX2_readHold_9 rfl ?_
  refine E_iconst (v := -1) (q := 11) dX2_readHold_10 (by decide) rfl ?_
  refine E_icmp_ne (tgt := 16) (q := 14) dX2_readHold_11 (by decide) rfl (fun h11 => ?_) (fun h11 => ?_)
  · skip
    refine E_aload0 (q := 17) dX2_readHold_16 rfl ?_
    refine G_X2_draft (q := 20) fl_X2_22 dX2_readHold_17 rfl ?_
    refine G_X4_heldSet (q := 23) isSt_14 fl_X2_164 dX2_readHold_20 rfl ?_
    refine V_int h1.2.2.2.2.1.1.2.2.2.2 ?_
    refine E_iload1 (q := 24) dX2_readHold_23 rfl ?_
    refine C_SN2I (q := 27) lk_X2_167 (sp_X5_contains (by omega) (by omega)) dX2_readHold_24 (by decide) (Nat.le_of_ble_eq_true rfl) rfl ?_
    refine E_if_eq (tgt := 37) (q := 30) dX2_readHold_27 (by decide) rfl (fun h27 => ?_) (fun h27 => ?_)
    · skip
      exact absurd (hdM_bit.mpr ⟨hv, c3⟩) (zI_0 h27)
    · skip
      refine E_aload0 (q := 31) dX2_readHold_30 rfl ?_
      refine E_bipush (v := -14) (q := 33) dX2_readHold_31 (by decide) rfl ?_
      refine C_V1I (q := 36) lk_X2_102 (sp_X2_fail h1.2.1.2.1) rc_X2 dX2_readHold_33 (by decide) (Nat.le_of_ble_eq_true rfl) rfl ?_
      exact E_zreturn rfl rfl rfl dX2_readHold_36 ⟨_, rfl, LPC_fail (by simp only [sHold, snpR, nmR, ch_t c1, ch_f c2, hcl, ch_t c3]) (Fr3.lx).1⟩
  · skip
    exact absurd h11 (nI_nm1 (by omega))
theorem sp_X2_readHoldK (h : LdC M b n s g A) (hT : aT A + 1 < 2 ^ 24) (c1 : isNm b n (nxt b n s)) {v : Nat} (hv : v < 16) (hvt : th A v) (hf : fS A (nmc b n (nxt b n s)) = nI v) (hcl : (fS A (nmc b n (nxt b n s))).toNatClampNeg = v) (c2 : ¬ fS A (nmc b n (nxt b n s)) = -1) (c3 : ¬ A.1 4 v = 1) : Spec D 8 yX2_readHold cfX2_readHold [.ref (ad 133)] (wl D ad M) 0 0 (PX (LPC D ad M b n (sHold b n s g A))) := by
  refine Spec.of (by decide) rfl (Nat.le_of_ble_eq_true rfl) rfl ?_
  have hS := h.2.2.2
  have h1 := h.adv
  have hhl := hdM_lt (A := A)
  have hb0 : A.1 4 v = 0 := by have := hS.2.2.1.2.2.1 v hv; omega
  have hxe : hdM (hldA A v 1) = hdM A ||| 2 ^ v := (hldA_hdM1 hv hb0).trans (xor_or (fun z => c3 (hdM_bit.mp z).2))
  have hp := Nat.pow_lt_pow_right (a := 2) (by decide) hv
  refine E_aload0 (q := 1) dX2_readHold_0 rfl ?_
  refine C_V0V (q := 4) lk_X2_56 (sp_X2_adv h) rc_X2 dX2_readHold_1 (by decide) (Nat.le_of_ble_eq_true rfl) rfl ?_
  refine E_aload0 (q := 5) dX2_readHold_4 rfl ?_
  refine C_V0I (q := 8) lk_X2_158 (sp_X2_expectSnapshot h1 c1 hv hf) rc_X2 dX2_readHold_5 (by decide) (Nat.le_of_ble_eq_true rfl) rfl ?_
  refine E_istore1 (q := 9) dX2_readHold_8 rfl rfl ?_
  refine E_iload1 (q := 10) dX2_readHold_9 rfl ?_
  refine E_iconst (v := -1) (q := 11) dX2_readHold_10 (by decide) rfl ?_
  refine E_icmp_ne (tgt := 16) (q := 14) dX2_readHold_11 (by decide) rfl (fun h11 => ?_) (fun h11 => ?_)
  · skip
    refine E_aload0 (q := 17) dX2_readHold_16 rfl ?_
    refine G_X2_draft (q := 20) fl_X2_22 dX2_readHold_17 rfl ?_
    refine G_X4_heldSet (q := 23) isSt_14 fl_X2_164 dX2_readHold_20 rfl ?_
    refine V_int h1.2.2.2.2.1.1.2.2.2.2 ?_
    refine E_iload1 (q := 24) dX2_readHold_23 rfl ?_
    refine C_SN2I (q := 27) lk_X2_167 (sp_X5_contains (by omega) (by omega)) dX2_readHold_24 (by decide) (Nat.le_of_ble_eq_true rfl) rfl ?_
    refine E_if_eq (tgt := 37) (q := 30) dX2_readHold_27 (by decide) rfl (fun h27 => ?_) (fun h27 => ?_)
    · skip
      refine E_aload0 (q := 38) dX2_readHold_37 rfl ?_
      refine G_X2_draft (q := 41) fl_X2_22 dX2_readHold_38 rfl ?_
      refine E_dup (q := 42) dX2_readHold_41 rfl rfl ?_
      refine G_X4_heldSet (q := 45) isSt_14 fl_X2_164 dX2_readHold_42 rfl ?_
      refine V_int h1.2.2.2.2.1.1.2.2.2.2 ?_
      refine E_iload1 (q := 46) dX2_readHold_45 rfl ?_
      refine C_SN1I (q := 49) lk_X2_170 (sp_X5_bit (by omega)) dX2_readHold_46 (by decide) (Nat.le_of_ble_eq_true rfl) rfl ?_
      refine E_iorN (q := 50) dX2_readHold_49 (nI_or _ _) rfl ?_
      refine P_X4_heldSet (q := 53) isSt_14 fl_X2_164 dX2_readHold_50 rfl ?_
      have hk2 : ∀ c, (c < 14 ∨ 14 + 12 < c) → upd2 (lxM M b n (nxt b n s)) 14 4 (nI (hdM A ||| 2 ^ v)) c = lxM M b n (nxt b n s) c := fun c hc => upd2_row (by omega)
      have h2 := h1.dr (h1.2.2.2.2.1.hldS hxe) (hldA_WF hS.2.2 hvt (by decide)) hk2
      refine E_aload0 (q := 54) dX2_readHold_53 rfl ?_
      refine C_V0V (q := 57) lk_X2_56 (sp_X2_adv h2) rc_X2 dX2_readHold_54 (by decide) (Nat.le_of_ble_eq_true rfl) rfl ?_
      refine E_iconst (v := nI 1) (q := 58) dX2_readHold_57 (by decide) rfl ?_
      exact E_zreturn rfl rfl rfl dX2_readHold_58 ⟨_, rfl, LPC_ok (by simp only [sHold, snpR, nmR, ch_t c1, ch_f c2, hcl, ch_f c3]) h2.adv ((Fr3.lx.tr (Fr3.dr hk2)).tr Fr3.lx)⟩
    · skip
      exact absurd (hdM_bit.mp (zI_n h27)).2 c3
  · skip
    exact absurd h11 (nI_nm1 (by omega))
theorem sp_X2_readHold (h : LdC M b n s g A) (hT : aT A + 1 < 2 ^ 24) : Spec D 8 yX2_readHold cfX2_readHold [.ref (ad 133)] (wl D ad M) 0 0 (PX (LPC D ad M b n (sHold b n s g A))) := by
  by_cases c1 : isNm b n (nxt b n s)
  · rcases fS_or A (nmc b n (nxt b n s)) with c2 | ⟨v, hv, hvt, hf, hcl, c2⟩
    · exact sp_X2_readHoldF h hT c1 c2
    · by_cases c3 : A.1 4 v = 1
      · exact sp_X2_readHoldL h hT c1 hv hvt hf hcl c2 c3
      · exact sp_X2_readHoldK h hT c1 hv hvt hf hcl c2 c3
  · exact sp_X2_readHoldN h hT c1
theorem sp_X2_isWordW {i : Nat} (h : LdC M b n s g A) (hi : i < 9) : SpecG D 5 yX2_isWord cfX2_isWord (StG adK adV) [.ref (ad 133), .ref (adK i)] (wl D ad M) 0 0 (PI (zI (isW b n s i)) (wl D ad M)) := sp_X2_isWord h hi
theorem rcG {C : String} {a : Nat} {G : GF} {ws : va_W} (hr : Recv ws a C) : ∀ (s : State) (A : Nat → Prop) (H : Heap) (lc : List Loc), va_K D vwCl (TY D) s → va_P D vwCl ws H → G s A → va_S A s.heap H lc → ∃ cell : Cell, H[a]? = some cell ∧ cell.vm.isStatics = false ∧ s.vm.findClass C = some cell.cls := fun s A H lc hK hP _ _ => by
  obtain ⟨q0, ci, fs, T, N, hq0, hcl⟩ := hr
  exact va_recv hK hP hcl hq0
theorem zI_t1 {p : Prop} (h : p) : zI p = nI 1 := (zI_t h).symm
theorem zI_f1 {p : Prop} (h : ¬ p) : zI p = nI 0 := (zI_f h).symm
theorem LdC.giv {g' : Nat} (h : LdC M b n s g A) (hg : g' < 4) : LdC (upd2 M 133 9 (nI g')) b n s g' A := by
  obtain ⟨⟨h1, h2, h3, h4⟩, ⟨k1, k2, k3, k4, k5⟩, hT, hS⟩ := h
  exact ⟨⟨h1, h2, h3, hg⟩, ⟨by rw [upd2_ne (by decide)]; exact k1, by rw [upd2_ne (by decide)]; exact k2, by rw [upd2_ne (by decide)]; exact k3, by rw [upd2_ne (by decide)]; exact k4, upd2_same⟩, fun i hi => by rw [upd2_row (by decide)]; exact hT i hi, hS.to (fun c c1 c2 => upd2_row (by omega))⟩
theorem Fr3.gv {v : Int32} : Fr3 M (upd2 M 133 9 v) := ⟨FrC.u (by decide), upd2_ne (by decide)⟩
theorem sp_X2_readSetN (h : LdC M b n s g A) (c1 : ¬ isW b n (nxt b n s) 7) (c2 : ¬ isW b n (nxt b n s) 8) : Spec D 8 yX2_readSet cfX2_readSet [.ref (ad 133)] (wl D ad M) 0 0 (PX (LPC D ad M b n (sSet b n s g A))) := by
  refine Spec.of (by decide) rfl (Nat.le_of_ble_eq_true rfl) rfl ?_
  have hS := h.2.2.2
  have h1 := h.adv
  refine E_openS (fun adK adV => ?_)
  refine E_aload0 (q := 1) dX2_readSet_0 rfl ?_
  refine C_V0V (q := 4) lk_X2_56 (sp_X2_adv h) rc_X2 dX2_readSet_1 (by decide) (Nat.le_of_ble_eq_true rfl) rfl ?_
  refine E_aload0 (q := 5) dX2_readSet_4 rfl ?_
  refine E_ldcS (q := 7) (i := 7) rfl dX2_readSet_5 rfl ?_
  refine E_callVG (ar := [.ref (adK 7)]) (q := 10) StG_st lk_X2_65 (sp_X2_isWordW h1 (by decide)) (rcG rc_X2) (by decide) (Nat.le_refl _) (Nat.le_refl _) (Nat.le_of_ble_eq_true rfl) dX2_readSet_7 rfl rfl ?_
  rintro v w' ⟨hv1, hv2⟩
  rw [hv1, hv2, zI_f1 c1]
  clear hv1 hv2
  refine E_if_ne (tgt := 29) (q := 13) dX2_readSet_10 (by decide) rfl (fun h10 => ?_) (fun h10 => ?_)
  · first | exact absurd h10 (by decide) | exact absurd (by decide) h10
  · skip
    refine E_aload0 (q := 14) dX2_readSet_13 rfl ?_
    refine E_ldcS (q := 16) (i := 8) rfl dX2_readSet_14 rfl ?_
    refine E_callVG (ar := [.ref (adK 8)]) (q := 19) StG_st lk_X2_65 (sp_X2_isWordW h1 (by decide)) (rcG rc_X2) (by decide) (Nat.le_refl _) (Nat.le_refl _) (Nat.le_of_ble_eq_true rfl) dX2_readSet_16 rfl rfl ?_
    rintro v w' ⟨hv1, hv2⟩
    rw [hv1, hv2, zI_f1 c2]
    clear hv1 hv2
    refine E_if_ne (tgt := 29) (q := 22) dX2_readSet_19 (by decide) rfl (fun h19 => ?_) (fun h19 => ?_)
    · first | exact absurd h19 (by decide) | exact absurd (by decide) h19
    · skip
      refine E_aload0 (q := 23) dX2_readSet_22 rfl ?_
      refine E_bipush (v := -11) (q := 25) dX2_readSet_23 (by decide) rfl ?_
      refine C_V1I (q := 28) lk_X2_102 (sp_X2_fail h1.2.1.2.1) rc_X2 dX2_readSet_25 (by decide) (Nat.le_of_ble_eq_true rfl) rfl ?_
      exact V_noG (E_zreturn rfl rfl rfl dX2_readSet_28 ⟨_, rfl, LPC_fail (by simp only [sSet, ch_f c1, ch_f c2]) (Fr3.lx).1⟩)
theorem sp_X2_readSetG0 (h : LdC M b n s g A) (c1 : isW b n (nxt b n s) 7) (c3 : g.testBit 0 = true) : Spec D 8 yX2_readSet cfX2_readSet [.ref (ad 133)] (wl D ad M) 0 0 (PX (LPC D ad M b n (sSet b n s g A))) := by
  refine Spec.of (by decide) rfl (Nat.le_of_ble_eq_true rfl) rfl ?_
  have hS := h.2.2.2
  have h1 := h.adv
  have hg4 := h.1.2.2.2
  refine E_openS (fun adK adV => ?_)
  refine E_aload0 (q := 1) dX2_readSet_0 rfl ?_
  refine C_V0V (q := 4) lk_X2_56 (sp_X2_adv h) rc_X2 dX2_readSet_1 (by decide) (Nat.le_of_ble_eq_true rfl) rfl ?_
  refine E_aload0 (q := 5) dX2_readSet_4 rfl ?_
  refine E_ldcS (q := 7) (i := 7) rfl dX2_readSet_5 rfl ?_
  refine E_callVG (ar := [.ref (adK 7)]) (q := 10) StG_st lk_X2_65 (sp_X2_isWordW h1 (by decide)) (rcG rc_X2) (by decide) (Nat.le_refl _) (Nat.le_refl _) (Nat.le_of_ble_eq_true rfl) dX2_readSet_7 rfl rfl ?_
  rintro v w' ⟨hv1, hv2⟩
  rw [hv1, hv2, zI_t1 c1]
  clear hv1 hv2
  refine E_if_ne (tgt := 29) (q := 13) dX2_readSet_10 (by decide) rfl (fun h10 => ?_) (fun h10 => ?_)
  · skip
    refine E_aload0 (q := 30) dX2_readSet_29 rfl ?_
    refine E_ldcS (q := 32) (i := 7) rfl dX2_readSet_30 rfl ?_
    refine E_callVG (ar := [.ref (adK 7)]) (q := 35) StG_st lk_X2_65 (sp_X2_isWordW h1 (by decide)) (rcG rc_X2) (by decide) (Nat.le_refl _) (Nat.le_refl _) (Nat.le_of_ble_eq_true rfl) dX2_readSet_32 rfl rfl ?_
    rintro v w' ⟨hv1, hv2⟩
    rw [hv1, hv2, zI_t1 c1]
    clear hv1 hv2
    refine E_if_eq (tgt := 42) (q := 38) dX2_readSet_35 (by decide) rfl (fun h35 => ?_) (fun h35 => ?_)
    · first | exact absurd h35 (by decide) | exact absurd (by decide) h35
    · skip
      refine E_iconst (v := nI 0) (q := 39) dX2_readSet_38 (by decide) rfl ?_
      refine E_goto (q := 43) dX2_readSet_39 (by decide) ?_
      refine E_istore1 (q := 44) dX2_readSet_43 rfl rfl ?_
      refine E_aload0 (q := 45) dX2_readSet_44 rfl ?_
      refine G_X2_givenSettings (q := 48) fl_X2_44 dX2_readSet_45 rfl ?_
      refine V_int h1.2.1.2.2.2.2 ?_
      refine E_iload1 (q := 49) dX2_readSet_48 rfl ?_
      refine C_SN2I (q := 52) lk_X2_167 (sp_X5_contains (by omega) (by omega)) dX2_readSet_49 (by decide) (Nat.le_of_ble_eq_true rfl) rfl ?_
      refine E_if_eq (tgt := 62) (q := 55) dX2_readSet_52 (by decide) rfl (fun h52 => ?_) (fun h52 => ?_)
      · skip
        exact absurd c3 (zI_0 h52)
      · skip
        refine E_aload0 (q := 56) dX2_readSet_55 rfl ?_
        refine E_bipush (v := -14) (q := 58) dX2_readSet_56 (by decide) rfl ?_
        refine C_V1I (q := 61) lk_X2_102 (sp_X2_fail h1.2.1.2.1) rc_X2 dX2_readSet_58 (by decide) (Nat.le_of_ble_eq_true rfl) rfl ?_
        exact V_noG (E_zreturn rfl rfl rfl dX2_readSet_61 ⟨_, rfl, LPC_fail (by simp only [sSet, setR, ch_t c1, ch_t c3]) (Fr3.lx).1⟩)
  · first | exact absurd h10 (by decide) | exact absurd (by decide) h10
theorem sp_X2_readSetK0 (h : LdC M b n s g A) (c1 : isW b n (nxt b n s) 7) (c3 : ¬ g.testBit 0 = true) (c4 : ¬ knd b n (nxt b n (nxt b n s)) = 2) : Spec D 8 yX2_readSet cfX2_readSet [.ref (ad 133)] (wl D ad M) 0 0 (PX (LPC D ad M b n (sSet b n s g A))) := by
  refine Spec.of (by decide) rfl (Nat.le_of_ble_eq_true rfl) rfl ?_
  have hS := h.2.2.2
  have h1 := h.adv
  have hg4 := h.1.2.2.2
  refine E_openS (fun adK adV => ?_)
  refine E_aload0 (q := 1) dX2_readSet_0 rfl ?_
  refine C_V0V (q := 4) lk_X2_56 (sp_X2_adv h) rc_X2 dX2_readSet_1 (by decide) (Nat.le_of_ble_eq_true rfl) rfl ?_
  refine E_aload0 (q := 5) dX2_readSet_4 rfl ?_
  refine E_ldcS (q := 7) (i := 7) rfl dX2_readSet_5 rfl ?_
  refine E_callVG (ar := [.ref (adK 7)]) (q := 10) StG_st lk_X2_65 (sp_X2_isWordW h1 (by decide)) (rcG rc_X2) (by decide) (Nat.le_refl _) (Nat.le_refl _) (Nat.le_of_ble_eq_true rfl) dX2_readSet_7 rfl rfl ?_
  rintro v w' ⟨hv1, hv2⟩
  rw [hv1, hv2, zI_t1 c1]
  clear hv1 hv2
  refine E_if_ne (tgt := 29) (q := 13) dX2_readSet_10 (by decide) rfl (fun h10 => ?_) (fun h10 => ?_)
  · skip
    refine E_aload0 (q := 30) dX2_readSet_29 rfl ?_
    refine E_ldcS (q := 32) (i := 7) rfl dX2_readSet_30 rfl ?_
    refine E_callVG (ar := [.ref (adK 7)]) (q := 35) StG_st lk_X2_65 (sp_X2_isWordW h1 (by decide)) (rcG rc_X2) (by decide) (Nat.le_refl _) (Nat.le_refl _) (Nat.le_of_ble_eq_true rfl) dX2_readSet_32 rfl rfl ?_
    rintro v w' ⟨hv1, hv2⟩
    rw [hv1, hv2, zI_t1 c1]
    clear hv1 hv2
    refine E_if_eq (tgt := 42) (q := 38) dX2_readSet_35 (by decide) rfl (fun h35 => ?_) (fun h35 => ?_)
    · first | exact absurd h35 (by decide) | exact absurd (by decide) h35
    · skip
      refine E_iconst (v := nI 0) (q := 39) dX2_readSet_38 (by decide) rfl ?_
      refine E_goto (q := 43) dX2_readSet_39 (by decide) ?_
      refine E_istore1 (q := 44) dX2_readSet_43 rfl rfl ?_
      refine E_aload0 (q := 45) dX2_readSet_44 rfl ?_
      refine G_X2_givenSettings (q := 48) fl_X2_44 dX2_readSet_45 rfl ?_
      refine V_int h1.2.1.2.2.2.2 ?_
      refine E_iload1 (q := 49) dX2_readSet_48 rfl ?_
      refine C_SN2I (q := 52) lk_X2_167 (sp_X5_contains (by omega) (by omega)) dX2_readSet_49 (by decide) (Nat.le_of_ble_eq_true rfl) rfl ?_
      refine E_if_eq (tgt := 62) (q := 55) dX2_readSet_52 (by decide) rfl (fun h52 => ?_) (fun h52 => ?_)
      · skip
        refine E_aload0 (q := 63) dX2_readSet_62 rfl ?_
        refine E_dup (q := 64) dX2_readSet_63 rfl rfl ?_
        refine G_X2_givenSettings (q := 67) fl_X2_44 dX2_readSet_64 rfl ?_
        refine V_int h1.2.1.2.2.2.2 ?_
        refine E_iload1 (q := 68) dX2_readSet_67 rfl ?_
        refine C_SN1I (q := 71) lk_X2_170 (sp_X5_bit (by omega)) dX2_readSet_68 (by decide) (Nat.le_of_ble_eq_true rfl) rfl ?_
        refine E_iorN (q := 72) dX2_readSet_71 (nI_or _ _) rfl ?_
        refine P_X2_givenSettings (q := 75) fl_X2_44 dX2_readSet_72 rfl ?_
        have h1g := h1.giv (show g ||| 2 ^ 0 < 4 by have := Nat.or_lt_two_pow (n := 2) hg4 (show 2 ^ 0 < 2 ^ 2 by decide); omega)
        have h2 := h1g.adv
        refine E_aload0 (q := 76) dX2_readSet_75 rfl ?_
        refine C_V0V (q := 79) lk_X2_56 (sp_X2_adv h1g) rc_X2 dX2_readSet_76 (by decide) (Nat.le_of_ble_eq_true rfl) rfl ?_
        refine E_aload0 (q := 80) dX2_readSet_79 rfl ?_
        refine E_iload1 (q := 81) dX2_readSet_80 rfl ?_
        refine C_SN1I (q := 84) lk_X2_178 (sp_X5_lowestValue0) dX2_readSet_81 (by decide) (Nat.le_of_ble_eq_true rfl) rfl ?_
        refine E_iload1 (q := 85) dX2_readSet_84 rfl ?_
        refine C_SN1I (q := 88) lk_X2_181 (sp_X5_highestValue0) dX2_readSet_85 (by decide) (Nat.le_of_ble_eq_true rfl) rfl ?_
        refine C_V2I (q := 91) lk_X2_125 (sp_X2_expectIntegerK h2 c4) rc_X2 dX2_readSet_88 (by decide) (Nat.le_of_ble_eq_true rfl) rfl ?_
        refine E_if_ne (tgt := 96) (q := 94) dX2_readSet_91 (by decide) rfl (fun h91 => ?_) (fun h91 => ?_)
        · first | exact absurd h91 (by decide) | exact absurd (by decide) h91
        · skip
          refine E_iconst (v := nI 0) (q := 95) dX2_readSet_94 (by decide) rfl ?_
          exact V_noG (E_zreturn rfl rfl rfl dX2_readSet_95 ⟨_, rfl, LPC_fail (by simp only [sSet, setR, ch_t c1, intR, ch_f c3, ch_f c4]) ((Fr3.lx.tr (Fr3.gv)).tr Fr3.lx).1⟩)
      · skip
        exact absurd (zI_n h52) c3
  · first | exact absurd h10 (by decide) | exact absurd (by decide) h10
theorem sp_X2_readSetR0 (h : LdC M b n s g A) (c1 : isW b n (nxt b n s) 7) (c3 : ¬ g.testBit 0 = true) (c4 : knd b n (nxt b n (nxt b n s)) = 2) (c5 : ¬ (1 ≤ itv b n (nxt b n (nxt b n s)) ∧ itv b n (nxt b n (nxt b n s)) ≤ 999)) : Spec D 8 yX2_readSet cfX2_readSet [.ref (ad 133)] (wl D ad M) 0 0 (PX (LPC D ad M b n (sSet b n s g A))) := by
  refine Spec.of (by decide) rfl (Nat.le_of_ble_eq_true rfl) rfl ?_
  have hS := h.2.2.2
  have h1 := h.adv
  have hg4 := h.1.2.2.2
  refine E_openS (fun adK adV => ?_)
  refine E_aload0 (q := 1) dX2_readSet_0 rfl ?_
  refine C_V0V (q := 4) lk_X2_56 (sp_X2_adv h) rc_X2 dX2_readSet_1 (by decide) (Nat.le_of_ble_eq_true rfl) rfl ?_
  refine E_aload0 (q := 5) dX2_readSet_4 rfl ?_
  refine E_ldcS (q := 7) (i := 7) rfl dX2_readSet_5 rfl ?_
  refine E_callVG (ar := [.ref (adK 7)]) (q := 10) StG_st lk_X2_65 (sp_X2_isWordW h1 (by decide)) (rcG rc_X2) (by decide) (Nat.le_refl _) (Nat.le_refl _) (Nat.le_of_ble_eq_true rfl) dX2_readSet_7 rfl rfl ?_
  rintro v w' ⟨hv1, hv2⟩
  rw [hv1, hv2, zI_t1 c1]
  clear hv1 hv2
  refine E_if_ne (tgt := 29) (q := 13) dX2_readSet_10 (by decide) rfl (fun h10 => ?_) (fun h10 => ?_)
  · skip
    refine E_aload0 (q := 30) dX2_readSet_29 rfl ?_
    refine E_ldcS (q := 32) (i := 7) rfl dX2_readSet_30 rfl ?_
    refine E_callVG (ar := [.ref (adK 7)]) (q := 35) StG_st lk_X2_65 (sp_X2_isWordW h1 (by decide)) (rcG rc_X2) (by decide) (Nat.le_refl _) (Nat.le_refl _) (Nat.le_of_ble_eq_true rfl) dX2_readSet_32 rfl rfl ?_
    rintro v w' ⟨hv1, hv2⟩
    rw [hv1, hv2, zI_t1 c1]
    clear hv1 hv2
    refine E_if_eq (tgt := 42) (q := 38) dX2_readSet_35 (by decide) rfl (fun h35 => ?_) (fun h35 => ?_)
    · first | exact absurd h35 (by decide) | exact absurd (by decide) h35
    · skip
      refine E_iconst (v := nI 0) (q := 39) dX2_readSet_38 (by decide) rfl ?_
      refine E_goto (q := 43) dX2_readSet_39 (by decide) ?_
      refine E_istore1 (q := 44) dX2_readSet_43 rfl rfl ?_
      refine E_aload0 (q := 45) dX2_readSet_44 rfl ?_
      refine G_X2_givenSettings (q := 48) fl_X2_44 dX2_readSet_45 rfl ?_
      refine V_int h1.2.1.2.2.2.2 ?_
      refine E_iload1 (q := 49) dX2_readSet_48 rfl ?_
      refine C_SN2I (q := 52) lk_X2_167 (sp_X5_contains (by omega) (by omega)) dX2_readSet_49 (by decide) (Nat.le_of_ble_eq_true rfl) rfl ?_
      refine E_if_eq (tgt := 62) (q := 55) dX2_readSet_52 (by decide) rfl (fun h52 => ?_) (fun h52 => ?_)
      · skip
        refine E_aload0 (q := 63) dX2_readSet_62 rfl ?_
        refine E_dup (q := 64) dX2_readSet_63 rfl rfl ?_
        refine G_X2_givenSettings (q := 67) fl_X2_44 dX2_readSet_64 rfl ?_
        refine V_int h1.2.1.2.2.2.2 ?_
        refine E_iload1 (q := 68) dX2_readSet_67 rfl ?_
        refine C_SN1I (q := 71) lk_X2_170 (sp_X5_bit (by omega)) dX2_readSet_68 (by decide) (Nat.le_of_ble_eq_true rfl) rfl ?_
        refine E_iorN (q := 72) dX2_readSet_71 (nI_or _ _) rfl ?_
        refine P_X2_givenSettings (q := 75) fl_X2_44 dX2_readSet_72 rfl ?_
        have h1g := h1.giv (show g ||| 2 ^ 0 < 4 by have := Nat.or_lt_two_pow (n := 2) hg4 (show 2 ^ 0 < 2 ^ 2 by decide); omega)
        have h2 := h1g.adv
        refine E_aload0 (q := 76) dX2_readSet_75 rfl ?_
        refine C_V0V (q := 79) lk_X2_56 (sp_X2_adv h1g) rc_X2 dX2_readSet_76 (by decide) (Nat.le_of_ble_eq_true rfl) rfl ?_
        refine E_aload0 (q := 80) dX2_readSet_79 rfl ?_
        refine E_iload1 (q := 81) dX2_readSet_80 rfl ?_
        refine C_SN1I (q := 84) lk_X2_178 (sp_X5_lowestValue0) dX2_readSet_81 (by decide) (Nat.le_of_ble_eq_true rfl) rfl ?_
        refine E_iload1 (q := 85) dX2_readSet_84 rfl ?_
        refine C_SN1I (q := 88) lk_X2_181 (sp_X5_highestValue0) dX2_readSet_85 (by decide) (Nat.le_of_ble_eq_true rfl) rfl ?_
        refine C_V2I (q := 91) lk_X2_125 (sp_X2_expectIntegerR h2 c4 (by decide) (by decide) c5) rc_X2 dX2_readSet_88 (by decide) (Nat.le_of_ble_eq_true rfl) rfl ?_
        refine E_if_ne (tgt := 96) (q := 94) dX2_readSet_91 (by decide) rfl (fun h91 => ?_) (fun h91 => ?_)
        · first | exact absurd h91 (by decide) | exact absurd (by decide) h91
        · skip
          refine E_iconst (v := nI 0) (q := 95) dX2_readSet_94 (by decide) rfl ?_
          exact V_noG (E_zreturn rfl rfl rfl dX2_readSet_95 ⟨_, rfl, LPC_fail (by simp only [sSet, setR, ch_t c1, intR, ch_f c3, ch_t c4, ch_f c5]) ((Fr3.lx.tr (Fr3.gv)).tr Fr3.lx).1⟩)
      · skip
        exact absurd (zI_n h52) c3
  · first | exact absurd h10 (by decide) | exact absurd (by decide) h10
theorem sp_X2_readSetO0 (h : LdC M b n s g A) (c1 : isW b n (nxt b n s) 7) (c3 : ¬ g.testBit 0 = true) (c4 : knd b n (nxt b n (nxt b n s)) = 2) (c5 : 1 ≤ itv b n (nxt b n (nxt b n s)) ∧ itv b n (nxt b n (nxt b n s)) ≤ 999) : Spec D 8 yX2_readSet cfX2_readSet [.ref (ad 133)] (wl D ad M) 0 0 (PX (LPC D ad M b n (sSet b n s g A))) := by
  refine Spec.of (by decide) rfl (Nat.le_of_ble_eq_true rfl) rfl ?_
  have hS := h.2.2.2
  have h1 := h.adv
  have hg4 := h.1.2.2.2
  refine E_openS (fun adK adV => ?_)
  refine E_aload0 (q := 1) dX2_readSet_0 rfl ?_
  refine C_V0V (q := 4) lk_X2_56 (sp_X2_adv h) rc_X2 dX2_readSet_1 (by decide) (Nat.le_of_ble_eq_true rfl) rfl ?_
  refine E_aload0 (q := 5) dX2_readSet_4 rfl ?_
  refine E_ldcS (q := 7) (i := 7) rfl dX2_readSet_5 rfl ?_
  refine E_callVG (ar := [.ref (adK 7)]) (q := 10) StG_st lk_X2_65 (sp_X2_isWordW h1 (by decide)) (rcG rc_X2) (by decide) (Nat.le_refl _) (Nat.le_refl _) (Nat.le_of_ble_eq_true rfl) dX2_readSet_7 rfl rfl ?_
  rintro v w' ⟨hv1, hv2⟩
  rw [hv1, hv2, zI_t1 c1]
  clear hv1 hv2
  refine E_if_ne (tgt := 29) (q := 13) dX2_readSet_10 (by decide) rfl (fun h10 => ?_) (fun h10 => ?_)
  · skip
    refine E_aload0 (q := 30) dX2_readSet_29 rfl ?_
    refine E_ldcS (q := 32) (i := 7) rfl dX2_readSet_30 rfl ?_
    refine E_callVG (ar := [.ref (adK 7)]) (q := 35) StG_st lk_X2_65 (sp_X2_isWordW h1 (by decide)) (rcG rc_X2) (by decide) (Nat.le_refl _) (Nat.le_refl _) (Nat.le_of_ble_eq_true rfl) dX2_readSet_32 rfl rfl ?_
    rintro v w' ⟨hv1, hv2⟩
    rw [hv1, hv2, zI_t1 c1]
    clear hv1 hv2
    refine E_if_eq (tgt := 42) (q := 38) dX2_readSet_35 (by decide) rfl (fun h35 => ?_) (fun h35 => ?_)
    · first | exact absurd h35 (by decide) | exact absurd (by decide) h35
    · skip
      refine E_iconst (v := nI 0) (q := 39) dX2_readSet_38 (by decide) rfl ?_
      refine E_goto (q := 43) dX2_readSet_39 (by decide) ?_
      refine E_istore1 (q := 44) dX2_readSet_43 rfl rfl ?_
      refine E_aload0 (q := 45) dX2_readSet_44 rfl ?_
      refine G_X2_givenSettings (q := 48) fl_X2_44 dX2_readSet_45 rfl ?_
      refine V_int h1.2.1.2.2.2.2 ?_
      refine E_iload1 (q := 49) dX2_readSet_48 rfl ?_
      refine C_SN2I (q := 52) lk_X2_167 (sp_X5_contains (by omega) (by omega)) dX2_readSet_49 (by decide) (Nat.le_of_ble_eq_true rfl) rfl ?_
      refine E_if_eq (tgt := 62) (q := 55) dX2_readSet_52 (by decide) rfl (fun h52 => ?_) (fun h52 => ?_)
      · skip
        refine E_aload0 (q := 63) dX2_readSet_62 rfl ?_
        refine E_dup (q := 64) dX2_readSet_63 rfl rfl ?_
        refine G_X2_givenSettings (q := 67) fl_X2_44 dX2_readSet_64 rfl ?_
        refine V_int h1.2.1.2.2.2.2 ?_
        refine E_iload1 (q := 68) dX2_readSet_67 rfl ?_
        refine C_SN1I (q := 71) lk_X2_170 (sp_X5_bit (by omega)) dX2_readSet_68 (by decide) (Nat.le_of_ble_eq_true rfl) rfl ?_
        refine E_iorN (q := 72) dX2_readSet_71 (nI_or _ _) rfl ?_
        refine P_X2_givenSettings (q := 75) fl_X2_44 dX2_readSet_72 rfl ?_
        have h1g := h1.giv (show g ||| 2 ^ 0 < 4 by have := Nat.or_lt_two_pow (n := 2) hg4 (show 2 ^ 0 < 2 ^ 2 by decide); omega)
        have h2 := h1g.adv
        refine E_aload0 (q := 76) dX2_readSet_75 rfl ?_
        refine C_V0V (q := 79) lk_X2_56 (sp_X2_adv h1g) rc_X2 dX2_readSet_76 (by decide) (Nat.le_of_ble_eq_true rfl) rfl ?_
        refine E_aload0 (q := 80) dX2_readSet_79 rfl ?_
        refine E_iload1 (q := 81) dX2_readSet_80 rfl ?_
        refine C_SN1I (q := 84) lk_X2_178 (sp_X5_lowestValue0) dX2_readSet_81 (by decide) (Nat.le_of_ble_eq_true rfl) rfl ?_
        refine E_iload1 (q := 85) dX2_readSet_84 rfl ?_
        refine C_SN1I (q := 88) lk_X2_181 (sp_X5_highestValue0) dX2_readSet_85 (by decide) (Nat.le_of_ble_eq_true rfl) rfl ?_
        refine C_V2I (q := 91) lk_X2_125 (sp_X2_expectInteger h2 c4 (by decide) (by decide) c5) rc_X2 dX2_readSet_88 (by decide) (Nat.le_of_ble_eq_true rfl) rfl ?_
        refine E_if_ne (tgt := 96) (q := 94) dX2_readSet_91 (by decide) rfl (fun h91 => ?_) (fun h91 => ?_)
        · skip
          refine E_aload0 (q := 97) dX2_readSet_96 rfl ?_
          refine G_X2_draft (q := 100) fl_X2_22 dX2_readSet_97 rfl ?_
          refine G_X4_settings (q := 103) isSt_14 fl_X2_184 dX2_readSet_100 rfl ?_
          refine E_iload1 (q := 104) dX2_readSet_103 rfl ?_
          refine E_aload0 (q := 105) dX2_readSet_104 rfl ?_
          refine C_V0I (q := 108) lk_X2_129 (sp_X2_integerValue h2 c4) rc_X2 dX2_readSet_105 (by decide) (Nat.le_of_ble_eq_true rfl) rfl ?_
          refine E_iastN (q := 109) isSt_14.settings (by omega) (by decide) dX2_readSet_108 rfl ?_
          have hk2 : ∀ c, (c < 14 ∨ 14 + 12 < c) → upd2 (lxM (upd2 (lxM M b n (nxt b n s)) 133 9 (nI (g ||| 2 ^ 0))) b n (nxt b n (nxt b n s))) (14 + 1) 0 (nI (itv b n (nxt b n (nxt b n s)))) c = lxM (upd2 (lxM M b n (nxt b n s)) 133 9 (nI (g ||| 2 ^ 0))) b n (nxt b n (nxt b n s)) c := fun c hc => upd2_row (by omega)
          have h3 := h2.dr (h2.2.2.2.2.1.setS (by decide)) (setA_WF hS.2.2 (by omega)) hk2
          refine E_aload0 (q := 110) dX2_readSet_109 rfl ?_
          refine C_V0V (q := 113) lk_X2_56 (sp_X2_adv h3) rc_X2 dX2_readSet_110 (by decide) (Nat.le_of_ble_eq_true rfl) rfl ?_
          refine E_iconst (v := nI 1) (q := 114) dX2_readSet_113 (by decide) rfl ?_
          exact V_noG (E_zreturn rfl rfl rfl dX2_readSet_114 ⟨_, rfl, LPC_ok (by simp only [sSet, setR, ch_t c1, intR, ch_f c3, ch_t c4, ch_t c5]) h3.adv (((((Fr3.lx.tr (Fr3.gv)).tr Fr3.lx)).tr (Fr3.dr hk2)).tr Fr3.lx)⟩)
        · first | exact absurd h91 (by decide) | exact absurd (by decide) h91
      · skip
        exact absurd (zI_n h52) c3
  · first | exact absurd h10 (by decide) | exact absurd (by decide) h10
theorem sp_X2_readSetG1 (h : LdC M b n s g A) (c1 : ¬ isW b n (nxt b n s) 7) (c2 : isW b n (nxt b n s) 8) (c3 : g.testBit 1 = true) : Spec D 8 yX2_readSet cfX2_readSet [.ref (ad 133)] (wl D ad M) 0 0 (PX (LPC D ad M b n (sSet b n s g A))) := by
  refine Spec.of (by decide) rfl (Nat.le_of_ble_eq_true rfl) rfl ?_
  have hS := h.2.2.2
  have h1 := h.adv
  have hg4 := h.1.2.2.2
  refine E_openS (fun adK adV => ?_)
  refine E_aload0 (q := 1) dX2_readSet_0 rfl ?_
  refine C_V0V (q := 4) lk_X2_56 (sp_X2_adv h) rc_X2 dX2_readSet_1 (by decide) (Nat.le_of_ble_eq_true rfl) rfl ?_
  refine E_aload0 (q := 5) dX2_readSet_4 rfl ?_
  refine E_ldcS (q := 7) (i := 7) rfl dX2_readSet_5 rfl ?_
  refine E_callVG (ar := [.ref (adK 7)]) (q := 10) StG_st lk_X2_65 (sp_X2_isWordW h1 (by decide)) (rcG rc_X2) (by decide) (Nat.le_refl _) (Nat.le_refl _) (Nat.le_of_ble_eq_true rfl) dX2_readSet_7 rfl rfl ?_
  rintro v w' ⟨hv1, hv2⟩
  rw [hv1, hv2, zI_f1 c1]
  clear hv1 hv2
  refine E_if_ne (tgt := 29) (q := 13) dX2_readSet_10 (by decide) rfl (fun h10 => ?_) (fun h10 => ?_)
  · first | exact absurd h10 (by decide) | exact absurd (by decide) h10
  · skip
    refine E_aload0 (q := 14) dX2_readSet_13 rfl ?_
    refine E_ldcS (q := 16) (i := 8) rfl dX2_readSet_14 rfl ?_
    refine E_callVG (ar := [.ref (adK 8)]) (q := 19) StG_st lk_X2_65 (sp_X2_isWordW h1 (by decide)) (rcG rc_X2) (by decide) (Nat.le_refl _) (Nat.le_refl _) (Nat.le_of_ble_eq_true rfl) dX2_readSet_16 rfl rfl ?_
    rintro v w' ⟨hv1, hv2⟩
    rw [hv1, hv2, zI_t1 c2]
    clear hv1 hv2
    refine E_if_ne (tgt := 29) (q := 22) dX2_readSet_19 (by decide) rfl (fun h19 => ?_) (fun h19 => ?_)
    · skip
      refine E_aload0 (q := 30) dX2_readSet_29 rfl ?_
      refine E_ldcS (q := 32) (i := 7) rfl dX2_readSet_30 rfl ?_
      refine E_callVG (ar := [.ref (adK 7)]) (q := 35) StG_st lk_X2_65 (sp_X2_isWordW h1 (by decide)) (rcG rc_X2) (by decide) (Nat.le_refl _) (Nat.le_refl _) (Nat.le_of_ble_eq_true rfl) dX2_readSet_32 rfl rfl ?_
      rintro v w' ⟨hv1, hv2⟩
      rw [hv1, hv2, zI_f1 c1]
      clear hv1 hv2
      refine E_if_eq (tgt := 42) (q := 38) dX2_readSet_35 (by decide) rfl (fun h35 => ?_) (fun h35 => ?_)
      · skip
        refine E_iconst (v := nI 1) (q := 43) dX2_readSet_42 (by decide) rfl ?_
        refine E_istore1 (q := 44) dX2_readSet_43 rfl rfl ?_
        refine E_aload0 (q := 45) dX2_readSet_44 rfl ?_
        refine G_X2_givenSettings (q := 48) fl_X2_44 dX2_readSet_45 rfl ?_
        refine V_int h1.2.1.2.2.2.2 ?_
        refine E_iload1 (q := 49) dX2_readSet_48 rfl ?_
        refine C_SN2I (q := 52) lk_X2_167 (sp_X5_contains (by omega) (by omega)) dX2_readSet_49 (by decide) (Nat.le_of_ble_eq_true rfl) rfl ?_
        refine E_if_eq (tgt := 62) (q := 55) dX2_readSet_52 (by decide) rfl (fun h52 => ?_) (fun h52 => ?_)
        · skip
          exact absurd c3 (zI_0 h52)
        · skip
          refine E_aload0 (q := 56) dX2_readSet_55 rfl ?_
          refine E_bipush (v := -14) (q := 58) dX2_readSet_56 (by decide) rfl ?_
          refine C_V1I (q := 61) lk_X2_102 (sp_X2_fail h1.2.1.2.1) rc_X2 dX2_readSet_58 (by decide) (Nat.le_of_ble_eq_true rfl) rfl ?_
          exact V_noG (E_zreturn rfl rfl rfl dX2_readSet_61 ⟨_, rfl, LPC_fail (by simp only [sSet, setR, ch_f c1, ch_t c2, ch_t c3]) (Fr3.lx).1⟩)
      · first | exact absurd h35 (by decide) | exact absurd (by decide) h35
    · first | exact absurd h19 (by decide) | exact absurd (by decide) h19
theorem sp_X2_readSetK1 (h : LdC M b n s g A) (c1 : ¬ isW b n (nxt b n s) 7) (c2 : isW b n (nxt b n s) 8) (c3 : ¬ g.testBit 1 = true) (c4 : ¬ knd b n (nxt b n (nxt b n s)) = 2) : Spec D 8 yX2_readSet cfX2_readSet [.ref (ad 133)] (wl D ad M) 0 0 (PX (LPC D ad M b n (sSet b n s g A))) := by
  refine Spec.of (by decide) rfl (Nat.le_of_ble_eq_true rfl) rfl ?_
  have hS := h.2.2.2
  have h1 := h.adv
  have hg4 := h.1.2.2.2
  refine E_openS (fun adK adV => ?_)
  refine E_aload0 (q := 1) dX2_readSet_0 rfl ?_
  refine C_V0V (q := 4) lk_X2_56 (sp_X2_adv h) rc_X2 dX2_readSet_1 (by decide) (Nat.le_of_ble_eq_true rfl) rfl ?_
  refine E_aload0 (q := 5) dX2_readSet_4 rfl ?_
  refine E_ldcS (q := 7) (i := 7) rfl dX2_readSet_5 rfl ?_
  refine E_callVG (ar := [.ref (adK 7)]) (q := 10) StG_st lk_X2_65 (sp_X2_isWordW h1 (by decide)) (rcG rc_X2) (by decide) (Nat.le_refl _) (Nat.le_refl _) (Nat.le_of_ble_eq_true rfl) dX2_readSet_7 rfl rfl ?_
  rintro v w' ⟨hv1, hv2⟩
  rw [hv1, hv2, zI_f1 c1]
  clear hv1 hv2
  refine E_if_ne (tgt := 29) (q := 13) dX2_readSet_10 (by decide) rfl (fun h10 => ?_) (fun h10 => ?_)
  · first | exact absurd h10 (by decide) | exact absurd (by decide) h10
  · skip
    refine E_aload0 (q := 14) dX2_readSet_13 rfl ?_
    refine E_ldcS (q := 16) (i := 8) rfl dX2_readSet_14 rfl ?_
    refine E_callVG (ar := [.ref (adK 8)]) (q := 19) StG_st lk_X2_65 (sp_X2_isWordW h1 (by decide)) (rcG rc_X2) (by decide) (Nat.le_refl _) (Nat.le_refl _) (Nat.le_of_ble_eq_true rfl) dX2_readSet_16 rfl rfl ?_
    rintro v w' ⟨hv1, hv2⟩
    rw [hv1, hv2, zI_t1 c2]
    clear hv1 hv2
    refine E_if_ne (tgt := 29) (q := 22) dX2_readSet_19 (by decide) rfl (fun h19 => ?_) (fun h19 => ?_)
    · skip
      refine E_aload0 (q := 30) dX2_readSet_29 rfl ?_
      refine E_ldcS (q := 32) (i := 7) rfl dX2_readSet_30 rfl ?_
      refine E_callVG (ar := [.ref (adK 7)]) (q := 35) StG_st lk_X2_65 (sp_X2_isWordW h1 (by decide)) (rcG rc_X2) (by decide) (Nat.le_refl _) (Nat.le_refl _) (Nat.le_of_ble_eq_true rfl) dX2_readSet_32 rfl rfl ?_
      rintro v w' ⟨hv1, hv2⟩
      rw [hv1, hv2, zI_f1 c1]
      clear hv1 hv2
      refine E_if_eq (tgt := 42) (q := 38) dX2_readSet_35 (by decide) rfl (fun h35 => ?_) (fun h35 => ?_)
      · skip
        refine E_iconst (v := nI 1) (q := 43) dX2_readSet_42 (by decide) rfl ?_
        refine E_istore1 (q := 44) dX2_readSet_43 rfl rfl ?_
        refine E_aload0 (q := 45) dX2_readSet_44 rfl ?_
        refine G_X2_givenSettings (q := 48) fl_X2_44 dX2_readSet_45 rfl ?_
        refine V_int h1.2.1.2.2.2.2 ?_
        refine E_iload1 (q := 49) dX2_readSet_48 rfl ?_
        refine C_SN2I (q := 52) lk_X2_167 (sp_X5_contains (by omega) (by omega)) dX2_readSet_49 (by decide) (Nat.le_of_ble_eq_true rfl) rfl ?_
        refine E_if_eq (tgt := 62) (q := 55) dX2_readSet_52 (by decide) rfl (fun h52 => ?_) (fun h52 => ?_)
        · skip
          refine E_aload0 (q := 63) dX2_readSet_62 rfl ?_
          refine E_dup (q := 64) dX2_readSet_63 rfl rfl ?_
          refine G_X2_givenSettings (q := 67) fl_X2_44 dX2_readSet_64 rfl ?_
          refine V_int h1.2.1.2.2.2.2 ?_
          refine E_iload1 (q := 68) dX2_readSet_67 rfl ?_
          refine C_SN1I (q := 71) lk_X2_170 (sp_X5_bit (by omega)) dX2_readSet_68 (by decide) (Nat.le_of_ble_eq_true rfl) rfl ?_
          refine E_iorN (q := 72) dX2_readSet_71 (nI_or _ _) rfl ?_
          refine P_X2_givenSettings (q := 75) fl_X2_44 dX2_readSet_72 rfl ?_
          have h1g := h1.giv (show g ||| 2 ^ 1 < 4 by have := Nat.or_lt_two_pow (n := 2) hg4 (show 2 ^ 1 < 2 ^ 2 by decide); omega)
          have h2 := h1g.adv
          refine E_aload0 (q := 76) dX2_readSet_75 rfl ?_
          refine C_V0V (q := 79) lk_X2_56 (sp_X2_adv h1g) rc_X2 dX2_readSet_76 (by decide) (Nat.le_of_ble_eq_true rfl) rfl ?_
          refine E_aload0 (q := 80) dX2_readSet_79 rfl ?_
          refine E_iload1 (q := 81) dX2_readSet_80 rfl ?_
          refine C_SN1I (q := 84) lk_X2_178 (sp_X5_lowestValue1) dX2_readSet_81 (by decide) (Nat.le_of_ble_eq_true rfl) rfl ?_
          refine E_iload1 (q := 85) dX2_readSet_84 rfl ?_
          refine C_SN1I (q := 88) lk_X2_181 (sp_X5_highestValue1) dX2_readSet_85 (by decide) (Nat.le_of_ble_eq_true rfl) rfl ?_
          refine C_V2I (q := 91) lk_X2_125 (sp_X2_expectIntegerK h2 c4) rc_X2 dX2_readSet_88 (by decide) (Nat.le_of_ble_eq_true rfl) rfl ?_
          refine E_if_ne (tgt := 96) (q := 94) dX2_readSet_91 (by decide) rfl (fun h91 => ?_) (fun h91 => ?_)
          · first | exact absurd h91 (by decide) | exact absurd (by decide) h91
          · skip
            refine E_iconst (v := nI 0) (q := 95) dX2_readSet_94 (by decide) rfl ?_
            exact V_noG (E_zreturn rfl rfl rfl dX2_readSet_95 ⟨_, rfl, LPC_fail (by simp only [sSet, setR, ch_f c1, ch_t c2, intR, ch_f c3, ch_f c4]) ((Fr3.lx.tr (Fr3.gv)).tr Fr3.lx).1⟩)
        · skip
          exact absurd (zI_n h52) c3
      · first | exact absurd h35 (by decide) | exact absurd (by decide) h35
    · first | exact absurd h19 (by decide) | exact absurd (by decide) h19
theorem sp_X2_readSetR1 (h : LdC M b n s g A) (c1 : ¬ isW b n (nxt b n s) 7) (c2 : isW b n (nxt b n s) 8) (c3 : ¬ g.testBit 1 = true) (c4 : knd b n (nxt b n (nxt b n s)) = 2) (c5 : ¬ (0 ≤ itv b n (nxt b n (nxt b n s)) ∧ itv b n (nxt b n (nxt b n s)) ≤ 5)) : Spec D 8 yX2_readSet cfX2_readSet [.ref (ad 133)] (wl D ad M) 0 0 (PX (LPC D ad M b n (sSet b n s g A))) := by
  refine Spec.of (by decide) rfl (Nat.le_of_ble_eq_true rfl) rfl ?_
  have hS := h.2.2.2
  have h1 := h.adv
  have hg4 := h.1.2.2.2
  refine E_openS (fun adK adV => ?_)
  refine E_aload0 (q := 1) dX2_readSet_0 rfl ?_
  refine C_V0V (q := 4) lk_X2_56 (sp_X2_adv h) rc_X2 dX2_readSet_1 (by decide) (Nat.le_of_ble_eq_true rfl) rfl ?_
  refine E_aload0 (q := 5) dX2_readSet_4 rfl ?_
  refine E_ldcS (q := 7) (i := 7) rfl dX2_readSet_5 rfl ?_
  refine E_callVG (ar := [.ref (adK 7)]) (q := 10) StG_st lk_X2_65 (sp_X2_isWordW h1 (by decide)) (rcG rc_X2) (by decide) (Nat.le_refl _) (Nat.le_refl _) (Nat.le_of_ble_eq_true rfl) dX2_readSet_7 rfl rfl ?_
  rintro v w' ⟨hv1, hv2⟩
  rw [hv1, hv2, zI_f1 c1]
  clear hv1 hv2
  refine E_if_ne (tgt := 29) (q := 13) dX2_readSet_10 (by decide) rfl (fun h10 => ?_) (fun h10 => ?_)
  · first | exact absurd h10 (by decide) | exact absurd (by decide) h10
  · skip
    refine E_aload0 (q := 14) dX2_readSet_13 rfl ?_
    refine E_ldcS (q := 16) (i := 8) rfl dX2_readSet_14 rfl ?_
    refine E_callVG (ar := [.ref (adK 8)]) (q := 19) StG_st lk_X2_65 (sp_X2_isWordW h1 (by decide)) (rcG rc_X2) (by decide) (Nat.le_refl _) (Nat.le_refl _) (Nat.le_of_ble_eq_true rfl) dX2_readSet_16 rfl rfl ?_
    rintro v w' ⟨hv1, hv2⟩
    rw [hv1, hv2, zI_t1 c2]
    clear hv1 hv2
    refine E_if_ne (tgt := 29) (q := 22) dX2_readSet_19 (by decide) rfl (fun h19 => ?_) (fun h19 => ?_)
    · skip
      refine E_aload0 (q := 30) dX2_readSet_29 rfl ?_
      refine E_ldcS (q := 32) (i := 7) rfl dX2_readSet_30 rfl ?_
      refine E_callVG (ar := [.ref (adK 7)]) (q := 35) StG_st lk_X2_65 (sp_X2_isWordW h1 (by decide)) (rcG rc_X2) (by decide) (Nat.le_refl _) (Nat.le_refl _) (Nat.le_of_ble_eq_true rfl) dX2_readSet_32 rfl rfl ?_
      rintro v w' ⟨hv1, hv2⟩
      rw [hv1, hv2, zI_f1 c1]
      clear hv1 hv2
      refine E_if_eq (tgt := 42) (q := 38) dX2_readSet_35 (by decide) rfl (fun h35 => ?_) (fun h35 => ?_)
      · skip
        refine E_iconst (v := nI 1) (q := 43) dX2_readSet_42 (by decide) rfl ?_
        refine E_istore1 (q := 44) dX2_readSet_43 rfl rfl ?_
        refine E_aload0 (q := 45) dX2_readSet_44 rfl ?_
        refine G_X2_givenSettings (q := 48) fl_X2_44 dX2_readSet_45 rfl ?_
        refine V_int h1.2.1.2.2.2.2 ?_
        refine E_iload1 (q := 49) dX2_readSet_48 rfl ?_
        refine C_SN2I (q := 52) lk_X2_167 (sp_X5_contains (by omega) (by omega)) dX2_readSet_49 (by decide) (Nat.le_of_ble_eq_true rfl) rfl ?_
        refine E_if_eq (tgt := 62) (q := 55) dX2_readSet_52 (by decide) rfl (fun h52 => ?_) (fun h52 => ?_)
        · skip
          refine E_aload0 (q := 63) dX2_readSet_62 rfl ?_
          refine E_dup (q := 64) dX2_readSet_63 rfl rfl ?_
          refine G_X2_givenSettings (q := 67) fl_X2_44 dX2_readSet_64 rfl ?_
          refine V_int h1.2.1.2.2.2.2 ?_
          refine E_iload1 (q := 68) dX2_readSet_67 rfl ?_
          refine C_SN1I (q := 71) lk_X2_170 (sp_X5_bit (by omega)) dX2_readSet_68 (by decide) (Nat.le_of_ble_eq_true rfl) rfl ?_
          refine E_iorN (q := 72) dX2_readSet_71 (nI_or _ _) rfl ?_
          refine P_X2_givenSettings (q := 75) fl_X2_44 dX2_readSet_72 rfl ?_
          have h1g := h1.giv (show g ||| 2 ^ 1 < 4 by have := Nat.or_lt_two_pow (n := 2) hg4 (show 2 ^ 1 < 2 ^ 2 by decide); omega)
          have h2 := h1g.adv
          refine E_aload0 (q := 76) dX2_readSet_75 rfl ?_
          refine C_V0V (q := 79) lk_X2_56 (sp_X2_adv h1g) rc_X2 dX2_readSet_76 (by decide) (Nat.le_of_ble_eq_true rfl) rfl ?_
          refine E_aload0 (q := 80) dX2_readSet_79 rfl ?_
          refine E_iload1 (q := 81) dX2_readSet_80 rfl ?_
          refine C_SN1I (q := 84) lk_X2_178 (sp_X5_lowestValue1) dX2_readSet_81 (by decide) (Nat.le_of_ble_eq_true rfl) rfl ?_
          refine E_iload1 (q := 85) dX2_readSet_84 rfl ?_
          refine C_SN1I (q := 88) lk_X2_181 (sp_X5_highestValue1) dX2_readSet_85 (by decide) (Nat.le_of_ble_eq_true rfl) rfl ?_
          refine C_V2I (q := 91) lk_X2_125 (sp_X2_expectIntegerR h2 c4 (by decide) (by decide) c5) rc_X2 dX2_readSet_88 (by decide) (Nat.le_of_ble_eq_true rfl) rfl ?_
          refine E_if_ne (tgt := 96) (q := 94) dX2_readSet_91 (by decide) rfl (fun h91 => ?_) (fun h91 => ?_)
          · first | exact absurd h91 (by decide) | exact absurd (by decide) h91
          · skip
            refine E_iconst (v := nI 0) (q := 95) dX2_readSet_94 (by decide) rfl ?_
            exact V_noG (E_zreturn rfl rfl rfl dX2_readSet_95 ⟨_, rfl, LPC_fail (by simp only [sSet, setR, ch_f c1, ch_t c2, intR, ch_f c3, ch_t c4, ch_f c5]) ((Fr3.lx.tr (Fr3.gv)).tr Fr3.lx).1⟩)
        · skip
          exact absurd (zI_n h52) c3
      · first | exact absurd h35 (by decide) | exact absurd (by decide) h35
    · first | exact absurd h19 (by decide) | exact absurd (by decide) h19
theorem sp_X2_readSetO1 (h : LdC M b n s g A) (c1 : ¬ isW b n (nxt b n s) 7) (c2 : isW b n (nxt b n s) 8) (c3 : ¬ g.testBit 1 = true) (c4 : knd b n (nxt b n (nxt b n s)) = 2) (c5 : 0 ≤ itv b n (nxt b n (nxt b n s)) ∧ itv b n (nxt b n (nxt b n s)) ≤ 5) : Spec D 8 yX2_readSet cfX2_readSet [.ref (ad 133)] (wl D ad M) 0 0 (PX (LPC D ad M b n (sSet b n s g A))) := by
  refine Spec.of (by decide) rfl (Nat.le_of_ble_eq_true rfl) rfl ?_
  have hS := h.2.2.2
  have h1 := h.adv
  have hg4 := h.1.2.2.2
  refine E_openS (fun adK adV => ?_)
  refine E_aload0 (q := 1) dX2_readSet_0 rfl ?_
  refine C_V0V (q := 4) lk_X2_56 (sp_X2_adv h) rc_X2 dX2_readSet_1 (by decide) (Nat.le_of_ble_eq_true rfl) rfl ?_
  refine E_aload0 (q := 5) dX2_readSet_4 rfl ?_
  refine E_ldcS (q := 7) (i := 7) rfl dX2_readSet_5 rfl ?_
  refine E_callVG (ar := [.ref (adK 7)]) (q := 10) StG_st lk_X2_65 (sp_X2_isWordW h1 (by decide)) (rcG rc_X2) (by decide) (Nat.le_refl _) (Nat.le_refl _) (Nat.le_of_ble_eq_true rfl) dX2_readSet_7 rfl rfl ?_
  rintro v w' ⟨hv1, hv2⟩
  rw [hv1, hv2, zI_f1 c1]
  clear hv1 hv2
  refine E_if_ne (tgt := 29) (q := 13) dX2_readSet_10 (by decide) rfl (fun h10 => ?_) (fun h10 => ?_)
  · first | exact absurd h10 (by decide) | exact absurd (by decide) h10
  · skip
    refine E_aload0 (q := 14) dX2_readSet_13 rfl ?_
    refine E_ldcS (q := 16) (i := 8) rfl dX2_readSet_14 rfl ?_
    refine E_callVG (ar := [.ref (adK 8)]) (q := 19) StG_st lk_X2_65 (sp_X2_isWordW h1 (by decide)) (rcG rc_X2) (by decide) (Nat.le_refl _) (Nat.le_refl _) (Nat.le_of_ble_eq_true rfl) dX2_readSet_16 rfl rfl ?_
    rintro v w' ⟨hv1, hv2⟩
    rw [hv1, hv2, zI_t1 c2]
    clear hv1 hv2
    refine E_if_ne (tgt := 29) (q := 22) dX2_readSet_19 (by decide) rfl (fun h19 => ?_) (fun h19 => ?_)
    · skip
      refine E_aload0 (q := 30) dX2_readSet_29 rfl ?_
      refine E_ldcS (q := 32) (i := 7) rfl dX2_readSet_30 rfl ?_
      refine E_callVG (ar := [.ref (adK 7)]) (q := 35) StG_st lk_X2_65 (sp_X2_isWordW h1 (by decide)) (rcG rc_X2) (by decide) (Nat.le_refl _) (Nat.le_refl _) (Nat.le_of_ble_eq_true rfl) dX2_readSet_32 rfl rfl ?_
      rintro v w' ⟨hv1, hv2⟩
      rw [hv1, hv2, zI_f1 c1]
      clear hv1 hv2
      refine E_if_eq (tgt := 42) (q := 38) dX2_readSet_35 (by decide) rfl (fun h35 => ?_) (fun h35 => ?_)
      · skip
        refine E_iconst (v := nI 1) (q := 43) dX2_readSet_42 (by decide) rfl ?_
        refine E_istore1 (q := 44) dX2_readSet_43 rfl rfl ?_
        refine E_aload0 (q := 45) dX2_readSet_44 rfl ?_
        refine G_X2_givenSettings (q := 48) fl_X2_44 dX2_readSet_45 rfl ?_
        refine V_int h1.2.1.2.2.2.2 ?_
        refine E_iload1 (q := 49) dX2_readSet_48 rfl ?_
        refine C_SN2I (q := 52) lk_X2_167 (sp_X5_contains (by omega) (by omega)) dX2_readSet_49 (by decide) (Nat.le_of_ble_eq_true rfl) rfl ?_
        refine E_if_eq (tgt := 62) (q := 55) dX2_readSet_52 (by decide) rfl (fun h52 => ?_) (fun h52 => ?_)
        · skip
          refine E_aload0 (q := 63) dX2_readSet_62 rfl ?_
          refine E_dup (q := 64) dX2_readSet_63 rfl rfl ?_
          refine G_X2_givenSettings (q := 67) fl_X2_44 dX2_readSet_64 rfl ?_
          refine V_int h1.2.1.2.2.2.2 ?_
          refine E_iload1 (q := 68) dX2_readSet_67 rfl ?_
          refine C_SN1I (q := 71) lk_X2_170 (sp_X5_bit (by omega)) dX2_readSet_68 (by decide) (Nat.le_of_ble_eq_true rfl) rfl ?_
          refine E_iorN (q := 72) dX2_readSet_71 (nI_or _ _) rfl ?_
          refine P_X2_givenSettings (q := 75) fl_X2_44 dX2_readSet_72 rfl ?_
          have h1g := h1.giv (show g ||| 2 ^ 1 < 4 by have := Nat.or_lt_two_pow (n := 2) hg4 (show 2 ^ 1 < 2 ^ 2 by decide); omega)
          have h2 := h1g.adv
          refine E_aload0 (q := 76) dX2_readSet_75 rfl ?_
          refine C_V0V (q := 79) lk_X2_56 (sp_X2_adv h1g) rc_X2 dX2_readSet_76 (by decide) (Nat.le_of_ble_eq_true rfl) rfl ?_
          refine E_aload0 (q := 80) dX2_readSet_79 rfl ?_
          refine E_iload1 (q := 81) dX2_readSet_80 rfl ?_
          refine C_SN1I (q := 84) lk_X2_178 (sp_X5_lowestValue1) dX2_readSet_81 (by decide) (Nat.le_of_ble_eq_true rfl) rfl ?_
          refine E_iload1 (q := 85) dX2_readSet_84 rfl ?_
          refine C_SN1I (q := 88) lk_X2_181 (sp_X5_highestValue1) dX2_readSet_85 (by decide) (Nat.le_of_ble_eq_true rfl) rfl ?_
          refine C_V2I (q := 91) lk_X2_125 (sp_X2_expectInteger h2 c4 (by decide) (by decide) c5) rc_X2 dX2_readSet_88 (by decide) (Nat.le_of_ble_eq_true rfl) rfl ?_
          refine E_if_ne (tgt := 96) (q := 94) dX2_readSet_91 (by decide) rfl (fun h91 => ?_) (fun h91 => ?_)
          · skip
            refine E_aload0 (q := 97) dX2_readSet_96 rfl ?_
            refine G_X2_draft (q := 100) fl_X2_22 dX2_readSet_97 rfl ?_
            refine G_X4_settings (q := 103) isSt_14 fl_X2_184 dX2_readSet_100 rfl ?_
            refine E_iload1 (q := 104) dX2_readSet_103 rfl ?_
            refine E_aload0 (q := 105) dX2_readSet_104 rfl ?_
            refine C_V0I (q := 108) lk_X2_129 (sp_X2_integerValue h2 c4) rc_X2 dX2_readSet_105 (by decide) (Nat.le_of_ble_eq_true rfl) rfl ?_
            refine E_iastN (q := 109) isSt_14.settings (by omega) (by decide) dX2_readSet_108 rfl ?_
            have hk2 : ∀ c, (c < 14 ∨ 14 + 12 < c) → upd2 (lxM (upd2 (lxM M b n (nxt b n s)) 133 9 (nI (g ||| 2 ^ 1))) b n (nxt b n (nxt b n s))) (14 + 1) 1 (nI (itv b n (nxt b n (nxt b n s)))) c = lxM (upd2 (lxM M b n (nxt b n s)) 133 9 (nI (g ||| 2 ^ 1))) b n (nxt b n (nxt b n s)) c := fun c hc => upd2_row (by omega)
            have h3 := h2.dr (h2.2.2.2.2.1.setS (by decide)) (setA_WF hS.2.2 (by omega)) hk2
            refine E_aload0 (q := 110) dX2_readSet_109 rfl ?_
            refine C_V0V (q := 113) lk_X2_56 (sp_X2_adv h3) rc_X2 dX2_readSet_110 (by decide) (Nat.le_of_ble_eq_true rfl) rfl ?_
            refine E_iconst (v := nI 1) (q := 114) dX2_readSet_113 (by decide) rfl ?_
            exact V_noG (E_zreturn rfl rfl rfl dX2_readSet_114 ⟨_, rfl, LPC_ok (by simp only [sSet, setR, ch_f c1, ch_t c2, intR, ch_f c3, ch_t c4, ch_t c5]) h3.adv (((((Fr3.lx.tr (Fr3.gv)).tr Fr3.lx)).tr (Fr3.dr hk2)).tr Fr3.lx)⟩)
          · first | exact absurd h91 (by decide) | exact absurd (by decide) h91
        · skip
          exact absurd (zI_n h52) c3
      · first | exact absurd h35 (by decide) | exact absurd (by decide) h35
    · first | exact absurd h19 (by decide) | exact absurd (by decide) h19
theorem sp_X2_readSet (h : LdC M b n s g A) : Spec D 8 yX2_readSet cfX2_readSet [.ref (ad 133)] (wl D ad M) 0 0 (PX (LPC D ad M b n (sSet b n s g A))) := by
  by_cases c1 : isW b n (nxt b n s) 7
  · by_cases c3 : g.testBit 0 = true
    · exact sp_X2_readSetG0 h c1 c3
    · by_cases c4 : knd b n (nxt b n (nxt b n s)) = 2
      · by_cases c5 : 1 ≤ itv b n (nxt b n (nxt b n s)) ∧ itv b n (nxt b n (nxt b n s)) ≤ 999
        · exact sp_X2_readSetO0 h c1 c3 c4 c5
        · exact sp_X2_readSetR0 h c1 c3 c4 c5
      · exact sp_X2_readSetK0 h c1 c3 c4
  · by_cases c2 : isW b n (nxt b n s) 8
    · by_cases c3 : g.testBit 1 = true
      · exact sp_X2_readSetG1 h c1 c2 c3
      · by_cases c4 : knd b n (nxt b n (nxt b n s)) = 2
        · by_cases c5 : 0 ≤ itv b n (nxt b n (nxt b n s)) ∧ itv b n (nxt b n (nxt b n s)) ≤ 5
          · exact sp_X2_readSetO1 h c1 c2 c3 c4 c5
          · exact sp_X2_readSetR1 h c1 c2 c3 c4 c5
        · exact sp_X2_readSetK1 h c1 c2 c3 c4
    · exact sp_X2_readSetN h c1 c2
end CLS