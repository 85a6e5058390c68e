
/-! THE CLASS reads statements -/
section CLS
variable {D : va_G} {ad : Nat → Nat} {M : Mem} {ws : va_W} {A : AS} {b : Nat → Nat} {n s t e p q g : Nat} {adK adV : Nat → Nat}
/-- as FrC, the place of the last error too -/
def Fr3 (M M' : Mem) : Prop := FrC M M' ∧ M' 133 3 = M 133 3
theorem Fr3.rf : Fr3 M M := ⟨FrC.rf, rfl⟩
theorem Fr3.tr {M1 M2 : Mem} (h : Fr3 M M1) (h2 : Fr3 M1 M2) : Fr3 M M2 := ⟨h.1.tr h2.1, h2.2.trans h.2⟩
theorem Fr3.lx : Fr3 M (lxM M b n s) := ⟨FrC.lx, by unfold lxM; rw [upd2_ne (by decide), upd2_ne (by decide), upd2_ne (by decide)]⟩
theorem Fr3.dr {M' : Mem} (h : ∀ c, (c < 14 ∨ 14 + 12 < c) → M' c = M c) : Fr3 M M' := ⟨⟨fun c a _ => h c (by omega), by rw [h 133 (by omega)]⟩, by rw [h 133 (by omega)]⟩
theorem LdC.dr {M' : Mem} {B : AS} (h : LdC M b n s g A) (hB : StoreIs M' 14 B) (hW : WF B) (e : ∀ c, (c < 14 ∨ 14 + 12 < c) → M' c = M c) : LdC M' b n s g B := by
  obtain ⟨h1, h2, hT, hS⟩ := h
  exact ⟨h1, by rw [e 133 (by omega)]; exact h2, fun i hi => by rw [e 134 (by omega)]; exact hT i hi, hS.1, hB, hW⟩
def LPC (D : va_G) (ad : Nat → Nat) (M : Mem) (b : Nat → Nat) (n : Nat) : LR → Int32 → va_W → Prop
  | .inl (c, t) => fun y w => y = nI 0 ∧ ∃ M', w = wl D ad M' ∧ M' 133 4 = c ∧ M' 133 3 = nI t ∧ FrC M M'
  | .inr (s', g', A') => fun y w => y = nI 1 ∧ ∃ M', w = wl D ad M' ∧ LdC M' b n s' g' A' ∧ Fr3 M M'
theorem LPC_fail {r : LR} {M1 : Mem} {c : Int32} (hr : r = .inl (c, t)) (h : FrC M M1) : LPC D ad M b n r (nI 0) (wl D ad (flM M1 c t)) := by
  rw [hr]
  exact ⟨rfl, _, rfl, by unfold flM; rw [upd2_ne (by decide)]; exact upd2_same, upd2_same, h.tr FrC.fl⟩
theorem LPC_ok {r : LR} {M1 : Mem} {s' g' : Nat} {A' : AS} (hr : r = .inr (s', g', A')) (hL : LdC M1 b n s' g' A') (h : Fr3 M M1) : LPC D ad M b n r (nI 1) (wl D ad M1) := by
  rw [hr]
  exact ⟨rfl, _, rfl, hL, h⟩
theorem sp_X2_expectVolumeN (h : LdC M b n s g A) (hc : ¬ isNm b n s) : Spec D 4 yX2_expectVolume cfX2_expectVolume [.ref (ad 133)] (wl D ad M) 0 0 (PI (-1) (wl D ad (flM M (-11) s))) := by
  refine Spec.of (by decide) rfl (Nat.le_of_ble_eq_true rfl) rfl ?_
  refine E_aload0 (q := 1) dX2_expectVolume_0 rfl ?_
  refine C_V0I (q := 4) lk_X2_188 (sp_X2_expectNameF h hc) rc_X2 dX2_expectVolume_1 (by decide) (Nat.le_of_ble_eq_true rfl) rfl ?_
  refine E_if_ne (tgt := 9) (q := 7) dX2_expectVolume_4 (by decide) rfl (fun h4 => ?_) (fun h4 => ?_)
  · first | exact absurd h4 (by decide) | exact absurd (by decide) h4
  · skip
    refine E_iconst (v := -1) (q := 8) dX2_expectVolume_7 (by decide) rfl ?_
    exact E_ireturn rfl rfl dX2_expectVolume_8 (PI_of rfl rfl)
theorem sp_X2_expectVolumeF (h : LdC M b n s g A) (hc : isNm b n s) (hf : fV A (nmc b n s) = -1) : Spec D 4 yX2_expectVolume cfX2_expectVolume [.ref (ad 133)] (wl D ad M) 0 0 (PI (-1) (wl D ad (flM M (-13) s))) := by
  refine Spec.of (by decide) rfl (Nat.le_of_ble_eq_true rfl) rfl ?_
  have hml := nmc_lt hc.1
  refine E_aload0 (q := 1) dX2_expectVolume_0 rfl ?_
  refine C_V0I (q := 4) lk_X2_188 (sp_X2_expectNameT h hc) rc_X2 dX2_expectVolume_1 (by decide) (Nat.le_of_ble_eq_true rfl) rfl ?_
  refine E_if_ne (tgt := 9) (q := 7) dX2_expectVolume_4 (by decide) rfl (fun h4 => ?_) (fun h4 => ?_)
  · skip
    refine E_aload0 (q := 10) dX2_expectVolume_9 rfl ?_
    refine G_X2_draft (q := 13) fl_X2_22 dX2_expectVolume_10 rfl ?_
    refine E_aload0 (q := 14) dX2_expectVolume_13 rfl ?_
    refine C_V0I (q := 17) lk_X2_115 (sp_X2_nameCode h hc.1) rc_X2 dX2_expectVolume_14 (by decide) (Nat.le_of_ble_eq_true rfl) rfl ?_
    refine C_V1I (q := 20) lk_X2_191 (sp_X4_volumeWithName h.2.2.2) (rc_X4 isSt_14) dX2_expectVolume_17 (by decide) (Nat.le_of_ble_eq_true rfl) rfl ?_
    refine V_int hf ?_
    refine E_istore1 (q := 21) dX2_expectVolume_20 rfl rfl ?_
    refine E_iload1 (q := 22) dX2_expectVolume_21 rfl ?_
    refine E_iconst (v := -1) (q := 23) dX2_expectVolume_22 (by decide) rfl ?_
    refine E_icmp_ne (tgt := 33) (q := 26) dX2_expectVolume_23 (by decide) rfl (fun h23 => ?_) (fun h23 => ?_)
    · first | exact absurd h23 (by decide) | exact absurd (by decide) h23
    · skip
      refine E_aload0 (q := 27) dX2_expectVolume_26 rfl ?_
      refine E_bipush (v := -13) (q := 29) dX2_expectVolume_27 (by decide) rfl ?_
      refine C_V1I (q := 32) lk_X2_102 (sp_X2_fail h.2.1.2.1) rc_X2 dX2_expectVolume_29 (by decide) (Nat.le_of_ble_eq_true rfl) rfl ?_
      refine E_pop (q := 33) dX2_expectVolume_32 rfl rfl ?_
      refine E_iload1 (q := 34) dX2_expectVolume_33 rfl ?_
      exact E_ireturn rfl rfl dX2_expectVolume_34 (PI_of rfl rfl)
  · first | exact absurd h4 (by decide) | exact absurd (by decide) h4
theorem sp_X2_expectVolume {v : Nat} (h : LdC M b n s g A) (hc : isNm b n s) (hv : v < 6) (hf : fV A (nmc b n s) = nI v) : Spec D 4 yX2_expectVolume cfX2_expectVolume [.ref (ad 133)] (wl D ad M) 0 0 (PI (nI v) (wl D ad M)) := by
  refine Spec.of (by decide) rfl (Nat.le_of_ble_eq_true rfl) rfl ?_
  have hml := nmc_lt hc.1
  refine E_aload0 (q := 1) dX2_expectVolume_0 rfl ?_
  refine C_V0I (q := 4) lk_X2_188 (sp_X2_expectNameT h hc) rc_X2 dX2_expectVolume_1 (by decide) (Nat.le_of_ble_eq_true rfl) rfl ?_
  refine E_if_ne (tgt := 9) (q := 7) dX2_expectVolume_4 (by decide) rfl (fun h4 => ?_) (fun h4 => ?_)
  · skip
    refine E_aload0 (q := 10) dX2_expectVolume_9 rfl ?_
    refine G_X2_draft (q := 13) fl_X2_22 dX2_expectVolume_10 rfl ?_
    refine E_aload0 (q := 14) dX2_expectVolume_13 rfl ?_
    refine C_V0I (q := 17) lk_X2_115 (sp_X2_nameCode h hc.1) rc_X2 dX2_expectVolume_14 (by decide) (Nat.le_of_ble_eq_true rfl) rfl ?_
    refine C_V1I (q := 20) lk_X2_191 (sp_X4_volumeWithName h.2.2.2) (rc_X4 isSt_14) dX2_expectVolume_17 (by decide) (Nat.le_of_ble_eq_true rfl) rfl ?_
    refine V_int hf ?_
    refine E_istore1 (q := 21) dX2_expectVolume_20 rfl rfl ?_
    refine E_iload1 (q := 22) dX2_expectVolume_21 rfl ?_
    refine E_iconst (v := -1) (q := 23) dX2_expectVolume_22 (by decide) rfl ?_
    refine E_icmp_ne (tgt := 33) (q := 26) dX2_expectVolume_23 (by decide) rfl (fun h23 => ?_) (fun h23 => ?_)
    · skip
      refine E_iload1 (q := 34) dX2_expectVolume_33 rfl ?_
      exact E_ireturn rfl rfl dX2_expectVolume_34 (PI_of rfl rfl)
    · skip
      exact absurd h23 (nI_nm1 (by omega))
  · first | exact absurd h4 (by decide) | exact absurd (by decide) h4
theorem sp_X2_expectSnapshotN (h : LdC M b n s g A) (hc : ¬ isNm b n s) : Spec D 4 yX2_expectSnapshot cfX2_expectSnapshot [.ref (ad 133)] (wl D ad M) 0 0 (PI (-1) (wl D ad (flM M (-11) s))) := by
  refine Spec.of (by decide) rfl (Nat.le_of_ble_eq_true rfl) rfl ?_
  refine E_aload0 (q := 1) dX2_expectSnapshot_0 rfl ?_
  refine C_V0I (q := 4) lk_X2_188 (sp_X2_expectNameF h hc) rc_X2 dX2_expectSnapshot_1 (by decide) (Nat.le_of_ble_eq_true rfl) rfl ?_
  refine E_if_ne (tgt := 9) (q := 7) dX2_expectSnapshot_4 (by decide) rfl (fun h4 => ?_) (fun h4 => ?_)
  · first | exact absurd h4 (by decide) | exact absurd (by decide) h4
  · skip
    refine E_iconst (v := -1) (q := 8) dX2_expectSnapshot_7 (by decide) rfl ?_
    exact E_ireturn rfl rfl dX2_expectSnapshot_8 (PI_of rfl rfl)
theorem sp_X2_expectSnapshotF (h : LdC M b n s g A) (hc : isNm b n s) (hf : fS A (nmc b n s) = -1) : Spec D 4 yX2_expectSnapshot cfX2_expectSnapshot [.ref (ad 133)] (wl D ad M) 0 0 (PI (-1) (wl D ad (flM M (-13) s))) := by
  refine Spec.of (by decide) rfl (Nat.le_of_ble_eq_true rfl) rfl ?_
  have hml := nmc_lt hc.1
  refine E_aload0 (q := 1) dX2_expectSnapshot_0 rfl ?_
  refine C_V0I (q := 4) lk_X2_188 (sp_X2_expectNameT h hc) rc_X2 dX2_expectSnapshot_1 (by decide) (Nat.le_of_ble_eq_true rfl) rfl ?_
  refine E_if_ne (tgt := 9) (q := 7) dX2_expectSnapshot_4 (by decide) rfl (fun h4 => ?_) (fun h4 => ?_)
  · skip
    refine E_aload0 (q := 10) dX2_expectSnapshot_9 rfl ?_
    refine G_X2_draft (q := 13) fl_X2_22 dX2_expectSnapshot_10 rfl ?_
    refine E_aload0 (q := 14) dX2_expectSnapshot_13 rfl ?_
    refine C_V0I (q := 17) lk_X2_115 (sp_X2_nameCode h hc.1) rc_X2 dX2_expectSnapshot_14 (by decide) (Nat.le_of_ble_eq_true rfl) rfl ?_
    refine C_V1I (q := 20) lk_X2_194 (sp_X4_snapshotWithName h.2.2.2) (rc_X4 isSt_14) dX2_expectSnapshot_17 (by decide) (Nat.le_of_ble_eq_true rfl) rfl ?_
    refine V_int hf ?_
    refine E_istore1 (q := 21) dX2_expectSnapshot_20 rfl rfl ?_
    refine E_iload1 (q := 22) dX2_expectSnapshot_21 rfl ?_
    refine E_iconst (v := -1) (q := 23) dX2_expectSnapshot_22 (by decide) rfl ?_
    refine E_icmp_ne (tgt := 33) (q := 26) dX2_expectSnapshot_23 (by decide) rfl (fun h23 => ?_) (fun h23 => ?_)
    · first | exact absurd h23 (by decide) | exact absurd (by decide) h23
    · skip
      refine E_aload0 (q := 27) dX2_expectSnapshot_26 rfl ?_
      refine E_bipush (v := -13) (q := 29) dX2_expectSnapshot_27 (by decide) rfl ?_
      refine C_V1I (q := 32) lk_X2_102 (sp_X2_fail h.2.1.2.1) rc_X2 dX2_expectSnapshot_29 (by decide) (Nat.le_of_ble_eq_true rfl) rfl ?_
      refine E_pop (q := 33) dX2_expectSnapshot_32 rfl rfl ?_
      refine E_iload1 (q := 34) dX2_expectSnapshot_33 rfl ?_
      exact E_ireturn rfl rfl dX2_expectSnapshot_34 (PI_of rfl rfl)
  · first | exact absurd h4 (by decide) | exact absurd (by decide) h4
theorem sp_X2_expectSnapshot {v : Nat} (h : LdC M b n s g A) (hc : isNm b n s) (hv : v < 16) (hf : fS A (nmc b n s) = nI v) : Spec D 4 yX2_expectSnapshot cfX2_expectSnapshot [.ref (ad 133)] (wl D ad M) 0 0 (PI (nI v) (wl D ad M)) := by
  refine Spec.of (by decide) rfl (Nat.le_of_ble_eq_true rfl) rfl ?_
  have hml := nmc_lt hc.1
  refine E_aload0 (q := 1) dX2_expectSnapshot_0 rfl ?_
  refine C_V0I (q := 4) lk_X2_188 (sp_X2_expectNameT h hc) rc_X2 dX2_expectSnapshot_1 (by decide) (Nat.le_of_ble_eq_true rfl) rfl ?_
  refine E_if_ne (tgt := 9) (q := 7) dX2_expectSnapshot_4 (by decide) rfl (fun h4 => ?_) (fun h4 => ?_)
  · skip
    refine E_aload0 (q := 10) dX2_expectSnapshot_9 rfl ?_
    refine G_X2_draft (q := 13) fl_X2_22 dX2_expectSnapshot_10 rfl ?_
    refine E_aload0 (q := 14) dX2_expectSnapshot_13 rfl ?_
    refine C_V0I (q := 17) lk_X2_115 (sp_X2_nameCode h hc.1) rc_X2 dX2_expectSnapshot_14 (by decide) (Nat.le_of_ble_eq_true rfl) rfl ?_
    refine C_V1I (q := 20) lk_X2_194 (sp_X4_snapshotWithName h.2.2.2) (rc_X4 isSt_14) dX2_expectSnapshot_17 (by decide) (Nat.le_of_ble_eq_true rfl) rfl ?_
    refine V_int hf ?_
    refine E_istore1 (q := 21) dX2_expectSnapshot_20 rfl rfl ?_
    refine E_iload1 (q := 22) dX2_expectSnapshot_21 rfl ?_
    refine E_iconst (v := -1) (q := 23) dX2_expectSnapshot_22 (by decide) rfl ?_
    refine E_icmp_ne (tgt := 33) (q := 26) dX2_expectSnapshot_23 (by decide) rfl (fun h23 => ?_) (fun h23 => ?_)
    · skip
      refine E_iload1 (q := 34) dX2_expectSnapshot_33 rfl ?_
      exact E_ireturn rfl rfl dX2_expectSnapshot_34 (PI_of rfl rfl)
    · skip
      exact absurd h23 (nI_nm1 (by omega))
  · first | exact absurd h4 (by decide) | exact absurd (by decide) h4

theorem sp_X2_expectNewVolumeNameN (h : LdC M b n s g A) (hc : ¬ isNm b n s) : Spec D 4 yX2_expectNewVolumeName cfX2_expectNewVolumeName [.ref (ad 133)] (wl D ad M) 0 0 (PI (nI 0) (wl D ad (flM M (-11) s))) := by
  refine Spec.of (by decide) rfl (Nat.le_of_ble_eq_true rfl) rfl ?_
  refine E_aload0 (q := 1) dX2_expectNewVolumeName_0 rfl ?_
  refine C_V0I (q := 4) lk_X2_188 (sp_X2_expectNameF h hc) rc_X2 dX2_expectNewVolumeName_1 (by decide) (Nat.le_of_ble_eq_true rfl) rfl ?_
  refine E_if_ne (tgt := 9) (q := 7) dX2_expectNewVolumeName_4 (by decide) rfl (fun h4 => ?_) (fun h4 => ?_)
  · first | exact absurd h4 (by decide) | exact absurd (by decide) h4
  · skip
    refine E_iconst (v := nI 0) (q := 8) dX2_expectNewVolumeName_7 (by decide) rfl ?_
    exact E_zreturn rfl rfl rfl dX2_expectNewVolumeName_8 (PI_of rfl rfl)
theorem sp_X2_expectNewVolumeNameF (h : LdC M b n s g A) (hc : isNm b n s) (hf : fV A (nmc b n s) ≠ -1) : Spec D 4 yX2_expectNewVolumeName cfX2_expectNewVolumeName [.ref (ad 133)] (wl D ad M) 0 0 (PI (nI 0) (wl D ad (flM M (-14) s))) := by
  refine Spec.of (by decide) rfl (Nat.le_of_ble_eq_true rfl) rfl ?_
  have hml := nmc_lt hc.1
  refine E_aload0 (q := 1) dX2_expectNewVolumeName_0 rfl ?_
  refine C_V0I (q := 4) lk_X2_188 (sp_X2_expectNameT h hc) rc_X2 dX2_expectNewVolumeName_1 (by decide) (Nat.le_of_ble_eq_true rfl) rfl ?_
  refine E_if_ne (tgt := 9) (q := 7) dX2_expectNewVolumeName_4 (by decide) rfl (fun h4 => ?_) (fun h4 => ?_)
  · skip
    refine E_aload0 (q := 10) dX2_expectNewVolumeName_9 rfl ?_
    refine G_X2_draft (q := 13) fl_X2_22 dX2_expectNewVolumeName_10 rfl ?_
    refine E_aload0 (q := 14) dX2_expectNewVolumeName_13 rfl ?_
    refine C_V0I (q := 17) lk_X2_115 (sp_X2_nameCode h hc.1) rc_X2 dX2_expectNewVolumeName_14 (by decide) (Nat.le_of_ble_eq_true rfl) rfl ?_
    refine C_V1I (q := 20) lk_X2_191 (sp_X4_volumeWithName h.2.2.2) (rc_X4 isSt_14) dX2_expectNewVolumeName_17 (by decide) (Nat.le_of_ble_eq_true rfl) rfl ?_
    refine E_iconst (v := -1) (q := 21) dX2_expectNewVolumeName_20 (by decide) rfl ?_
    refine E_icmp_eq (tgt := 33) (q := 24) dX2_expectNewVolumeName_21 (by decide) rfl (fun h21 => ?_) (fun h21 => ?_)
    · skip
      exact absurd h21 hf
    · skip
      refine E_aload0 (q := 25) dX2_expectNewVolumeName_24 rfl ?_
      refine E_bipush (v := -14) (q := 27) dX2_expectNewVolumeName_25 (by decide) rfl ?_
      refine C_V1I (q := 30) lk_X2_102 (sp_X2_fail h.2.1.2.1) rc_X2 dX2_expectNewVolumeName_27 (by decide) (Nat.le_of_ble_eq_true rfl) rfl ?_
      refine E_if_eq (tgt := 37) (q := 33) dX2_expectNewVolumeName_30 (by decide) rfl (fun h30 => ?_) (fun h30 => ?_)
      · skip
        refine E_iconst (v := nI 0) (q := 38) dX2_expectNewVolumeName_37 (by decide) rfl ?_
        exact E_zreturn rfl rfl rfl dX2_expectNewVolumeName_38 (PI_of rfl rfl)
      · first | exact absurd h30 (by decide) | exact absurd (by decide) h30
  · first | exact absurd h4 (by decide) | exact absurd (by decide) h4
theorem sp_X2_expectNewVolumeName (h : LdC M b n s g A) (hc : isNm b n s) (hf : fV A (nmc b n s) = -1) : Spec D 4 yX2_expectNewVolumeName cfX2_expectNewVolumeName [.ref (ad 133)] (wl D ad M) 0 0 (PI (nI 1) (wl D ad M)) := by
  refine Spec.of (by decide) rfl (Nat.le_of_ble_eq_true rfl) rfl ?_
  have hml := nmc_lt hc.1
  refine E_aload0 (q := 1) dX2_expectNewVolumeName_0 rfl ?_
  refine C_V0I (q := 4) lk_X2_188 (sp_X2_expectNameT h hc) rc_X2 dX2_expectNewVolumeName_1 (by decide) (Nat.le_of_ble_eq_true rfl) rfl ?_
  refine E_if_ne (tgt := 9) (q := 7) dX2_expectNewVolumeName_4 (by decide) rfl (fun h4 => ?_) (fun h4 => ?_)
  · skip
    refine E_aload0 (q := 10) dX2_expectNewVolumeName_9 rfl ?_
    refine G_X2_draft (q := 13) fl_X2_22 dX2_expectNewVolumeName_10 rfl ?_
    refine E_aload0 (q := 14) dX2_expectNewVolumeName_13 rfl ?_
    refine C_V0I (q := 17) lk_X2_115 (sp_X2_nameCode h hc.1) rc_X2 dX2_expectNewVolumeName_14 (by decide) (Nat.le_of_ble_eq_true rfl) rfl ?_
    refine C_V1I (q := 20) lk_X2_191 (sp_X4_volumeWithName h.2.2.2) (rc_X4 isSt_14) dX2_expectNewVolumeName_17 (by decide) (Nat.le_of_ble_eq_true rfl) rfl ?_
    refine V_int hf ?_
    refine E_iconst (v := -1) (q := 21) dX2_expectNewVolumeName_20 (by decide) rfl ?_
    refine E_icmp_eq (tgt := 33) (q := 24) dX2_expectNewVolumeName_21 (by decide) rfl (fun h21 => ?_) (fun h21 => ?_)
    · skip
      refine E_iconst (v := nI 1) (q := 34) dX2_expectNewVolumeName_33 (by decide) rfl ?_
      refine E_goto (q := 38) dX2_expectNewVolumeName_34 (by decide) ?_
      exact E_zreturn rfl rfl rfl dX2_expectNewVolumeName_38 (PI_of rfl rfl)
    · first | exact absurd h21 (by decide) | exact absurd (by decide) h21
  · first | exact absurd h4 (by decide) | exact absurd (by decide) h4
theorem sp_X2_expectNewSnapshotNameN (h : LdC M b n s g A) (hc : ¬ isNm b n s) : Spec D 4 yX2_expectNewSnapshotName cfX2_expectNewSnapshotName [.ref (ad 133)] (wl D ad M) 0 0 (PI (nI 0) (wl D ad (flM M (-11) s))) := by
  refine Spec.of (by decide) rfl (Nat.le_of_ble_eq_true rfl) rfl ?_
  refine E_aload0 (q := 1) dX2_expectNewSnapshotName_0 rfl ?_
  refine C_V0I (q := 4) lk_X2_188 (sp_X2_expectNameF h hc) rc_X2 dX2_expectNewSnapshotName_1 (by decide) (Nat.le_of_ble_eq_true rfl) rfl ?_
  refine E_if_ne (tgt := 9) (q := 7) dX2_expectNewSnapshotName_4 (by decide) rfl (fun h4 => ?_) (fun h4 => ?_)
  · first | exact absurd h4 (by decide) | exact absurd (by decide) h4
  · skip
    refine E_iconst (v := nI 0) (q := 8) dX2_expectNewSnapshotName_7 (by decide) rfl ?_
    exact E_zreturn rfl rfl rfl dX2_expectNewSnapshotName_8 (PI_of rfl rfl)
theorem sp_X2_expectNewSnapshotNameF (h : LdC M b n s g A) (hc : isNm b n s) (hf : fS A (nmc b n s) ≠ -1) : Spec D 4 yX2_expectNewSnapshotName cfX2_expectNewSnapshotName [.ref (ad 133)] (wl D ad M) 0 0 (PI (nI 0) (wl D ad (flM M (-14) s))) := by
  refine Spec.of (by decide) rfl (Nat.le_of_ble_eq_true rfl) rfl ?_
  have hml := nmc_lt hc.1
  refine E_aload0 (q := 1) dX2_expectNewSnapshotName_0 rfl ?_
  refine C_V0I (q := 4) lk_X2_188 (sp_X2_expectNameT h hc) rc_X2 dX2_expectNewSnapshotName_1 (by decide) (Nat.le_of_ble_eq_true rfl) rfl ?_
  refine E_if_ne (tgt := 9) (q := 7) dX2_expectNewSnapshotName_4 (by decide) rfl (fun h4 => ?_) (fun h4 => ?_)
  · skip
    refine E_aload0 (q := 10) dX2_expectNewSnapshotName_9 rfl ?_
    refine G_X2_draft (q := 13) fl_X2_22 dX2_expectNewSnapshotName_10 rfl ?_
    refine E_aload0 (q := 14) dX2_expectNewSnapshotName_13 rfl ?_
    refine C_V0I (q := 17) lk_X2_115 (sp_X2_nameCode h hc.1) rc_X2 dX2_expectNewSnapshotName_14 (by decide) (Nat.le_of_ble_eq_true rfl) rfl ?_
    refine C_V1I (q := 20) lk_X2_194 (sp_X4_snapshotWithName h.2.2.2) (rc_X4 isSt_14) dX2_expectNewSnapshotName_17 (by decide) (Nat.le_of_ble_eq_true rfl) rfl ?_
    refine E_iconst (v := -1) (q := 21) dX2_expectNewSnapshotName_20 (by decide) rfl ?_
    refine E_icmp_eq (tgt := 33) (q := 24) dX2_expectNewSnapshotName_21 (by decide) rfl (fun h21 => ?_) (fun h21 => ?_)
    · skip
      exact absurd h21 hf
    · skip
      refine E_aload0 (q := 25) dX2_expectNewSnapshotName_24 rfl ?_
      refine E_bipush (v := -14) (q := 27) dX2_expectNewSnapshotName_25 (by decide) rfl ?_
      refine C_V1I (q := 30) lk_X2_102 (sp_X2_fail h.2.1.2.1) rc_X2 dX2_expectNewSnapshotName_27 (by decide) (Nat.le_of_ble_eq_true rfl) rfl ?_
      refine E_if_eq (tgt := 37) (q := 33) dX2_expectNewSnapshotName_30 (by decide) rfl (fun h30 => ?_) (fun h30 => ?_)
      · skip
        refine E_iconst (v := nI 0) (q := 38) dX2_expectNewSnapshotName_37 (by decide) rfl ?_
        exact E_zreturn rfl rfl rfl dX2_expectNewSnapshotName_38 (PI_of rfl rfl)
      · first | exact absurd h30 (by decide) | exact absurd (by decide) h30
  · first | exact absurd h4 (by decide) | exact absurd (by decide) h4
theorem sp_X2_expectNewSnapshotName (h : LdC M b n s g A) (hc : isNm b n s) (hf : fS A (nmc b n s) = -1) : Spec D 4 yX2_expectNewSnapshotName cfX2_expectNewSnapshotName [.ref (ad 133)] (wl D ad M) 0 0 (PI (nI 1) (wl D ad M)) := by
  refine Spec.of (by decide) rfl (Nat.le_of_ble_eq_true rfl) rfl ?_
  have hml := nmc_lt hc.1
  refine E_aload0 (q := 1) dX2_expectNewSnapshotName_0 rfl ?_
  refine C_V0I (q := 4) lk_X2_188 (sp_X2_expectNameT h hc) rc_X2 dX2_expectNewSnapshotName_1 (by decide) (Nat.le_of_ble_eq_true rfl) rfl ?_
  refine E_if_ne (tgt := 9) (q := 7) dX2_expectNewSnapshotName_4 (by decide) rfl (fun h4 => ?_) (fun h4 => ?_)
  · skip
    refine E_aload0 (q := 10) dX2_expectNewSnapshotName_9 rfl ?_
    refine G_X2_draft (q := 13) fl_X2_22 dX2_expectNewSnapshotName_10 rfl ?_
    refine E_aload0 (q := 14) dX2_expectNewSnapshotName_13 rfl ?_
    refine C_V0I (q := 17) lk_X2_115 (sp_X2_nameCode h hc.1) rc_X2 dX2_expectNewSnapshotName_14 (by decide) (Nat.le_of_ble_eq_true rfl) rfl ?_
    refine C_V1I (q := 20) lk_X2_194 (sp_X4_snapshotWithName h.2.2.2) (rc_X4 isSt_14) dX2_expectNewSnapshotName_17 (by decide) (Nat.le_of_ble_eq_true rfl) rfl ?_
    refine V_int hf ?_
    refine E_iconst (v := -1) (q := 21) dX2_expectNewSnapshotName_20 (by decide) rfl ?_
    refine E_icmp_eq (tgt := 33) (q := 24) dX2_expectNewSnapshotName_21 (by decide) rfl (fun h21 => ?_) (fun h21 => ?_)
    · skip
      refine E_iconst (v := nI 1) (q := 34) dX2_expectNewSnapshotName_33 (by decide) rfl ?_
      refine E_goto (q := 38) dX2_expectNewSnapshotName_34 (by decide) ?_
      exact E_zreturn rfl rfl rfl dX2_expectNewSnapshotName_38 (PI_of rfl rfl)
    · first | exact absurd h21 (by decide) | exact absurd (by decide) h21
  · first | exact absurd h4 (by decide) | exact absurd (by decide) h4
theorem sp_X2_readVolumeC (h : LdC M b n s g A) (hT : aT A + 1 < 2 ^ 24) (c1 : ¬ aV A < 6) : Spec D 8 yX2_readVolume cfX2_readVolume [.ref (ad 133)] (wl D ad M) 0 0 (PX (LPC D ad M b n (sVol b n s g A))) := by
  refine Spec.of (by decide) rfl (Nat.le_of_ble_eq_true rfl) rfl ?_
  have hS := h.2.2.2
  have hv6 := hS.2.2.1.1.2.1
  refine E_aload0 (q := 1) dX2_readVolume_0 rfl ?_
  refine G_X2_draft (q := 4) fl_X2_22 dX2_readVolume_1 rfl ?_
  refine G_X4_volumesCome (q := 7) isSt_14 fl_X2_109 dX2_readVolume_4 rfl ?_
  refine V_int hS.2.1.1.2.1 ?_
  refine E_bipush (v := nI 6) (q := 9) dX2_readVolume_7 (by decide) rfl ?_
  refine E_icmp_ltN (tgt := 19) (q := 12) dX2_readVolume_9 (by decide) rfl (by omega) (by omega) (fun h9 => ?_) (fun h9 => ?_)
  · skip
    exact absurd h9 c1
  · skip
    refine E_aload0 (q := 13) dX2_readVolume_12 rfl ?_
    refine E_bipush (v := -15) (q := 15) dX2_readVolume_13 (by decide) rfl ?_
    refine C_V1I (q := 18) lk_X2_102 (sp_X2_fail h.2.1.2.1) rc_X2 dX2_readVolume_15 (by decide) (Nat.le_of_ble_eq_true rfl) rfl ?_
    exact E_zreturn rfl rfl rfl dX2_readVolume_18 ⟨_, rfl, LPC_fail (by simp only [sVol, ch_f c1]) FrC.rf⟩
theorem sp_X2_readVolumeN (h : LdC M b n s g A) (hT : aT A + 1 < 2 ^ 24) (c1 : aV A < 6) (c2 : ¬ isNm b n (nxt b n s)) : Spec D 8 yX2_readVolume cfX2_readVolume [.ref (ad 133)] (wl D ad M) 0 0 (PX (LPC D ad M b n (sVol b n s g A))) := by
  refine Spec.of (by decide) rfl (Nat.le_of_ble_eq_true rfl) rfl ?_
  have hS := h.2.2.2
  have h1 := h.adv
  refine E_aload0 (q := 1) dX2_readVolume_0 rfl ?_
  refine G_X2_draft (q := 4) fl_X2_22 dX2_readVolume_1 rfl ?_
  refine G_X4_volumesCome (q := 7) isSt_14 fl_X2_109 dX2_readVolume_4 rfl ?_
  refine V_int hS.2.1.1.2.1 ?_
  refine E_bipush (v := nI 6) (q := 9) dX2_readVolume_7 (by decide) rfl ?_
  refine E_icmp_ltN (tgt := 19) (q := 12) dX2_readVolume_9 (by decide) rfl (by omega) (by omega) (fun h9 => ?_) (fun h9 => ?_)
  · skip
    refine E_aload0 (q := 20) dX2_readVolume_19 rfl ?_
    refine C_V0V (q := 23) lk_X2_56 (sp_X2_adv h) rc_X2 dX2_readVolume_20 (by decide) (Nat.le_of_ble_eq_true rfl) rfl ?_
    refine E_aload0 (q := 24) dX2_readVolume_23 rfl ?_
    refine C_V0I (q := 27) lk_X2_112 (sp_X2_expectNewVolumeNameN h1 c2) rc_X2 dX2_readVolume_24 (by decide) (Nat.le_of_ble_eq_true rfl) rfl ?_
    refine E_if_ne (tgt := 32) (q := 30) dX2_readVolume_27 (by decide) rfl (fun h27 => ?_) (fun h27 => ?_)
    · first | exact absurd h27 (by decide) | exact absurd (by decide) h27
    · skip
      refine E_iconst (v := nI 0) (q := 31) dX2_readVolume_30 (by decide) rfl ?_
      exact E_zreturn rfl rfl rfl dX2_readVolume_31 ⟨_, rfl, LPC_fail (by simp only [sVol, nmR, ch_t c1, ch_f c2]) (Fr3.lx).1⟩
  · skip
    exact absurd h9 (by omega)
theorem sp_X2_readVolumeD (h : LdC M b n s g A) (hT : aT A + 1 < 2 ^ 24) (c1 : aV A < 6) (c2 : isNm b n (nxt b n s)) (c3 : ¬ fV A (nmc b n (nxt b n s)) = -1) : Spec D 8 yX2_readVolume cfX2_readVolume [.ref (ad 133)] (wl D ad M) 0 0 (PX (LPC D ad M b n (sVol b n s g A))) := by
  refine Spec.of (by decide) rfl (Nat.le_of_ble_eq_true rfl) rfl ?_
  have hS := h.2.2.2
  have h1 := h.adv
  refine E_aload0 (q := 1) dX2_readVolume_0 rfl ?_
  refine G_X2_draft (q := 4) fl_X2_22 dX2_readVolume_1 rfl ?_
  refine G_X4_volumesCome (q := 7) isSt_14 fl_X2_109 dX2_readVolume_4 rfl ?_
  refine V_int hS.2.1.1.2.1 ?_
  refine E_bipush (v := nI 6) (q := 9) dX2_readVolume_7 (by decide) rfl ?_
  refine E_icmp_ltN (tgt := 19) (q := 12) dX2_readVolume_9 (by decide) rfl (by omega) (by omega) (fun h9 => ?_) (fun h9 => ?_)
  · skip
    refine E_aload0 (q := 20) dX2_readVolume_19 rfl ?_
    refine C_V0V (q := 23) lk_X2_56 (sp_X2_adv h) rc_X2 dX2_readVolume_20 (by decide) (Nat.le_of_ble_eq_true rfl) rfl ?_
    refine E_aload0 (q := 24) dX2_readVolume_23 rfl ?_
    refine C_V0I (q := 27) lk_X2_112 (sp_X2_expectNewVolumeNameF h1 c2 c3) rc_X2 dX2_readVolume_24 (by decide) (Nat.le_of_ble_eq_true rfl) rfl ?_
    refine E_if_ne (tgt := 32) (q := 30) dX2_readVolume_27 (by decide) rfl (fun h27 => ?_) (fun h27 => ?_)
    · first | exact absurd h27 (by decide) | exact absurd (by decide) h27
    · skip
      refine E_iconst (v := nI 0) (q := 31) dX2_readVolume_30 (by decide) rfl ?_
      exact E_zreturn rfl rfl rfl dX2_readVolume_31 ⟨_, rfl, LPC_fail (by simp only [sVol, nmR, ch_t c1, ch_t c2, ch_f c3]) (Fr3.lx).1⟩
  · skip
    exact absurd h9 (by omega)
theorem sp_X2_readVolumeK (h : LdC M b n s g A) (hT : aT A + 1 < 2 ^ 24) (c1 : aV A < 6) (c2 : isNm b n (nxt b n s)) (c3 : fV A (nmc b n (nxt b n s)) = -1) : Spec D 8 yX2_readVolume cfX2_readVolume [.ref (ad 133)] (wl D ad M) 0 0 (PX (LPC D ad M b n (sVol b n s g A))) := by
  refine Spec.of (by decide) rfl (Nat.le_of_ble_eq_true rfl) rfl ?_
  have hS := h.2.2.2
  have h1 := h.adv
  have hml := nmc_lt c2.1
  refine E_aload0 (q := 1) dX2_readVolume_0 rfl ?_
  refine G_X2_draft (q := 4) fl_X2_22 dX2_readVolume_1 rfl ?_
  refine G_X4_volumesCome (q := 7) isSt_14 fl_X2_109 dX2_readVolume_4 rfl ?_
  refine V_int hS.2.1.1.2.1 ?_
  refine E_bipush (v := nI 6) (q := 9) dX2_readVolume_7 (by decide) rfl ?_
  refine E_icmp_ltN (tgt := 19) (q := 12) dX2_readVolume_9 (by decide) rfl (by omega) (by omega) (fun h9 => ?_) (fun h9 => ?_)
  · skip
    refine E_aload0 (q := 20) dX2_readVolume_19 rfl ?_
    refine C_V0V (q := 23) lk_X2_56 (sp_X2_adv h) rc_X2 dX2_readVolume_20 (by decide) (Nat.le_of_ble_eq_true rfl) rfl ?_
    refine E_aload0 (q := 24) dX2_readVolume_23 rfl ?_
    refine C_V0I (q := 27) lk_X2_112 (sp_X2_expectNewVolumeName h1 c2 c3) rc_X2 dX2_readVolume_24 (by decide) (Nat.le_of_ble_eq_true rfl) rfl ?_
    refine E_if_ne (tgt := 32) (q := 30) dX2_readVolume_27 (by decide) rfl (fun h27 => ?_) (fun h27 => ?_)
    · skip
      refine E_aload0 (q := 33) dX2_readVolume_32 rfl ?_
      refine G_X2_draft (q := 36) fl_X2_22 dX2_readVolume_33 rfl ?_
      refine E_aload0 (q := 37) dX2_readVolume_36 rfl ?_
      refine C_V0I (q := 40) lk_X2_115 (sp_X2_nameCode h1 c2.1) rc_X2 dX2_readVolume_37 (by decide) (Nat.le_of_ble_eq_true rfl) rfl ?_
      refine E_iconst (v := -1) (q := 41) dX2_readVolume_40 (by decide) rfl ?_
      refine C_V2X (q := 44) lk_X2_119 (sp_X4_addVolumeN h1.2.2.2 c1) (rc_X4 isSt_14) dX2_readVolume_41 (by decide) (Nat.le_of_ble_eq_true rfl) rfl ?_
      refine kkEI ?_
      rintro M2 ⟨hb2, hk2⟩
      refine E_pop (q := 45) dX2_readVolume_44 rfl rfl ?_
      have h2 := h1.dr hb2 (mkVol_WF hS.2.2 c1 hml (Or.inl rfl)) hk2
      refine E_aload0 (q := 46) dX2_readVolume_45 rfl ?_
      refine C_V0V (q := 49) lk_X2_56 (sp_X2_adv h2) rc_X2 dX2_readVolume_46 (by decide) (Nat.le_of_ble_eq_true rfl) rfl ?_
      refine E_iconst (v := nI 1) (q := 50) dX2_readVolume_49 (by decide) rfl ?_
      exact E_zreturn rfl rfl rfl dX2_readVolume_50 ⟨_, rfl, LPC_ok (by simp only [sVol, nmR, ch_t c1, ch_t c2, ch_t c3]; rfl) h2.adv ((Fr3.lx.tr (Fr3.dr hk2)).tr Fr3.lx)⟩
    · first | exact absurd h27 (by decide) | exact absurd (by decide) h27
  · skip
    exact absurd h9 (by omega)
theorem sp_X2_readVolume (h : LdC M b n s g A) (hT : aT A + 1 < 2 ^ 24) : Spec D 8 yX2_readVolume cfX2_readVolume [.ref (ad 133)] (wl D ad M) 0 0 (PX (LPC D ad M b n (sVol b n s g A))) := by
  by_cases c1 : aV A < 6
  · by_cases c2 : isNm b n (nxt b n s)
    · by_cases c3 : fV A (nmc b n (nxt b n s)) = -1
      · exact sp_X2_readVolumeK h hT c1 c2 c3
      · exact sp_X2_readVolumeD h hT c1 c2 c3
    · exact sp_X2_readVolumeN h hT c1 c2
  · exact sp_X2_readVolumeC h hT c1
theorem sp_X2_readWriteN (h : LdC M b n s g A) (hT : aT A + 1 < 2 ^ 24) (c1 : ¬ isNm b n (nxt b n s)) : Spec D 8 yX2_readWrite cfX2_readWrite [.ref (ad 133)] (wl D ad M) 0 0 (PX (LPC D ad M b n (sWrite b n s g A))) := by
  refine Spec.of (by decide) rfl (Nat.le_of_ble_eq_true rfl) rfl ?_
  have hS := h.2.2.2
  have h1 := h.adv
  refine E_aload0 (q := 1) dX2_readWrite_0 rfl ?_
  refine C_V0V (q := 4) lk_X2_56 (sp_X2_adv h) rc_X2 dX2_readWrite_1 (by decide) (Nat.le_of_ble_eq_true rfl) rfl ?_
  refine E_aload0 (q := 5) dX2_readWrite_4 rfl ?_
  refine C_V0I (q := 8) lk_X2_122 (sp_X2_expectVolumeN h1 c1) rc_X2 dX2_readWrite_5 (by decide) (Nat.le_of_ble_eq_true rfl) rfl ?_
  refine E_istore1 (q := 9) dX2_readWrite_8 rfl rfl ?_
  refine E_iload1 (q := 10) dX2_readWrite_9 rfl ?_
  refine E_iconst (v := -1) (q := 11) dX2_readWrite_10 (by decide) rfl ?_
  refine E_icmp_ne (tgt := 16) (q := 14) dX2_readWrite_11 (by decide) rfl (fun h11 => ?_) (fun h11 => ?_)
  · first | exact absurd h11 (by decide) | exact absurd (by decide) h11
  · skip
    refine E_iconst (v := nI 0) (q := 15) dX2_readWrite_14 (by decide) rfl ?_
    exact E_zreturn rfl rfl rfl dX2_readWrite_15 ⟨_, rfl, LPC_fail (by simp only [sWrite, volR, nmR, ch_f c1]) (Fr3.lx).1⟩
theorem sp_X2_readWriteF (h : LdC M b n s g A) (hT : aT A + 1 < 2 ^ 24) (c1 : isNm b n (nxt b n s)) (c2 : fV A (nmc b n (nxt b n s)) = -1) : Spec D 8 yX2_readWrite cfX2_readWrite [.ref (ad 133)] (wl D ad M) 0 0 (PX (LPC D ad M b n (sWrite b n s g A))) := by
  refine Spec.of (by decide) rfl (Nat.le_of_ble_eq_true rfl) rfl ?_
  have hS := h.2.2.2
  have h1 := h.adv
  refine E_aload0 (q := 1) dX2_readWrite_0 rfl ?_
  refine C_V0V (q := 4) lk_X2_56 (sp_X2_adv h) rc_X2 dX2_readWrite_1 (by decide) (Nat.le_of_ble_eq_true rfl) rfl ?_
  refine E_aload0 (q := 5) dX2_readWrite_4 rfl ?_
  refine C_V0I (q := 8) lk_X2_122 (sp_X2_expectVolumeF h1 c1 c2) rc_X2 dX2_readWrite_5 (by decide) (Nat.le_of_ble_eq_true rfl) rfl ?_
  refine E_istore1 (q := 9) dX2_readWrite_8 rfl rfl ?_
  refine E_iload1 (q := 10) dX2_readWrite_9 rfl ?_
  refine E_iconst (v := -1) (q := 11) dX2_readWrite_10 (by decide) rfl ?_
  refine E_icmp_ne (tgt := 16) (q := 14) dX2_readWrite_11 (by decide) rfl (fun h11 => ?_) (fun h11 => ?_)
  · first | exact absurd h11 (by decide) | exact absurd (by decide) h11
  · skip
    refine E_iconst (v := nI 0) (q := 15) dX2_readWrite_14 (by decide) rfl ?_
    exact E_zreturn rfl rfl rfl dX2_readWrite_15 ⟨_, rfl, LPC_fail (by simp only [sWrite, volR, nmR, ch_t c1, ch_t c2]) (Fr3.lx).1⟩
theorem sp_X2_readWriteK1 (h : LdC M b n s g A) (hT : aT A + 1 < 2 ^ 24) (c1 : isNm b n (nxt b n s)) {v : Nat} (hv : v < 6) (hvt : th A (16 + v)) (hf : fV A (nmc b n (nxt b n s)) = nI v) (hcl : (fV A (nmc b n (nxt b n s))).toNatClampNeg = v) (c2 : ¬ fV A (nmc b n (nxt b n s)) = -1) (c3 : ¬ knd b n (nxt b n (nxt b n s)) = 2) : Spec D 8 yX2_readWrite cfX2_readWrite [.ref (ad 133)] (wl D ad M) 0 0 (PX (LPC D ad M b n (sWrite b n s g A))) := by
  refine Spec.of (by decide) rfl (Nat.le_of_ble_eq_true rfl) rfl ?_
  have hS := h.2.2.2
  have h1 := h.adv
  have h2 := h1.adv
  refine E_aload0 (q := 1) dX2_readWrite_0 rfl ?_
  refine C_V0V (q := 4) lk_X2_56 (sp_X2_adv h) rc_X2 dX2_readWrite_1 (by decide) (Nat.le_of_ble_eq_true rfl) rfl ?_
  refine E_aload0 (q := 5) dX2_readWrite_4 rfl ?_
  refine C_V0I (q := 8) lk_X2_122 (sp_X2_expectVolume h1 c1 hv hf) rc_X2 dX2_readWrite_5 (by decide) (Nat.le_of_ble_eq_true rfl) rfl ?_
  refine E_istore1 (q := 9) dX2_readWrite_8 rfl rfl ?_
  refine E_iload1 (q := 10) dX2_readWrite_9 rfl ?_
  refine E_iconst (v := -1) (q := 11) dX2_readWrite_10 (by decide) rfl ?_
  refine E_icmp_ne (tgt := 16) (q := 14) dX2_readWrite_11 (by decide) rfl (fun h11 => ?_) (fun h11 => ?_)
  · skip
    refine E_aload0 (q := 17) dX2_readWrite_16 rfl ?_
    refine C_V0V (q := 20) lk_X2_56 (sp_X2_adv h1) rc_X2 dX2_readWrite_17 (by decide) (Nat.le_of_ble_eq_true rfl) rfl ?_
    refine E_aload0 (q := 21) dX2_readWrite_20 rfl ?_
    refine E_iconst (v := nI 0) (q := 22) dX2_readWrite_21 (by decide) rfl ?_
    refine E_bipush (v := nI 11) (q := 24) dX2_readWrite_22 (by decide) rfl ?_
    refine C_V2I (q := 27) lk_X2_125 (sp_X2_expectIntegerK h2 c3) rc_X2 dX2_readWrite_24 (by decide) (Nat.le_of_ble_eq_true rfl) rfl ?_
    refine E_if_ne (tgt := 32) (q := 30) dX2_readWrite_27 (by decide) rfl (fun h27 => ?_) (fun h27 => ?_)
    · first | exact absurd h27 (by decide) | exact absurd (by decide) h27
    · skip
      refine E_iconst (v := nI 0) (q := 31) dX2_readWrite_30 (by decide) rfl ?_
      exact E_zreturn rfl rfl rfl dX2_readWrite_31 ⟨_, rfl, LPC_fail (by simp only [sWrite, volR, nmR, intR, ch_t c1, ch_f c2, ch_f c3]) (Fr3.lx.tr Fr3.lx).1⟩
  · skip
    exact absurd h11 (nI_nm1 (by omega))
theorem sp_X2_readWriteR1 (h : LdC M b n s g A) (hT : aT A + 1 < 2 ^ 24) (c1 : isNm b n (nxt b n s)) {v : Nat} (hv : v < 6) (hvt : th A (16 + v)) (hf : fV A (nmc b n (nxt b n s)) = nI v) (hcl : (fV A (nmc b n (nxt b n s))).toNatClampNeg = v) (c2 : ¬ fV A (nmc b n (nxt b n s)) = -1) (c3 : knd b n (nxt b n (nxt b n s)) = 2) (c4 : ¬ (0 ≤ itv b n (nxt b n (nxt b n s)) ∧ itv b n (nxt b n (nxt b n s)) ≤ 11)) : Spec D 8 yX2_readWrite cfX2_readWrite [.ref (ad 133)] (wl D ad M) 0 0 (PX (LPC D ad M b n (sWrite b n s g A))) := by
  refine Spec.of (by decide) rfl (Nat.le_of_ble_eq_true rfl) rfl ?_
  have hS := h.2.2.2
  have h1 := h.adv
  have h2 := h1.adv
  refine E_aload0 (q := 1) dX2_readWrite_0 rfl ?_
  refine C_V0V (q := 4) lk_X2_56 (sp_X2_adv h) rc_X2 dX2_readWrite_1 (by decide) (Nat.le_of_ble_eq_true rfl) rfl ?_
  refine E_aload0 (q := 5) dX2_readWrite_4 rfl ?_
  refine C_V0I (q := 8) lk_X2_122 (sp_X2_expectVolume h1 c1 hv hf) rc_X2 dX2_readWrite_5 (by decide) (Nat.le_of_ble_eq_true rfl) rfl ?_
  refine E_istore1 (q := 9) dX2_readWrite_8 rfl rfl ?_
  refine E_iload1 (q := 10) dX2_readWrite_9 rfl ?_
  refine E_iconst (v := -1) (q := 11) dX2_readWrite_10 (by decide) rfl ?_
  refine E_icmp_ne (tgt := 16) (q := 14) dX2_readWrite_11 (by decide) rfl (fun h11 => ?_) (fun h11 => ?_)
  · skip
    refine E_aload0 (q := 17) dX2_readWrite_16 rfl ?_
    refine C_V0V (q := 20) lk_X2_56 (sp_X2_adv h1) rc_X2 dX2_readWrite_17 (by decide) (Nat.le_of_ble_eq_true rfl) rfl ?_
    refine E_aload0 (q := 21) dX2_readWrite_20 rfl ?_
    refine E_iconst (v := nI 0) (q := 22) dX2_readWrite_21 (by decide) rfl ?_
    refine E_bipush (v := nI 11) (q := 24) dX2_readWrite_22 (by decide) rfl ?_
    refine C_V2I (q := 27) lk_X2_125 (sp_X2_expectIntegerR h2 c3 (by decide) (by decide) c4) rc_X2 dX2_readWrite_24 (by decide) (Nat.le_of_ble_eq_true rfl) rfl ?_
    refine E_if_ne (tgt := 32) (q := 30) dX2_readWrite_27 (by decide) rfl (fun h27 => ?_) (fun h27 => ?_)
    · first | exact absurd h27 (by decide) | exact absurd (by decide) h27
    · skip
      refine E_iconst (v := nI 0) (q := 31) dX2_readWrite_30 (by decide) rfl ?_
      exact E_zreturn rfl rfl rfl dX2_readWrite_31 ⟨_, rfl, LPC_fail (by simp only [sWrite, volR, nmR, intR, ch_t c1, ch_f c2, ch_t c3, ch_f c4]) (Fr3.lx.tr Fr3.lx).1⟩
  · skip
    exact absurd h11 (nI_nm1 (by omega))
theorem sp_X2_readWriteK2 (h : LdC M b n s g A) (hT : aT A + 1 < 2 ^ 24) (c1 : isNm b n (nxt b n s)) {v : Nat} (hv : v < 6) (hvt : th A (16 + v)) (hf : fV A (nmc b n (nxt b n s)) = nI v) (hcl : (fV A (nmc b n (nxt b n s))).toNatClampNeg = v) (c2 : ¬ fV A (nmc b n (nxt b n s)) = -1) (c3 : knd b n (nxt b n (nxt b n s)) = 2) (c4 : 0 ≤ itv b n (nxt b n (nxt b n s)) ∧ itv b n (nxt b n (nxt b n s)) ≤ 11) (c5 : ¬ knd b n (nxt b n (nxt b n (nxt b n s))) = 2) : Spec D 8 yX2_readWrite cfX2_readWrite [.ref (ad 133)] (wl D ad M) 0 0 (PX (LPC D ad M b n (sWrite b n s g A))) := by
  refine Spec.of (by decide) rfl (Nat.le_of_ble_eq_true rfl) rfl ?_
  have hS := h.2.2.2
  have h1 := h.adv
  have h2 := h1.adv
  have h3 := h2.adv
  refine E_aload0 (q := 1) dX2_readWrite_0 rfl ?_
  refine C_V0V (q := 4) lk_X2_56 (sp_X2_adv h) rc_X2 dX2_readWrite_1 (by decide) (Nat.le_of_ble_eq_true rfl) rfl ?_
  refine E_aload0 (q := 5) dX2_readWrite_4 rfl ?_
  refine C_V0I (q := 8) lk_X2_122 (sp_X2_expectVolume h1 c1 hv hf) rc_X2 dX2_readWrite_5 (by decide) (Nat.le_of_ble_eq_true rfl) rfl ?_
  refine E_istore1 (q := 9) dX2_readWrite_8 rfl rfl ?_
  refine E_iload1 (q := 10) dX2_readWrite_9 rfl ?_
  refine E_iconst (v := -1) (q := 11) dX2_readWrite_10 (by decide) rfl ?_
  refine E_icmp_ne (tgt := 16) (q := 14) dX2_readWrite_11 (by decide) rfl (fun h11 => ?_) (fun h11 => ?_)
  · skip
    refine E_aload0 (q := 17) dX2_readWrite_16 rfl ?_
    refine C_V0V (q := 20) lk_X2_56 (sp_X2_adv h1) rc_X2 dX2_readWrite_17 (by decide) (Nat.le_of_ble_eq_true rfl) rfl ?_
    refine E_aload0 (q := 21) dX2_readWrite_20 rfl ?_
    refine E_iconst (v := nI 0) (q := 22) dX2_readWrite_21 (by decide) rfl ?_
    refine E_bipush (v := nI 11) (q := 24) dX2_readWrite_22 (by decide) rfl ?_
    refine C_V2I (q := 27) lk_X2_125 (sp_X2_expectInteger h2 c3 (by decide) (by decide) c4) rc_X2 dX2_readWrite_24 (by decide) (Nat.le_of_ble_eq_true rfl) rfl ?_
    refine E_if_ne (tgt := 32) (q := 30) dX2_readWrite_27 (by decide) rfl (fun h27 => ?_) (fun h27 => ?_)
    · skip
      refine E_aload0 (q := 33) dX2_readWrite_32 rfl ?_
      refine C_V0I (q := 36) lk_X2_129 (sp_X2_integerValue h2 c3) rc_X2 dX2_readWrite_33 (by decide) (Nat.le_of_ble_eq_true rfl) rfl ?_
      refine E_istore2 (q := 37) dX2_readWrite_36 rfl rfl ?_
      refine E_aload0 (q := 38) dX2_readWrite_37 rfl ?_
      refine C_V0V (q := 41) lk_X2_56 (sp_X2_adv h2) rc_X2 dX2_readWrite_38 (by decide) (Nat.le_of_ble_eq_true rfl) rfl ?_
      refine E_aload0 (q := 42) dX2_readWrite_41 rfl ?_
      refine E_iconst (v := nI 1) (q := 43) dX2_readWrite_42 (by decide) rfl ?_
      refine E_bipush (v := nI 9) (q := 45) dX2_readWrite_43 (by decide) rfl ?_
      refine C_V2I (q := 48) lk_X2_125 (sp_X2_expectIntegerK h3 c5) rc_X2 dX2_readWrite_45 (by decide) (Nat.le_of_ble_eq_true rfl) rfl ?_
      refine E_if_ne (tgt := 53) (q := 51) dX2_readWrite_48 (by decide) rfl (fun h48 => ?_) (fun h48 => ?_)
      · first | exact absurd h48 (by decide) | exact absurd (by decide) h48
      · skip
        refine E_iconst (v := nI 0) (q := 52) dX2_readWrite_51 (by decide) rfl ?_
        exact E_zreturn rfl rfl rfl dX2_readWrite_52 ⟨_, rfl, LPC_fail (by simp only [sWrite, volR, nmR, intR, ch_t c1, ch_f c2, ch_t c3, ch_t c4, ch_f c5]) ((Fr3.lx.tr Fr3.lx).tr Fr3.lx).1⟩
    · first | exact absurd h27 (by decide) | exact absurd (by decide) h27
  · skip
    exact absurd h11 (nI_nm1 (by omega))
theorem sp_X2_readWriteR2 (h : LdC M b n s g A) (hT : aT A + 1 < 2 ^ 24) (c1 : isNm b n (nxt b n s)) {v : Nat} (hv : v < 6) (hvt : th A (16 + v)) (hf : fV A (nmc b n (nxt b n s)) = nI v) (hcl : (fV A (nmc b n (nxt b n s))).toNatClampNeg = v) (c2 : ¬ fV A (nmc b n (nxt b n s)) = -1) (c3 : knd b n (nxt b n (nxt b n s)) = 2) (c4 : 0 ≤ itv b n (nxt b n (nxt b n s)) ∧ itv b n (nxt b n (nxt b n s)) ≤ 11) (c5 : knd b n (nxt b n (nxt b n (nxt b n s))) = 2) (c6 : ¬ (1 ≤ itv b n (nxt b n (nxt b n (nxt b n s))) ∧ itv b n (nxt b n (nxt b n (nxt b n s))) ≤ 9)) : Spec D 8 yX2_readWrite cfX2_readWrite [.ref (ad 133)] (wl D ad M) 0 0 (PX (LPC D ad M b n (sWrite b n s g A))) := by
  refine Spec.of (by decide) rfl (Nat.le_of_ble_eq_true rfl) rfl ?_
  have hS := h.2.2.2
  have h1 := h.adv
  have h2 := h1.adv
  have h3 := h2.adv
  refine E_aload0 (q := 1) dX2_readWrite_0 rfl ?_
  refine C_V0V (q := 4) lk_X2_56 (sp_X2_adv h) rc_X2 dX2_readWrite_1 (by decide) (Nat.le_of_ble_eq_true rfl) rfl ?_
  refine E_aload0 (q := 5) dX2_readWrite_4 rfl ?_
  refine C_V0I (q := 8) lk_X2_122 (sp_X2_expectVolume h1 c1 hv hf) rc_X2 dX2_readWrite_5 (by decide) (Nat.le_of_ble_eq_true rfl) rfl ?_
  refine E_istore1 (q := 9) dX2_readWrite_8 rfl rfl ?_
  refine E_iload1 (q := 10) dX2_readWrite_9 rfl ?_
  refine E_iconst (v := -1) (q := 11) dX2_readWrite_10 (by decide) rfl ?_
  refine E_icmp_ne (tgt := 16) (q := 14) dX2_readWrite_11 (by decide) rfl (fun h11 => ?_) (fun h11 => ?_)
  · skip
    refine E_aload0 (q := 17) dX2_readWrite_16 rfl ?_
    refine C_V0V (q := 20) lk_X2_56 (sp_X2_adv h1) rc_X2 dX2_readWrite_17 (by decide) (Nat.le_of_ble_eq_true rfl) rfl ?_
    refine E_aload0 (q := 21) dX2_readWrite_20 rfl ?_
    refine E_iconst (v := nI 0) (q := 22) dX2_readWrite_21 (by decide) rfl ?_
    refine E_bipush (v := nI 11) (q := 24) dX2_readWrite_22 (by decide) rfl ?_
    refine C_V2I (q := 27) lk_X2_125 (sp_X2_expectInteger h2 c3 (by decide) (by decide) c4) rc_X2 dX2_readWrite_24 (by decide) (Nat.le_of_ble_eq_true rfl) rfl ?_
    refine E_if_ne (tgt := 32) (q := 30) dX2_readWrite_27 (by decide) rfl (fun h27 => ?_) (fun h27 => ?_)
    · skip
      refine E_aload0 (q := 33) dX2_readWrite_32 rfl ?_
      refine C_V0I (q := 36) lk_X2_129 (sp_X2_integerValue h2 c3) rc_X2 dX2_readWrite_33 (by decide) (Nat.le_of_ble_eq_true rfl) rfl ?_
      refine E_istore2 (q := 37) dX2_readWrite_36 rfl rfl ?_
      refine E_aload0 (q := 38) dX2_readWrite_37 rfl ?_
      refine C_V0V (q := 41) lk_X2_56 (sp_X2_adv h2) rc_X2 dX2_readWrite_38 (by decide) (Nat.le_of_ble_eq_true rfl) rfl ?_
      refine E_aload0 (q := 42) dX2_readWrite_41 rfl ?_
      refine E_iconst (v := nI 1) (q := 43) dX2_readWrite_42 (by decide) rfl ?_
      refine E_bipush (v := nI 9) (q := 45) dX2_readWrite_43 (by decide) rfl ?_
      refine C_V2I (q := 48) lk_X2_125 (sp_X2_expectIntegerR h3 c5 (by decide) (by decide) c6) rc_X2 dX2_readWrite_45 (by decide) (Nat.le_of_ble_eq_true rfl) rfl ?_
      refine E_if_ne (tgt := 53) (q := 51) dX2_readWrite_48 (by decide) rfl (fun h48 => ?_) (fun h48 => ?_)
      · first | exact absurd h48 (by decide) | exact absurd (by decide) h48
      · skip
        refine E_iconst (v := nI 0) (q := 52) dX2_readWrite_51 (by decide) rfl ?_
        exact E_zreturn rfl rfl rfl dX2_readWrite_52 ⟨_, rfl, LPC_fail (by simp only [sWrite, volR, nmR, intR, ch_t c1, ch_f c2, ch_t c3, ch_t c4, ch_t c5, ch_f c6]) ((Fr3.lx.tr Fr3.lx).tr Fr3.lx).1⟩
    · first | exact absurd h27 (by decide) | exact absurd (by decide) h27
  · skip
    exact absurd h11 (nI_nm1 (by omega))
theorem sp_X2_readWriteF2 (h : LdC M b n s g A) (hT : aT A + 1 < 2 ^ 24) (c1 : isNm b n (nxt b n s)) {v : Nat} (hv : v < 6) (hvt : th A (16 + v)) (hf : fV A (nmc b n (nxt b n s)) = nI v) (hcl : (fV A (nmc b n (nxt b n s))).toNatClampNeg = v) (c2 : ¬ fV A (nmc b n (nxt b n s)) = -1) (c3 : knd b n (nxt b n (nxt b n s)) = 2) (c4 : 0 ≤ itv b n (nxt b n (nxt b n s)) ∧ itv b n (nxt b n (nxt b n s)) ≤ 11) (c5 : knd b n (nxt b n (nxt b n (nxt b n s))) = 2) (c6 : 1 ≤ itv b n (nxt b n (nxt b n (nxt b n s))) ∧ itv b n (nxt b n (nxt b n (nxt b n s))) ≤ 9) (c7 : ¬ wrI A v (itv b n (nxt b n (nxt b n s))) (itv b n (nxt b n (nxt b n (nxt b n s)))) = 0) : Spec D 8 yX2_readWrite cfX2_readWrite [.ref (ad 133)] (wl D ad M) 0 0 (PX (LPC D ad M b n (sWrite b n s g A))) := by
  refine Spec.of (by decide) rfl (Nat.le_of_ble_eq_true rfl) rfl ?_
  have hS := h.2.2.2
  have h1 := h.adv
  have h2 := h1.adv
  have h3 := h2.adv
  have hww : wwI A v (itv b n (nxt b n (nxt b n s))) (itv b n (nxt b n (nxt b n (nxt b n s)))) = wrI A v (itv b n (nxt b n (nxt b n s))) (itv b n (nxt b n (nxt b n (nxt b n s)))) := if_neg c7
  have hlt : wrI A v (itv b n (nxt b n (nxt b n s))) (itv b n (nxt b n (nxt b n (nxt b n s)))) < 0 := by
    rcases wrI_cases (A := A) (v := v) (a := itv b n (nxt b n (nxt b n s))) (z := itv b n (nxt b n (nxt b n (nxt b n s)))) with e | e | e
    · rw [e]; decide
    · rw [e]; decide
    · exact absurd e c7
  refine E_aload0 (q := 1) dX2_readWrite_0 rfl ?_
  refine C_V0V (q := 4) lk_X2_56 (sp_X2_adv h) rc_X2 dX2_readWrite_1 (by decide) (Nat.le_of_ble_eq_true rfl) rfl ?_
  refine E_aload0 (q := 5) dX2_readWrite_4 rfl ?_
  refine C_V0I (q := 8) lk_X2_122 (sp_X2_expectVolume h1 c1 hv hf) rc_X2 dX2_readWrite_5 (by decide) (Nat.le_of_ble_eq_true rfl) rfl ?_
  refine E_istore1 (q := 9) dX2_readWrite_8 rfl rfl ?_
  refine E_iload1 (q := 10) dX2_readWrite_9 rfl ?_
  refine E_iconst (v := -1) (q := 11) dX2_readWrite_10 (by decide) rfl ?_
  refine E_icmp_ne (tgt := 16) (q := 14) dX2_readWrite_11 (by decide) rfl (fun h11 => ?_) (fun h11 => ?_)
  · skip
    refine E_aload0 (q := 17) dX2_readWrite_16 rfl ?_
    refine C_V0V (q := 20) lk_X2_56 (sp_X2_adv h1) rc_X2 dX2_readWrite_17 (by decide) (Nat.le_of_ble_eq_true rfl) rfl ?_
    refine E_aload0 (q := 21) dX2_readWrite_20 rfl ?_
    refine E_iconst (v := nI 0) (q := 22) dX2_readWrite_21 (by decide) rfl ?_
    refine E_bipush (v := nI 11) (q := 24) dX2_readWrite_22 (by decide) rfl ?_
    refine C_V2I (q := 27) lk_X2_125 (sp_X2_expectInteger h2 c3 (by decide) (by decide) c4) rc_X2 dX2_readWrite_24 (by decide) (Nat.le_of_ble_eq_true rfl) rfl ?_
    refine E_if_ne (tgt := 32) (q := 30) dX2_readWrite_27 (by decide) rfl (fun h27 => ?_) (fun h27 => ?_)
    · skip
      refine E_aload0 (q := 33) dX2_readWrite_32 rfl ?_
      refine C_V0I (q := 36) lk_X2_129 (sp_X2_integerValue h2 c3) rc_X2 dX2_readWrite_33 (by decide) (Nat.le_of_ble_eq_true rfl) rfl ?_
      refine E_istore2 (q := 37) dX2_readWrite_36 rfl rfl ?_
      refine E_aload0 (q := 38) dX2_readWrite_37 rfl ?_
      refine C_V0V (q := 41) lk_X2_56 (sp_X2_adv h2) rc_X2 dX2_readWrite_38 (by decide) (Nat.le_of_ble_eq_true rfl) rfl ?_
      refine E_aload0 (q := 42) dX2_readWrite_41 rfl ?_
      refine E_iconst (v := nI 1) (q := 43) dX2_readWrite_42 (by decide) rfl ?_
      refine E_bipush (v := nI 9) (q := 45) dX2_readWrite_43 (by decide) rfl ?_
      refine C_V2I (q := 48) lk_X2_125 (sp_X2_expectInteger h3 c5 (by decide) (by decide) c6) rc_X2 dX2_readWrite_45 (by decide) (Nat.le_of_ble_eq_true rfl) rfl ?_
      refine E_if_ne (tgt := 53) (q := 51) dX2_readWrite_48 (by decide) rfl (fun h48 => ?_) (fun h48 => ?_)
      · skip
        refine E_aload0 (q := 54) dX2_readWrite_53 rfl ?_
        refine C_V0I (q := 57) lk_X2_129 (sp_X2_integerValue h3 c5) rc_X2 dX2_readWrite_54 (by decide) (Nat.le_of_ble_eq_true rfl) rfl ?_
        refine E_istore3 (q := 58) dX2_readWrite_57 rfl rfl ?_
        refine E_aload0 (q := 59) dX2_readWrite_58 rfl ?_
        refine G_X2_draft (q := 62) fl_X2_22 dX2_readWrite_59 rfl ?_
        refine E_iload1 (q := 63) dX2_readWrite_62 rfl ?_
        refine E_iload2 (q := 64) dX2_readWrite_63 rfl ?_
        refine E_iload3 (q := 65) dX2_readWrite_64 rfl ?_
        refine C_V3I (q := 68) lk_X2_132 (sp_X4_writeAnswer h3.2.2.2 hv hvt (show itv b n (nxt b n (nxt b n s)) < 12 by omega) c6) (rc_X4 isSt_14) dX2_readWrite_65 (by decide) (Nat.le_of_ble_eq_true rfl) rfl ?_
        refine V_int hww ?_
        refine E_if_ge (tgt := 78) (q := 71) dX2_readWrite_68 (by decide) rfl (fun h68 => ?_) (fun h68 => ?_)
        · skip
          exact absurd hlt (Int32.not_lt.mpr h68)
        · skip
          refine E_aload0 (q := 72) dX2_readWrite_71 rfl ?_
          refine E_bipush (v := -16) (q := 74) dX2_readWrite_72 (by decide) rfl ?_
          refine C_V1I (q := 77) lk_X2_102 (sp_X2_fail h3.2.1.2.1) rc_X2 dX2_readWrite_74 (by decide) (Nat.le_of_ble_eq_true rfl) rfl ?_
          exact E_zreturn rfl rfl rfl dX2_readWrite_77 ⟨_, rfl, LPC_fail (by simp only [sWrite, volR, nmR, intR, ch_t c1, ch_f c2, ch_t c3, ch_t c4, ch_t c5, ch_t c6, hcl, ch_f c7]) ((Fr3.lx.tr Fr3.lx).tr Fr3.lx).1⟩
      · first | exact absurd h48 (by decide) | exact absurd (by decide) h48
    · first | exact absurd h27 (by decide) | exact absurd (by decide) h27
  · skip
    exact absurd h11 (nI_nm1 (by omega))
theorem sp_X2_readWriteK (h : LdC M b n s g A) (hT : aT A + 1 < 2 ^ 24) (c1 : isNm b n (nxt b n s)) {v : Nat} (hv : v < 6) (hvt : th A (16 + v)) (hf : fV A (nmc b n (nxt b n s)) = nI v) (hcl : (fV A (nmc b n (nxt b n s))).toNatClampNeg = v) (c2 : ¬ fV A (nmc b n (nxt b n s)) = -1) (c3 : knd b n (nxt b n (nxt b n s)) = 2) (c4 : 0 ≤ itv b n (nxt b n (nxt b n s)) ∧ itv b n (nxt b n (nxt b n s)) ≤ 11) (c5 : knd b n (nxt b n (nxt b n (nxt b n s))) = 2) (c6 : 1 ≤ itv b n (nxt b n (nxt b n (nxt b n s))) ∧ itv b n (nxt b n (nxt b n (nxt b n s))) ≤ 9) (c7 : wrI A v (itv b n (nxt b n (nxt b n s))) (itv b n (nxt b n (nxt b n (nxt b n s)))) = 0) : Spec D 8 yX2_readWrite cfX2_readWrite [.ref (ad 133)] (wl D ad M) 0 0 (PX (LPC D ad M b n (sWrite b n s g A))) := by
  refine Spec.of (by decide) rfl (Nat.le_of_ble_eq_true rfl) rfl ?_
  have hS := h.2.2.2
  have h1 := h.adv
  have h2 := h1.adv
  have h3 := h2.adv
  have hww : wwI A v (itv b n (nxt b n (nxt b n s))) (itv b n (nxt b n (nxt b n (nxt b n s)))) = nI (aT A + 1) := if_pos c7
  refine E_aload0 (q := 1) dX2_readWrite_0 rfl ?_
  refine C_V0V (q := 4) lk_X2_56 (sp_X2_adv h) rc_X2 dX2_readWrite_1 (by decide) (Nat.le_of_ble_eq_true rfl) rfl ?_
  refine E_aload0 (q := 5) dX2_readWrite_4 rfl ?_
  refine C_V0I (q := 8) lk_X2_122 (sp_X2_expectVolume h1 c1 hv hf) rc_X2 dX2_readWrite_5 (by decide) (Nat.le_of_ble_eq_true rfl) rfl ?_
  refine E_istore1 (q := 9) dX2_readWrite_8 rfl rfl ?_
  refine E_iload1 (q := 10) dX2_readWrite_9 rfl ?_
  refine E_iconst (v := -1) (q := 11) dX2_readWrite_10 (by decide) rfl ?_
  refine E_icmp_ne (tgt := 16) (q := 14) dX2_readWrite_11 (by decide) rfl (fun h11 => ?_) (fun h11 => ?_)
  · skip
    refine E_aload0 (q := 17) dX2_readWrite_16 rfl ?_
    refine C_V0V (q := 20) lk_X2_56 (sp_X2_adv h1) rc_X2 dX2_readWrite_17 (by decide) (Nat.le_of_ble_eq_true rfl) rfl ?_
    refine E_aload0 (q := 21) dX2_readWrite_20 rfl ?_
    refine E_iconst (v := nI 0) (q := 22) dX2_readWrite_21 (by decide) rfl ?_
    refine E_bipush (v := nI 11) (q := 24) dX2_readWrite_22 (by decide) rfl ?_
    refine C_V2I (q := 27) lk_X2_125 (sp_X2_expectInteger h2 c3 (by decide) (by decide) c4) rc_X2 dX2_readWrite_24 (by decide) (Nat.le_of_ble_eq_true rfl) rfl ?_
    refine E_if_ne (tgt := 32) (q := 30) dX2_readWrite_27 (by decide) rfl (fun h27 => ?_) (fun h27 => ?_)
    · skip
      refine E_aload0 (q := 33) dX2_readWrite_32 rfl ?_
      refine C_V0I (q := 36) lk_X2_129 (sp_X2_integerValue h2 c3) rc_X2 dX2_readWrite_33 (by decide) (Nat.le_of_ble_eq_true rfl) rfl ?_
      refine E_istore2 (q := 37) dX2_readWrite_36 rfl rfl ?_
      refine E_aload0 (q := 38) dX2_readWrite_37 rfl ?_
      refine C_V0V (q := 41) lk_X2_56 (sp_X2_adv h2) rc_X2 dX2_readWrite_38 (by decide) (Nat.le_of_ble_eq_true rfl) rfl ?_
      refine E_aload0 (q := 42) dX2_readWrite_41 rfl ?_
      refine E_iconst (v := nI 1) (q := 43) dX2_readWrite_42 (by decide) rfl ?_
      refine E_bipush (v := nI 9) (q := 45) dX2_readWrite_43 (by decide) rfl ?_
      refine C_V2I (q := 48) lk_X2_125 (sp_X2_expectInteger h3 c5 (by decide) (by decide) c6) rc_X2 dX2_readWrite_45 (by decide) (Nat.le_of_ble_eq_true rfl) rfl ?_
      refine E_if_ne (tgt := 53) (q := 51) dX2_readWrite_48 (by decide) rfl (fun h48 => ?_) (fun h48 => ?_)
      · skip
        refine E_aload0 (q := 54) dX2_readWrite_53 rfl ?_
        refine C_V0I (q := 57) lk_X2_129 (sp_X2_integerValue h3 c5) rc_X2 dX2_readWrite_54 (by decide) (Nat.le_of_ble_eq_true rfl) rfl ?_
        refine E_istore3 (q := 58) dX2_readWrite_57 rfl rfl ?_
        refine E_aload0 (q := 59) dX2_readWrite_58 rfl ?_
        refine G_X2_draft (q := 62) fl_X2_22 dX2_readWrite_59 rfl ?_
        refine E_iload1 (q := 63) dX2_readWrite_62 rfl ?_
        refine E_iload2 (q := 64) dX2_readWrite_63 rfl ?_
        refine E_iload3 (q := 65) dX2_readWrite_64 rfl ?_
        refine C_V3I (q := 68) lk_X2_132 (sp_X4_writeAnswer h3.2.2.2 hv hvt (show itv b n (nxt b n (nxt b n s)) < 12 by omega) c6) (rc_X4 isSt_14) dX2_readWrite_65 (by decide) (Nat.le_of_ble_eq_true rfl) rfl ?_
        refine V_int hww ?_
        refine E_if_ge (tgt := 78) (q := 71) dX2_readWrite_68 (by decide) rfl (fun h68 => ?_) (fun h68 => ?_)
        · skip
          refine E_aload0 (q := 79) dX2_readWrite_78 rfl ?_
          refine G_X2_draft (q := 82) fl_X2_22 dX2_readWrite_79 rfl ?_
          refine E_iload1 (q := 83) dX2_readWrite_82 rfl ?_
          refine E_iload2 (q := 84) dX2_readWrite_83 rfl ?_
          refine E_iload3 (q := 85) dX2_readWrite_84 rfl ?_
          refine C_V3Y (q := 88) lk_X2_136 (sp_X4_putBlock h3.2.2.2 hv hvt (show itv b n (nxt b n (nxt b n s)) < 12 by omega) c6 hT) (rc_X4 isSt_14) dX2_readWrite_85 (by decide) (Nat.le_of_ble_eq_true rfl) rfl ?_
          refine kkEW ?_
          rintro M2 ⟨hb2, hk2⟩
          have h4 := h3.dr hb2 (mkBlk_WF hS.2.2 hv hvt (show itv b n (nxt b n (nxt b n s)) < 12 by omega) c6 hT) hk2
          refine E_aload0 (q := 89) dX2_readWrite_88 rfl ?_
          refine C_V0V (q := 92) lk_X2_56 (sp_X2_adv h4) rc_X2 dX2_readWrite_89 (by decide) (Nat.le_of_ble_eq_true rfl) rfl ?_
          refine E_iconst (v := nI 1) (q := 93) dX2_readWrite_92 (by decide) rfl ?_
          exact E_zreturn rfl rfl rfl dX2_readWrite_93 ⟨_, rfl, LPC_ok (by simp only [sWrite, volR, nmR, intR, ch_t c1, ch_f c2, ch_t c3, ch_t c4, ch_t c5, ch_t c6, hcl, ch_t c7]; rfl) h4.adv ((((Fr3.lx.tr Fr3.lx).tr Fr3.lx).tr (Fr3.dr hk2)).tr Fr3.lx)⟩
        · skip
          exact absurd (nI_ge0 (by omega)) h68
      · first | exact absurd h48 (by decide) | exact absurd (by decide) h48
    · first | exact absurd h27 (by decide) | exact absurd (by decide) h27
  · skip
    exact absurd h11 (nI_nm1 (by omega))
theorem sp_X2_readWrite (h : LdC M b n s g A) (hT : aT A + 1 < 2 ^ 24) : Spec D 8 yX2_readWrite cfX2_readWrite [.ref (ad 133)] (wl D ad M) 0 0 (PX (LPC D ad M b n (sWrite b n s g A))) := by
  by_cases c1 : isNm b n (nxt b n s)
  · rcases fV_or A (nmc b n (nxt b n s)) with c2 | ⟨v, hv, hvt, hf, hcl, c2⟩
    · exact sp_X2_readWriteF h hT c1 c2
    · by_cases c3 : knd b n (nxt b n (nxt b n s)) = 2
      · by_cases c4 : 0 ≤ itv b n (nxt b n (nxt b n s)) ∧ itv b n (nxt b n (nxt b n s)) ≤ 11
        · by_cases c5 : knd b n (nxt b n (nxt b n (nxt b n s))) = 2
          · by_cases c6 : 1 ≤ itv b n (nxt b n (nxt b n (nxt b n s))) ∧ itv b n (nxt b n (nxt b n (nxt b n s))) ≤ 9
            · by_cases c7 : wrI A v (itv b n (nxt b n (nxt b n s))) (itv b n (nxt b n (nxt b n (nxt b n s)))) = 0
              · exact sp_X2_readWriteK h hT c1 hv hvt hf hcl c2 c3 c4 c5 c6 c7
              · exact sp_X2_readWriteF2 h hT c1 hv hvt hf hcl c2 c3 c4 c5 c6 c7
            · exact sp_X2_readWriteR2 h hT c1 hv hvt hf hcl c2 c3 c4 c5 c6
          · exact sp_X2_readWriteK2 h hT c1 hv hvt hf hcl c2 c3 c4 c5
        · exact sp_X2_readWriteR1 h hT c1 hv hvt hf hcl c2 c3 c4
      · exact sp_X2_readWriteK1 h hT c1 hv hvt hf hcl c2 c3
  · exact sp_X2_readWriteN h hT c1
theorem sp_X2_readTrimN (h : LdC M b n s g A) (hT : aT A + 1 < 2 ^ 24) (c1 : ¬ isNm b n (nxt b n s)) : Spec D 8 yX2_readTrim cfX2_readTrim [.ref (ad 133)] (wl D ad M) 0 0 (PX (LPC D ad M b n (sTrim b n s g A))) := by
  refine Spec.of (by decide) rfl (Nat.le_of_ble_eq_true rfl) rfl ?_
  have hS := h.2.2.2
  have h1 := h.adv
  refine E_aload0 (q := 1) dX2_readTrim_0 rfl ?_
  refine C_V0V (q := 4) lk_X2_56 (sp_X2_adv h) rc_X2 dX2_readTrim_1 (by decide) (Nat.le_of_ble_eq_true rfl) rfl ?_
  refine E_aload0 (q := 5) dX2_readTrim_4 rfl ?_
  refine C_V0I (q := 8) lk_X2_122 (sp_X2_expectVolumeN h1 c1) rc_X2 dX2_readTrim_5 (by decide) (Nat.le_of_ble_eq_true rfl) rfl ?_
  refine E_istore1 (q := 9) dX2_readTrim_8 rfl rfl ?_
  refine E_iload1 (q := 10) dX2_readTrim_9 rfl ?_
  refine E_iconst (v := -1) (q := 11) dX2_readTrim_10 (by decide) rfl ?_
  refine E_icmp_ne (tgt := 16) (q := 14) dX2_readTrim_11 (by decide) rfl (fun h11 => ?_) (fun h11 => ?_)
  · first | exact absurd h11 (by decide) | exact absurd (by decide) h11
  · skip
    refine E_iconst (v := nI 0) (q := 15) dX2_readTrim_14 (by decide) rfl ?_
    exact E_zreturn rfl rfl rfl dX2_readTrim_15 ⟨_, rfl, LPC_fail (by simp only [sTrim, volR, nmR, ch_f c1]) (Fr3.lx).1⟩
theorem sp_X2_readTrimF (h : LdC M b n s g A) (hT : aT A + 1 < 2 ^ 24) (c1 : isNm b n (nxt b n s)) (c2 : fV A (nmc b n (nxt b n s)) = -1) : Spec D 8 yX2_readTrim cfX2_readTrim [.ref (ad 133)] (wl D ad M) 0 0 (PX (LPC D ad M b n (sTrim b n s g A))) := by
  refine Spec.of (by decide) rfl (Nat.le_of_ble_eq_true rfl) rfl ?_
  have hS := h.2.2.2
  have h1 := h.adv
  refine E_aload0 (q := 1) dX2_readTrim_0 rfl ?_
  refine C_V0V (q := 4) lk_X2_56 (sp_X2_adv h) rc_X2 dX2_readTrim_1 (by decide) (Nat.le_of_ble_eq_true rfl) rfl ?_
  refine E_aload0 (q := 5) dX2_readTrim_4 rfl ?_
  refine C_V0I (q := 8) lk_X2_122 (sp_X2_expectVolumeF h1 c1 c2) rc_X2 dX2_readTrim_5 (by decide) (Nat.le_of_ble_eq_true rfl) rfl ?_
  refine E_istore1 (q := 9) dX2_readTrim_8 rfl rfl ?_
  refine E_iload1 (q := 10) dX2_readTrim_9 rfl ?_
  refine E_iconst (v := -1) (q := 11) dX2_readTrim_10 (by decide) rfl ?_
  refine E_icmp_ne (tgt := 16) (q := 14) dX2_readTrim_11 (by decide) rfl (fun h11 => ?_) (fun h11 => ?_)
  · first | exact absurd h11 (by decide) | exact absurd (by decide) h11
  · skip
    refine E_iconst (v := nI 0) (q := 15) dX2_readTrim_14 (by decide) rfl ?_
    exact E_zreturn rfl rfl rfl dX2_readTrim_15 ⟨_, rfl, LPC_fail (by simp only [sTrim, volR, nmR, ch_t c1, ch_t c2]) (Fr3.lx).1⟩
theorem sp_X2_readTrimK1 (h : LdC M b n s g A) (hT : aT A + 1 < 2 ^ 24) (c1 : isNm b n (nxt b n s)) {v : Nat} (hv : v < 6) (hvt : th A (16 + v)) (hf : fV A (nmc b n (nxt b n s)) = nI v) (hcl : (fV A (nmc b n (nxt b n s))).toNatClampNeg = v) (c2 : ¬ fV A (nmc b n (nxt b n s)) = -1) (c3 : ¬ knd b n (nxt b n (nxt b n s)) = 2) : Spec D 8 yX2_readTrim cfX2_readTrim [.ref (ad 133)] (wl D ad M) 0 0 (PX (LPC D ad M b n (sTrim b n s g A))) := by
  refine Spec.of (by decide) rfl (Nat.le_of_ble_eq_true rfl) rfl ?_
  have hS := h.2.2.2
  have h1 := h.adv
  have h2 := h1.adv
  refine E_aload0 (q := 1) dX2_readTrim_0 rfl ?_
  refine C_V0V (q := 4) lk_X2_56 (sp_X2_adv h) rc_X2 dX2_readTrim_1 (by decide) (Nat.le_of_ble_eq_true rfl) rfl ?_
  refine E_aload0 (q := 5) dX2_readTrim_4 rfl ?_
  refine C_V0I (q := 8) lk_X2_122 (sp_X2_expectVolume h1 c1 hv hf) rc_X2 dX2_readTrim_5 (by decide) (Nat.le_of_ble_eq_true rfl) rfl ?_
  refine E_istore1 (q := 9) dX2_readTrim_8 rfl rfl ?_
  refine E_iload1 (q := 10) dX2_readTrim_9 rfl ?_
  refine E_iconst (v := -1) (q := 11) dX2_readTrim_10 (by decide) rfl ?_
  refine E_icmp_ne (tgt := 16) (q := 14) dX2_readTrim_11 (by decide) rfl (fun h11 => ?_) (fun h11 => ?_)
  · skip
    refine E_aload0 (q := 17) dX2_readTrim_16 rfl ?_
    refine C_V0V (q := 20) lk_X2_56 (sp_X2_adv h1) rc_X2 dX2_readTrim_17 (by decide) (Nat.le_of_ble_eq_true rfl) rfl ?_
    refine E_aload0 (q := 21) dX2_readTrim_20 rfl ?_
    refine E_iconst (v := nI 0) (q := 22) dX2_readTrim_21 (by decide) rfl ?_
    refine E_bipush (v := nI 11) (q := 24) dX2_readTrim_22 (by decide) rfl ?_
    refine C_V2I (q := 27) lk_X2_125 (sp_X2_expectIntegerK h2 c3) rc_X2 dX2_readTrim_24 (by decide) (Nat.le_of_ble_eq_true rfl) rfl ?_
    refine E_if_ne (tgt := 32) (q := 30) dX2_readTrim_27 (by decide) rfl (fun h27 => ?_) (fun h27 => ?_)
    · first | exact absurd h27 (by decide) | exact absurd (by decide) h27
    · skip
      refine E_iconst (v := nI 0) (q := 31) dX2_readTrim_30 (by decide) rfl ?_
      exact E_zreturn rfl rfl rfl dX2_readTrim_31 ⟨_, rfl, LPC_fail (by simp only [sTrim, volR, nmR, intR, ch_t c1, ch_f c2, ch_f c3]) (Fr3.lx.tr Fr3.lx).1⟩
  · skip
    exact absurd h11 (nI_nm1 (by omega))
theorem sp_X2_readTrimR1 (h : LdC M b n s g A) (hT : aT A + 1 < 2 ^ 24) (c1 : isNm b n (nxt b n s)) {v : Nat} (hv : v < 6) (hvt : th A (16 + v)) (hf : fV A (nmc b n (nxt b n s)) = nI v) (hcl : (fV A (nmc b n (nxt b n s))).toNatClampNeg = v) (c2 : ¬ fV A (nmc b n (nxt b n s)) = -1) (c3 : knd b n (nxt b n (nxt b n s)) = 2) (c4 : ¬ (0 ≤ itv b n (nxt b n (nxt b n s)) ∧ itv b n (nxt b n (nxt b n s)) ≤ 11)) : Spec D 8 yX2_readTrim cfX2_readTrim [.ref (ad 133)] (wl D ad M) 0 0 (PX (LPC D ad M b n (sTrim b n s g A))) := by
  refine Spec.of (by decide) rfl (Nat.le_of_ble_eq_true rfl) rfl ?_
  have hS := h.2.2.2
  have h1 := h.adv
  have h2 := h1.adv
  refine E_aload0 (q := 1) dX2_readTrim_0 rfl ?_
  refine C_V0V (q := 4) lk_X2_56 (sp_X2_adv h) rc_X2 dX2_readTrim_1 (by decide) (Nat.le_of_ble_eq_true rfl) rfl ?_
  refine E_aload0 (q := 5) dX2_readTrim_4 rfl ?_
  refine C_V0I (q := 8) lk_X2_122 (sp_X2_expectVolume h1 c1 hv hf) rc_X2 dX2_readTrim_5 (by decide) (Nat.le_of_ble_eq_true rfl) rfl ?_
  refine E_istore1 (q := 9) dX2_readTrim_8 rfl rfl ?_
  refine E_iload1 (q := 10) dX2_readTrim_9 rfl ?_
  refine E_iconst (v := -1) (q := 11) dX2_readTrim_10 (by decide) rfl ?_
  refine E_icmp_ne (tgt := 16) (q := 14) dX2_readTrim_11 (by decide) rfl (fun h11 => ?_) (fun h11 => ?_)
  · skip
    refine E_aload0 (q := 17) dX2_readTrim_16 rfl ?_
    refine C_V0V (q := 20) lk_X2_56 (sp_X2_adv h1) rc_X2 dX2_readTrim_17 (by decide) (Nat.le_of_ble_eq_true rfl) rfl ?_
    refine E_aload0 (q := 21) dX2_readTrim_20 rfl ?_
    refine E_iconst (v := nI 0) (q := 22) dX2_readTrim_21 (by decide) rfl ?_
    refine E_bipush (v := nI 11) (q := 24) dX2_readTrim_22 (by decide) rfl ?_
    refine C_V2I (q := 27) lk_X2_125 (sp_X2_expectIntegerR h2 c3 (by decide) (by decide) c4) rc_X2 dX2_readTrim_24 (by decide) (Nat.le_of_ble_eq_true rfl) rfl ?_
    refine E_if_ne (tgt := 32) (q := 30) dX2_readTrim_27 (by decide) rfl (fun h27 => ?_) (fun h27 => ?_)
    · first | exact absurd h27 (by decide) | exact absurd (by decide) h27
    · skip
      refine E_iconst (v := nI 0) (q := 31) dX2_readTrim_30 (by decide) rfl ?_
      exact E_zreturn rfl rfl rfl dX2_readTrim_31 ⟨_, rfl, LPC_fail (by simp only [sTrim, volR, nmR, intR, ch_t c1, ch_f c2, ch_t c3, ch_f c4]) (Fr3.lx.tr Fr3.lx).1⟩
  · skip
    exact absurd h11 (nI_nm1 (by omega))
theorem sp_X2_readTrimK (h : LdC M b n s g A) (hT : aT A + 1 < 2 ^ 24) (c1 : isNm b n (nxt b n s)) {v : Nat} (hv : v < 6) (hvt : th A (16 + v)) (hf : fV A (nmc b n (nxt b n s)) = nI v) (hcl : (fV A (nmc b n (nxt b n s))).toNatClampNeg = v) (c2 : ¬ fV A (nmc b n (nxt b n s)) = -1) (c3 : knd b n (nxt b n (nxt b n s)) = 2) (c4 : 0 ≤ itv b n (nxt b n (nxt b n s)) ∧ itv b n (nxt b n (nxt b n s)) ≤ 11) : Spec D 8 yX2_readTrim cfX2_readTrim [.ref (ad 133)] (wl D ad M) 0 0 (PX (LPC D ad M b n (sTrim b n s g A))) := by
  refine Spec.of (by decide) rfl (Nat.le_of_ble_eq_true rfl) rfl ?_
  have hS := h.2.2.2
  have h1 := h.adv
  have h2 := h1.adv
  refine E_aload0 (q := 1) dX2_readTrim_0 rfl ?_
  refine C_V0V (q := 4) lk_X2_56 (sp_X2_adv h) rc_X2 dX2_readTrim_1 (by decide) (Nat.le_of_ble_eq_true rfl) rfl ?_
  refine E_aload0 (q := 5) dX2_readTrim_4 rfl ?_
  refine C_V0I (q := 8) lk_X2_122 (sp_X2_expectVolume h1 c1 hv hf) rc_X2 dX2_readTrim_5 (by decide) (Nat.le_of_ble_eq_true rfl) rfl ?_
  refine E_istore1 (q := 9) dX2_readTrim_8 rfl rfl ?_
  refine E_iload1 (q := 10) dX2_readTrim_9 rfl ?_
  refine E_iconst (v := -1) (q := 11) dX2_readTrim_10 (by decide) rfl ?_
  refine E_icmp_ne (tgt := 16) (q := 14) dX2_readTrim_11 (by decide) rfl (fun h11 => ?_) (fun h11 => ?_)
  · skip
    refine E_aload0 (q := 17) dX2_readTrim_16 rfl ?_
    refine C_V0V (q := 20) lk_X2_56 (sp_X2_adv h1) rc_X2 dX2_readTrim_17 (by decide) (Nat.le_of_ble_eq_true rfl) rfl ?_
    refine E_aload0 (q := 21) dX2_readTrim_20 rfl ?_
    refine E_iconst (v := nI 0) (q := 22) dX2_readTrim_21 (by decide) rfl ?_
    refine E_bipush (v := nI 11) (q := 24) dX2_readTrim_22 (by decide) rfl ?_
    refine C_V2I (q := 27) lk_X2_125 (sp_X2_expectInteger h2 c3 (by decide) (by decide) c4) rc_X2 dX2_readTrim_24 (by decide) (Nat.le_of_ble_eq_true rfl) rfl ?_
    refine E_if_ne (tgt := 32) (q := 30) dX2_readTrim_27 (by decide) rfl (fun h27 => ?_) (fun h27 => ?_)
    · skip
      refine E_aload0 (q := 33) dX2_readTrim_32 rfl ?_
      refine G_X2_draft (q := 36) fl_X2_22 dX2_readTrim_33 rfl ?_
      refine G_X4_blocks (q := 39) isSt_14 fl_X2_140 dX2_readTrim_36 rfl ?_
      refine E_bipush (v := nI 16) (q := 41) dX2_readTrim_39 (by decide) rfl ?_
      refine E_iload1 (q := 42) dX2_readTrim_41 rfl ?_
      refine E_iaddN (q := 43) dX2_readTrim_42 rfl ?_
      refine E_aload0 (q := 44) dX2_readTrim_43 rfl ?_
      refine C_V0I (q := 47) lk_X2_129 (sp_X2_integerValue h2 c3) rc_X2 dX2_readTrim_44 (by decide) (Nat.le_of_ble_eq_true rfl) rfl ?_
      refine C_V2X (q := 50) lk_X2_144 (sp_X0_releaseAt h2.2.2.2.1.blocks h2.2.2.2.bi hS.2.2 (by omega) (show itv b n (nxt b n (nxt b n s)) < 2 ^ 31 by omega)) (rc_X0 isSt_14.blocks) dX2_readTrim_47 (by decide) (Nat.le_of_ble_eq_true rfl) rfl ?_
      refine kkEI ?_
      rintro M2 ⟨hb2, hk2⟩
      refine E_pop (q := 51) dX2_readTrim_50 rfl rfl ?_
      have hk3 : ∀ c, (c < 14 ∨ 14 + 12 < c) → M2 c = lxM (lxM M b n (nxt b n s)) b n (nxt b n (nxt b n s)) c := fun c hc => hk2 c (by omega)
      have h4 := h2.dr (h2.2.2.2.2.1.trm (fun c a d => hk2 c (by omega)) hb2) (trmA_WF hS.2.2) hk3
      refine E_aload0 (q := 52) dX2_readTrim_51 rfl ?_
      refine C_V0V (q := 55) lk_X2_56 (sp_X2_adv h4) rc_X2 dX2_readTrim_52 (by decide) (Nat.le_of_ble_eq_true rfl) rfl ?_
      refine E_iconst (v := nI 1) (q := 56) dX2_readTrim_55 (by decide) rfl ?_
      exact E_zreturn rfl rfl rfl dX2_readTrim_56 ⟨_, rfl, LPC_ok (by simp only [sTrim, volR, nmR, intR, ch_t c1, ch_f c2, ch_t c3, ch_t c4, hcl]; rfl) h4.adv (((Fr3.lx.tr Fr3.lx).tr (Fr3.dr hk3)).tr Fr3.lx)⟩
    · first | exact absurd h27 (by decide) | exact absurd (by decide) h27
  · skip
    exact absurd h11 (nI_nm1 (by omega))
theorem sp_X2_readTrim (h : LdC M b n s g A) (hT : aT A + 1 < 2 ^ 24) : Spec D 8 yX2_readTrim cfX2_readTrim [.ref (ad 133)] (wl D ad M) 0 0 (PX (LPC D ad M b n (sTrim b n s g A))) := by
  by_cases c1 : isNm b n (nxt b n s)
  · rcases fV_or A (nmc b n (nxt b n s)) with c2 | ⟨v, hv, hvt, hf, hcl, c2⟩
    · exact sp_X2_readTrimF h hT c1 c2
    · by_cases c3 : knd b n (nxt b n (nxt b n s)) = 2
      · by_cases c4 : 0 ≤ itv b n (nxt b n (nxt b n s)) ∧ itv b n (nxt b n (nxt b n s)) ≤ 11
        · exact sp_X2_readTrimK h hT c1 hv hvt hf hcl c2 c3 c4
        · exact sp_X2_readTrimR1 h hT c1 hv hvt hf hcl c2 c3 c4
      · exact sp_X2_readTrimK1 h hT c1 hv hvt hf hcl c2 c3
  · exact sp_X2_readTrimN h hT c1
end CLS