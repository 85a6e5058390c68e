
/-! THE REFERENCE: what the throwing methods answer without a thing -/
section MODEL
variable {D : va_G} {ad : Nat → Nat} {M : Mem} {wx : Nat} {ws : va_W} {A : AS}
/-- q is an address -/
def AdrP (q : Int32) : Prop := ∃ a, a < 12 ∧ q = nI a
theorem sp_X6_isVerT {p : Int32} (h : RI M wx A) (hp : VerA A p) : Spec D 4 yX6_isVersion cfX6_isVersion [.ref (ad 157), .int (p)] (wl D ad M) 0 0 (PI (nI 1) (wl D ad M)) := by
  rw [zI_t hp]
  exact sp_X6_isVerA h.1 h.2.1 h.2.2.1
theorem sp_X6_isVerF {p : Int32} (h : RI M wx A) (hp : ¬ VerA A p) : Spec D 4 yX6_isVersion cfX6_isVersion [.ref (ad 157), .int (p)] (wl D ad M) 0 0 (PI (nI 0) (wl D ad M)) := by
  rw [zI_f hp]
  exact sp_X6_isVerA h.1 h.2.1 h.2.2.1
theorem sp_X6_isVolT {p : Int32} (h : RI M wx A) (hp : VolA A p) : Spec D 3 yX6_isVolume cfX6_isVolume [.ref (ad 157), .int (p)] (wl D ad M) 0 0 (PI (nI 1) (wl D ad M)) := by
  rw [zI_t hp]
  exact sp_X6_isVolA h.1 h.2.1 h.2.2.1
theorem sp_X6_isVolF {p : Int32} (h : RI M wx A) (hp : ¬ VolA A p) : Spec D 3 yX6_isVolume cfX6_isVolume [.ref (ad 157), .int (p)] (wl D ad M) 0 0 (PI (nI 0) (wl D ad M)) := by
  rw [zI_f hp]
  exact sp_X6_isVolA h.1 h.2.1 h.2.2.1
theorem sp_X6_isSnpT {p : Int32} (h : RI M wx A) (hp : SnpA A p) : Spec D 3 yX6_isSnapshot cfX6_isSnapshot [.ref (ad 157), .int (p)] (wl D ad M) 0 0 (PI (nI 1) (wl D ad M)) := by
  rw [zI_t hp]
  exact sp_X6_isSnpA h.1 h.2.1 h.2.2.1
theorem sp_X6_isSnpF {p : Int32} (h : RI M wx A) (hp : ¬ SnpA A p) : Spec D 3 yX6_isSnapshot cfX6_isSnapshot [.ref (ad 157), .int (p)] (wl D ad M) 0 0 (PI (nI 0) (wl D ad M)) := by
  rw [zI_f hp]
  exact sp_X6_isSnpA h.1 h.2.1 h.2.2.1
theorem sp_X6_isAdrT {p : Int32} (hp : AdrP p) : Spec D 2 yX6_isAddress cfX6_isAddress [.int (p)] ws 0 0 (PI (nI 1) ws) := by
  rw [zI_t hp]
  exact sp_X6_isAddress
theorem sp_X6_isAdrF {p : Int32} (hp : ¬ AdrP p) : Spec D 2 yX6_isAddress cfX6_isAddress [.int (p)] ws 0 0 (PI (nI 0) ws) := by
  rw [zI_f hp]
  exact sp_X6_isAddress
theorem sp_X6_failsT  : Spec D 1 yX6_fails cfX6_fails [.ref (ad 157), .int (nI (1))] (wl D ad M) 0 0 (PI (nI 0) (wl D ad (upd2 M 157 4 (nI 0)))) := by
  refine Spec.of (by decide) rfl (Nat.le_of_ble_eq_true rfl) rfl ?_
  refine E_aload0 (q := 1) dX6_fails_0 rfl ?_
  refine E_iload1 (q := 2) dX6_fails_1 rfl ?_
  refine E_if_eq (tgt := 9) (q := 5) dX6_fails_2 (by decide) rfl (fun h2 => ?_) (fun h2 => ?_)
  · first | exact absurd h2 (by decide) | exact absurd (by decide) h2
  · skip
    refine E_iconst (v := nI 0) (q := 6) dX6_fails_5 (by decide) rfl ?_
    refine E_goto (q := 10) dX6_fails_6 (by decide) ?_
    refine P_X6_thrown (q := 13) fl_X6_43 dX6_fails_10 rfl ?_
    refine E_iload1 (q := 14) dX6_fails_13 rfl ?_
    refine E_if_ne (tgt := 21) (q := 17) dX6_fails_14 (by decide) rfl (fun h14 => ?_) (fun h14 => ?_)
    · skip
      refine E_iconst (v := nI 0) (q := 22) dX6_fails_21 (by decide) rfl ?_
      exact E_zreturn rfl rfl rfl dX6_fails_22 (PI_of rfl rfl)
    · first | exact absurd h14 (by decide) | exact absurd (by decide) h14
theorem sp_X6_failsF  : Spec D 1 yX6_fails cfX6_fails [.ref (ad 157), .int (nI (0))] (wl D ad M) 0 0 (PI (nI 1) (wl D ad (upd2 M 157 4 (nI 1)))) := by
  refine Spec.of (by decide) rfl (Nat.le_of_ble_eq_true rfl) rfl ?_
  refine E_aload0 (q := 1) dX6_fails_0 rfl ?_
  refine E_iload1 (q := 2) dX6_fails_1 rfl ?_
  refine E_if_eq (tgt := 9) (q := 5) dX6_fails_2 (by decide) rfl (fun h2 => ?_) (fun h2 => ?_)
  · skip
    refine E_iconst (v := nI 1) (q := 10) dX6_fails_9 (by decide) rfl ?_
    refine P_X6_thrown (q := 13) fl_X6_43 dX6_fails_10 rfl ?_
    refine E_iload1 (q := 14) dX6_fails_13 rfl ?_
    refine E_if_ne (tgt := 21) (q := 17) dX6_fails_14 (by decide) rfl (fun h14 => ?_) (fun h14 => ?_)
    · first | exact absurd h14 (by decide) | exact absurd (by decide) h14
    · skip
      refine E_iconst (v := nI 1) (q := 18) dX6_fails_17 (by decide) rfl ?_
      refine E_goto (q := 22) dX6_fails_18 (by decide) ?_
      exact E_zreturn rfl rfl rfl dX6_fails_22 (PI_of rfl rfl)
  · first | exact absurd h2 (by decide) | exact absurd (by decide) h2
theorem sp_X6_volumeNumberB {p q0 : Int32} (h : RI M wx A) (hn : ¬ VolA A p) : Spec D 12 yX6_volumeNumber cfX6_volumeNumber [.ref (ad 157), .int (p), .int (q0)] (wl D ad M) 0 0 (PI (nI 0) (wl D ad (upd2 M 157 4 (nI 1)))) := by
  refine Spec.of (by decide) rfl (Nat.le_of_ble_eq_true rfl) rfl ?_
  refine E_aload0 (q := 1) dX6_volumeNumber_0 rfl ?_
  refine E_aload0 (q := 2) dX6_volumeNumber_1 rfl ?_
  refine E_iload1 (q := 3) dX6_volumeNumber_2 rfl ?_
  refine C_V1I (q := 6) lk_X6_74 (sp_X6_isVolF h hn) rc_X6 dX6_volumeNumber_3 (by decide) (Nat.le_of_ble_eq_true rfl) rfl ?_
  refine C_V1I (q := 9) lk_X6_128 (sp_X6_failsF) rc_X6 dX6_volumeNumber_6 (by decide) (Nat.le_of_ble_eq_true rfl) rfl ?_
  refine E_if_eq (tgt := 14) (q := 12) dX6_volumeNumber_9 (by decide) rfl (fun h9 => ?_) (fun h9 => ?_)
  · first | exact absurd h9 (by decide) | exact absurd (by decide) h9
  · skip
    refine E_iconst (v := nI 0) (q := 13) dX6_volumeNumber_12 (by decide) rfl ?_
    exact E_ireturn rfl rfl dX6_volumeNumber_13 (PI_of rfl rfl)
theorem sp_X6_snapshotNumberB {p q0 : Int32} (h : RI M wx A) (hn : ¬ SnpA A p) : Spec D 12 yX6_snapshotNumber cfX6_snapshotNumber [.ref (ad 157), .int (p), .int (q0)] (wl D ad M) 0 0 (PI (nI 0) (wl D ad (upd2 M 157 4 (nI 1)))) := by
  refine Spec.of (by decide) rfl (Nat.le_of_ble_eq_true rfl) rfl ?_
  refine E_aload0 (q := 1) dX6_snapshotNumber_0 rfl ?_
  refine E_aload0 (q := 2) dX6_snapshotNumber_1 rfl ?_
  refine E_iload1 (q := 3) dX6_snapshotNumber_2 rfl ?_
  refine C_V1I (q := 6) lk_X6_70 (sp_X6_isSnpF h hn) rc_X6 dX6_snapshotNumber_3 (by decide) (Nat.le_of_ble_eq_true rfl) rfl ?_
  refine C_V1I (q := 9) lk_X6_128 (sp_X6_failsF) rc_X6 dX6_snapshotNumber_6 (by decide) (Nat.le_of_ble_eq_true rfl) rfl ?_
  refine E_if_eq (tgt := 14) (q := 12) dX6_snapshotNumber_9 (by decide) rfl (fun h9 => ?_) (fun h9 => ?_)
  · first | exact absurd h9 (by decide) | exact absurd (by decide) h9
  · skip
    refine E_iconst (v := nI 0) (q := 13) dX6_snapshotNumber_12 (by decide) rfl ?_
    exact E_ireturn rfl rfl dX6_snapshotNumber_13 (PI_of rfl rfl)
theorem sp_X6_snapshotAtB {p q0 : Int32} (h : RI M wx A) (hn : ¬ VolA A p) : Spec D 12 yX6_snapshotAt cfX6_snapshotAt [.ref (ad 157), .int (p), .int (q0)] (wl D ad M) 0 0 (PI (nI 0) (wl D ad (upd2 M 157 4 (nI 1)))) := by
  refine Spec.of (by decide) rfl (Nat.le_of_ble_eq_true rfl) rfl ?_
  refine E_aload0 (q := 1) dX6_snapshotAt_0 rfl ?_
  refine E_aload0 (q := 2) dX6_snapshotAt_1 rfl ?_
  refine E_iload1 (q := 3) dX6_snapshotAt_2 rfl ?_
  refine C_V1I (q := 6) lk_X6_74 (sp_X6_isVolF h hn) rc_X6 dX6_snapshotAt_3 (by decide) (Nat.le_of_ble_eq_true rfl) rfl ?_
  refine C_V1I (q := 9) lk_X6_128 (sp_X6_failsF) rc_X6 dX6_snapshotAt_6 (by decide) (Nat.le_of_ble_eq_true rfl) rfl ?_
  refine E_if_eq (tgt := 14) (q := 12) dX6_snapshotAt_9 (by decide) rfl (fun h9 => ?_) (fun h9 => ?_)
  · first | exact absurd h9 (by decide) | exact absurd (by decide) h9
  · skip
    refine E_iconst (v := nI 0) (q := 13) dX6_snapshotAt_12 (by decide) rfl ?_
    exact E_ireturn rfl rfl dX6_snapshotAt_13 (PI_of rfl rfl)
theorem sp_X6_clonesOfB {p : Int32} (h : RI M wx A) (hn : ¬ SnpA A p) : Spec D 12 yX6_clonesOf cfX6_clonesOf [.ref (ad 157), .int (p)] (wl D ad M) 0 0 (PI (nI 0) (wl D ad (upd2 M 157 4 (nI 1)))) := by
  refine Spec.of (by decide) rfl (Nat.le_of_ble_eq_true rfl) rfl ?_
  refine E_aload0 (q := 1) dX6_clonesOf_0 rfl ?_
  refine E_aload0 (q := 2) dX6_clonesOf_1 rfl ?_
  refine E_iload1 (q := 3) dX6_clonesOf_2 rfl ?_
  refine C_V1I (q := 6) lk_X6_70 (sp_X6_isSnpF h hn) rc_X6 dX6_clonesOf_3 (by decide) (Nat.le_of_ble_eq_true rfl) rfl ?_
  refine C_V1I (q := 9) lk_X6_128 (sp_X6_failsF) rc_X6 dX6_clonesOf_6 (by decide) (Nat.le_of_ble_eq_true rfl) rfl ?_
  refine E_if_eq (tgt := 16) (q := 12) dX6_clonesOf_9 (by decide) rfl (fun h9 => ?_) (fun h9 => ?_)
  · first | exact absurd h9 (by decide) | exact absurd (by decide) h9
  · skip
    refine E_iconst (v := nI 0) (q := 13) dX6_clonesOf_12 (by decide) rfl ?_
    refine E_goto (q := 21) dX6_clonesOf_13 (by decide) ?_
    exact E_ireturn rfl rfl dX6_clonesOf_21 (PI_of rfl rfl)
theorem sp_X6_beforeB {p : Int32} (h : RI M wx A) (hn : ¬ VerA A p) : Spec D 12 yX6_before cfX6_before [.ref (ad 157), .int (p)] (wl D ad M) 0 0 (PI (nI 0) (wl D ad (upd2 M 157 4 (nI 1)))) := by
  refine Spec.of (by decide) rfl (Nat.le_of_ble_eq_true rfl) rfl ?_
  refine E_aload0 (q := 1) dX6_before_0 rfl ?_
  refine E_aload0 (q := 2) dX6_before_1 rfl ?_
  refine E_iload1 (q := 3) dX6_before_2 rfl ?_
  refine C_V1I (q := 6) lk_X6_87 (sp_X6_isVerF h hn) rc_X6 dX6_before_3 (by decide) (Nat.le_of_ble_eq_true rfl) rfl ?_
  refine C_V1I (q := 9) lk_X6_128 (sp_X6_failsF) rc_X6 dX6_before_6 (by decide) (Nat.le_of_ble_eq_true rfl) rfl ?_
  refine E_if_eq (tgt := 16) (q := 12) dX6_before_9 (by decide) rfl (fun h9 => ?_) (fun h9 => ?_)
  · first | exact absurd h9 (by decide) | exact absurd (by decide) h9
  · skip
    refine E_iconst (v := nI 0) (q := 13) dX6_before_12 (by decide) rfl ?_
    refine E_goto (q := 21) dX6_before_13 (by decide) ?_
    exact E_ireturn rfl rfl dX6_before_21 (PI_of rfl rfl)
theorem sp_X6_behindB {p : Int32} (h : RI M wx A) (hn : ¬ SnpA A p) : Spec D 12 yX6_behind cfX6_behind [.ref (ad 157), .int (p)] (wl D ad M) 0 0 (PI (nI 0) (wl D ad (upd2 M 157 4 (nI 1)))) := by
  refine Spec.of (by decide) rfl (Nat.le_of_ble_eq_true rfl) rfl ?_
  refine E_aload0 (q := 1) dX6_behind_0 rfl ?_
  refine E_aload0 (q := 2) dX6_behind_1 rfl ?_
  refine E_iload1 (q := 3) dX6_behind_2 rfl ?_
  refine C_V1I (q := 6) lk_X6_70 (sp_X6_isSnpF h hn) rc_X6 dX6_behind_3 (by decide) (Nat.le_of_ble_eq_true rfl) rfl ?_
  refine C_V1I (q := 9) lk_X6_128 (sp_X6_failsF) rc_X6 dX6_behind_6 (by decide) (Nat.le_of_ble_eq_true rfl) rfl ?_
  refine E_if_eq (tgt := 16) (q := 12) dX6_behind_9 (by decide) rfl (fun h9 => ?_) (fun h9 => ?_)
  · first | exact absurd h9 (by decide) | exact absurd (by decide) h9
  · skip
    refine E_iconst (v := nI 0) (q := 13) dX6_behind_12 (by decide) rfl ?_
    refine E_goto (q := 21) dX6_behind_13 (by decide) ?_
    exact E_ireturn rfl rfl dX6_behind_21 (PI_of rfl rfl)
theorem sp_X6_depthOfB {p : Int32} (h : RI M wx A) (hn : ¬ VerA A p) : Spec D 12 yX6_depthOf cfX6_depthOf [.ref (ad 157), .int (p)] (wl D ad M) 0 0 (PI (nI 0) (wl D ad (upd2 M 157 4 (nI 1)))) := by
  refine Spec.of (by decide) rfl (Nat.le_of_ble_eq_true rfl) rfl ?_
  refine E_aload0 (q := 1) dX6_depthOf_0 rfl ?_
  refine E_aload0 (q := 2) dX6_depthOf_1 rfl ?_
  refine E_iload1 (q := 3) dX6_depthOf_2 rfl ?_
  refine C_V1I (q := 6) lk_X6_87 (sp_X6_isVerF h hn) rc_X6 dX6_depthOf_3 (by decide) (Nat.le_of_ble_eq_true rfl) rfl ?_
  refine C_V1I (q := 9) lk_X6_128 (sp_X6_failsF) rc_X6 dX6_depthOf_6 (by decide) (Nat.le_of_ble_eq_true rfl) rfl ?_
  refine E_if_eq (tgt := 16) (q := 12) dX6_depthOf_9 (by decide) rfl (fun h9 => ?_) (fun h9 => ?_)
  · first | exact absurd h9 (by decide) | exact absurd (by decide) h9
  · skip
    refine E_iconst (v := nI 0) (q := 13) dX6_depthOf_12 (by decide) rfl ?_
    refine E_goto (q := 21) dX6_depthOf_13 (by decide) ?_
    exact E_ireturn rfl rfl dX6_depthOf_21 (PI_of rfl rfl)
theorem sp_X6_referencedB {p : Int32} (h : RI M wx A) (hn : ¬ VerA A p) : Spec D 12 yX6_referenced cfX6_referenced [.ref (ad 157), .int (p)] (wl D ad M) 0 0 (PI (nI 0) (wl D ad (upd2 M 157 4 (nI 1)))) := by
  refine Spec.of (by decide) rfl (Nat.le_of_ble_eq_true rfl) rfl ?_
  refine E_aload0 (q := 1) dX6_referenced_0 rfl ?_
  refine E_aload0 (q := 2) dX6_referenced_1 rfl ?_
  refine E_iload1 (q := 3) dX6_referenced_2 rfl ?_
  refine C_V1I (q := 6) lk_X6_87 (sp_X6_isVerF h hn) rc_X6 dX6_referenced_3 (by decide) (Nat.le_of_ble_eq_true rfl) rfl ?_
  refine C_V1I (q := 9) lk_X6_128 (sp_X6_failsF) rc_X6 dX6_referenced_6 (by decide) (Nat.le_of_ble_eq_true rfl) rfl ?_
  refine E_if_eq (tgt := 16) (q := 12) dX6_referenced_9 (by decide) rfl (fun h9 => ?_) (fun h9 => ?_)
  · first | exact absurd h9 (by decide) | exact absurd (by decide) h9
  · skip
    refine E_iconst (v := nI 0) (q := 13) dX6_referenced_12 (by decide) rfl ?_
    refine E_goto (q := 21) dX6_referenced_13 (by decide) ?_
    exact E_ireturn rfl rfl dX6_referenced_21 (PI_of rfl rfl)
theorem sp_X6_exclusiveB {p : Int32} (h : RI M wx A) (hn : ¬ VerA A p) : Spec D 12 yX6_exclusive cfX6_exclusive [.ref (ad 157), .int (p)] (wl D ad M) 0 0 (PI (nI 0) (wl D ad (upd2 M 157 4 (nI 1)))) := by
  refine Spec.of (by decide) rfl (Nat.le_of_ble_eq_true rfl) rfl ?_
  refine E_aload0 (q := 1) dX6_exclusive_0 rfl ?_
  refine E_aload0 (q := 2) dX6_exclusive_1 rfl ?_
  refine E_iload1 (q := 3) dX6_exclusive_2 rfl ?_
  refine C_V1I (q := 6) lk_X6_87 (sp_X6_isVerF h hn) rc_X6 dX6_exclusive_3 (by decide) (Nat.le_of_ble_eq_true rfl) rfl ?_
  refine C_V1I (q := 9) lk_X6_128 (sp_X6_failsF) rc_X6 dX6_exclusive_6 (by decide) (Nat.le_of_ble_eq_true rfl) rfl ?_
  refine E_if_eq (tgt := 16) (q := 12) dX6_exclusive_9 (by decide) rfl (fun h9 => ?_) (fun h9 => ?_)
  · first | exact absurd h9 (by decide) | exact absurd (by decide) h9
  · skip
    refine E_iconst (v := nI 0) (q := 13) dX6_exclusive_12 (by decide) rfl ?_
    refine E_goto (q := 23) dX6_exclusive_13 (by decide) ?_
    exact E_ireturn rfl rfl dX6_exclusive_23 (PI_of rfl rfl)
theorem sp_X6_birthInB {p q0 : Int32} (h : RI M wx A) (hn : ¬ VerA A p) : Spec D 12 yX6_birthIn cfX6_birthIn [.ref (ad 157), .int (p), .int (q0)] (wl D ad M) 0 0 (PI (nI 0) (wl D ad (upd2 M 157 4 (nI 1)))) := by
  refine Spec.of (by decide) rfl (Nat.le_of_ble_eq_true rfl) rfl ?_
  refine E_aload0 (q := 1) dX6_birthIn_0 rfl ?_
  refine E_aload0 (q := 2) dX6_birthIn_1 rfl ?_
  refine E_iload1 (q := 3) dX6_birthIn_2 rfl ?_
  refine C_V1I (q := 6) lk_X6_87 (sp_X6_isVerF h hn) rc_X6 dX6_birthIn_3 (by decide) (Nat.le_of_ble_eq_true rfl) rfl ?_
  refine C_V1I (q := 9) lk_X6_128 (sp_X6_failsF) rc_X6 dX6_birthIn_6 (by decide) (Nat.le_of_ble_eq_true rfl) rfl ?_
  refine E_if_eq (tgt := 14) (q := 12) dX6_birthIn_9 (by decide) rfl (fun h9 => ?_) (fun h9 => ?_)
  · first | exact absurd h9 (by decide) | exact absurd (by decide) h9
  · skip
    refine E_iconst (v := nI 0) (q := 13) dX6_birthIn_12 (by decide) rfl ?_
    exact E_ireturn rfl rfl dX6_birthIn_13 (PI_of rfl rfl)
theorem sp_X6_besideOriginB {p : Int32} (h : RI M wx A) (hn : ¬ VolA A p) : Spec D 12 yX6_besideOrigin cfX6_besideOrigin [.ref (ad 157), .int (p)] (wl D ad M) 0 0 (PI (nI 0) (wl D ad (upd2 M 157 4 (nI 1)))) := by
  refine Spec.of (by decide) rfl (Nat.le_of_ble_eq_true rfl) rfl ?_
  refine E_aload0 (q := 1) dX6_besideOrigin_0 rfl ?_
  refine E_aload0 (q := 2) dX6_besideOrigin_1 rfl ?_
  refine E_iload1 (q := 3) dX6_besideOrigin_2 rfl ?_
  refine C_V1I (q := 6) lk_X6_74 (sp_X6_isVolF h hn) rc_X6 dX6_besideOrigin_3 (by decide) (Nat.le_of_ble_eq_true rfl) rfl ?_
  refine C_V1I (q := 9) lk_X6_128 (sp_X6_failsF) rc_X6 dX6_besideOrigin_6 (by decide) (Nat.le_of_ble_eq_true rfl) rfl ?_
  refine E_if_eq (tgt := 14) (q := 12) dX6_besideOrigin_9 (by decide) rfl (fun h9 => ?_) (fun h9 => ?_)
  · first | exact absurd h9 (by decide) | exact absurd (by decide) h9
  · skip
    refine E_iconst (v := nI 0) (q := 13) dX6_besideOrigin_12 (by decide) rfl ?_
    exact E_ireturn rfl rfl dX6_besideOrigin_13 (PI_of rfl rfl)
theorem sp_X6_deadCountB {p : Int32} (h : RI M wx A) (hn : ¬ VerA A p) : Spec D 12 yX6_deadCount cfX6_deadCount [.ref (ad 157), .int (p)] (wl D ad M) 0 0 (PI (nI 0) (wl D ad (upd2 M 157 4 (nI 1)))) := by
  refine Spec.of (by decide) rfl (Nat.le_of_ble_eq_true rfl) rfl ?_
  refine E_aload0 (q := 1) dX6_deadCount_0 rfl ?_
  refine E_aload0 (q := 2) dX6_deadCount_1 rfl ?_
  refine E_iload1 (q := 3) dX6_deadCount_2 rfl ?_
  refine C_V1I (q := 6) lk_X6_87 (sp_X6_isVerF h hn) rc_X6 dX6_deadCount_3 (by decide) (Nat.le_of_ble_eq_true rfl) rfl ?_
  refine C_V1I (q := 9) lk_X6_128 (sp_X6_failsF) rc_X6 dX6_deadCount_6 (by decide) (Nat.le_of_ble_eq_true rfl) rfl ?_
  refine E_if_eq (tgt := 14) (q := 12) dX6_deadCount_9 (by decide) rfl (fun h9 => ?_) (fun h9 => ?_)
  · first | exact absurd h9 (by decide) | exact absurd (by decide) h9
  · skip
    refine E_iconst (v := nI 0) (q := 13) dX6_deadCount_12 (by decide) rfl ?_
    exact E_ireturn rfl rfl dX6_deadCount_13 (PI_of rfl rfl)
theorem sp_X6_deadBlockB {p q0 : Int32} (h : RI M wx A) (hn : ¬ VerA A p) : Spec D 12 yX6_deadBlock cfX6_deadBlock [.ref (ad 157), .int (p), .int (q0)] (wl D ad M) 0 0 (PI (nI 0) (wl D ad (upd2 M 157 4 (nI 1)))) := by
  refine Spec.of (by decide) rfl (Nat.le_of_ble_eq_true rfl) rfl ?_
  refine E_aload0 (q := 1) dX6_deadBlock_0 rfl ?_
  refine E_aload0 (q := 2) dX6_deadBlock_1 rfl ?_
  refine E_iload1 (q := 3) dX6_deadBlock_2 rfl ?_
  refine C_V1I (q := 6) lk_X6_87 (sp_X6_isVerF h hn) rc_X6 dX6_deadBlock_3 (by decide) (Nat.le_of_ble_eq_true rfl) rfl ?_
  refine C_V1I (q := 9) lk_X6_128 (sp_X6_failsF) rc_X6 dX6_deadBlock_6 (by decide) (Nat.le_of_ble_eq_true rfl) rfl ?_
  refine E_if_eq (tgt := 14) (q := 12) dX6_deadBlock_9 (by decide) rfl (fun h9 => ?_) (fun h9 => ?_)
  · first | exact absurd h9 (by decide) | exact absurd (by decide) h9
  · skip
    refine E_iconst (v := nI 0) (q := 13) dX6_deadBlock_12 (by decide) rfl ?_
    exact E_ireturn rfl rfl dX6_deadBlock_13 (PI_of rfl rfl)
theorem sp_X6_byDeadBlocksB {p : Int32} (h : RI M wx A) (hn : ¬ SnpA A p) : Spec D 12 yX6_byDeadBlocks cfX6_byDeadBlocks [.ref (ad 157), .int (p)] (wl D ad M) 0 0 (PI (nI 0) (wl D ad (upd2 M 157 4 (nI 1)))) := by
  refine Spec.of (by decide) rfl (Nat.le_of_ble_eq_true rfl) rfl ?_
  refine E_aload0 (q := 1) dX6_byDeadBlocks_0 rfl ?_
  refine E_aload0 (q := 2) dX6_byDeadBlocks_1 rfl ?_
  refine E_iload1 (q := 3) dX6_byDeadBlocks_2 rfl ?_
  refine C_V1I (q := 6) lk_X6_70 (sp_X6_isSnpF h hn) rc_X6 dX6_byDeadBlocks_3 (by decide) (Nat.le_of_ble_eq_true rfl) rfl ?_
  refine C_V1I (q := 9) lk_X6_128 (sp_X6_failsF) rc_X6 dX6_byDeadBlocks_6 (by decide) (Nat.le_of_ble_eq_true rfl) rfl ?_
  refine E_if_eq (tgt := 14) (q := 12) dX6_byDeadBlocks_9 (by decide) rfl (fun h9 => ?_) (fun h9 => ?_)
  · first | exact absurd h9 (by decide) | exact absurd (by decide) h9
  · skip
    refine E_iconst (v := nI 0) (q := 13) dX6_byDeadBlocks_12 (by decide) rfl ?_
    exact E_ireturn rfl rfl dX6_byDeadBlocks_13 (PI_of rfl rfl)
theorem sp_X6_freedByVolumeB {p : Int32} (h : RI M wx A) (hn : ¬ VolA A p) : Spec D 12 yX6_freedByVolume cfX6_freedByVolume [.ref (ad 157), .int (p)] (wl D ad M) 0 0 (PI (nI 0) (wl D ad (upd2 M 157 4 (nI 1)))) := by
  refine Spec.of (by decide) rfl (Nat.le_of_ble_eq_true rfl) rfl ?_
  refine E_aload0 (q := 1) dX6_freedByVolume_0 rfl ?_
  refine E_aload0 (q := 2) dX6_freedByVolume_1 rfl ?_
  refine E_iload1 (q := 3) dX6_freedByVolume_2 rfl ?_
  refine C_V1I (q := 6) lk_X6_74 (sp_X6_isVolF h hn) rc_X6 dX6_freedByVolume_3 (by decide) (Nat.le_of_ble_eq_true rfl) rfl ?_
  refine C_V1I (q := 9) lk_X6_128 (sp_X6_failsF) rc_X6 dX6_freedByVolume_6 (by decide) (Nat.le_of_ble_eq_true rfl) rfl ?_
  refine E_if_eq (tgt := 16) (q := 12) dX6_freedByVolume_9 (by decide) rfl (fun h9 => ?_) (fun h9 => ?_)
  · first | exact absurd h9 (by decide) | exact absurd (by decide) h9
  · skip
    refine E_iconst (v := nI 0) (q := 13) dX6_freedByVolume_12 (by decide) rfl ?_
    refine E_goto (q := 33) dX6_freedByVolume_13 (by decide) ?_
    exact E_ireturn rfl rfl dX6_freedByVolume_33 (PI_of rfl rfl)
theorem sp_X6_usedBySnapshotsB {p : Int32} (h : RI M wx A) (hn : ¬ VolA A p) : Spec D 12 yX6_usedBySnapshots cfX6_usedBySnapshots [.ref (ad 157), .int (p)] (wl D ad M) 0 0 (PI (nI 0) (wl D ad (upd2 M 157 4 (nI 1)))) := by
  refine Spec.of (by decide) rfl (Nat.le_of_ble_eq_true rfl) rfl ?_
  refine E_aload0 (q := 1) dX6_usedBySnapshots_0 rfl ?_
  refine E_aload0 (q := 2) dX6_usedBySnapshots_1 rfl ?_
  refine E_iload1 (q := 3) dX6_usedBySnapshots_2 rfl ?_
  refine C_V1I (q := 6) lk_X6_74 (sp_X6_isVolF h hn) rc_X6 dX6_usedBySnapshots_3 (by decide) (Nat.le_of_ble_eq_true rfl) rfl ?_
  refine C_V1I (q := 9) lk_X6_128 (sp_X6_failsF) rc_X6 dX6_usedBySnapshots_6 (by decide) (Nat.le_of_ble_eq_true rfl) rfl ?_
  refine E_if_eq (tgt := 16) (q := 12) dX6_usedBySnapshots_9 (by decide) rfl (fun h9 => ?_) (fun h9 => ?_)
  · first | exact absurd h9 (by decide) | exact absurd (by decide) h9
  · skip
    refine E_iconst (v := nI 0) (q := 13) dX6_usedBySnapshots_12 (by decide) rfl ?_
    refine E_goto (q := 26) dX6_usedBySnapshots_13 (by decide) ?_
    exact E_ireturn rfl rfl dX6_usedBySnapshots_26 (PI_of rfl rfl)
theorem sp_X6_whyKeptB {p : Int32} (h : RI M wx A) (hn : ¬ SnpA A p) : Spec D 12 yX6_whyKept cfX6_whyKept [.ref (ad 157), .int (p)] (wl D ad M) 0 0 (PI (nI 0) (wl D ad (upd2 M 157 4 (nI 1)))) := by
  refine Spec.of (by decide) rfl (Nat.le_of_ble_eq_true rfl) rfl ?_
  refine E_aload0 (q := 1) dX6_whyKept_0 rfl ?_
  refine E_aload0 (q := 2) dX6_whyKept_1 rfl ?_
  refine E_iload1 (q := 3) dX6_whyKept_2 rfl ?_
  refine C_V1I (q := 6) lk_X6_70 (sp_X6_isSnpF h hn) rc_X6 dX6_whyKept_3 (by decide) (Nat.le_of_ble_eq_true rfl) rfl ?_
  refine C_V1I (q := 9) lk_X6_128 (sp_X6_failsF) rc_X6 dX6_whyKept_6 (by decide) (Nat.le_of_ble_eq_true rfl) rfl ?_
  refine E_if_eq (tgt := 16) (q := 12) dX6_whyKept_9 (by decide) rfl (fun h9 => ?_) (fun h9 => ?_)
  · first | exact absurd h9 (by decide) | exact absurd (by decide) h9
  · skip
    refine E_iconst (v := nI 0) (q := 13) dX6_whyKept_12 (by decide) rfl ?_
    refine E_goto (q := 21) dX6_whyKept_13 (by decide) ?_
    exact E_ireturn rfl rfl dX6_whyKept_21 (PI_of rfl rfl)
theorem sp_X6_wouldMoveB {p : Int32} (h : RI M wx A) (hn : ¬ VolA A p) : Spec D 12 yX6_wouldMove cfX6_wouldMove [.ref (ad 157), .int (p)] (wl D ad M) 0 0 (PI (nI 0) (wl D ad (upd2 M 157 4 (nI 1)))) := by
  refine Spec.of (by decide) rfl (Nat.le_of_ble_eq_true rfl) rfl ?_
  refine E_aload0 (q := 1) dX6_wouldMove_0 rfl ?_
  refine E_aload0 (q := 2) dX6_wouldMove_1 rfl ?_
  refine E_iload1 (q := 3) dX6_wouldMove_2 rfl ?_
  refine C_V1I (q := 6) lk_X6_74 (sp_X6_isVolF h hn) rc_X6 dX6_wouldMove_3 (by decide) (Nat.le_of_ble_eq_true rfl) rfl ?_
  refine C_V1I (q := 9) lk_X6_128 (sp_X6_failsF) rc_X6 dX6_wouldMove_6 (by decide) (Nat.le_of_ble_eq_true rfl) rfl ?_
  refine E_if_eq (tgt := 14) (q := 12) dX6_wouldMove_9 (by decide) rfl (fun h9 => ?_) (fun h9 => ?_)
  · first | exact absurd h9 (by decide) | exact absurd (by decide) h9
  · skip
    refine E_iconst (v := nI 0) (q := 13) dX6_wouldMove_12 (by decide) rfl ?_
    exact E_ireturn rfl rfl dX6_wouldMove_13 (PI_of rfl rfl)
theorem sp_X6_writeOutB {p : Int32} (h : RI M wx A) (hn : ¬ VolA A p) : Spec D 12 yX6_writeOut cfX6_writeOut [.ref (ad 157), .int (p)] (wl D ad M) 0 0 (PI (nI 0) (wl D ad (upd2 M 157 4 (nI 1)))) := by
  refine Spec.of (by decide) rfl (Nat.le_of_ble_eq_true rfl) rfl ?_
  refine E_aload0 (q := 1) dX6_writeOut_0 rfl ?_
  refine E_aload0 (q := 2) dX6_writeOut_1 rfl ?_
  refine E_iload1 (q := 3) dX6_writeOut_2 rfl ?_
  refine C_V1I (q := 6) lk_X6_74 (sp_X6_isVolF h hn) rc_X6 dX6_writeOut_3 (by decide) (Nat.le_of_ble_eq_true rfl) rfl ?_
  refine C_V1I (q := 9) lk_X6_128 (sp_X6_failsF) rc_X6 dX6_writeOut_6 (by decide) (Nat.le_of_ble_eq_true rfl) rfl ?_
  refine E_if_eq (tgt := 14) (q := 12) dX6_writeOut_9 (by decide) rfl (fun h9 => ?_) (fun h9 => ?_)
  · first | exact absurd h9 (by decide) | exact absurd (by decide) h9
  · skip
    refine E_iconst (v := nI 0) (q := 13) dX6_writeOut_12 (by decide) rfl ?_
    exact E_ireturn rfl rfl dX6_writeOut_13 (PI_of rfl rfl)
theorem sp_X6_commonB {p q : Int32} (h : RI M wx A) (hn : ¬ (VerA A p ∧ VerA A q)) : Spec D 12 yX6_common cfX6_common [.ref (ad 157), .int (p), .int (q)] (wl D ad M) 0 0 (PI (nI 0) (wl D ad (upd2 M 157 4 (nI 1)))) := by
  refine Spec.of (by decide) rfl (Nat.le_of_ble_eq_true rfl) rfl ?_
  by_cases hp : VerA A p
  · have hq : ¬ VerA A q := fun z => hn ⟨hp, z⟩
    refine E_aload0 (q := 1) dX6_common_0 rfl ?_
    refine E_aload0 (q := 2) dX6_common_1 rfl ?_
    refine E_iload1 (q := 3) dX6_common_2 rfl ?_
    refine C_V1I (q := 6) lk_X6_87 (sp_X6_isVerT h hp) rc_X6 dX6_common_3 (by decide) (Nat.le_of_ble_eq_true rfl) rfl ?_
    refine E_if_eq (tgt := 21) (q := 9) dX6_common_6 (by decide) rfl (fun h6 => ?_) (fun h6 => ?_)
    · first | exact absurd h6 (by decide) | exact absurd (by decide) h6
    · skip
      refine E_aload0 (q := 10) dX6_common_9 rfl ?_
      refine E_iload2 (q := 11) dX6_common_10 rfl ?_
      refine C_V1I (q := 14) lk_X6_87 (sp_X6_isVerF h hq) rc_X6 dX6_common_11 (by decide) (Nat.le_of_ble_eq_true rfl) rfl ?_
      refine E_if_eq (tgt := 21) (q := 17) dX6_common_14 (by decide) rfl (fun h14 => ?_) (fun h14 => ?_)
      · skip
        refine E_iconst (v := nI 0) (q := 22) dX6_common_21 (by decide) rfl ?_
        refine C_V1I (q := 25) lk_X6_128 (sp_X6_failsF) rc_X6 dX6_common_22 (by decide) (Nat.le_of_ble_eq_true rfl) rfl ?_
        refine E_if_eq (tgt := 30) (q := 28) dX6_common_25 (by decide) rfl (fun h25 => ?_) (fun h25 => ?_)
        · first | exact absurd h25 (by decide) | exact absurd (by decide) h25
        · skip
          refine E_iconst (v := nI 0) (q := 29) dX6_common_28 (by decide) rfl ?_
          exact E_ireturn rfl rfl dX6_common_29 (PI_of rfl rfl)
      · first | exact absurd h14 (by decide) | exact absurd (by decide) h14
  · skip
    refine E_aload0 (q := 1) dX6_common_0 rfl ?_
    refine E_aload0 (q := 2) dX6_common_1 rfl ?_
    refine E_iload1 (q := 3) dX6_common_2 rfl ?_
    refine C_V1I (q := 6) lk_X6_87 (sp_X6_isVerF h hp) rc_X6 dX6_common_3 (by decide) (Nat.le_of_ble_eq_true rfl) rfl ?_
    refine E_if_eq (tgt := 21) (q := 9) dX6_common_6 (by decide) rfl (fun h6 => ?_) (fun h6 => ?_)
    · skip
      refine E_iconst (v := nI 0) (q := 22) dX6_common_21 (by decide) rfl ?_
      refine C_V1I (q := 25) lk_X6_128 (sp_X6_failsF) rc_X6 dX6_common_22 (by decide) (Nat.le_of_ble_eq_true rfl) rfl ?_
      refine E_if_eq (tgt := 30) (q := 28) dX6_common_25 (by decide) rfl (fun h25 => ?_) (fun h25 => ?_)
      · first | exact absurd h25 (by decide) | exact absurd (by decide) h25
      · skip
        refine E_iconst (v := nI 0) (q := 29) dX6_common_28 (by decide) rfl ?_
        exact E_ireturn rfl rfl dX6_common_29 (PI_of rfl rfl)
    · first | exact absurd h6 (by decide) | exact absurd (by decide) h6
theorem sp_X6_blockAtB {p q : Int32} (h : RI M wx A) (hn : ¬ (VerA A p ∧ AdrP q)) : Spec D 12 yX6_blockAt cfX6_blockAt [.ref (ad 157), .int (p), .int (q)] (wl D ad M) 0 0 (PI (nI 0) (wl D ad (upd2 M 157 4 (nI 1)))) := by
  refine Spec.of (by decide) rfl (Nat.le_of_ble_eq_true rfl) rfl ?_
  by_cases hp : VerA A p
  · have hq : ¬ AdrP q := fun z => hn ⟨hp, z⟩
    refine E_aload0 (q := 1) dX6_blockAt_0 rfl ?_
    refine E_aload0 (q := 2) dX6_blockAt_1 rfl ?_
    refine E_iload1 (q := 3) dX6_blockAt_2 rfl ?_
    refine C_V1I (q := 6) lk_X6_87 (sp_X6_isVerT h hp) rc_X6 dX6_blockAt_3 (by decide) (Nat.le_of_ble_eq_true rfl) rfl ?_
    refine E_if_eq (tgt := 20) (q := 9) dX6_blockAt_6 (by decide) rfl (fun h6 => ?_) (fun h6 => ?_)
    · first | exact absurd h6 (by decide) | exact absurd (by decide) h6
    · skip
      refine E_iload2 (q := 10) dX6_blockAt_9 rfl ?_
      refine C_S1I (q := 13) lk_X6_141 (sp_X6_isAdrF hq) dX6_blockAt_10 (by decide) (Nat.le_of_ble_eq_true rfl) rfl ?_
      refine E_if_eq (tgt := 20) (q := 16) dX6_blockAt_13 (by decide) rfl (fun h13 => ?_) (fun h13 => ?_)
      · skip
        refine E_iconst (v := nI 0) (q := 21) dX6_blockAt_20 (by decide) rfl ?_
        refine C_V1I (q := 24) lk_X6_128 (sp_X6_failsF) rc_X6 dX6_blockAt_21 (by decide) (Nat.le_of_ble_eq_true rfl) rfl ?_
        refine E_if_eq (tgt := 29) (q := 27) dX6_blockAt_24 (by decide) rfl (fun h24 => ?_) (fun h24 => ?_)
        · first | exact absurd h24 (by decide) | exact absurd (by decide) h24
        · skip
          refine E_iconst (v := nI 0) (q := 28) dX6_blockAt_27 (by decide) rfl ?_
          exact E_ireturn rfl rfl dX6_blockAt_28 (PI_of rfl rfl)
      · first | exact absurd h13 (by decide) | exact absurd (by decide) h13
  · skip
    refine E_aload0 (q := 1) dX6_blockAt_0 rfl ?_
    refine E_aload0 (q := 2) dX6_blockAt_1 rfl ?_
    refine E_iload1 (q := 3) dX6_blockAt_2 rfl ?_
    refine C_V1I (q := 6) lk_X6_87 (sp_X6_isVerF h hp) rc_X6 dX6_blockAt_3 (by decide) (Nat.le_of_ble_eq_true rfl) rfl ?_
    refine E_if_eq (tgt := 20) (q := 9) dX6_blockAt_6 (by decide) rfl (fun h6 => ?_) (fun h6 => ?_)
    · skip
      refine E_iconst (v := nI 0) (q := 21) dX6_blockAt_20 (by decide) rfl ?_
      refine C_V1I (q := 24) lk_X6_128 (sp_X6_failsF) rc_X6 dX6_blockAt_21 (by decide) (Nat.le_of_ble_eq_true rfl) rfl ?_
      refine E_if_eq (tgt := 29) (q := 27) dX6_blockAt_24 (by decide) rfl (fun h24 => ?_) (fun h24 => ?_)
      · first | exact absurd h24 (by decide) | exact absurd (by decide) h24
      · skip
        refine E_iconst (v := nI 0) (q := 28) dX6_blockAt_27 (by decide) rfl ?_
        exact E_ireturn rfl rfl dX6_blockAt_28 (PI_of rfl rfl)
    · first | exact absurd h6 (by decide) | exact absurd (by decide) h6
theorem sp_X6_sharedB {p q : Int32} (h : RI M wx A) (hn : ¬ (VerA A p ∧ VerA A q)) : Spec D 12 yX6_shared cfX6_shared [.ref (ad 157), .int (p), .int (q)] (wl D ad M) 0 0 (PI (nI 0) (wl D ad (upd2 M 157 4 (nI 1)))) := by
  refine Spec.of (by decide) rfl (Nat.le_of_ble_eq_true rfl) rfl ?_
  by_cases hp : VerA A p
  · have hq : ¬ VerA A q := fun z => hn ⟨hp, z⟩
    refine E_aload0 (q := 1) dX6_shared_0 rfl ?_
    refine E_aload0 (q := 2) dX6_shared_1 rfl ?_
    refine E_iload1 (q := 3) dX6_shared_2 rfl ?_
    refine C_V1I (q := 6) lk_X6_87 (sp_X6_isVerT h hp) rc_X6 dX6_shared_3 (by decide) (Nat.le_of_ble_eq_true rfl) rfl ?_
    refine E_if_eq (tgt := 21) (q := 9) dX6_shared_6 (by decide) rfl (fun h6 => ?_) (fun h6 => ?_)
    · first | exact absurd h6 (by decide) | exact absurd (by decide) h6
    · skip
      refine E_aload0 (q := 10) dX6_shared_9 rfl ?_
      refine E_iload2 (q := 11) dX6_shared_10 rfl ?_
      refine C_V1I (q := 14) lk_X6_87 (sp_X6_isVerF h hq) rc_X6 dX6_shared_11 (by decide) (Nat.le_of_ble_eq_true rfl) rfl ?_
      refine E_if_eq (tgt := 21) (q := 17) dX6_shared_14 (by decide) rfl (fun h14 => ?_) (fun h14 => ?_)
      · skip
        refine E_iconst (v := nI 0) (q := 22) dX6_shared_21 (by decide) rfl ?_
        refine C_V1I (q := 25) lk_X6_128 (sp_X6_failsF) rc_X6 dX6_shared_22 (by decide) (Nat.le_of_ble_eq_true rfl) rfl ?_
        refine E_if_eq (tgt := 30) (q := 28) dX6_shared_25 (by decide) rfl (fun h25 => ?_) (fun h25 => ?_)
        · first | exact absurd h25 (by decide) | exact absurd (by decide) h25
        · skip
          refine E_iconst (v := nI 0) (q := 29) dX6_shared_28 (by decide) rfl ?_
          exact E_ireturn rfl rfl dX6_shared_29 (PI_of rfl rfl)
      · first | exact absurd h14 (by decide) | exact absurd (by decide) h14
  · skip
    refine E_aload0 (q := 1) dX6_shared_0 rfl ?_
    refine E_aload0 (q := 2) dX6_shared_1 rfl ?_
    refine E_iload1 (q := 3) dX6_shared_2 rfl ?_
    refine C_V1I (q := 6) lk_X6_87 (sp_X6_isVerF h hp) rc_X6 dX6_shared_3 (by decide) (Nat.le_of_ble_eq_true rfl) rfl ?_
    refine E_if_eq (tgt := 21) (q := 9) dX6_shared_6 (by decide) rfl (fun h6 => ?_) (fun h6 => ?_)
    · skip
      refine E_iconst (v := nI 0) (q := 22) dX6_shared_21 (by decide) rfl ?_
      refine C_V1I (q := 25) lk_X6_128 (sp_X6_failsF) rc_X6 dX6_shared_22 (by decide) (Nat.le_of_ble_eq_true rfl) rfl ?_
      refine E_if_eq (tgt := 30) (q := 28) dX6_shared_25 (by decide) rfl (fun h25 => ?_) (fun h25 => ?_)
      · first | exact absurd h25 (by decide) | exact absurd (by decide) h25
      · skip
        refine E_iconst (v := nI 0) (q := 29) dX6_shared_28 (by decide) rfl ?_
        exact E_ireturn rfl rfl dX6_shared_29 (PI_of rfl rfl)
    · first | exact absurd h6 (by decide) | exact absurd (by decide) h6
theorem sp_X6_unlikeB {p q : Int32} (h : RI M wx A) (hn : ¬ (VerA A p ∧ VerA A q)) : Spec D 12 yX6_unlike cfX6_unlike [.ref (ad 157), .int (p), .int (q)] (wl D ad M) 0 0 (PI (nI 0) (wl D ad (upd2 M 157 4 (nI 1)))) := by
  refine Spec.of (by decide) rfl (Nat.le_of_ble_eq_true rfl) rfl ?_
  by_cases hp : VerA A p
  · have hq : ¬ VerA A q := fun z => hn ⟨hp, z⟩
    refine E_aload0 (q := 1) dX6_unlike_0 rfl ?_
    refine E_aload0 (q := 2) dX6_unlike_1 rfl ?_
    refine E_iload1 (q := 3) dX6_unlike_2 rfl ?_
    refine C_V1I (q := 6) lk_X6_87 (sp_X6_isVerT h hp) rc_X6 dX6_unlike_3 (by decide) (Nat.le_of_ble_eq_true rfl) rfl ?_
    refine E_if_eq (tgt := 21) (q := 9) dX6_unlike_6 (by decide) rfl (fun h6 => ?_) (fun h6 => ?_)
    · first | exact absurd h6 (by decide) | exact absurd (by decide) h6
    · skip
      refine E_aload0 (q := 10) dX6_unlike_9 rfl ?_
      refine E_iload2 (q := 11) dX6_unlike_10 rfl ?_
      refine C_V1I (q := 14) lk_X6_87 (sp_X6_isVerF h hq) rc_X6 dX6_unlike_11 (by decide) (Nat.le_of_ble_eq_true rfl) rfl ?_
      refine E_if_eq (tgt := 21) (q := 17) dX6_unlike_14 (by decide) rfl (fun h14 => ?_) (fun h14 => ?_)
      · skip
        refine E_iconst (v := nI 0) (q := 22) dX6_unlike_21 (by decide) rfl ?_
        refine C_V1I (q := 25) lk_X6_128 (sp_X6_failsF) rc_X6 dX6_unlike_22 (by decide) (Nat.le_of_ble_eq_true rfl) rfl ?_
        refine E_if_eq (tgt := 30) (q := 28) dX6_unlike_25 (by decide) rfl (fun h25 => ?_) (fun h25 => ?_)
        · first | exact absurd h25 (by decide) | exact absurd (by decide) h25
        · skip
          refine E_iconst (v := nI 0) (q := 29) dX6_unlike_28 (by decide) rfl ?_
          exact E_ireturn rfl rfl dX6_unlike_29 (PI_of rfl rfl)
      · first | exact absurd h14 (by decide) | exact absurd (by decide) h14
  · skip
    refine E_aload0 (q := 1) dX6_unlike_0 rfl ?_
    refine E_aload0 (q := 2) dX6_unlike_1 rfl ?_
    refine E_iload1 (q := 3) dX6_unlike_2 rfl ?_
    refine C_V1I (q := 6) lk_X6_87 (sp_X6_isVerF h hp) rc_X6 dX6_unlike_3 (by decide) (Nat.le_of_ble_eq_true rfl) rfl ?_
    refine E_if_eq (tgt := 21) (q := 9) dX6_unlike_6 (by decide) rfl (fun h6 => ?_) (fun h6 => ?_)
    · skip
      refine E_iconst (v := nI 0) (q := 22) dX6_unlike_21 (by decide) rfl ?_
      refine C_V1I (q := 25) lk_X6_128 (sp_X6_failsF) rc_X6 dX6_unlike_22 (by decide) (Nat.le_of_ble_eq_true rfl) rfl ?_
      refine E_if_eq (tgt := 30) (q := 28) dX6_unlike_25 (by decide) rfl (fun h25 => ?_) (fun h25 => ?_)
      · first | exact absurd h25 (by decide) | exact absurd (by decide) h25
      · skip
        refine E_iconst (v := nI 0) (q := 29) dX6_unlike_28 (by decide) rfl ?_
        exact E_ireturn rfl rfl dX6_unlike_29 (PI_of rfl rfl)
    · first | exact absurd h6 (by decide) | exact absurd (by decide) h6
theorem sp_X6_writtenSinceB {p q : Int32} (h : RI M wx A) (hn : ¬ (VolA A p ∧ SnpA A q)) : Spec D 12 yX6_writtenSince cfX6_writtenSince [.ref (ad 157), .int (p), .int (q)] (wl D ad M) 0 0 (PI (nI 0) (wl D ad (upd2 M 157 4 (nI 1)))) := by
  refine Spec.of (by decide) rfl (Nat.le_of_ble_eq_true rfl) rfl ?_
  by_cases hp : VolA A p
  · have hq : ¬ SnpA A q := fun z => hn ⟨hp, z⟩
    refine E_aload0 (q := 1) dX6_writtenSince_0 rfl ?_
    refine E_aload0 (q := 2) dX6_writtenSince_1 rfl ?_
    refine E_iload1 (q := 3) dX6_writtenSince_2 rfl ?_
    refine C_V1I (q := 6) lk_X6_74 (sp_X6_isVolT h hp) rc_X6 dX6_writtenSince_3 (by decide) (Nat.le_of_ble_eq_true rfl) rfl ?_
    refine E_if_eq (tgt := 21) (q := 9) dX6_writtenSince_6 (by decide) rfl (fun h6 => ?_) (fun h6 => ?_)
    · first | exact absurd h6 (by decide) | exact absurd (by decide) h6
    · skip
      refine E_aload0 (q := 10) dX6_writtenSince_9 rfl ?_
      refine E_iload2 (q := 11) dX6_writtenSince_10 rfl ?_
      refine C_V1I (q := 14) lk_X6_70 (sp_X6_isSnpF h hq) rc_X6 dX6_writtenSince_11 (by decide) (Nat.le_of_ble_eq_true rfl) rfl ?_
      refine E_if_eq (tgt := 21) (q := 17) dX6_writtenSince_14 (by decide) rfl (fun h14 => ?_) (fun h14 => ?_)
      · skip
        refine E_iconst (v := nI 0) (q := 22) dX6_writtenSince_21 (by decide) rfl ?_
        refine C_V1I (q := 25) lk_X6_128 (sp_X6_failsF) rc_X6 dX6_writtenSince_22 (by decide) (Nat.le_of_ble_eq_true rfl) rfl ?_
        refine E_if_eq (tgt := 30) (q := 28) dX6_writtenSince_25 (by decide) rfl (fun h25 => ?_) (fun h25 => ?_)
        · first | exact absurd h25 (by decide) | exact absurd (by decide) h25
        · skip
          refine E_iconst (v := nI 0) (q := 29) dX6_writtenSince_28 (by decide) rfl ?_
          exact E_ireturn rfl rfl dX6_writtenSince_29 (PI_of rfl rfl)
      · first | exact absurd h14 (by decide) | exact absurd (by decide) h14
  · skip
    refine E_aload0 (q := 1) dX6_writtenSince_0 rfl ?_
    refine E_aload0 (q := 2) dX6_writtenSince_1 rfl ?_
    refine E_iload1 (q := 3) dX6_writtenSince_2 rfl ?_
    refine C_V1I (q := 6) lk_X6_74 (sp_X6_isVolF h hp) rc_X6 dX6_writtenSince_3 (by decide) (Nat.le_of_ble_eq_true rfl) rfl ?_
    refine E_if_eq (tgt := 21) (q := 9) dX6_writtenSince_6 (by decide) rfl (fun h6 => ?_) (fun h6 => ?_)
    · skip
      refine E_iconst (v := nI 0) (q := 22) dX6_writtenSince_21 (by decide) rfl ?_
      refine C_V1I (q := 25) lk_X6_128 (sp_X6_failsF) rc_X6 dX6_writtenSince_22 (by decide) (Nat.le_of_ble_eq_true rfl) rfl ?_
      refine E_if_eq (tgt := 30) (q := 28) dX6_writtenSince_25 (by decide) rfl (fun h25 => ?_) (fun h25 => ?_)
      · first | exact absurd h25 (by decide) | exact absurd (by decide) h25
      · skip
        refine E_iconst (v := nI 0) (q := 29) dX6_writtenSince_28 (by decide) rfl ?_
        exact E_ireturn rfl rfl dX6_writtenSince_29 (PI_of rfl rfl)
    · first | exact absurd h6 (by decide) | exact absurd (by decide) h6
theorem sp_X6_sameAtB {p q : Int32} (h : RI M wx A) (hn : ¬ (VerA A p ∧ AdrP q)) : Spec D 12 yX6_sameAt cfX6_sameAt [.ref (ad 157), .int (p), .int (q)] (wl D ad M) 0 0 (PI (nI 0) (wl D ad (upd2 M 157 4 (nI 1)))) := by
  refine Spec.of (by decide) rfl (Nat.le_of_ble_eq_true rfl) rfl ?_
  by_cases hp : VerA A p
  · have hq : ¬ AdrP q := fun z => hn ⟨hp, z⟩
    refine E_aload0 (q := 1) dX6_sameAt_0 rfl ?_
    refine E_aload0 (q := 2) dX6_sameAt_1 rfl ?_
    refine E_iload1 (q := 3) dX6_sameAt_2 rfl ?_
    refine C_V1I (q := 6) lk_X6_87 (sp_X6_isVerT h hp) rc_X6 dX6_sameAt_3 (by decide) (Nat.le_of_ble_eq_true rfl) rfl ?_
    refine E_if_eq (tgt := 20) (q := 9) dX6_sameAt_6 (by decide) rfl (fun h6 => ?_) (fun h6 => ?_)
    · first | exact absurd h6 (by decide) | exact absurd (by decide) h6
    · skip
      refine E_iload2 (q := 10) dX6_sameAt_9 rfl ?_
      refine C_S1I (q := 13) lk_X6_141 (sp_X6_isAdrF hq) dX6_sameAt_10 (by decide) (Nat.le_of_ble_eq_true rfl) rfl ?_
      refine E_if_eq (tgt := 20) (q := 16) dX6_sameAt_13 (by decide) rfl (fun h13 => ?_) (fun h13 => ?_)
      · skip
        refine E_iconst (v := nI 0) (q := 21) dX6_sameAt_20 (by decide) rfl ?_
        refine C_V1I (q := 24) lk_X6_128 (sp_X6_failsF) rc_X6 dX6_sameAt_21 (by decide) (Nat.le_of_ble_eq_true rfl) rfl ?_
        refine E_if_eq (tgt := 29) (q := 27) dX6_sameAt_24 (by decide) rfl (fun h24 => ?_) (fun h24 => ?_)
        · first | exact absurd h24 (by decide) | exact absurd (by decide) h24
        · skip
          refine E_iconst (v := nI 0) (q := 28) dX6_sameAt_27 (by decide) rfl ?_
          exact E_ireturn rfl rfl dX6_sameAt_28 (PI_of rfl rfl)
      · first | exact absurd h13 (by decide) | exact absurd (by decide) h13
  · skip
    refine E_aload0 (q := 1) dX6_sameAt_0 rfl ?_
    refine E_aload0 (q := 2) dX6_sameAt_1 rfl ?_
    refine E_iload1 (q := 3) dX6_sameAt_2 rfl ?_
    refine C_V1I (q := 6) lk_X6_87 (sp_X6_isVerF h hp) rc_X6 dX6_sameAt_3 (by decide) (Nat.le_of_ble_eq_true rfl) rfl ?_
    refine E_if_eq (tgt := 20) (q := 9) dX6_sameAt_6 (by decide) rfl (fun h6 => ?_) (fun h6 => ?_)
    · skip
      refine E_iconst (v := nI 0) (q := 21) dX6_sameAt_20 (by decide) rfl ?_
      refine C_V1I (q := 24) lk_X6_128 (sp_X6_failsF) rc_X6 dX6_sameAt_21 (by decide) (Nat.le_of_ble_eq_true rfl) rfl ?_
      refine E_if_eq (tgt := 29) (q := 27) dX6_sameAt_24 (by decide) rfl (fun h24 => ?_) (fun h24 => ?_)
      · first | exact absurd h24 (by decide) | exact absurd (by decide) h24
      · skip
        refine E_iconst (v := nI 0) (q := 28) dX6_sameAt_27 (by decide) rfl ?_
        exact E_ireturn rfl rfl dX6_sameAt_28 (PI_of rfl rfl)
    · first | exact absurd h6 (by decide) | exact absurd (by decide) h6
theorem sp_X6_wouldFreeB {p q : Int32} (h : RI M wx A) (hn : ¬ (VolA A p ∧ AdrP q)) : Spec D 12 yX6_wouldFree cfX6_wouldFree [.ref (ad 157), .int (p), .int (q)] (wl D ad M) 0 0 (PI (nI 0) (wl D ad (upd2 M 157 4 (nI 1)))) := by
  refine Spec.of (by decide) rfl (Nat.le_of_ble_eq_true rfl) rfl ?_
  by_cases hp : VolA A p
  · have hq : ¬ AdrP q := fun z => hn ⟨hp, z⟩
    refine E_aload0 (q := 1) dX6_wouldFree_0 rfl ?_
    refine E_aload0 (q := 2) dX6_wouldFree_1 rfl ?_
    refine E_iload1 (q := 3) dX6_wouldFree_2 rfl ?_
    refine C_V1I (q := 6) lk_X6_74 (sp_X6_isVolT h hp) rc_X6 dX6_wouldFree_3 (by decide) (Nat.le_of_ble_eq_true rfl) rfl ?_
    refine E_if_eq (tgt := 20) (q := 9) dX6_wouldFree_6 (by decide) rfl (fun h6 => ?_) (fun h6 => ?_)
    · first | exact absurd h6 (by decide) | exact absurd (by decide) h6
    · skip
      refine E_iload2 (q := 10) dX6_wouldFree_9 rfl ?_
      refine C_S1I (q := 13) lk_X6_141 (sp_X6_isAdrF hq) dX6_wouldFree_10 (by decide) (Nat.le_of_ble_eq_true rfl) rfl ?_
      refine E_if_eq (tgt := 20) (q := 16) dX6_wouldFree_13 (by decide) rfl (fun h13 => ?_) (fun h13 => ?_)
      · skip
        refine E_iconst (v := nI 0) (q := 21) dX6_wouldFree_20 (by decide) rfl ?_
        refine C_V1I (q := 24) lk_X6_128 (sp_X6_failsF) rc_X6 dX6_wouldFree_21 (by decide) (Nat.le_of_ble_eq_true rfl) rfl ?_
        refine E_if_eq (tgt := 31) (q := 27) dX6_wouldFree_24 (by decide) rfl (fun h24 => ?_) (fun h24 => ?_)
        · first | exact absurd h24 (by decide) | exact absurd (by decide) h24
        · skip
          refine E_iconst (v := nI 0) (q := 28) dX6_wouldFree_27 (by decide) rfl ?_
          refine E_goto (q := 37) dX6_wouldFree_28 (by decide) ?_
          exact E_ireturn rfl rfl dX6_wouldFree_37 (PI_of rfl rfl)
      · first | exact absurd h13 (by decide) | exact absurd (by decide) h13
  · skip
    refine E_aload0 (q := 1) dX6_wouldFree_0 rfl ?_
    refine E_aload0 (q := 2) dX6_wouldFree_1 rfl ?_
    refine E_iload1 (q := 3) dX6_wouldFree_2 rfl ?_
    refine C_V1I (q := 6) lk_X6_74 (sp_X6_isVolF h hp) rc_X6 dX6_wouldFree_3 (by decide) (Nat.le_of_ble_eq_true rfl) rfl ?_
    refine E_if_eq (tgt := 20) (q := 9) dX6_wouldFree_6 (by decide) rfl (fun h6 => ?_) (fun h6 => ?_)
    · skip
      refine E_iconst (v := nI 0) (q := 21) dX6_wouldFree_20 (by decide) rfl ?_
      refine C_V1I (q := 24) lk_X6_128 (sp_X6_failsF) rc_X6 dX6_wouldFree_21 (by decide) (Nat.le_of_ble_eq_true rfl) rfl ?_
      refine E_if_eq (tgt := 31) (q := 27) dX6_wouldFree_24 (by decide) rfl (fun h24 => ?_) (fun h24 => ?_)
      · first | exact absurd h24 (by decide) | exact absurd (by decide) h24
      · skip
        refine E_iconst (v := nI 0) (q := 28) dX6_wouldFree_27 (by decide) rfl ?_
        refine E_goto (q := 37) dX6_wouldFree_28 (by decide) ?_
        exact E_ireturn rfl rfl dX6_wouldFree_37 (PI_of rfl rfl)
    · first | exact absurd h6 (by decide) | exact absurd (by decide) h6
end MODEL
