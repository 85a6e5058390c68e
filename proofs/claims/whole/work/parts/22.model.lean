
/-! THE REFERENCE: what its methods answer -/
section VALS
variable {A : AS}
/-- the versions of a line that begins at o - 1 -/
def linO (A : AS) (o : Nat) : List Nat := match o with
  | 0 => []
  | p + 1 => lin A p
theorem lin_cons (h0 : WF0 A) (h : WFT A) {w : Nat} (hw : w < 22) (ht : th A w) : lin A w = w :: linO A (ahd A w) := by
  cases hz : ahd A w with
  | zero => exact lin_0 hz
  | succ p => exact lin_s h0 h hw ht hz
noncomputable def volNum (A : AS) (v : Nat) (q : Int32) : Int32 := if q = 0 then oI (org A v) else if q = nI 1 then nI (rowL A v).length else if q = nI 2 then nI (quo A v) else -2
noncomputable def snpAtV (A : AS) (v : Nat) (q : Int32) : Int32 := fnd (fun s => th A s ∧ home A s = v ∧ nI (plc A s) = q) 16
def comV (A : AS) (a b : Nat) : Int32 := match (lin A a).find? (fun v => decide (v ∈ lin A b)) with
  | some v => nI v
  | none => -1
def blkV (A : AS) (w a : Nat) : Int32 := if bAt A.2 w a = 0 then -1 else nI (bAt A.2 w a)
def szV (A : AS) (p : Int32) : Int32 := match A.2.find? (fun x => decide (nI x.1 = p)) with
  | some x => nI (siz x)
  | none => -1
def owV (A : AS) (p : Int32) : Int32 := match A.2.find? (fun x => decide (nI x.1 = p)) with
  | some x => nI (own x)
  | none => nI 0
noncomputable def movV (A : AS) (v : Nat) : Int32 := if org A v = 0 then nI 0 else nI (plc A (org A v - 1) + 1)
end VALS
section MODEL
variable {D : va_G} {ad : Nat → Nat} {M : Mem} {wx : Nat} {ws : va_W} {A : AS}
theorem sp_X6_clonesOf {s : Nat}  (h : RI M wx A) (hs : s < 16) (ht : th A s) : Spec D 12 yX6_clonesOf cfX6_clonesOf [.ref (ad 157), .int (nI (s))] (wl D ad M) 0 0 (PI (nI (clo A s)) (wl D ad (upd2 M 157 4 (nI 0)))) := by
  refine Spec.of (by decide) rfl (Nat.le_of_ble_eq_true rfl) rfl ?_
  refine E_aload0 (q := 1) dX6_clonesOf_0 rfl ?_
  refine E_aload0 (q := 2) dX6_clonesOf_1 rfl ?_
  refine E_iload1 (q := 3) dX6_clonesOf_2 rfl ?_
  refine C_V1I (q := 6) lk_X6_70 (sp_X6_isSnpT h ((SnpA_nI (by omega)).mpr ⟨hs, ht⟩)) rc_X6 dX6_clonesOf_3 (by decide) (Nat.le_of_ble_eq_true rfl) rfl ?_
  refine C_V1I (q := 9) lk_X6_128 (sp_X6_failsT) rc_X6 dX6_clonesOf_6 (by decide) (Nat.le_of_ble_eq_true rfl) rfl ?_
  refine E_if_eq (tgt := 16) (q := 12) dX6_clonesOf_9 (by decide) rfl (fun h9 => ?_) (fun h9 => ?_)
  · skip
    refine E_aload0 (q := 17) dX6_clonesOf_16 rfl ?_
    refine E_iload1 (q := 18) dX6_clonesOf_17 rfl ?_
    refine C_V1I (q := 21) lk_X6_132 (sp_X6_clones h.fl hs) rc_X6 dX6_clonesOf_18 (by decide) (Nat.le_of_ble_eq_true rfl) rfl ?_
    exact E_ireturn rfl rfl dX6_clonesOf_21 (PI_of rfl rfl)
  · first | exact absurd h9 (by decide) | exact absurd (by decide) h9
theorem sp_X6_before {w : Nat}  (h : RI M wx A) (hw : w < 22) (ht : th A w) : Spec D 12 yX6_before cfX6_before [.ref (ad 157), .int (nI (w))] (wl D ad M) 0 0 (PI (oI (ahd A w)) (wl D ad (upd2 M 157 4 (nI 0)))) := by
  refine Spec.of (by decide) rfl (Nat.le_of_ble_eq_true rfl) rfl ?_
  refine E_aload0 (q := 1) dX6_before_0 rfl ?_
  refine E_aload0 (q := 2) dX6_before_1 rfl ?_
  refine E_iload1 (q := 3) dX6_before_2 rfl ?_
  refine C_V1I (q := 6) lk_X6_87 (sp_X6_isVerT h ((VerA_nI (by omega)).mpr ⟨hw, ht⟩)) rc_X6 dX6_before_3 (by decide) (Nat.le_of_ble_eq_true rfl) rfl ?_
  refine C_V1I (q := 9) lk_X6_128 (sp_X6_failsT) rc_X6 dX6_before_6 (by decide) (Nat.le_of_ble_eq_true rfl) rfl ?_
  refine E_if_eq (tgt := 16) (q := 12) dX6_before_9 (by decide) rfl (fun h9 => ?_) (fun h9 => ?_)
  · skip
    refine E_aload0 (q := 17) dX6_before_16 rfl ?_
    refine E_iload1 (q := 18) dX6_before_17 rfl ?_
    refine C_V1I (q := 21) lk_X6_110 (sp_X6_beforeOf h.fl.1 h.fl.2.1 h.2.2.1 hw ht) rc_X6 dX6_before_18 (by decide) (Nat.le_of_ble_eq_true rfl) rfl ?_
    exact E_ireturn rfl rfl dX6_before_21 (PI_of rfl rfl)
  · first | exact absurd h9 (by decide) | exact absurd (by decide) h9
theorem sp_X6_behind {s : Nat}  (h : RI M wx A) (hs : s < 16) (ht : th A s) : Spec D 12 yX6_behind cfX6_behind [.ref (ad 157), .int (nI (s))] (wl D ad M) 0 0 (PI (nI (bhd A s)) (wl D ad (upd2 M 157 4 (nI 0)))) := by
  refine Spec.of (by decide) rfl (Nat.le_of_ble_eq_true rfl) rfl ?_
  refine E_aload0 (q := 1) dX6_behind_0 rfl ?_
  refine E_aload0 (q := 2) dX6_behind_1 rfl ?_
  refine E_iload1 (q := 3) dX6_behind_2 rfl ?_
  refine C_V1I (q := 6) lk_X6_70 (sp_X6_isSnpT h ((SnpA_nI (by omega)).mpr ⟨hs, ht⟩)) rc_X6 dX6_behind_3 (by decide) (Nat.le_of_ble_eq_true rfl) rfl ?_
  refine C_V1I (q := 9) lk_X6_128 (sp_X6_failsT) rc_X6 dX6_behind_6 (by decide) (Nat.le_of_ble_eq_true rfl) rfl ?_
  refine E_if_eq (tgt := 16) (q := 12) dX6_behind_9 (by decide) rfl (fun h9 => ?_) (fun h9 => ?_)
  · skip
    refine E_aload0 (q := 17) dX6_behind_16 rfl ?_
    refine E_iload1 (q := 18) dX6_behind_17 rfl ?_
    refine C_V1I (q := 21) lk_X6_135 (sp_X6_behindOf h.fl hs ht) rc_X6 dX6_behind_18 (by decide) (Nat.le_of_ble_eq_true rfl) rfl ?_
    exact E_ireturn rfl rfl dX6_behind_21 (PI_of rfl rfl)
  · first | exact absurd h9 (by decide) | exact absurd (by decide) h9
theorem sp_X6_depthOf {w : Nat}  (h : RI M wx A) (hw : w < 22) (ht : th A w) : Spec D 12 yX6_depthOf cfX6_depthOf [.ref (ad 157), .int (nI (w))] (wl D ad M) 0 0 (PI (nI ((lin A w).length - 1)) (wl D ad (upd2 M 157 4 (nI 0)))) := by
  refine Spec.of (by decide) rfl (Nat.le_of_ble_eq_true rfl) rfl ?_
  refine E_aload0 (q := 1) dX6_depthOf_0 rfl ?_
  refine E_aload0 (q := 2) dX6_depthOf_1 rfl ?_
  refine E_iload1 (q := 3) dX6_depthOf_2 rfl ?_
  refine C_V1I (q := 6) lk_X6_87 (sp_X6_isVerT h ((VerA_nI (by omega)).mpr ⟨hw, ht⟩)) rc_X6 dX6_depthOf_3 (by decide) (Nat.le_of_ble_eq_true rfl) rfl ?_
  refine C_V1I (q := 9) lk_X6_128 (sp_X6_failsT) rc_X6 dX6_depthOf_6 (by decide) (Nat.le_of_ble_eq_true rfl) rfl ?_
  refine E_if_eq (tgt := 16) (q := 12) dX6_depthOf_9 (by decide) rfl (fun h9 => ?_) (fun h9 => ?_)
  · skip
    refine E_aload0 (q := 17) dX6_depthOf_16 rfl ?_
    refine E_iload1 (q := 18) dX6_depthOf_17 rfl ?_
    refine C_V1I (q := 21) lk_X6_138 (sp_X6_depth h.fl hw ht) rc_X6 dX6_depthOf_18 (by decide) (Nat.le_of_ble_eq_true rfl) rfl ?_
    exact E_ireturn rfl rfl dX6_depthOf_21 (PI_of rfl rfl)
  · first | exact absurd h9 (by decide) | exact absurd (by decide) h9
theorem sp_X6_referenced {w : Nat}  (h : RI M wx A) (hw : w < 22) (ht : th A w) : Spec D 12 yX6_referenced cfX6_referenced [.ref (ad 157), .int (nI (w))] (wl D ad M) 0 0 (PI (nI (sumA A w)) (wl D ad (upd2 M 157 4 (nI 0)))) := by
  refine Spec.of (by decide) rfl (Nat.le_of_ble_eq_true rfl) rfl ?_
  refine E_aload0 (q := 1) dX6_referenced_0 rfl ?_
  refine E_aload0 (q := 2) dX6_referenced_1 rfl ?_
  refine E_iload1 (q := 3) dX6_referenced_2 rfl ?_
  refine C_V1I (q := 6) lk_X6_87 (sp_X6_isVerT h ((VerA_nI (by omega)).mpr ⟨hw, ht⟩)) rc_X6 dX6_referenced_3 (by decide) (Nat.le_of_ble_eq_true rfl) rfl ?_
  refine C_V1I (q := 9) lk_X6_128 (sp_X6_failsT) rc_X6 dX6_referenced_6 (by decide) (Nat.le_of_ble_eq_true rfl) rfl ?_
  refine E_if_eq (tgt := 16) (q := 12) dX6_referenced_9 (by decide) rfl (fun h9 => ?_) (fun h9 => ?_)
  · skip
    refine E_aload0 (q := 17) dX6_referenced_16 rfl ?_
    refine E_iload1 (q := 18) dX6_referenced_17 rfl ?_
    refine C_V1I (q := 21) lk_X6_144 (sp_X6_sum h.fl hw) rc_X6 dX6_referenced_18 (by decide) (Nat.le_of_ble_eq_true rfl) rfl ?_
    exact E_ireturn rfl rfl dX6_referenced_21 (PI_of rfl rfl)
  · first | exact absurd h9 (by decide) | exact absurd (by decide) h9
theorem sp_X6_exclusive {w : Nat}  (h : RI M wx A) (hw : w < 22) (ht : th A w) : Spec D 12 yX6_exclusive cfX6_exclusive [.ref (ad 157), .int (nI (w))] (wl D ad M) 0 0 (PI (nI (fsum (hbF (2 ^ w)) A.2)) (wl D ad (upd2 M 157 4 (nI 0)))) := by
  refine Spec.of (by decide) rfl (Nat.le_of_ble_eq_true rfl) rfl ?_
  refine E_aload0 (q := 1) dX6_exclusive_0 rfl ?_
  refine E_aload0 (q := 2) dX6_exclusive_1 rfl ?_
  refine E_iload1 (q := 3) dX6_exclusive_2 rfl ?_
  refine C_V1I (q := 6) lk_X6_87 (sp_X6_isVerT h ((VerA_nI (by omega)).mpr ⟨hw, ht⟩)) rc_X6 dX6_exclusive_3 (by decide) (Nat.le_of_ble_eq_true rfl) rfl ?_
  refine C_V1I (q := 9) lk_X6_128 (sp_X6_failsT) rc_X6 dX6_exclusive_6 (by decide) (Nat.le_of_ble_eq_true rfl) rfl ?_
  refine E_if_eq (tgt := 16) (q := 12) dX6_exclusive_9 (by decide) rfl (fun h9 => ?_) (fun h9 => ?_)
  · skip
    refine E_aload0 (q := 17) dX6_exclusive_16 rfl ?_
    refine E_iconst (v := nI 1) (q := 18) dX6_exclusive_17 (by decide) rfl ?_
    refine E_iload1 (q := 19) dX6_exclusive_18 rfl ?_
    refine E_ishl (q := 20) dX6_exclusive_19 rfl ?_
    refine V_int (one_shl hw) ?_
    refine C_V1I (q := 23) lk_X6_147 (sp_X6_heldBy h.fl (Nat.pow_lt_pow_right (by decide) (by omega))) rc_X6 dX6_exclusive_20 (by decide) (Nat.le_of_ble_eq_true rfl) rfl ?_
    exact E_ireturn rfl rfl dX6_exclusive_23 (PI_of rfl rfl)
  · first | exact absurd h9 (by decide) | exact absurd (by decide) h9
theorem sp_X6_whyKept {s : Nat}  (h : RI M wx A) (hs : s < 16) (ht : th A s) : Spec D 12 yX6_whyKept cfX6_whyKept [.ref (ad 157), .int (nI (s))] (wl D ad M) 0 0 (PI (nI (whyN A s)) (wl D ad (upd2 M 157 4 (nI 0)))) := by
  refine Spec.of (by decide) rfl (Nat.le_of_ble_eq_true rfl) rfl ?_
  refine E_aload0 (q := 1) dX6_whyKept_0 rfl ?_
  refine E_aload0 (q := 2) dX6_whyKept_1 rfl ?_
  refine E_iload1 (q := 3) dX6_whyKept_2 rfl ?_
  refine C_V1I (q := 6) lk_X6_70 (sp_X6_isSnpT h ((SnpA_nI (by omega)).mpr ⟨hs, ht⟩)) rc_X6 dX6_whyKept_3 (by decide) (Nat.le_of_ble_eq_true rfl) rfl ?_
  refine C_V1I (q := 9) lk_X6_128 (sp_X6_failsT) rc_X6 dX6_whyKept_6 (by decide) (Nat.le_of_ble_eq_true rfl) rfl ?_
  refine E_if_eq (tgt := 16) (q := 12) dX6_whyKept_9 (by decide) rfl (fun h9 => ?_) (fun h9 => ?_)
  · skip
    refine E_aload0 (q := 17) dX6_whyKept_16 rfl ?_
    refine E_iload1 (q := 18) dX6_whyKept_17 rfl ?_
    refine C_V1I (q := 21) lk_X6_159 (sp_X6_why h.fl hs ht) rc_X6 dX6_whyKept_18 (by decide) (Nat.le_of_ble_eq_true rfl) rfl ?_
    exact E_ireturn rfl rfl dX6_whyKept_21 (PI_of rfl rfl)
  · first | exact absurd h9 (by decide) | exact absurd (by decide) h9
theorem sp_X6_usedBySnapshots {v : Nat}  (h : RI M wx A) (hv : v < 6) (ht : th A (16 + v)) : Spec D 12 yX6_usedBySnapshots cfX6_usedBySnapshots [.ref (ad 157), .int (nI (v))] (wl D ad M) 0 0 (PI (nI (fsum (hbF (rowM A v)) A.2)) (wl D ad (upd2 M 157 4 (nI 0)))) := by
  refine Spec.of (by decide) rfl (Nat.le_of_ble_eq_true rfl) rfl ?_
  refine E_aload0 (q := 1) dX6_usedBySnapshots_0 rfl ?_
  refine E_aload0 (q := 2) dX6_usedBySnapshots_1 rfl ?_
  refine E_iload1 (q := 3) dX6_usedBySnapshots_2 rfl ?_
  refine C_V1I (q := 6) lk_X6_74 (sp_X6_isVolT h ((VolA_nI (by omega)).mpr ⟨hv, ht⟩)) rc_X6 dX6_usedBySnapshots_3 (by decide) (Nat.le_of_ble_eq_true rfl) rfl ?_
  refine C_V1I (q := 9) lk_X6_128 (sp_X6_failsT) rc_X6 dX6_usedBySnapshots_6 (by decide) (Nat.le_of_ble_eq_true rfl) rfl ?_
  refine E_if_eq (tgt := 16) (q := 12) dX6_usedBySnapshots_9 (by decide) rfl (fun h9 => ?_) (fun h9 => ?_)
  · skip
    refine E_aload0 (q := 17) dX6_usedBySnapshots_16 rfl ?_
    refine E_aload0 (q := 18) dX6_usedBySnapshots_17 rfl ?_
    refine E_iload1 (q := 19) dX6_usedBySnapshots_18 rfl ?_
    refine E_iconst (v := nI 0) (q := 20) dX6_usedBySnapshots_19 (by decide) rfl ?_
    refine C_V2I (q := 23) lk_X6_150 (sp_X6_listOf h.fl hv ht (Nat.zero_le _)) rc_X6 dX6_usedBySnapshots_20 (by decide) (Nat.le_of_ble_eq_true rfl) rfl ?_
    refine V_int (congrArg nI (mkR_all A v)) ?_
    refine C_V1I (q := 26) lk_X6_147 (sp_X6_heldBy h.fl (bset_lt32 (by decide))) rc_X6 dX6_usedBySnapshots_23 (by decide) (Nat.le_of_ble_eq_true rfl) rfl ?_
    exact E_ireturn rfl rfl dX6_usedBySnapshots_26 (PI_of rfl rfl)
  · first | exact absurd h9 (by decide) | exact absurd (by decide) h9
theorem sp_X6_freedByVolume {v : Nat}  (h : RI M wx A) (hv : v < 6) (ht : th A (16 + v)) : Spec D 12 yX6_freedByVolume cfX6_freedByVolume [.ref (ad 157), .int (nI (v))] (wl D ad M) 0 0 (PI (nI (fsum (hbF (rowM A v ||| 2 ^ (16 + v))) A.2)) (wl D ad (upd2 M 157 4 (nI 0)))) := by
  refine Spec.of (by decide) rfl (Nat.le_of_ble_eq_true rfl) rfl ?_
  refine E_aload0 (q := 1) dX6_freedByVolume_0 rfl ?_
  refine E_aload0 (q := 2) dX6_freedByVolume_1 rfl ?_
  refine E_iload1 (q := 3) dX6_freedByVolume_2 rfl ?_
  refine C_V1I (q := 6) lk_X6_74 (sp_X6_isVolT h ((VolA_nI (by omega)).mpr ⟨hv, ht⟩)) rc_X6 dX6_freedByVolume_3 (by decide) (Nat.le_of_ble_eq_true rfl) rfl ?_
  refine C_V1I (q := 9) lk_X6_128 (sp_X6_failsT) rc_X6 dX6_freedByVolume_6 (by decide) (Nat.le_of_ble_eq_true rfl) rfl ?_
  refine E_if_eq (tgt := 16) (q := 12) dX6_freedByVolume_9 (by decide) rfl (fun h9 => ?_) (fun h9 => ?_)
  · skip
    refine E_aload0 (q := 17) dX6_freedByVolume_16 rfl ?_
    refine E_aload0 (q := 18) dX6_freedByVolume_17 rfl ?_
    refine E_iload1 (q := 19) dX6_freedByVolume_18 rfl ?_
    refine E_iconst (v := nI 0) (q := 20) dX6_freedByVolume_19 (by decide) rfl ?_
    refine C_V2I (q := 23) lk_X6_150 (sp_X6_listOf h.fl hv ht (Nat.zero_le _)) rc_X6 dX6_freedByVolume_20 (by decide) (Nat.le_of_ble_eq_true rfl) rfl ?_
    refine V_int (congrArg nI (mkR_all A v)) ?_
    refine E_iconst (v := nI 1) (q := 24) dX6_freedByVolume_23 (by decide) rfl ?_
    refine E_bipush (v := nI 16) (q := 26) dX6_freedByVolume_24 (by decide) rfl ?_
    refine E_iload1 (q := 27) dX6_freedByVolume_26 rfl ?_
    refine E_iaddN (q := 28) dX6_freedByVolume_27 rfl ?_
    refine E_ishl (q := 29) dX6_freedByVolume_28 rfl ?_
    refine V_int (one_shl (by omega)) ?_
    refine E_ior (q := 30) dX6_freedByVolume_29 rfl ?_
    refine V_int (nI_or _ _) ?_
    refine C_V1I (q := 33) lk_X6_147 (sp_X6_heldBy h.fl (Nat.or_lt_two_pow (bset_lt32 (by decide)) (Nat.pow_lt_pow_right (by decide) (by omega)))) rc_X6 dX6_freedByVolume_30 (by decide) (Nat.le_of_ble_eq_true rfl) rfl ?_
    exact E_ireturn rfl rfl dX6_freedByVolume_33 (PI_of rfl rfl)
  · first | exact absurd h9 (by decide) | exact absurd (by decide) h9
theorem sp_X6_volumeNumber {v : Nat} {q : Int32} (h : RI M wx A) (hv : v < 6) (ht : th A (16 + v)) : Spec D 12 yX6_volumeNumber cfX6_volumeNumber [.ref (ad 157), .int (nI (v)), .int (q)] (wl D ad M) 0 0 (PI (volNum A v q) (wl D ad (upd2 M 157 4 (nI 0)))) := by
  refine Spec.of (by decide) rfl (Nat.le_of_ble_eq_true rfl) rfl ?_
  refine E_aload0 (q := 1) dX6_volumeNumber_0 rfl ?_
  refine E_aload0 (q := 2) dX6_volumeNumber_1 rfl ?_
  refine E_iload1 (q := 3) dX6_volumeNumber_2 rfl ?_
  refine C_V1I (q := 6) lk_X6_74 (sp_X6_isVolT h ((VolA_nI (by omega)).mpr ⟨hv, ht⟩)) rc_X6 dX6_volumeNumber_3 (by decide) (Nat.le_of_ble_eq_true rfl) rfl ?_
  refine C_V1I (q := 9) lk_X6_128 (sp_X6_failsT) rc_X6 dX6_volumeNumber_6 (by decide) (Nat.le_of_ble_eq_true rfl) rfl ?_
  refine E_if_eq (tgt := 14) (q := 12) dX6_volumeNumber_9 (by decide) rfl (fun h9 => ?_) (fun h9 => ?_)
  · skip
    refine E_iload2 (q := 15) dX6_volumeNumber_14 rfl ?_
    refine E_if_ne (tgt := 26) (q := 18) dX6_volumeNumber_15 (by decide) rfl (fun h15 => ?_) (fun h15 => ?_)
    · skip
      refine E_iload2 (q := 27) dX6_volumeNumber_26 rfl ?_
      refine E_iconst (v := nI 1) (q := 28) dX6_volumeNumber_27 (by decide) rfl ?_
      refine E_icmp_ne (tgt := 40) (q := 31) dX6_volumeNumber_28 (by decide) rfl (fun h28 => ?_) (fun h28 => ?_)
      · skip
        refine E_iload2 (q := 41) dX6_volumeNumber_40 rfl ?_
        refine E_iconst (v := nI 2) (q := 42) dX6_volumeNumber_41 (by decide) rfl ?_
        refine E_icmp_ne (tgt := 54) (q := 45) dX6_volumeNumber_42 (by decide) rfl (fun h42 => ?_) (fun h42 => ?_)
        · skip
          refine E_bipush (v := -2) (q := 56) dX6_volumeNumber_54 (by decide) rfl ?_
          exact E_ireturn rfl rfl dX6_volumeNumber_56 (PI_of (by rw [volNum, if_neg h15, if_neg h28, if_neg h42]) rfl)
        · skip
          refine E_aload0 (q := 46) dX6_volumeNumber_45 rfl ?_
          refine E_iload1 (q := 47) dX6_volumeNumber_46 rfl ?_
          refine E_iconst (v := nI 2) (q := 48) dX6_volumeNumber_47 (by decide) rfl ?_
          refine C_V2I (q := 51) lk_X6_64 (sp_X6_volQ h.fl hv ht) rc_X6 dX6_volumeNumber_48 (by decide) (Nat.le_of_ble_eq_true rfl) rfl ?_
          refine E_goto (q := 56) dX6_volumeNumber_51 (by decide) ?_
          exact E_ireturn rfl rfl dX6_volumeNumber_56 (PI_of (by rw [volNum, if_neg h15, if_neg h28, if_pos h42]) rfl)
      · skip
        refine E_aload0 (q := 32) dX6_volumeNumber_31 rfl ?_
        refine E_iload1 (q := 33) dX6_volumeNumber_32 rfl ?_
        refine E_iconst (v := nI 4) (q := 34) dX6_volumeNumber_33 (by decide) rfl ?_
        refine C_V2I (q := 37) lk_X6_64 (sp_X6_volM h.fl hv ht) rc_X6 dX6_volumeNumber_34 (by decide) (Nat.le_of_ble_eq_true rfl) rfl ?_
        refine E_goto (q := 56) dX6_volumeNumber_37 (by decide) ?_
        exact E_ireturn rfl rfl dX6_volumeNumber_56 (PI_of (by rw [volNum, if_neg h15, if_pos h28]) rfl)
    · skip
      refine E_aload0 (q := 19) dX6_volumeNumber_18 rfl ?_
      refine E_iload1 (q := 20) dX6_volumeNumber_19 rfl ?_
      refine C_V1I (q := 23) lk_X6_107 (sp_X6_origin h.fl.1 h.fl.2.1 hv ht) rc_X6 dX6_volumeNumber_20 (by decide) (Nat.le_of_ble_eq_true rfl) rfl ?_
      refine E_goto (q := 56) dX6_volumeNumber_23 (by decide) ?_
      exact E_ireturn rfl rfl dX6_volumeNumber_56 (PI_of (by rw [volNum, if_pos h15]) rfl)
  · first | exact absurd h9 (by decide) | exact absurd (by decide) h9
theorem sp_X6_snapshotNumber0 {s : Nat}  (h : RI M wx A) (hs : s < 16) (ht : th A s) : Spec D 12 yX6_snapshotNumber cfX6_snapshotNumber [.ref (ad 157), .int (nI (s)), .int (nI (0))] (wl D ad M) 0 0 (PI (nI (home A s)) (wl D ad (upd2 M 157 4 (nI 0)))) := by
  refine Spec.of (by decide) rfl (Nat.le_of_ble_eq_true rfl) rfl ?_
  refine E_aload0 (q := 1) dX6_snapshotNumber_0 rfl ?_
  refine E_aload0 (q := 2) dX6_snapshotNumber_1 rfl ?_
  refine E_iload1 (q := 3) dX6_snapshotNumber_2 rfl ?_
  refine C_V1I (q := 6) lk_X6_70 (sp_X6_isSnpT h ((SnpA_nI (by omega)).mpr ⟨hs, ht⟩)) rc_X6 dX6_snapshotNumber_3 (by decide) (Nat.le_of_ble_eq_true rfl) rfl ?_
  refine C_V1I (q := 9) lk_X6_128 (sp_X6_failsT) rc_X6 dX6_snapshotNumber_6 (by decide) (Nat.le_of_ble_eq_true rfl) rfl ?_
  refine E_if_eq (tgt := 14) (q := 12) dX6_snapshotNumber_9 (by decide) rfl (fun h9 => ?_) (fun h9 => ?_)
  · skip
    refine E_iload2 (q := 15) dX6_snapshotNumber_14 rfl ?_
    refine E_tableIn (q := 48) dX6_snapshotNumber_15 (by decide) (by decide) (show _ = some _ from rfl) (by decide) ?_
    refine E_aload0 (q := 49) dX6_snapshotNumber_48 rfl ?_
    refine E_iload1 (q := 50) dX6_snapshotNumber_49 rfl ?_
    refine E_iconst (v := nI 1) (q := 51) dX6_snapshotNumber_50 (by decide) rfl ?_
    refine C_V2I (q := 54) lk_X6_67 (sp_X6_snpV h.fl hs ht) rc_X6 dX6_snapshotNumber_51 (by decide) (Nat.le_of_ble_eq_true rfl) rfl ?_
    exact E_ireturn rfl rfl dX6_snapshotNumber_54 (PI_of rfl rfl)
  · first | exact absurd h9 (by decide) | exact absurd (by decide) h9
theorem sp_X6_snapshotNumber1 {s : Nat}  (h : RI M wx A) (hs : s < 16) (ht : th A s) : Spec D 12 yX6_snapshotNumber cfX6_snapshotNumber [.ref (ad 157), .int (nI (s)), .int (nI (1))] (wl D ad M) 0 0 (PI (nI (stm A s)) (wl D ad (upd2 M 157 4 (nI 0)))) := by
  refine Spec.of (by decide) rfl (Nat.le_of_ble_eq_true rfl) rfl ?_
  refine E_aload0 (q := 1) dX6_snapshotNumber_0 rfl ?_
  refine E_aload0 (q := 2) dX6_snapshotNumber_1 rfl ?_
  refine E_iload1 (q := 3) dX6_snapshotNumber_2 rfl ?_
  refine C_V1I (q := 6) lk_X6_70 (sp_X6_isSnpT h ((SnpA_nI (by omega)).mpr ⟨hs, ht⟩)) rc_X6 dX6_snapshotNumber_3 (by decide) (Nat.le_of_ble_eq_true rfl) rfl ?_
  refine C_V1I (q := 9) lk_X6_128 (sp_X6_failsT) rc_X6 dX6_snapshotNumber_6 (by decide) (Nat.le_of_ble_eq_true rfl) rfl ?_
  refine E_if_eq (tgt := 14) (q := 12) dX6_snapshotNumber_9 (by decide) rfl (fun h9 => ?_) (fun h9 => ?_)
  · skip
    refine E_iload2 (q := 15) dX6_snapshotNumber_14 rfl ?_
    refine E_tableIn (q := 55) dX6_snapshotNumber_15 (by decide) (by decide) (show _ = some _ from rfl) (by decide) ?_
    refine E_aload0 (q := 56) dX6_snapshotNumber_55 rfl ?_
    refine E_iload1 (q := 57) dX6_snapshotNumber_56 rfl ?_
    refine E_iconst (v := nI 2) (q := 58) dX6_snapshotNumber_57 (by decide) rfl ?_
    refine C_V2I (q := 61) lk_X6_67 (sp_X6_snpT h.fl hs ht) rc_X6 dX6_snapshotNumber_58 (by decide) (Nat.le_of_ble_eq_true rfl) rfl ?_
    exact E_ireturn rfl rfl dX6_snapshotNumber_61 (PI_of rfl rfl)
  · first | exact absurd h9 (by decide) | exact absurd (by decide) h9
theorem sp_X6_snapshotNumber2 {s : Nat}  (h : RI M wx A) (hs : s < 16) (ht : th A s) : Spec D 12 yX6_snapshotNumber cfX6_snapshotNumber [.ref (ad 157), .int (nI (s)), .int (nI (2))] (wl D ad M) 0 0 (PI (nI (A.1 4 s)) (wl D ad (upd2 M 157 4 (nI 0)))) := by
  refine Spec.of (by decide) rfl (Nat.le_of_ble_eq_true rfl) rfl ?_
  refine E_aload0 (q := 1) dX6_snapshotNumber_0 rfl ?_
  refine E_aload0 (q := 2) dX6_snapshotNumber_1 rfl ?_
  refine E_iload1 (q := 3) dX6_snapshotNumber_2 rfl ?_
  refine C_V1I (q := 6) lk_X6_70 (sp_X6_isSnpT h ((SnpA_nI (by omega)).mpr ⟨hs, ht⟩)) rc_X6 dX6_snapshotNumber_3 (by decide) (Nat.le_of_ble_eq_true rfl) rfl ?_
  refine C_V1I (q := 9) lk_X6_128 (sp_X6_failsT) rc_X6 dX6_snapshotNumber_6 (by decide) (Nat.le_of_ble_eq_true rfl) rfl ?_
  refine E_if_eq (tgt := 14) (q := 12) dX6_snapshotNumber_9 (by decide) rfl (fun h9 => ?_) (fun h9 => ?_)
  · skip
    refine E_iload2 (q := 15) dX6_snapshotNumber_14 rfl ?_
    refine E_tableIn (q := 62) dX6_snapshotNumber_15 (by decide) (by decide) (show _ = some _ from rfl) (by decide) ?_
    refine E_aload0 (q := 63) dX6_snapshotNumber_62 rfl ?_
    refine E_iload1 (q := 64) dX6_snapshotNumber_63 rfl ?_
    refine E_iconst (v := nI 3) (q := 65) dX6_snapshotNumber_64 (by decide) rfl ?_
    refine C_V2I (q := 68) lk_X6_67 (sp_X6_snpH h.fl hs ht) rc_X6 dX6_snapshotNumber_65 (by decide) (Nat.le_of_ble_eq_true rfl) rfl ?_
    exact E_ireturn rfl rfl dX6_snapshotNumber_68 (PI_of rfl rfl)
  · first | exact absurd h9 (by decide) | exact absurd (by decide) h9
theorem sp_X6_snapshotNumber3 {s : Nat}  (h : RI M wx A) (hs : s < 16) (ht : th A s) : Spec D 12 yX6_snapshotNumber cfX6_snapshotNumber [.ref (ad 157), .int (nI (s)), .int (nI (3))] (wl D ad M) 0 0 (PI (nI (popN (clo A s))) (wl D ad (upd2 M 157 4 (nI 0)))) := by
  refine Spec.of (by decide) rfl (Nat.le_of_ble_eq_true rfl) rfl ?_
  refine E_aload0 (q := 1) dX6_snapshotNumber_0 rfl ?_
  refine E_aload0 (q := 2) dX6_snapshotNumber_1 rfl ?_
  refine E_iload1 (q := 3) dX6_snapshotNumber_2 rfl ?_
  refine C_V1I (q := 6) lk_X6_70 (sp_X6_isSnpT h ((SnpA_nI (by omega)).mpr ⟨hs, ht⟩)) rc_X6 dX6_snapshotNumber_3 (by decide) (Nat.le_of_ble_eq_true rfl) rfl ?_
  refine C_V1I (q := 9) lk_X6_128 (sp_X6_failsT) rc_X6 dX6_snapshotNumber_6 (by decide) (Nat.le_of_ble_eq_true rfl) rfl ?_
  refine E_if_eq (tgt := 14) (q := 12) dX6_snapshotNumber_9 (by decide) rfl (fun h9 => ?_) (fun h9 => ?_)
  · skip
    refine E_iload2 (q := 15) dX6_snapshotNumber_14 rfl ?_
    refine E_tableIn (q := 69) dX6_snapshotNumber_15 (by decide) (by decide) (show _ = some _ from rfl) (by decide) ?_
    refine E_aload0 (q := 70) dX6_snapshotNumber_69 rfl ?_
    refine E_iload1 (q := 71) dX6_snapshotNumber_70 rfl ?_
    refine C_V1I (q := 74) lk_X6_132 (sp_X6_clones h.fl hs) rc_X6 dX6_snapshotNumber_71 (by decide) (Nat.le_of_ble_eq_true rfl) rfl ?_
    refine C_S1I (q := 77) lk_X6_121 (sp_X6_bits (bset_lt32 (by decide))) dX6_snapshotNumber_74 (by decide) (Nat.le_of_ble_eq_true rfl) rfl ?_
    exact E_ireturn rfl rfl dX6_snapshotNumber_77 (PI_of rfl rfl)
  · first | exact absurd h9 (by decide) | exact absurd (by decide) h9
theorem sp_X6_snapshotNumber4 {s : Nat}  (h : RI M wx A) (hs : s < 16) (ht : th A s) : Spec D 12 yX6_snapshotNumber cfX6_snapshotNumber [.ref (ad 157), .int (nI (s)), .int (nI (4))] (wl D ad M) 0 0 (PI (nI (plc A s)) (wl D ad (upd2 M 157 4 (nI 0)))) := by
  refine Spec.of (by decide) rfl (Nat.le_of_ble_eq_true rfl) rfl ?_
  refine E_aload0 (q := 1) dX6_snapshotNumber_0 rfl ?_
  refine E_aload0 (q := 2) dX6_snapshotNumber_1 rfl ?_
  refine E_iload1 (q := 3) dX6_snapshotNumber_2 rfl ?_
  refine C_V1I (q := 6) lk_X6_70 (sp_X6_isSnpT h ((SnpA_nI (by omega)).mpr ⟨hs, ht⟩)) rc_X6 dX6_snapshotNumber_3 (by decide) (Nat.le_of_ble_eq_true rfl) rfl ?_
  refine C_V1I (q := 9) lk_X6_128 (sp_X6_failsT) rc_X6 dX6_snapshotNumber_6 (by decide) (Nat.le_of_ble_eq_true rfl) rfl ?_
  refine E_if_eq (tgt := 14) (q := 12) dX6_snapshotNumber_9 (by decide) rfl (fun h9 => ?_) (fun h9 => ?_)
  · skip
    refine E_iload2 (q := 15) dX6_snapshotNumber_14 rfl ?_
    refine E_tableIn (q := 78) dX6_snapshotNumber_15 (by decide) (by decide) (show _ = some _ from rfl) (by decide) ?_
    refine E_aload0 (q := 79) dX6_snapshotNumber_78 rfl ?_
    refine E_iload1 (q := 80) dX6_snapshotNumber_79 rfl ?_
    refine C_V1I (q := 83) lk_X6_104 (sp_X6_placeOf h.fl.1 h.fl.2.1 h.2.2.1 hs ht) rc_X6 dX6_snapshotNumber_80 (by decide) (Nat.le_of_ble_eq_true rfl) rfl ?_
    exact E_ireturn rfl rfl dX6_snapshotNumber_83 (PI_of rfl rfl)
  · first | exact absurd h9 (by decide) | exact absurd (by decide) h9
theorem sp_X6_snapshotNumberX {s : Nat} {q : Int32} (h : RI M wx A) (hs : s < 16) (ht : th A s) (hq : q.toInt < 0 ∨ 4 < q.toInt) : Spec D 12 yX6_snapshotNumber cfX6_snapshotNumber [.ref (ad 157), .int (nI (s)), .int (q)] (wl D ad M) 0 0 (PI (-2) (wl D ad (upd2 M 157 4 (nI 0)))) := by
  refine Spec.of (by decide) rfl (Nat.le_of_ble_eq_true rfl) rfl ?_
  refine E_aload0 (q := 1) dX6_snapshotNumber_0 rfl ?_
  refine E_aload0 (q := 2) dX6_snapshotNumber_1 rfl ?_
  refine E_iload1 (q := 3) dX6_snapshotNumber_2 rfl ?_
  refine C_V1I (q := 6) lk_X6_70 (sp_X6_isSnpT h ((SnpA_nI (by omega)).mpr ⟨hs, ht⟩)) rc_X6 dX6_snapshotNumber_3 (by decide) (Nat.le_of_ble_eq_true rfl) rfl ?_
  refine C_V1I (q := 9) lk_X6_128 (sp_X6_failsT) rc_X6 dX6_snapshotNumber_6 (by decide) (Nat.le_of_ble_eq_true rfl) rfl ?_
  refine E_if_eq (tgt := 14) (q := 12) dX6_snapshotNumber_9 (by decide) rfl (fun h9 => ?_) (fun h9 => ?_)
  · skip
    refine E_iload2 (q := 15) dX6_snapshotNumber_14 rfl ?_
    refine E_tableOut (q := 84) dX6_snapshotNumber_15 hq (by decide) ?_
    refine E_bipush (v := -2) (q := 86) dX6_snapshotNumber_84 (by decide) rfl ?_
    exact E_ireturn rfl rfl dX6_snapshotNumber_86 (PI_of rfl rfl)
  · first | exact absurd h9 (by decide) | exact absurd (by decide) h9
theorem sp_X6_wouldMove {v : Nat}  (h : RI M wx A) (hv : v < 6) (ht : th A (16 + v)) : Spec D 12 yX6_wouldMove cfX6_wouldMove [.ref (ad 157), .int (nI (v))] (wl D ad M) 0 0 (PI (movV A v) (wl D ad (upd2 M 157 4 (nI 0)))) := by
  refine Spec.of (by decide) rfl (Nat.le_of_ble_eq_true rfl) rfl ?_
  have ho16 := (h.2.2.1.2.2.2.1 v hv ht).2.1
  refine E_aload0 (q := 1) dX6_wouldMove_0 rfl ?_
  refine E_aload0 (q := 2) dX6_wouldMove_1 rfl ?_
  refine E_iload1 (q := 3) dX6_wouldMove_2 rfl ?_
  refine C_V1I (q := 6) lk_X6_74 (sp_X6_isVolT h ((VolA_nI (by omega)).mpr ⟨hv, ht⟩)) rc_X6 dX6_wouldMove_3 (by decide) (Nat.le_of_ble_eq_true rfl) rfl ?_
  refine C_V1I (q := 9) lk_X6_128 (sp_X6_failsT) rc_X6 dX6_wouldMove_6 (by decide) (Nat.le_of_ble_eq_true rfl) rfl ?_
  refine E_if_eq (tgt := 14) (q := 12) dX6_wouldMove_9 (by decide) rfl (fun h9 => ?_) (fun h9 => ?_)
  · skip
    refine E_aload0 (q := 15) dX6_wouldMove_14 rfl ?_
    refine E_iload1 (q := 16) dX6_wouldMove_15 rfl ?_
    refine C_V1I (q := 19) lk_X6_107 (sp_X6_origin h.fl.1 h.fl.2.1 hv ht) rc_X6 dX6_wouldMove_16 (by decide) (Nat.le_of_ble_eq_true rfl) rfl ?_
    refine E_if_ge (tgt := 26) (q := 22) dX6_wouldMove_19 (by decide) rfl (fun h19 => ?_) (fun h19 => ?_)
    · skip
      obtain ⟨s, ho⟩ : ∃ s, org A v = s + 1 := ⟨org A v - 1, by have hne : org A v ≠ 0 := fun z => Int32.not_lt.mpr h19 ((oI_neg (by omega)).mpr z); omega⟩
      refine E_aload0 (q := 27) dX6_wouldMove_26 rfl ?_
      refine E_aload0 (q := 28) dX6_wouldMove_27 rfl ?_
      refine E_iload1 (q := 29) dX6_wouldMove_28 rfl ?_
      refine C_V1I (q := 32) lk_X6_107 (sp_X6_origin h.fl.1 h.fl.2.1 hv ht) rc_X6 dX6_wouldMove_29 (by decide) (Nat.le_of_ble_eq_true rfl) rfl ?_
      rw [ho, oI_s]
      refine C_V1I (q := 35) lk_X6_104 (sp_X6_placeOf h.fl.1 h.fl.2.1 h.2.2.1 (by omega) (h.2.2.2.1 v s hv ht ho).1) rc_X6 dX6_wouldMove_32 (by decide) (Nat.le_of_ble_eq_true rfl) rfl ?_
      refine E_iconst (v := nI 1) (q := 36) dX6_wouldMove_35 (by decide) rfl ?_
      refine E_iaddN (q := 37) dX6_wouldMove_36 rfl ?_
      exact E_ireturn rfl rfl dX6_wouldMove_37 (PI_of (by rw [movV, if_neg (by omega), ho]; rfl) rfl)
    · skip
      refine E_iconst (v := nI 0) (q := 23) dX6_wouldMove_22 (by decide) rfl ?_
      refine E_goto (q := 37) dX6_wouldMove_23 (by decide) ?_
      exact E_ireturn rfl rfl dX6_wouldMove_37 (PI_of (by rw [movV, if_pos ((oI_neg (by omega)).mp (Int32.not_le.mp h19))]) rfl)
  · first | exact absurd h9 (by decide) | exact absurd (by decide) h9
theorem sp_X6_used (h : RI M wx A) : Spec D 12 yX6_used cfX6_used [.ref (ad 157)] (wl D ad M) 0 0 (PI (nI (fsum siz A.2)) (wl D ad (upd2 M 157 4 (nI 0)))) := by
  refine Spec.of (by decide) rfl (Nat.le_of_ble_eq_true rfl) rfl ?_
  have hw := h.1
  refine E_aload0 (q := 1) dX6_used_0 rfl ?_
  refine E_iconst (v := nI 0) (q := 2) dX6_used_1 (by decide) rfl ?_
  refine P_X6_thrown (q := 5) fl_X6_43 dX6_used_2 rfl ?_
  refine E_aload0 (q := 6) dX6_used_5 rfl ?_
  refine E_iconst (v := nI 1) (q := 7) dX6_used_6 (by decide) rfl ?_
  refine C_V1I (q := 10) lk_X6_113 (sp_X6_allU h.fl) rc_X6 dX6_used_7 (by decide) (Nat.le_of_ble_eq_true rfl) rfl ?_
  exact E_ireturn rfl rfl dX6_used_10 (PI_of rfl rfl)
theorem sp_X6_isThere {p : Int32} (h : RI M wx A) : Spec D 12 yX6_isThere cfX6_isThere [.ref (ad 157), .int (p)] (wl D ad M) 0 0 (PI (zI (VerA A p)) (wl D ad (upd2 M 157 4 (nI 0)))) := by
  refine Spec.of (by decide) rfl (Nat.le_of_ble_eq_true rfl) rfl ?_
  have hw := h.1
  refine E_aload0 (q := 1) dX6_isThere_0 rfl ?_
  refine E_iconst (v := nI 0) (q := 2) dX6_isThere_1 (by decide) rfl ?_
  refine P_X6_thrown (q := 5) fl_X6_43 dX6_isThere_2 rfl ?_
  refine E_aload0 (q := 6) dX6_isThere_5 rfl ?_
  refine E_iload1 (q := 7) dX6_isThere_6 rfl ?_
  refine C_V1I (q := 10) lk_X6_87 (sp_X6_isVerA h.fl.1 h.fl.2.1 h.2.2.1) rc_X6 dX6_isThere_7 (by decide) (Nat.le_of_ble_eq_true rfl) rfl ?_
  exact E_zreturn rfl rfl (bI_nar _) dX6_isThere_10 (PI_of rfl rfl)
theorem sp_X6_undoCount {k : Nat} (hk : M 157 2 = nI k) : Spec D 12 yX6_undoCount cfX6_undoCount [.ref (ad 157)] (wl D ad M) 0 0 (PI (nI k) (wl D ad (upd2 M 157 4 (nI 0)))) := by
  refine Spec.of (by decide) rfl (Nat.le_of_ble_eq_true rfl) rfl ?_
  refine E_aload0 (q := 1) dX6_undoCount_0 rfl ?_
  refine E_iconst (v := nI 0) (q := 2) dX6_undoCount_1 (by decide) rfl ?_
  refine P_X6_thrown (q := 5) fl_X6_43 dX6_undoCount_2 rfl ?_
  refine E_aload0 (q := 6) dX6_undoCount_5 rfl ?_
  refine G_X6_historySize (q := 9) fl_X6_46 dX6_undoCount_6 rfl ?_
  refine V_int (show _ = nI k by rw [upd2_ne (by decide), hk]) ?_
  exact E_ireturn rfl rfl dX6_undoCount_9 (PI_of rfl rfl)
theorem sp_X6_thrown {v : Int32} (hk : M 157 4 = v) : Spec D 12 yX6_thrown cfX6_thrown [.ref (ad 157)] (wl D ad M) 0 0 (PI v (wl D ad M)) := by
  refine Spec.of (by decide) rfl (Nat.le_of_ble_eq_true rfl) rfl ?_
  refine E_aload0 (q := 1) dX6_thrown_0 rfl ?_
  refine G_X6_thrown (q := 4) fl_X6_43 dX6_thrown_1 rfl ?_
  refine V_int hk ?_
  exact E_ireturn rfl rfl dX6_thrown_4 (PI_of rfl rfl)
theorem sp_X6_namedS {p : Int32} (h : RI M wx A) : Spec D 12 yX6_named cfX6_named [.ref (ad 157), .int (nI (1)), .int (p)] (wl D ad M) 0 0 (PI (fnd (fun k => p ≠ 0 ∧ th A k ∧ nI (snm A k) = p) 16) (wl D ad (upd2 M 157 4 (nI 0)))) := by
  refine Spec.of (by decide) rfl (Nat.le_of_ble_eq_true rfl) rfl ?_
  have hw := h.1
  refine E_aload0 (q := 1) dX6_named_0 rfl ?_
  refine E_iconst (v := nI 0) (q := 2) dX6_named_1 (by decide) rfl ?_
  refine P_X6_thrown (q := 5) fl_X6_43 dX6_named_2 rfl ?_
  refine E_aload0 (q := 6) dX6_named_5 rfl ?_
  refine E_iload1 (q := 7) dX6_named_6 rfl ?_
  refine E_iload2 (q := 8) dX6_named_7 rfl ?_
  refine C_V2I (q := 11) lk_X6_124 (sp_X6_findS h.fl) rc_X6 dX6_named_8 (by decide) (Nat.le_of_ble_eq_true rfl) rfl ?_
  exact E_ireturn rfl rfl dX6_named_11 (PI_of rfl rfl)
theorem sp_X6_namedV {p : Int32} (h : RI M wx A) : Spec D 12 yX6_named cfX6_named [.ref (ad 157), .int (nI (0)), .int (p)] (wl D ad M) 0 0 (PI (fnd (fun k => p ≠ 0 ∧ th A (16 + k) ∧ nI (vnm A k) = p) 6) (wl D ad (upd2 M 157 4 (nI 0)))) := by
  refine Spec.of (by decide) rfl (Nat.le_of_ble_eq_true rfl) rfl ?_
  have hw := h.1
  refine E_aload0 (q := 1) dX6_named_0 rfl ?_
  refine E_iconst (v := nI 0) (q := 2) dX6_named_1 (by decide) rfl ?_
  refine P_X6_thrown (q := 5) fl_X6_43 dX6_named_2 rfl ?_
  refine E_aload0 (q := 6) dX6_named_5 rfl ?_
  refine E_iload1 (q := 7) dX6_named_6 rfl ?_
  refine E_iload2 (q := 8) dX6_named_7 rfl ?_
  refine C_V2I (q := 11) lk_X6_124 (sp_X6_findV h.fl) rc_X6 dX6_named_8 (by decide) (Nat.le_of_ble_eq_true rfl) rfl ?_
  exact E_ireturn rfl rfl dX6_named_11 (PI_of rfl rfl)
theorem sp_X6_count0 (h : RI M wx A) : Spec D 12 yX6_count cfX6_count [.ref (ad 157), .int (nI (0))] (wl D ad M) 0 0 (PI (nI (aV A)) (wl D ad (upd2 M 157 4 (nI 0)))) := by
  refine Spec.of (by decide) rfl (Nat.le_of_ble_eq_true rfl) rfl ?_
  have hw := h.1
  refine E_aload0 (q := 1) dX6_count_0 rfl ?_
  refine E_iconst (v := nI 0) (q := 2) dX6_count_1 (by decide) rfl ?_
  refine P_X6_thrown (q := 5) fl_X6_43 dX6_count_2 rfl ?_
  refine E_iconst (v := nI 0) (q := 6) dX6_count_5 (by decide) rfl ?_
  refine E_istore2 (q := 7) dX6_count_6 rfl rfl ?_
  refine E_iload1 (q := 8) dX6_count_7 rfl ?_
  refine E_tableIn (q := 48) dX6_count_8 (by decide) (by decide) (show _ = some _ from rfl) (by decide) ?_
  refine E_aload0 (q := 49) dX6_count_48 rfl ?_
  refine G_X6_w (q := 52) (x := wx) (by repeat (first | exact hw | refine WX.w ?_ | refine WX.u (by decide) ?_)) fl_X6_16 dX6_count_49 rfl ?_
  refine E_iconst (v := nI 3) (q := 53) dX6_count_52 (by decide) rfl ?_
  refine E_ialdN (q := 54) hw.2 (by omega) (by decide) dX6_count_53 rfl ?_
  refine V_int h.fl.2.1.1.2.2.2.1 ?_
  exact E_ireturn rfl rfl dX6_count_54 (PI_of rfl rfl)
theorem sp_X6_count1 (h : RI M wx A) : Spec D 12 yX6_count cfX6_count [.ref (ad 157), .int (nI (1))] (wl D ad M) 0 0 (PI (nI (aS A)) (wl D ad (upd2 M 157 4 (nI 0)))) := by
  refine Spec.of (by decide) rfl (Nat.le_of_ble_eq_true rfl) rfl ?_
  have hw := h.1
  refine E_aload0 (q := 1) dX6_count_0 rfl ?_
  refine E_iconst (v := nI 0) (q := 2) dX6_count_1 (by decide) rfl ?_
  refine P_X6_thrown (q := 5) fl_X6_43 dX6_count_2 rfl ?_
  refine E_iconst (v := nI 0) (q := 6) dX6_count_5 (by decide) rfl ?_
  refine E_istore2 (q := 7) dX6_count_6 rfl rfl ?_
  refine E_iload1 (q := 8) dX6_count_7 rfl ?_
  refine E_tableIn (q := 55) dX6_count_8 (by decide) (by decide) (show _ = some _ from rfl) (by decide) ?_
  refine E_aload0 (q := 56) dX6_count_55 rfl ?_
  refine G_X6_w (q := 59) (x := wx) (by repeat (first | exact hw | refine WX.w ?_ | refine WX.u (by decide) ?_)) fl_X6_16 dX6_count_56 rfl ?_
  refine E_iconst (v := nI 4) (q := 60) dX6_count_59 (by decide) rfl ?_
  refine E_ialdN (q := 61) hw.2 (by omega) (by decide) dX6_count_60 rfl ?_
  refine V_int h.fl.2.1.1.2.2.2.2 ?_
  exact E_ireturn rfl rfl dX6_count_61 (PI_of rfl rfl)
theorem sp_X6_count2 (h : RI M wx A) : Spec D 12 yX6_count cfX6_count [.ref (ad 157), .int (nI (2))] (wl D ad M) 0 0 (PI (nI A.2.length) (wl D ad (upd2 M 157 4 (nI 0)))) := by
  refine Spec.of (by decide) rfl (Nat.le_of_ble_eq_true rfl) rfl ?_
  have hw := h.1
  refine E_aload0 (q := 1) dX6_count_0 rfl ?_
  refine E_iconst (v := nI 0) (q := 2) dX6_count_1 (by decide) rfl ?_
  refine P_X6_thrown (q := 5) fl_X6_43 dX6_count_2 rfl ?_
  refine E_iconst (v := nI 0) (q := 6) dX6_count_5 (by decide) rfl ?_
  refine E_istore2 (q := 7) dX6_count_6 rfl rfl ?_
  refine E_iload1 (q := 8) dX6_count_7 rfl ?_
  refine E_tableIn (q := 62) dX6_count_8 (by decide) (by decide) (show _ = some _ from rfl) (by decide) ?_
  refine E_aload0 (q := 63) dX6_count_62 rfl ?_
  refine E_iconst (v := nI 0) (q := 64) dX6_count_63 (by decide) rfl ?_
  refine C_V1I (q := 67) lk_X6_113 (sp_X6_allN h.fl) rc_X6 dX6_count_64 (by decide) (Nat.le_of_ble_eq_true rfl) rfl ?_
  exact E_ireturn rfl rfl dX6_count_67 (PI_of rfl rfl)
theorem sp_X6_count3 (h : RI M wx A) : Spec D 12 yX6_count cfX6_count [.ref (ad 157), .int (nI (3))] (wl D ad M) 0 0 (PI (nI (aT A)) (wl D ad (upd2 M 157 4 (nI 0)))) := by
  refine Spec.of (by decide) rfl (Nat.le_of_ble_eq_true rfl) rfl ?_
  have hw := h.1
  refine E_aload0 (q := 1) dX6_count_0 rfl ?_
  refine E_iconst (v := nI 0) (q := 2) dX6_count_1 (by decide) rfl ?_
  refine P_X6_thrown (q := 5) fl_X6_43 dX6_count_2 rfl ?_
  refine E_iconst (v := nI 0) (q := 6) dX6_count_5 (by decide) rfl ?_
  refine E_istore2 (q := 7) dX6_count_6 rfl rfl ?_
  refine E_iload1 (q := 8) dX6_count_7 rfl ?_
  refine E_tableIn (q := 68) dX6_count_8 (by decide) (by decide) (show _ = some _ from rfl) (by decide) ?_
  refine E_aload0 (q := 69) dX6_count_68 rfl ?_
  refine G_X6_w (q := 72) (x := wx) (by repeat (first | exact hw | refine WX.w ?_ | refine WX.u (by decide) ?_)) fl_X6_16 dX6_count_69 rfl ?_
  refine E_iconst (v := nI 2) (q := 73) dX6_count_72 (by decide) rfl ?_
  refine E_ialdN (q := 74) hw.2 (by omega) (by decide) dX6_count_73 rfl ?_
  refine V_int h.fl.2.1.1.2.2.1 ?_
  exact E_ireturn rfl rfl dX6_count_74 (PI_of rfl rfl)
theorem sp_X6_count5 (h : RI M wx A) : Spec D 12 yX6_count cfX6_count [.ref (ad 157), .int (nI (5))] (wl D ad M) 0 0 (PI (nI (popN (snps A))) (wl D ad (upd2 M 157 4 (nI 0)))) := by
  refine Spec.of (by decide) rfl (Nat.le_of_ble_eq_true rfl) rfl ?_
  have hw := h.1
  refine E_aload0 (q := 1) dX6_count_0 rfl ?_
  refine E_iconst (v := nI 0) (q := 2) dX6_count_1 (by decide) rfl ?_
  refine P_X6_thrown (q := 5) fl_X6_43 dX6_count_2 rfl ?_
  refine E_iconst (v := nI 0) (q := 6) dX6_count_5 (by decide) rfl ?_
  refine E_istore2 (q := 7) dX6_count_6 rfl rfl ?_
  refine E_iload1 (q := 8) dX6_count_7 rfl ?_
  refine E_tableIn (q := 107) dX6_count_8 (by decide) (by decide) (show _ = some _ from rfl) (by decide) ?_
  refine E_aload0 (q := 108) dX6_count_107 rfl ?_
  refine C_V0I (q := 111) lk_X6_117 (sp_X6_snapshots h.fl) rc_X6 dX6_count_108 (by decide) (Nat.le_of_ble_eq_true rfl) rfl ?_
  refine C_S1I (q := 114) lk_X6_121 (sp_X6_bits (bset_lt32 (by decide))) dX6_count_111 (by decide) (Nat.le_of_ble_eq_true rfl) rfl ?_
  exact E_ireturn rfl rfl dX6_count_114 (PI_of rfl rfl)
theorem sp_X6_countX {q : Int32} (hq : q.toInt < 0 ∨ 5 < q.toInt) (h : RI M wx A) : Spec D 12 yX6_count cfX6_count [.ref (ad 157), .int (q)] (wl D ad M) 0 0 (PI (-2) (wl D ad (upd2 M 157 4 (nI 0)))) := by
  refine Spec.of (by decide) rfl (Nat.le_of_ble_eq_true rfl) rfl ?_
  have hw := h.1
  refine E_aload0 (q := 1) dX6_count_0 rfl ?_
  refine E_iconst (v := nI 0) (q := 2) dX6_count_1 (by decide) rfl ?_
  refine P_X6_thrown (q := 5) fl_X6_43 dX6_count_2 rfl ?_
  refine E_iconst (v := nI 0) (q := 6) dX6_count_5 (by decide) rfl ?_
  refine E_istore2 (q := 7) dX6_count_6 rfl rfl ?_
  refine E_iload1 (q := 8) dX6_count_7 rfl ?_
  refine E_tableOut (q := 115) dX6_count_8 hq (by decide) ?_
  refine E_bipush (v := -2) (q := 117) dX6_count_115 (by decide) rfl ?_
  exact E_ireturn rfl rfl dX6_count_117 (PI_of rfl rfl)
theorem sp_X6_count4 (h : RI M wx A) : Spec D 12 yX6_count cfX6_count [.ref (ad 157), .int (nI (4))] (wl D ad M) 0 0 (PI (nI (popN (bset (fun v => th A (16 + v)) 6))) (wl D ad (upd2 M 157 4 (nI 0)))) := by
  refine Spec.of (by decide) rfl (Nat.le_of_ble_eq_true rfl) rfl ?_
  have hw := h.1
  have hmain : V D cfX6_count (rmOf 12 0 0) (QM D (PI (nI (popN (bset (fun v => th A (16 + v)) 6))) (wl D ad (upd2 M 157 4 (nI 0)))) 0 0) 0 0 77 [some (.ref (ad 157)), some (.int (nI (4))), some (.int (nI (0))), some (.int (nI (0)))] [] (wl D ad (upd2 M 157 4 (nI 0))) := by
    refine upto0 (n := 6) (P := fun i => V D cfX6_count (rmOf 12 0 0) (QM D (PI (nI (popN (bset (fun v => th A (16 + v)) 6))) (wl D ad (upd2 M 157 4 (nI 0)))) 0 0) 0 0 77 [some (.ref (ad 157)), some (.int (nI (4))), some (.int (nI (nsum (fun v => if dB (th A (16 + v)) = true then 1 else 0) i))), some (.int (nI (i)))] [] (wl D ad (upd2 M 157 4 (nI 0)))) ?_ ?_
    · skip
      refine E_iload3 (q := 78) dX6_count_77 rfl ?_
      refine E_bipush (v := nI 6) (q := 80) dX6_count_78 (by decide) rfl ?_
      refine E_icmp_geN (tgt := 105) (q := 83) dX6_count_80 (by decide) rfl (by omega) (by omega) (fun h80 => ?_) (fun h80 => ?_)
      · skip
        refine E_iload2 (q := 106) dX6_count_105 rfl ?_
        exact E_ireturn rfl rfl dX6_count_106 (PI_of (congrArg nI (popN_bset _ (by decide)).symm) rfl)
      · skip
        exact absurd h80 (by omega)
    · intro i hi ih
      rw [nsum] at ih
      skip
      refine E_iload3 (q := 78) dX6_count_77 rfl ?_
      refine E_bipush (v := nI 6) (q := 80) dX6_count_78 (by decide) rfl ?_
      refine E_icmp_geN (tgt := 105) (q := 83) dX6_count_80 (by decide) rfl (by omega) (by omega) (fun h80 => ?_) (fun h80 => ?_)
      · skip
        exact absurd h80 (by omega)
      · skip
        refine E_iload2 (q := 84) dX6_count_83 rfl ?_
        refine E_aload0 (q := 85) dX6_count_84 rfl ?_
        refine E_iload3 (q := 86) dX6_count_85 rfl ?_
        refine C_V1I (q := 89) lk_X6_74 (sp_X6_isVolN h.fl.1 h.fl.2.1 h.2.2.1 (by omega)) rc_X6 dX6_count_86 (by decide) (Nat.le_of_ble_eq_true rfl) rfl ?_
        refine E_if_eq (tgt := 96) (q := 92) dX6_count_89 (by decide) rfl (fun h89 => ?_) (fun h89 => ?_)
        · skip
          refine E_iconst (v := nI 0) (q := 97) dX6_count_96 (by decide) rfl ?_
          refine E_iaddN (q := 98) dX6_count_97 rfl ?_
          refine E_istore2 (q := 99) dX6_count_98 rfl rfl ?_
          refine E_iinc3 (q := 102) dX6_count_99 (nI_inc _) rfl rfl ?_
          refine E_goto (q := 77) dX6_count_102 (by decide) ?_
          rw [if_neg (by rw [dB_f (zI_0 h89)]; simp)] at ih
          exact ih
        · skip
          refine E_iconst (v := nI 1) (q := 93) dX6_count_92 (by decide) rfl ?_
          refine E_goto (q := 97) dX6_count_93 (by decide) ?_
          refine E_iaddN (q := 98) dX6_count_97 rfl ?_
          refine E_istore2 (q := 99) dX6_count_98 rfl rfl ?_
          refine E_iinc3 (q := 102) dX6_count_99 (nI_inc _) rfl rfl ?_
          refine E_goto (q := 77) dX6_count_102 (by decide) ?_
          rw [if_pos (dB_t (zI_n h89))] at ih
          exact ih
  refine E_aload0 (q := 1) dX6_count_0 rfl ?_
  refine E_iconst (v := nI 0) (q := 2) dX6_count_1 (by decide) rfl ?_
  refine P_X6_thrown (q := 5) fl_X6_43 dX6_count_2 rfl ?_
  refine E_iconst (v := nI 0) (q := 6) dX6_count_5 (by decide) rfl ?_
  refine E_istore2 (q := 7) dX6_count_6 rfl rfl ?_
  refine E_iload1 (q := 8) dX6_count_7 rfl ?_
  refine E_tableIn (q := 75) dX6_count_8 (by decide) (by decide) (show _ = some _ from rfl) (by decide) ?_
  refine E_iconst (v := nI 0) (q := 76) dX6_count_75 (by decide) rfl ?_
  refine E_istore3 (q := 77) dX6_count_76 rfl rfl ?_
  exact hmain
theorem sp_X6_getSetting0 (h : RI M wx A) : Spec D 12 yX6_getSetting cfX6_getSetting [.ref (ad 157), .int (nI (0))] (wl D ad M) 0 0 (PI (nI (aP A)) (wl D ad (upd2 M 157 4 (nI 0)))) := by
  refine Spec.of (by decide) rfl (Nat.le_of_ble_eq_true rfl) rfl ?_
  have hw := h.1
  refine E_aload0 (q := 1) dX6_getSetting_0 rfl ?_
  refine E_iconst (v := nI 0) (q := 2) dX6_getSetting_1 (by decide) rfl ?_
  refine P_X6_thrown (q := 5) fl_X6_43 dX6_getSetting_2 rfl ?_
  refine E_iload1 (q := 6) dX6_getSetting_5 rfl ?_
  refine E_iconst (v := nI 0) (q := 7) dX6_getSetting_6 (by decide) rfl ?_
  refine E_iconst (v := nI 1) (q := 8) dX6_getSetting_7 (by decide) rfl ?_
  refine C_S3I (q := 11) lk_X6_60 (sp_X6_inRange) dX6_getSetting_8 (by decide) (Nat.le_of_ble_eq_true rfl) rfl ?_
  refine E_if_eq (tgt := 23) (q := 14) dX6_getSetting_11 (by decide) rfl (fun h11 => ?_) (fun h11 => ?_)
  · skip
    exact absurd ⟨by decide, by decide⟩ (zI_0 h11)
  · skip
    refine E_aload0 (q := 15) dX6_getSetting_14 rfl ?_
    refine G_X6_w (q := 18) (x := wx) (by repeat (first | exact hw | refine WX.w ?_ | refine WX.u (by decide) ?_)) fl_X6_16 dX6_getSetting_15 rfl ?_
    refine E_iload1 (q := 19) dX6_getSetting_18 rfl ?_
    refine E_ialdN (q := 20) hw.2 (by omega) (by decide) dX6_getSetting_19 rfl ?_
    refine V_int h.fl.2.1.1.1 ?_
    refine E_goto (q := 25) dX6_getSetting_20 (by decide) ?_
    exact E_ireturn rfl rfl dX6_getSetting_25 (PI_of rfl rfl)
theorem sp_X6_getSetting1 (h : RI M wx A) : Spec D 12 yX6_getSetting cfX6_getSetting [.ref (ad 157), .int (nI (1))] (wl D ad M) 0 0 (PI (nI (aC A)) (wl D ad (upd2 M 157 4 (nI 0)))) := by
  refine Spec.of (by decide) rfl (Nat.le_of_ble_eq_true rfl) rfl ?_
  have hw := h.1
  refine E_aload0 (q := 1) dX6_getSetting_0 rfl ?_
  refine E_iconst (v := nI 0) (q := 2) dX6_getSetting_1 (by decide) rfl ?_
  refine P_X6_thrown (q := 5) fl_X6_43 dX6_getSetting_2 rfl ?_
  refine E_iload1 (q := 6) dX6_getSetting_5 rfl ?_
  refine E_iconst (v := nI 0) (q := 7) dX6_getSetting_6 (by decide) rfl ?_
  refine E_iconst (v := nI 1) (q := 8) dX6_getSetting_7 (by decide) rfl ?_
  refine C_S3I (q := 11) lk_X6_60 (sp_X6_inRange) dX6_getSetting_8 (by decide) (Nat.le_of_ble_eq_true rfl) rfl ?_
  refine E_if_eq (tgt := 23) (q := 14) dX6_getSetting_11 (by decide) rfl (fun h11 => ?_) (fun h11 => ?_)
  · skip
    exact absurd ⟨by decide, by decide⟩ (zI_0 h11)
  · skip
    refine E_aload0 (q := 15) dX6_getSetting_14 rfl ?_
    refine G_X6_w (q := 18) (x := wx) (by repeat (first | exact hw | refine WX.w ?_ | refine WX.u (by decide) ?_)) fl_X6_16 dX6_getSetting_15 rfl ?_
    refine E_iload1 (q := 19) dX6_getSetting_18 rfl ?_
    refine E_ialdN (q := 20) hw.2 (by omega) (by decide) dX6_getSetting_19 rfl ?_
    refine V_int h.fl.2.1.1.2.1 ?_
    refine E_goto (q := 25) dX6_getSetting_20 (by decide) ?_
    exact E_ireturn rfl rfl dX6_getSetting_25 (PI_of rfl rfl)
theorem sp_X6_getSettingX {q : Int32} (h : RI M wx A) (h0 : q ≠ 0) (h1 : q ≠ nI 1) : Spec D 12 yX6_getSetting cfX6_getSetting [.ref (ad 157), .int (q)] (wl D ad M) 0 0 (PI (-2) (wl D ad (upd2 M 157 4 (nI 0)))) := by
  refine Spec.of (by decide) rfl (Nat.le_of_ble_eq_true rfl) rfl ?_
  have hw := h.1
  refine E_aload0 (q := 1) dX6_getSetting_0 rfl ?_
  refine E_iconst (v := nI 0) (q := 2) dX6_getSetting_1 (by decide) rfl ?_
  refine P_X6_thrown (q := 5) fl_X6_43 dX6_getSetting_2 rfl ?_
  refine E_iload1 (q := 6) dX6_getSetting_5 rfl ?_
  refine E_iconst (v := nI 0) (q := 7) dX6_getSetting_6 (by decide) rfl ?_
  refine E_iconst (v := nI 1) (q := 8) dX6_getSetting_7 (by decide) rfl ?_
  refine C_S3I (q := 11) lk_X6_60 (sp_X6_inRange) dX6_getSetting_8 (by decide) (Nat.le_of_ble_eq_true rfl) rfl ?_
  refine E_if_eq (tgt := 23) (q := 14) dX6_getSetting_11 (by decide) rfl (fun h11 => ?_) (fun h11 => ?_)
  · skip
    refine E_bipush (v := -2) (q := 25) dX6_getSetting_23 (by decide) rfl ?_
    exact E_ireturn rfl rfl dX6_getSetting_25 (PI_of rfl rfl)
  · skip
    obtain ⟨v, hv, rfl⟩ := (rng (by decide)).mp (zI_n h11)
    exact absurd (show v = 0 ∨ v = 1 by omega) (by rintro (rfl | rfl); exact h0 rfl; exact h1 rfl)
end MODEL
