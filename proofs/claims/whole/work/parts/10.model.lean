/-! THE REFERENCE'S SMALL METHODS -/
theorem rng {x : Int32} {n : Nat} (hn : n < 2 ^ 31) : (nI 0 ≤ x ∧ x ≤ nI n) ↔ ∃ v, v ≤ n ∧ x = nI v := by
  constructor
  · rintro ⟨h1, h2⟩
    exact nI_of2 (nI_toInt hn) (Int32.not_lt.mpr h1) h2
  · rintro ⟨v, h1, rfl⟩
    exact ⟨nI_le (Nat.zero_le _) (by omega), nI_le h1 hn⟩
section MODEL
variable {D : va_G} {ad : Nat → Nat} {M : Mem} {wx : Nat} {ws : va_W}
theorem sp_X6_inRange {v lo hi : Int32} : Spec D 1 yX6_inRange cfX6_inRange [.int v, .int lo, .int hi] ws 0 0 (PI (zI (lo ≤ v ∧ v ≤ hi)) ws) := by
  refine Spec.of (by decide) rfl (Nat.le_of_ble_eq_true rfl) rfl ?_
  refine E_iload0 (q := 1) dX6_inRange_0 rfl ?_
  refine E_iload1 (q := 2) dX6_inRange_1 rfl ?_
  refine E_icmp_lt (tgt := 14) (q := 5) dX6_inRange_2 (by decide) rfl (fun h2 => ?_) (fun h2 => ?_)
  · skip
    refine E_iconst (v := nI 0) (q := 15) dX6_inRange_14 (by decide) rfl ?_
    exact E_zreturn rfl rfl rfl dX6_inRange_15 (PI_of (zI_f (by first | exact (fun q => Int32.not_lt.mpr q.2 h7) | exact (fun q => Int32.not_lt.mpr q.1 h2))) rfl)
  · skip
    refine E_iload0 (q := 6) dX6_inRange_5 rfl ?_
    refine E_iload2 (q := 7) dX6_inRange_6 rfl ?_
    refine E_icmp_gt (tgt := 14) (q := 10) dX6_inRange_7 (by decide) rfl (fun h7 => ?_) (fun h7 => ?_)
    · skip
      refine E_iconst (v := nI 0) (q := 15) dX6_inRange_14 (by decide) rfl ?_
      exact E_zreturn rfl rfl rfl dX6_inRange_15 (PI_of (zI_f (by first | exact (fun q => Int32.not_lt.mpr q.2 h7) | exact (fun q => Int32.not_lt.mpr q.1 h2))) rfl)
    · skip
      refine E_iconst (v := nI 1) (q := 11) dX6_inRange_10 (by decide) rfl ?_
      refine E_goto (q := 15) dX6_inRange_11 (by decide) ?_
      exact E_zreturn rfl rfl rfl dX6_inRange_15 (PI_of (zI_t ⟨Int32.not_lt.mp h2, Int32.not_lt.mp h7⟩) rfl)
theorem sp_X6_ofVolume {v x : Nat} : Spec D 1 yX6_ofVolume cfX6_ofVolume [.int (nI v), .int (nI x)] ws 0 0 (PI (nI (5 + 21 * v + x)) ws) := by
  refine Spec.of (by decide) rfl (Nat.le_of_ble_eq_true rfl) rfl ?_
  refine E_iconst (v := nI 5) (q := 1) dX6_ofVolume_0 (by decide) rfl ?_
  refine E_bipush (v := nI 21) (q := 3) dX6_ofVolume_1 (by decide) rfl ?_
  refine E_iload0 (q := 4) dX6_ofVolume_3 rfl ?_
  refine E_imulN (q := 5) dX6_ofVolume_4 rfl ?_
  refine E_iaddN (q := 6) dX6_ofVolume_5 rfl ?_
  refine E_iload1 (q := 7) dX6_ofVolume_6 rfl ?_
  refine E_iaddN (q := 8) dX6_ofVolume_7 rfl ?_
  exact E_ireturn rfl rfl dX6_ofVolume_8 (PI_of rfl rfl)
theorem sp_X6_ofSnapshot {v x : Nat} : Spec D 1 yX6_ofSnapshot cfX6_ofSnapshot [.int (nI v), .int (nI x)] ws 0 0 (PI (nI (131 + 5 * v + x)) ws) := by
  refine Spec.of (by decide) rfl (Nat.le_of_ble_eq_true rfl) rfl ?_
  refine E_sipush (v := nI 131) (q := 3) dX6_ofSnapshot_0 (by decide) rfl ?_
  refine E_iconst (v := nI 5) (q := 4) dX6_ofSnapshot_3 (by decide) rfl ?_
  refine E_iload0 (q := 5) dX6_ofSnapshot_4 rfl ?_
  refine E_imulN (q := 6) dX6_ofSnapshot_5 rfl ?_
  refine E_iaddN (q := 7) dX6_ofSnapshot_6 rfl ?_
  refine E_iload1 (q := 8) dX6_ofSnapshot_7 rfl ?_
  refine E_iaddN (q := 9) dX6_ofSnapshot_8 rfl ?_
  exact E_ireturn rfl rfl dX6_ofSnapshot_9 (PI_of rfl rfl)
theorem sp_X6_volume {v x : Nat} (hw : WX M wx) (hx : 5 + 21 * v + x < 739) : Spec D 2 yX6_volume cfX6_volume [.ref (ad 157), .int (nI v), .int (nI x)] (wl D ad M) 0 0 (PI (M wx (5 + 21 * v + x)) (wl D ad M)) := by
  refine Spec.of (by decide) rfl (Nat.le_of_ble_eq_true rfl) rfl ?_
  refine E_aload0 (q := 1) dX6_volume_0 rfl ?_
  refine G_X6_w (q := 4) (x := wx) (by repeat (first | exact hw | refine WX.w ?_ | refine WX.u (by decide) ?_)) fl_X6_16 dX6_volume_1 rfl ?_
  refine E_iload1 (q := 5) dX6_volume_4 rfl ?_
  refine E_iload2 (q := 6) dX6_volume_5 rfl ?_
  refine C_S2I (q := 9) lk_X6_53 (sp_X6_ofVolume) dX6_volume_6 (by decide) (Nat.le_of_ble_eq_true rfl) rfl ?_
  refine E_ialdN (q := 10) hw.2 (by omega) (by decide) dX6_volume_9 rfl ?_
  exact E_ireturn rfl rfl dX6_volume_10 (PI_of rfl rfl)
theorem sp_X6_snapshot {v x : Nat} (hw : WX M wx) (hx : 131 + 5 * v + x < 739) : Spec D 2 yX6_snapshot cfX6_snapshot [.ref (ad 157), .int (nI v), .int (nI x)] (wl D ad M) 0 0 (PI (M wx (131 + 5 * v + x)) (wl D ad M)) := by
  refine Spec.of (by decide) rfl (Nat.le_of_ble_eq_true rfl) rfl ?_
  refine E_aload0 (q := 1) dX6_snapshot_0 rfl ?_
  refine G_X6_w (q := 4) (x := wx) (by repeat (first | exact hw | refine WX.w ?_ | refine WX.u (by decide) ?_)) fl_X6_16 dX6_snapshot_1 rfl ?_
  refine E_iload1 (q := 5) dX6_snapshot_4 rfl ?_
  refine E_iload2 (q := 6) dX6_snapshot_5 rfl ?_
  refine C_S2I (q := 9) lk_X6_57 (sp_X6_ofSnapshot) dX6_snapshot_6 (by decide) (Nat.le_of_ble_eq_true rfl) rfl ?_
  refine E_ialdN (q := 10) hw.2 (by omega) (by decide) dX6_snapshot_9 rfl ?_
  exact E_ireturn rfl rfl dX6_snapshot_10 (PI_of rfl rfl)
def isVol (M : Mem) (wx : Nat) (p : Int32) : Prop := ∃ v, v < 6 ∧ p = nI v ∧ M wx (5 + 21 * v) = nI 1
def isSnap (M : Mem) (wx : Nat) (p : Int32) : Prop := ∃ v, v < 16 ∧ p = nI v ∧ M wx (131 + 5 * v) = nI 1
theorem sp_X6_isVolume {p : Int32} (hw : WX M wx) : Spec D 3 yX6_isVolume cfX6_isVolume [.ref (ad 157), .int p] (wl D ad M) 0 0 (PI (zI (isVol M wx p)) (wl D ad M)) := by
  refine Spec.of (by decide) rfl (Nat.le_of_ble_eq_true rfl) rfl ?_
  refine E_iload1 (q := 1) dX6_isVolume_0 rfl ?_
  refine E_iconst (v := nI 0) (q := 2) dX6_isVolume_1 (by decide) rfl ?_
  refine E_iconst (v := nI 5) (q := 3) dX6_isVolume_2 (by decide) rfl ?_
  refine C_S3I (q := 6) lk_X6_60 (sp_X6_inRange) dX6_isVolume_3 (by decide) (Nat.le_of_ble_eq_true rfl) rfl ?_
  refine E_if_eq (tgt := 23) (q := 9) dX6_isVolume_6 (by decide) rfl (fun h6 => ?_) (fun h6 => ?_)
  · skip
    refine E_iconst (v := nI 0) (q := 24) dX6_isVolume_23 (by decide) rfl ?_
    exact E_zreturn rfl rfl rfl dX6_isVolume_24 (PI_of (zI_f (by first | exact (fun ⟨w, h1, h2, h3⟩ => h16 (by rw [(nI_eq (by omega) (by omega)).mp h2]; exact h3)) | exact (fun ⟨v, h1, h2, _⟩ => zI_0 h6 ((rng (by decide)).mpr ⟨v, by omega, h2⟩)))) rfl)
  · skip
    obtain ⟨v, hv, rfl⟩ := (rng (by decide)).mp (zI_n h6)
    refine E_aload0 (q := 10) dX6_isVolume_9 rfl ?_
    refine E_iload1 (q := 11) dX6_isVolume_10 rfl ?_
    refine E_iconst (v := nI 0) (q := 12) dX6_isVolume_11 (by decide) rfl ?_
    refine C_V2I (q := 15) lk_X6_64 (sp_X6_volume hw (by omega)) rc_X6 dX6_isVolume_12 (by decide) (Nat.le_of_ble_eq_true rfl) rfl ?_
    refine E_iconst (v := nI 1) (q := 16) dX6_isVolume_15 (by decide) rfl ?_
    refine E_icmp_ne (tgt := 23) (q := 19) dX6_isVolume_16 (by decide) rfl (fun h16 => ?_) (fun h16 => ?_)
    · skip
      refine E_iconst (v := nI 0) (q := 24) dX6_isVolume_23 (by decide) rfl ?_
      exact E_zreturn rfl rfl rfl dX6_isVolume_24 (PI_of (zI_f (by first | exact (fun ⟨w, h1, h2, h3⟩ => h16 (by rw [(nI_eq (by omega) (by omega)).mp h2]; exact h3)) | exact (fun ⟨v, h1, h2, _⟩ => zI_0 h6 ((rng (by decide)).mpr ⟨v, by omega, h2⟩)))) rfl)
    · skip
      refine E_iconst (v := nI 1) (q := 20) dX6_isVolume_19 (by decide) rfl ?_
      refine E_goto (q := 24) dX6_isVolume_20 (by decide) ?_
      exact E_zreturn rfl rfl rfl dX6_isVolume_24 (PI_of (zI_t ⟨v, by omega, rfl, h16⟩) rfl)
end MODEL
