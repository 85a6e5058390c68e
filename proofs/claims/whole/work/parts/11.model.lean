/-! THE REFERENCE: versions, blocks -/
section MODEL
variable {D : va_G} {ad : Nat → Nat} {M : Mem} {wx : Nat} {ws : va_W}
theorem sp_X6_isSnapshot {p : Int32} (hw : WX M wx) : Spec D 3 yX6_isSnapshot cfX6_isSnapshot [.ref (ad 157), .int (p)] (wl D ad M) 0 0 (PI (zI (isSnap M wx p)) (wl D ad M)) := by
  refine Spec.of (by decide) rfl (Nat.le_of_ble_eq_true rfl) rfl ?_
  refine E_iload1 (q := 1) dX6_isSnapshot_0 rfl ?_
  refine E_iconst (v := nI 0) (q := 2) dX6_isSnapshot_1 (by decide) rfl ?_
  refine E_bipush (v := nI 15) (q := 4) dX6_isSnapshot_2 (by decide) rfl ?_
  refine C_S3I (q := 7) lk_X6_60 (sp_X6_inRange) dX6_isSnapshot_4 (by decide) (Nat.le_of_ble_eq_true rfl) rfl ?_
  refine E_if_eq (tgt := 24) (q := 10) dX6_isSnapshot_7 (by decide) rfl (fun h7 => ?_) (fun h7 => ?_)
  · skip
    refine E_iconst (v := nI 0) (q := 25) dX6_isSnapshot_24 (by decide) rfl ?_
    exact E_zreturn rfl rfl rfl dX6_isSnapshot_25 (PI_of (zI_f (by first | exact (fun ⟨w, h1, h2, h3⟩ => h17 (by rw [(nI_eq (by omega) (by omega)).mp h2]; exact h3)) | exact (fun ⟨v, h1, h2, _⟩ => zI_0 h7 ((rng (by decide)).mpr ⟨v, by omega, h2⟩)))) rfl)
  · skip
    obtain ⟨v, hv, rfl⟩ := (rng (by decide)).mp (zI_n h7)
    refine E_aload0 (q := 11) dX6_isSnapshot_10 rfl ?_
    refine E_iload1 (q := 12) dX6_isSnapshot_11 rfl ?_
    refine E_iconst (v := nI 0) (q := 13) dX6_isSnapshot_12 (by decide) rfl ?_
    refine C_V2I (q := 16) lk_X6_67 (sp_X6_snapshot hw (by omega)) rc_X6 dX6_isSnapshot_13 (by decide) (Nat.le_of_ble_eq_true rfl) rfl ?_
    refine E_iconst (v := nI 1) (q := 17) dX6_isSnapshot_16 (by decide) rfl ?_
    refine E_icmp_ne (tgt := 24) (q := 20) dX6_isSnapshot_17 (by decide) rfl (fun h17 => ?_) (fun h17 => ?_)
    · skip
      refine E_iconst (v := nI 0) (q := 25) dX6_isSnapshot_24 (by decide) rfl ?_
      exact E_zreturn rfl rfl rfl dX6_isSnapshot_25 (PI_of (zI_f (by first | exact (fun ⟨w, h1, h2, h3⟩ => h17 (by rw [(nI_eq (by omega) (by omega)).mp h2]; exact h3)) | exact (fun ⟨v, h1, h2, _⟩ => zI_0 h7 ((rng (by decide)).mpr ⟨v, by omega, h2⟩)))) rfl)
    · skip
      refine E_iconst (v := nI 1) (q := 21) dX6_isSnapshot_20 (by decide) rfl ?_
      refine E_goto (q := 25) dX6_isSnapshot_21 (by decide) ?_
      exact E_zreturn rfl rfl rfl dX6_isSnapshot_25 (PI_of (zI_t ⟨v, by omega, rfl, h17⟩) rfl)
/-- v is there -/
def verN (r : Nat → Int32) (v : Nat) : Prop := if v < 16 then r (131 + 5 * v) = nI 1 else r (5 + 21 * (v - 16)) = nI 1
def isVer (M : Mem) (wx : Nat) (p : Int32) : Prop := ∃ v, v < 22 ∧ p = nI v ∧ verN (M wx) v
theorem isSnap_ver {p : Int32} (h : p < nI 16) : isSnap M wx p ↔ isVer M wx p := by
  constructor
  · rintro ⟨v, h1, h2, h3⟩
    exact ⟨v, by omega, h2, by rw [verN, if_pos h1]; exact h3⟩
  · rintro ⟨v, h1, rfl, h3⟩
    have h4 : v < 16 := (nI_ltI (by omega) (by omega)).mp h
    rw [verN, if_pos h4] at h3
    exact ⟨v, h4, rfl, h3⟩
theorem isVol_ver {p : Int32} (h : nI 16 ≤ p) : isVol M wx (p - nI 16) ↔ isVer M wx p := by
  obtain ⟨n, hn, rfl⟩ := nI_of (x := p) (fun z => Int32.not_lt.mpr (Int32.le_trans (show (0 : Int32) ≤ nI 16 by decide) h) z)
  have h16 : 16 ≤ n := (nI_leI (by omega) hn).mp h
  rw [pk_sub h16]
  constructor
  · rintro ⟨v, h1, h2, h3⟩
    have : n - 16 = v := (nI_eq (by omega) (by omega)).mp h2
    refine ⟨n, by omega, rfl, ?_⟩
    rw [verN, if_neg (by omega), this]
    exact h3
  · rintro ⟨v, h1, h2, h3⟩
    have : n = v := (nI_eq (by omega) (by omega)).mp h2
    subst this
    rw [verN, if_neg (by omega)] at h3
    exact ⟨n - 16, by omega, rfl, h3⟩
theorem sp_X6_isVersion {p : Int32} (hw : WX M wx) : Spec D 4 yX6_isVersion cfX6_isVersion [.ref (ad 157), .int (p)] (wl D ad M) 0 0 (PI (zI (isVer M wx p)) (wl D ad M)) := by
  refine Spec.of (by decide) rfl (Nat.le_of_ble_eq_true rfl) rfl ?_
  refine E_iload1 (q := 1) dX6_isVersion_0 rfl ?_
  refine E_bipush (v := nI 16) (q := 3) dX6_isVersion_1 (by decide) rfl ?_
  refine E_icmp_ge (tgt := 14) (q := 6) dX6_isVersion_3 (by decide) rfl (fun h3 => ?_) (fun h3 => ?_)
  · skip
    refine E_aload0 (q := 15) dX6_isVersion_14 rfl ?_
    refine E_iload1 (q := 16) dX6_isVersion_15 rfl ?_
    refine E_bipush (v := nI 16) (q := 18) dX6_isVersion_16 (by decide) rfl ?_
    refine E_isub (q := 19) dX6_isVersion_18 rfl ?_
    refine C_V1I (q := 22) lk_X6_74 (sp_X6_isVolume hw) rc_X6 dX6_isVersion_19 (by decide) (Nat.le_of_ble_eq_true rfl) rfl ?_
    first | exact E_zreturn rfl rfl (bI_nar _) dX6_isVersion_22 (PI_of (zI_c (isSnap_ver (Int32.not_le.mp h3))) rfl) | exact E_zreturn rfl rfl (bI_nar _) dX6_isVersion_22 (PI_of (zI_c (isVol_ver h3)) rfl)
  · skip
    refine E_aload0 (q := 7) dX6_isVersion_6 rfl ?_
    refine E_iload1 (q := 8) dX6_isVersion_7 rfl ?_
    refine C_V1I (q := 11) lk_X6_70 (sp_X6_isSnapshot hw) rc_X6 dX6_isVersion_8 (by decide) (Nat.le_of_ble_eq_true rfl) rfl ?_
    refine E_goto (q := 22) dX6_isVersion_11 (by decide) ?_
    first | exact E_zreturn rfl rfl (bI_nar _) dX6_isVersion_22 (PI_of (zI_c (isSnap_ver (Int32.not_le.mp h3))) rfl) | exact E_zreturn rfl rfl (bI_nar _) dX6_isVersion_22 (PI_of (zI_c (isVol_ver h3)) rfl)
theorem isVer_nI {v : Nat} (hv : v < 22) : isVer M wx (nI v) ↔ verN (M wx) v := by
  constructor
  · rintro ⟨w, h1, h2, h3⟩
    rw [(nI_eq (by omega) (by omega)).mp h2]
    exact h3
  · intro h
    exact ⟨v, hv, rfl, h⟩
theorem sp_X6_isVersionN {v : Nat} (hw : WX M wx) (hv : v < 22) : Spec D 4 yX6_isVersion cfX6_isVersion [.ref (ad 157), .int (nI (v))] (wl D ad M) 0 0 (PI (zI (verN (M wx) v)) (wl D ad M)) := by
  exact zI_c (isVer_nI hv) ▸ sp_X6_isVersion hw
theorem sp_X6_birth {v a : Nat} (hw : WX M wx) (hv : v < 22) (ha : a < 12) : Spec D 1 yX6_birth cfX6_birth [.ref (ad 157), .int (nI (v)), .int (nI (a))] (wl D ad M) 0 0 (PI (M wx (211 + 12 * v + a)) (wl D ad M)) := by
  refine Spec.of (by decide) rfl (Nat.le_of_ble_eq_true rfl) rfl ?_
  refine E_aload0 (q := 1) dX6_birth_0 rfl ?_
  refine G_X6_w (q := 4) (x := wx) (by repeat (first | exact hw | refine WX.w ?_ | refine WX.u (by decide) ?_)) fl_X6_16 dX6_birth_1 rfl ?_
  refine E_sipush (v := nI 211) (q := 7) dX6_birth_4 (by decide) rfl ?_
  refine E_bipush (v := nI 12) (q := 9) dX6_birth_7 (by decide) rfl ?_
  refine E_iload1 (q := 10) dX6_birth_9 rfl ?_
  refine E_imulN (q := 11) dX6_birth_10 rfl ?_
  refine E_iaddN (q := 12) dX6_birth_11 rfl ?_
  refine E_iload2 (q := 13) dX6_birth_12 rfl ?_
  refine E_iaddN (q := 14) dX6_birth_13 rfl ?_
  refine E_ialdN (q := 15) hw.2 (by omega) (by decide) dX6_birth_14 rfl ?_
  exact E_ireturn rfl rfl dX6_birth_15 (PI_of rfl rfl)
theorem sp_X6_units {v a : Nat} (hw : WX M wx) (hv : v < 22) (ha : a < 12) : Spec D 1 yX6_units cfX6_units [.ref (ad 157), .int (nI (v)), .int (nI (a))] (wl D ad M) 0 0 (PI (M wx (475 + 12 * v + a)) (wl D ad M)) := by
  refine Spec.of (by decide) rfl (Nat.le_of_ble_eq_true rfl) rfl ?_
  refine E_aload0 (q := 1) dX6_units_0 rfl ?_
  refine G_X6_w (q := 4) (x := wx) (by repeat (first | exact hw | refine WX.w ?_ | refine WX.u (by decide) ?_)) fl_X6_16 dX6_units_1 rfl ?_
  refine E_sipush (v := nI 475) (q := 7) dX6_units_4 (by decide) rfl ?_
  refine E_bipush (v := nI 12) (q := 9) dX6_units_7 (by decide) rfl ?_
  refine E_iload1 (q := 10) dX6_units_9 rfl ?_
  refine E_imulN (q := 11) dX6_units_10 rfl ?_
  refine E_iaddN (q := 12) dX6_units_11 rfl ?_
  refine E_iload2 (q := 13) dX6_units_12 rfl ?_
  refine E_iaddN (q := 14) dX6_units_13 rfl ?_
  refine E_ialdN (q := 15) hw.2 (by omega) (by decide) dX6_units_14 rfl ?_
  exact E_ireturn rfl rfl dX6_units_15 (PI_of rfl rfl)
theorem sp_X6_isAddress {p : Int32} : Spec D 2 yX6_isAddress cfX6_isAddress [.int (p)] ws 0 0 (PI (zI (∃ a, a < 12 ∧ p = nI a)) ws) := by
  refine Spec.of (by decide) rfl (Nat.le_of_ble_eq_true rfl) rfl ?_
  refine E_iload0 (q := 1) dX6_isAddress_0 rfl ?_
  refine E_iconst (v := nI 0) (q := 2) dX6_isAddress_1 (by decide) rfl ?_
  refine E_bipush (v := nI 11) (q := 4) dX6_isAddress_2 (by decide) rfl ?_
  refine C_S3I (q := 7) lk_X6_60 (sp_X6_inRange) dX6_isAddress_4 (by decide) (Nat.le_of_ble_eq_true rfl) rfl ?_
  exact E_zreturn rfl rfl (bI_nar _) dX6_isAddress_7 (PI_of (zI_c ((rng (by decide)).trans ⟨fun ⟨a, h1, h2⟩ => ⟨a, by omega, h2⟩, fun ⟨a, h1, h2⟩ => ⟨a, by omega, h2⟩⟩)) rfl)
theorem sp_X6_lay {v a : Nat} {b u : Int32} (hw : WX M wx) (hv : v < 22) (ha : a < 12) : Spec D 1 yX6_lay cfX6_lay [.ref (ad 157), .int (nI (v)), .int (nI (a)), .int (b), .int (u)] (wl D ad M) 0 0 (PV (wl D ad (upd2 (upd2 M wx (211 + 12 * v + a) b) wx (475 + 12 * v + a) u))) := by
  refine Spec.of (by decide) rfl (Nat.le_of_ble_eq_true rfl) rfl ?_
  refine E_aload0 (q := 1) dX6_lay_0 rfl ?_
  refine G_X6_w (q := 4) (x := wx) (by repeat (first | exact hw | refine WX.w ?_ | refine WX.u (by decide) ?_)) fl_X6_16 dX6_lay_1 rfl ?_
  refine E_sipush (v := nI 211) (q := 7) dX6_lay_4 (by decide) rfl ?_
  refine E_bipush (v := nI 12) (q := 9) dX6_lay_7 (by decide) rfl ?_
  refine E_iload1 (q := 10) dX6_lay_9 rfl ?_
  refine E_imulN (q := 11) dX6_lay_10 rfl ?_
  refine E_iaddN (q := 12) dX6_lay_11 rfl ?_
  refine E_iload2 (q := 13) dX6_lay_12 rfl ?_
  refine E_iaddN (q := 14) dX6_lay_13 rfl ?_
  refine E_iload3 (q := 15) dX6_lay_14 rfl ?_
  refine E_iastN (q := 16) hw.2 (by omega) (by decide) dX6_lay_15 rfl ?_
  refine E_aload0 (q := 17) dX6_lay_16 rfl ?_
  refine G_X6_w (q := 20) (x := wx) (by repeat (first | exact hw | refine WX.w ?_ | refine WX.u (by decide) ?_)) fl_X6_16 dX6_lay_17 rfl ?_
  refine E_sipush (v := nI 475) (q := 23) dX6_lay_20 (by decide) rfl ?_
  refine E_bipush (v := nI 12) (q := 25) dX6_lay_23 (by decide) rfl ?_
  refine E_iload1 (q := 26) dX6_lay_25 rfl ?_
  refine E_imulN (q := 27) dX6_lay_26 rfl ?_
  refine E_iaddN (q := 28) dX6_lay_27 rfl ?_
  refine E_iload2 (q := 29) dX6_lay_28 rfl ?_
  refine E_iaddN (q := 30) dX6_lay_29 rfl ?_
  refine E_iload4 (q := 32) dX6_lay_30 rfl ?_
  refine E_iastN (q := 33) hw.2 (by omega) (by decide) dX6_lay_32 rfl ?_
  exact E_vreturn rfl rfl dX6_lay_33 (PV_of rfl)
/-- v has the block b somewhere -/
def hasB (r : Nat → Int32) (v : Nat) (b : Int32) : Prop := ∃ a, a < 12 ∧ r (211 + 12 * v + a) = b
theorem sp_X6_hasBlock {v : Nat} {b : Int32} (hw : WX M wx) (hv : v < 22) : Spec D 2 yX6_hasBlock cfX6_hasBlock [.ref (ad 157), .int (nI (v)), .int (b)] (wl D ad M) 0 0 (PI (zI (hasB (M wx) v b)) (wl D ad M)) := by
  refine Spec.of (by decide) rfl (Nat.le_of_ble_eq_true rfl) rfl ?_
  refine E_iconst (v := nI 0) (q := 1) dX6_hasBlock_0 (by decide) rfl ?_
  refine E_istore3 (q := 2) dX6_hasBlock_1 rfl rfl ?_
  refine (upto0 (n := 12) (P := fun i => (∀ j, j < i → M wx (211 + 12 * v + j) ≠ b) → V D cfX6_hasBlock (rmOf 2 0 0) (QM D (PI (zI (hasB (M wx) v b)) (wl D ad M)) 0 0) 0 0 2 [some (.ref (ad 157)), some (.int (nI (v))), some (.int (b)), some (.int (nI (i)))] [] (wl D ad M)) ?_ ?_) (fun j hj => absurd hj (by omega))
  · intro hno
    refine E_iload3 (q := 3) dX6_hasBlock_2 rfl ?_
    refine E_bipush (v := nI 12) (q := 5) dX6_hasBlock_3 (by decide) rfl ?_
    refine E_icmp_geN (tgt := 26) (q := 8) dX6_hasBlock_5 (by decide) rfl (by omega) (by omega) (fun h5 => ?_) (fun h5 => ?_)
    · skip
      refine E_iconst (v := nI 0) (q := 27) dX6_hasBlock_26 (by decide) rfl ?_
      exact E_zreturn rfl rfl rfl dX6_hasBlock_27 (PI_of (zI_f (fun ⟨a, h1, h2⟩ => hno a h1 h2)) rfl)
    · skip
      exact absurd h5 (by omega)
  · intro i hi ih hno
    refine E_iload3 (q := 3) dX6_hasBlock_2 rfl ?_
    refine E_bipush (v := nI 12) (q := 5) dX6_hasBlock_3 (by decide) rfl ?_
    refine E_icmp_geN (tgt := 26) (q := 8) dX6_hasBlock_5 (by decide) rfl (by omega) (by omega) (fun h5 => ?_) (fun h5 => ?_)
    · skip
      exact absurd h5 (by omega)
    · skip
      refine E_aload0 (q := 9) dX6_hasBlock_8 rfl ?_
      refine E_iload1 (q := 10) dX6_hasBlock_9 rfl ?_
      refine E_iload3 (q := 11) dX6_hasBlock_10 rfl ?_
      refine C_V2I (q := 14) lk_X6_77 (sp_X6_birth hw hv hi) rc_X6 dX6_hasBlock_11 (by decide) (Nat.le_of_ble_eq_true rfl) rfl ?_
      refine E_iload2 (q := 15) dX6_hasBlock_14 rfl ?_
      refine E_icmp_ne (tgt := 20) (q := 18) dX6_hasBlock_15 (by decide) rfl (fun h15 => ?_) (fun h15 => ?_)
      · skip
        refine E_iinc3 (q := 23) dX6_hasBlock_20 (nI_inc _) rfl rfl ?_
        refine E_goto (q := 2) dX6_hasBlock_23 (by decide) ?_
        exact ih (fun j hj => by rcases Nat.lt_or_ge j i with h | h; exact hno j h; rw [show j = i by omega]; exact h15)
      · skip
        refine E_iconst (v := nI 1) (q := 19) dX6_hasBlock_18 (by decide) rfl ?_
        exact E_zreturn rfl rfl rfl dX6_hasBlock_19 (PI_of (zI_t ⟨i, hi, h15⟩) rfl)
theorem sp_X6_holdersOf {b : Int32} (hw : WX M wx) : Spec D 5 yX6_holdersOf cfX6_holdersOf [.ref (ad 157), .int (b)] (wl D ad M) 0 0 (PI (nI (bset (fun v => verN (M wx) v ∧ hasB (M wx) v b) 22)) (wl D ad M)) := by
  refine Spec.of (by decide) rfl (Nat.le_of_ble_eq_true rfl) rfl ?_
  refine E_iconst (v := nI 0) (q := 1) dX6_holdersOf_0 (by decide) rfl ?_
  refine E_istore2 (q := 2) dX6_holdersOf_1 rfl rfl ?_
  refine E_iconst (v := nI 0) (q := 3) dX6_holdersOf_2 (by decide) rfl ?_
  refine E_istore3 (q := 4) dX6_holdersOf_3 rfl rfl ?_
  refine upto0 (n := 22) (P := fun i => V D cfX6_holdersOf (rmOf 5 0 0) (QM D (PI (nI (bset (fun v => verN (M wx) v ∧ hasB (M wx) v b) 22)) (wl D ad M)) 0 0) 0 0 4 [some (.ref (ad 157)), some (.int (b)), some (.int (nI (bset (fun v => verN (M wx) v ∧ hasB (M wx) v b) i))), some (.int (nI (i)))] [] (wl D ad M)) ?_ ?_
  · skip
    refine E_iload3 (q := 5) dX6_holdersOf_4 rfl ?_
    refine E_bipush (v := nI 22) (q := 7) dX6_holdersOf_5 (by decide) rfl ?_
    refine E_icmp_geN (tgt := 43) (q := 10) dX6_holdersOf_7 (by decide) rfl (by omega) (by omega) (fun h7 => ?_) (fun h7 => ?_)
    · skip
      refine E_iload2 (q := 44) dX6_holdersOf_43 rfl ?_
      exact E_ireturn rfl rfl dX6_holdersOf_44 (PI_of rfl rfl)
    · skip
      exact absurd h7 (by omega)
  · intro i hi ih
    refine E_iload3 (q := 5) dX6_holdersOf_4 rfl ?_
    refine E_bipush (v := nI 22) (q := 7) dX6_holdersOf_5 (by decide) rfl ?_
    refine E_icmp_geN (tgt := 43) (q := 10) dX6_holdersOf_7 (by decide) rfl (by omega) (by omega) (fun h7 => ?_) (fun h7 => ?_)
    · skip
      exact absurd h7 (by omega)
    · skip
      refine E_iload2 (q := 11) dX6_holdersOf_10 rfl ?_
      refine E_aload0 (q := 12) dX6_holdersOf_11 rfl ?_
      refine E_iload3 (q := 13) dX6_holdersOf_12 rfl ?_
      refine C_V1I (q := 16) lk_X6_87 (sp_X6_isVersionN hw hi) rc_X6 dX6_holdersOf_13 (by decide) (Nat.le_of_ble_eq_true rfl) rfl ?_
      refine E_if_eq (tgt := 34) (q := 19) dX6_holdersOf_16 (by decide) rfl (fun h16 => ?_) (fun h16 => ?_)
      · skip
        refine E_iconst (v := nI 0) (q := 35) dX6_holdersOf_34 (by decide) rfl ?_
        refine E_iorN (q := 36) dX6_holdersOf_35 (by first | exact bset_on (n := i) ⟨zI_n h16, zI_n h25⟩ | exact bset_off (n := i) (fun z => zI_0 h25 z.2) | exact bset_off (n := i) (fun z => zI_0 h16 z.1)) rfl ?_
        refine E_istore2 (q := 37) dX6_holdersOf_36 rfl rfl ?_
        refine E_iinc3 (q := 40) dX6_holdersOf_37 (nI_inc _) rfl rfl ?_
        refine E_goto (q := 4) dX6_holdersOf_40 (by decide) ?_
        exact ih
      · skip
        refine E_aload0 (q := 20) dX6_holdersOf_19 rfl ?_
        refine E_iload3 (q := 21) dX6_holdersOf_20 rfl ?_
        refine E_iload1 (q := 22) dX6_holdersOf_21 rfl ?_
        refine C_V2I (q := 25) lk_X6_90 (sp_X6_hasBlock hw hi) rc_X6 dX6_holdersOf_22 (by decide) (Nat.le_of_ble_eq_true rfl) rfl ?_
        refine E_if_eq (tgt := 34) (q := 28) dX6_holdersOf_25 (by decide) rfl (fun h25 => ?_) (fun h25 => ?_)
        · skip
          refine E_iconst (v := nI 0) (q := 35) dX6_holdersOf_34 (by decide) rfl ?_
          refine E_iorN (q := 36) dX6_holdersOf_35 (by first | exact bset_on (n := i) ⟨zI_n h16, zI_n h25⟩ | exact bset_off (n := i) (fun z => zI_0 h25 z.2) | exact bset_off (n := i) (fun z => zI_0 h16 z.1)) rfl ?_
          refine E_istore2 (q := 37) dX6_holdersOf_36 rfl rfl ?_
          refine E_iinc3 (q := 40) dX6_holdersOf_37 (nI_inc _) rfl rfl ?_
          refine E_goto (q := 4) dX6_holdersOf_40 (by decide) ?_
          exact ih
        · skip
          refine E_iconst (v := nI 1) (q := 29) dX6_holdersOf_28 (by decide) rfl ?_
          refine E_iload3 (q := 30) dX6_holdersOf_29 rfl ?_
          refine E_ishl (q := 31) dX6_holdersOf_30 rfl ?_
          refine V_int (one_shl hi) ?_
          refine E_goto (q := 35) dX6_holdersOf_31 (by decide) ?_
          refine E_iorN (q := 36) dX6_holdersOf_35 (by first | exact bset_on (n := i) ⟨zI_n h16, zI_n h25⟩ | exact bset_off (n := i) (fun z => zI_0 h25 z.2) | exact bset_off (n := i) (fun z => zI_0 h16 z.1)) rfl ?_
          refine E_istore2 (q := 37) dX6_holdersOf_36 rfl rfl ?_
          refine E_iinc3 (q := 40) dX6_holdersOf_37 (nI_inc _) rfl rfl ?_
          refine E_goto (q := 4) dX6_holdersOf_40 (by decide) ?_
          exact ih
theorem isFirst_iff {r : Nat → Int32} {v : Nat} {b : Int32} (hv : v < 22) : bset (fun v => verN r v ∧ hasB r v b) 22 &&& (2 ^ v - 1) = 0 ↔ ∀ w, w < v → ¬ (verN r w ∧ hasB r w b) := by
  rw [Nat.and_two_pow_sub_one_eq_mod]
  constructor
  · intro h w hw hb
    have h1 : (bset (fun v => verN r v ∧ hasB r v b) 22 % 2 ^ v).testBit w = true := by
      rw [Nat.testBit_mod_two_pow]
      simp only [hw, decide_true, Bool.true_and]
      exact (bset_bit _ _ _).mpr ⟨by omega, hb⟩
    rw [h, Nat.zero_testBit] at h1
    cases h1
  · intro h
    apply Nat.eq_of_testBit_eq
    intro k
    rw [Nat.testBit_mod_two_pow, Nat.zero_testBit]
    by_cases hk : k < v
    · simp only [hk, decide_true, Bool.true_and]
      cases hb : (bset (fun v => verN r v ∧ hasB r v b) 22).testBit k with
      | false => rfl
      | true => exact absurd ((bset_bit _ _ _).mp hb).2 (h k hk)
    · simp [hk]
theorem sp_X6_isFirst {v : Nat} {b : Int32} (hw : WX M wx) (hv : v < 22) : Spec D 6 yX6_isFirst cfX6_isFirst [.ref (ad 157), .int (nI (v)), .int (b)] (wl D ad M) 0 0 (PI (zI (∀ w, w < v → ¬ (verN (M wx) w ∧ hasB (M wx) w b))) (wl D ad M)) := by
  refine Spec.of (by decide) rfl (Nat.le_of_ble_eq_true rfl) rfl ?_
  refine E_aload0 (q := 1) dX6_isFirst_0 rfl ?_
  refine E_iload2 (q := 2) dX6_isFirst_1 rfl ?_
  refine C_V1I (q := 5) lk_X6_94 (sp_X6_holdersOf hw) rc_X6 dX6_isFirst_2 (by decide) (Nat.le_of_ble_eq_true rfl) rfl ?_
  refine E_istore3 (q := 6) dX6_isFirst_5 rfl rfl ?_
  refine E_iload3 (q := 7) dX6_isFirst_6 rfl ?_
  refine E_iconst (v := nI 1) (q := 8) dX6_isFirst_7 (by decide) rfl ?_
  refine E_iload1 (q := 9) dX6_isFirst_8 rfl ?_
  refine E_ishl (q := 10) dX6_isFirst_9 rfl ?_
  refine V_int (one_shl hv) ?_
  refine E_iconst (v := nI 1) (q := 11) dX6_isFirst_10 (by decide) rfl ?_
  have hp2 : 1 ≤ 2 ^ v := Nat.one_le_two_pow
  refine E_isubN (q := 12) dX6_isFirst_11 (by omega) rfl ?_
  refine E_iand (q := 13) dX6_isFirst_12 rfl ?_
  refine V_int (nI_and _ _) ?_
  refine E_if_ne (tgt := 20) (q := 16) dX6_isFirst_13 (by decide) rfl (fun h13 => ?_) (fun h13 => ?_)
  · skip
    refine E_iconst (v := nI 0) (q := 21) dX6_isFirst_20 (by decide) rfl ?_
    exact E_zreturn rfl rfl rfl dX6_isFirst_21 (PI_of (zI_f (fun z => h13 (congrArg nI ((isFirst_iff hv).mpr z)))) rfl)
  · skip
    refine E_iconst (v := nI 1) (q := 17) dX6_isFirst_16 (by decide) rfl ?_
    refine E_goto (q := 21) dX6_isFirst_17 (by decide) ?_
    exact E_zreturn rfl rfl rfl dX6_isFirst_21 (PI_of (zI_t ((isFirst_iff hv).mp (nI_inj (Nat.lt_of_le_of_lt Nat.and_le_left (Nat.lt_trans (bset_lt _ 22) (by decide))) (by decide) h13))) rfl)
end MODEL
