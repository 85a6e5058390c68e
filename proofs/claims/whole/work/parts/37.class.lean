
/-! THE CLASS: its face, what it answers -/
section CLS
variable {D : va_G} {ad : Nat → Nat} {M : Mem} {wx : Nat} {ws : va_W} {A : AS} {b : Nat} {bl : List Blk}
theorem vol_pop : popN (andn (thM A) (sbN 16)) = popN (bset (fun v => th A (16 + v)) 6) := by
  have h1 : andn (thM A) (sbN 16) < 2 ^ 22 := Nat.lt_of_le_of_lt andn_le thM_lt
  rw [pop22 h1, popN_bset _ (by decide)]
  have hb : ∀ k, (andn (thM A) (sbN 16)).testBit k = true ↔ k < 22 ∧ th A k ∧ 16 ≤ k := fun k => by
    rw [andn_bit (Nat.lt_trans thM_lt (by decide)), thM_bit, sb_bit]
    constructor
    · rintro ⟨⟨a, c⟩, d⟩; exact ⟨a, c, by omega⟩
    · rintro ⟨a, c, d⟩; exact ⟨⟨a, c⟩, by omega⟩
  have hs : ∀ n, n ≤ 6 → nsum (fun v => if (andn (thM A) (sbN 16)).testBit v = true then 1 else 0) (16 + n) = nsum (fun v => if dB (th A (16 + v)) = true then 1 else 0) n := fun n => by
    induction n with
    | zero => intro _; exact nsum_zero fun i hi => if_neg (fun z => by have := (hb i).mp z; omega)
    | succ n ih =>
      intro hn
      rw [show 16 + (n + 1) = (16 + n) + 1 by omega, nsum_s, nsum_s, ih (by omega)]
      by_cases c : th A (16 + n)
      · rw [if_pos ((hb _).mpr ⟨by omega, c, by omega⟩), if_pos (dB_t c)]
      · rw [if_neg (fun z => c ((hb _).mp z).2.1), if_neg (by rw [dB_f c]; simp)]
  exact hs 6 (by decide)
theorem sp_X0_indexAt {w a : Nat} (hb : IsBl b) (hB : BlkIs M b bl) (hw : BLW bl) (hw22 : w < 22) (ha : a < 2 ^ 31) : Spec D 2 yX0_indexAt cfX0_indexAt [.ref (ad b), .int (nI w), .int (nI a)] (wl D ad M) 0 0 (PI (ixI bl w a) (wl D ad M)) := by
  rcases at_cases bl w a with ⟨_, hn⟩ | ⟨i, x, hf, _⟩
  · rw [ixI_N hn]; exact sp_X0_indexAtN hb hB hw hw22 ha hn
  · rw [ixI_S hf]; exact sp_X0_indexAtS hb hB hw hw22 ha hf
theorem sp_X5_needVersion {p : Int32} (h : SI M 1 A) (hp : VerA A p) : Spec D 5 yX5_needVersion cfX5_needVersion [.ref (ad 0), .int (p)] (wl D ad M) 0 0 (PV (wl D ad M)) := by
  refine Spec.of (by decide) rfl (Nat.le_of_ble_eq_true rfl) rfl ?_
  refine E_aload0 (q := 1) dX5_needVersion_0 rfl ?_
  refine G_X5_store (q := 4) fl_X5_12 dX5_needVersion_1 rfl ?_
  refine E_iload1 (q := 5) dX5_needVersion_4 rfl ?_
  refine C_V1I (q := 8) lk_X5_151 (sp_X4_has h) (rc_X4 isSt_1) dX5_needVersion_5 (by decide) (Nat.le_of_ble_eq_true rfl) rfl ?_
  refine E_if_ne (tgt := 22) (q := 11) dX5_needVersion_8 (by decide) rfl (fun h8 => ?_) (fun h8 => ?_)
  · skip
    exact E_vreturn rfl rfl dX5_needVersion_22 (PV_of rfl)
  · skip
    exact absurd hp (zI_0 h8)
theorem sp_X5_needVolume {p : Int32} (h : SI M 1 A) (hp : VolA A p) : Spec D 5 yX5_needVolume cfX5_needVolume [.ref (ad 0), .int (p)] (wl D ad M) 0 0 (PV (wl D ad M)) := by
  refine Spec.of (by decide) rfl (Nat.le_of_ble_eq_true rfl) rfl ?_
  refine E_aload0 (q := 1) dX5_needVolume_0 rfl ?_
  refine G_X5_store (q := 4) fl_X5_12 dX5_needVolume_1 rfl ?_
  refine E_iload1 (q := 5) dX5_needVolume_4 rfl ?_
  refine C_V1I (q := 8) lk_X5_254 (sp_X4_hasVolume h) (rc_X4 isSt_1) dX5_needVolume_5 (by decide) (Nat.le_of_ble_eq_true rfl) rfl ?_
  refine E_if_ne (tgt := 22) (q := 11) dX5_needVolume_8 (by decide) rfl (fun h8 => ?_) (fun h8 => ?_)
  · skip
    exact E_vreturn rfl rfl dX5_needVolume_22 (PV_of rfl)
  · skip
    exact absurd hp (zI_0 h8)
theorem sp_X5_needSnapshot {p : Int32} (h : SI M 1 A) (hp : SnpA A p) : Spec D 6 yX5_needSnapshot cfX5_needSnapshot [.ref (ad 0), .int (p)] (wl D ad M) 0 0 (PV (wl D ad M)) := by
  refine Spec.of (by decide) rfl (Nat.le_of_ble_eq_true rfl) rfl ?_
  refine E_aload0 (q := 1) dX5_needSnapshot_0 rfl ?_
  refine G_X5_store (q := 4) fl_X5_12 dX5_needSnapshot_1 rfl ?_
  refine E_iload1 (q := 5) dX5_needSnapshot_4 rfl ?_
  refine C_V1I (q := 8) lk_X5_266 (sp_X4_hasSnapshot h) (rc_X4 isSt_1) dX5_needSnapshot_5 (by decide) (Nat.le_of_ble_eq_true rfl) rfl ?_
  refine E_if_ne (tgt := 22) (q := 11) dX5_needSnapshot_8 (by decide) rfl (fun h8 => ?_) (fun h8 => ?_)
  · skip
    exact E_vreturn rfl rfl dX5_needSnapshot_22 (PV_of rfl)
  · skip
    exact absurd hp (zI_0 h8)
theorem sp_X5_needAddress {p : Int32} (hp : AdrP p) : Spec D 3 yX5_needAddress cfX5_needAddress [.ref (ad 0), .int (p)] ws 0 0 (PV ws) := by
  refine Spec.of (by decide) rfl (Nat.le_of_ble_eq_true rfl) rfl ?_
  refine E_iload1 (q := 1) dX5_needAddress_0 rfl ?_
  refine C_S1I (q := 4) lk_X5_257 (sp_X5_isAddress) dX5_needAddress_1 (by decide) (Nat.le_of_ble_eq_true rfl) rfl ?_
  refine E_if_ne (tgt := 18) (q := 7) dX5_needAddress_4 (by decide) rfl (fun h4 => ?_) (fun h4 => ?_)
  · skip
    exact E_vreturn rfl rfl dX5_needAddress_18 (PV_of rfl)
  · skip
    exact absurd hp (zI_0 h4)
theorem sp_X5_clonesOf {s : Nat}  (h : SI M 1 A) (hs : s < 16) (ht : th A s) : Spec D 10 yX5_clonesOf cfX5_clonesOf [.ref (ad 0), .int (nI (s))] (wl D ad M) 0 0 (PI (nI (clo A s)) (wl D ad M)) := by
  refine Spec.of (by decide) rfl (Nat.le_of_ble_eq_true rfl) rfl ?_
  refine E_aload0 (q := 1) dX5_clonesOf_0 rfl ?_
  refine E_iload1 (q := 2) dX5_clonesOf_1 rfl ?_
  refine C_V1V (q := 5) lk_X5_161 (sp_X5_needSnapshot h ((SnpA_nI (by omega)).mpr ⟨hs, ht⟩)) rc_X5 dX5_clonesOf_2 (by decide) (Nat.le_of_ble_eq_true rfl) rfl ?_
  refine E_aload0 (q := 6) dX5_clonesOf_5 rfl ?_
  refine G_X5_store (q := 9) fl_X5_12 dX5_clonesOf_6 rfl ?_
  refine E_iload1 (q := 10) dX5_clonesOf_9 rfl ?_
  refine C_V1I (q := 13) lk_X5_173 (sp_X4_offspring h (by omega)) (rc_X4 isSt_1) dX5_clonesOf_10 (by decide) (Nat.le_of_ble_eq_true rfl) rfl ?_
  exact E_ireturn rfl rfl dX5_clonesOf_13 (PI_of rfl rfl)
theorem sp_X5_before {w : Nat}  (h : SI M 1 A) (hw : w < 22) (ht : th A w) : Spec D 10 yX5_before cfX5_before [.ref (ad 0), .int (nI (w))] (wl D ad M) 0 0 (PI (oI (ahd A w)) (wl D ad M)) := by
  refine Spec.of (by decide) rfl (Nat.le_of_ble_eq_true rfl) rfl ?_
  refine E_aload0 (q := 1) dX5_before_0 rfl ?_
  refine E_iload1 (q := 2) dX5_before_1 rfl ?_
  refine C_V1V (q := 5) lk_X5_179 (sp_X5_needVersion h ((VerA_nI (by omega)).mpr ⟨hw, ht⟩)) rc_X5 dX5_before_2 (by decide) (Nat.le_of_ble_eq_true rfl) rfl ?_
  refine E_aload0 (q := 6) dX5_before_5 rfl ?_
  refine G_X5_store (q := 9) fl_X5_12 dX5_before_6 rfl ?_
  refine E_iload1 (q := 10) dX5_before_9 rfl ?_
  refine C_V1I (q := 13) lk_X5_182 (sp_X4_ahead h hw ht) (rc_X4 isSt_1) dX5_before_10 (by decide) (Nat.le_of_ble_eq_true rfl) rfl ?_
  exact E_ireturn rfl rfl dX5_before_13 (PI_of rfl rfl)
theorem sp_X5_behind {s : Nat}  (h : SI M 1 A) (hs : s < 16) (ht : th A s) : Spec D 10 yX5_behind cfX5_behind [.ref (ad 0), .int (nI (s))] (wl D ad M) 0 0 (PI (nI (bhd A s)) (wl D ad M)) := by
  refine Spec.of (by decide) rfl (Nat.le_of_ble_eq_true rfl) rfl ?_
  refine E_aload0 (q := 1) dX5_behind_0 rfl ?_
  refine E_iload1 (q := 2) dX5_behind_1 rfl ?_
  refine C_V1V (q := 5) lk_X5_161 (sp_X5_needSnapshot h ((SnpA_nI (by omega)).mpr ⟨hs, ht⟩)) rc_X5 dX5_behind_2 (by decide) (Nat.le_of_ble_eq_true rfl) rfl ?_
  refine E_aload0 (q := 6) dX5_behind_5 rfl ?_
  refine G_X5_store (q := 9) fl_X5_12 dX5_behind_6 rfl ?_
  refine E_iload1 (q := 10) dX5_behind_9 rfl ?_
  refine C_V1I (q := 13) lk_X5_185 (sp_X4_follower h hs ht) (rc_X4 isSt_1) dX5_behind_10 (by decide) (Nat.le_of_ble_eq_true rfl) rfl ?_
  exact E_ireturn rfl rfl dX5_behind_13 (PI_of rfl rfl)
theorem sp_X5_depthOf {w : Nat}  (h : SI M 1 A) (hw : w < 22) (ht : th A w) : Spec D 10 yX5_depthOf cfX5_depthOf [.ref (ad 0), .int (nI (w))] (wl D ad M) 0 0 (PI (nI ((lin A w).length - 1)) (wl D ad M)) := by
  refine Spec.of (by decide) rfl (Nat.le_of_ble_eq_true rfl) rfl ?_
  have h1 := lin_ne A w
  have h2 := linM_lt (A := A) (w := w)
  refine E_aload0 (q := 1) dX5_depthOf_0 rfl ?_
  refine E_iload1 (q := 2) dX5_depthOf_1 rfl ?_
  refine C_V1V (q := 5) lk_X5_179 (sp_X5_needVersion h ((VerA_nI (by omega)).mpr ⟨hw, ht⟩)) rc_X5 dX5_depthOf_2 (by decide) (Nat.le_of_ble_eq_true rfl) rfl ?_
  refine E_aload0 (q := 6) dX5_depthOf_5 rfl ?_
  refine G_X5_store (q := 9) fl_X5_12 dX5_depthOf_6 rfl ?_
  refine E_iload1 (q := 10) dX5_depthOf_9 rfl ?_
  refine C_V1I (q := 13) lk_X5_188 (sp_X4_lineage h hw ht) (rc_X4 isSt_1) dX5_depthOf_10 (by decide) (Nat.le_of_ble_eq_true rfl) rfl ?_
  refine C_S1I (q := 16) lk_X5_133 (sp_J6_bitCount_0f7a4 (by omega)) dX5_depthOf_13 (by decide) (Nat.le_of_ble_eq_true rfl) rfl ?_
  refine V_int (congrArg nI (lin_pop h.2.2 hw ht)) ?_
  refine E_iconst (v := nI 1) (q := 17) dX5_depthOf_16 (by decide) rfl ?_
  refine E_isubN (q := 18) dX5_depthOf_17 (by omega) rfl ?_
  exact E_ireturn rfl rfl dX5_depthOf_18 (PI_of rfl rfl)
theorem sp_X5_referenced {w : Nat}  (h : SI M 1 A) (hw : w < 22) (ht : th A w) : Spec D 10 yX5_referenced cfX5_referenced [.ref (ad 0), .int (nI (w))] (wl D ad M) 0 0 (PI (nI (sumA A w)) (wl D ad M)) := by
  refine Spec.of (by decide) rfl (Nat.le_of_ble_eq_true rfl) rfl ?_
  have hp32 : 2 ^ w < 2 ^ 32 := Nat.pow_lt_pow_right (by decide) (by omega)
  refine E_aload0 (q := 1) dX5_referenced_0 rfl ?_
  refine E_iload1 (q := 2) dX5_referenced_1 rfl ?_
  refine C_V1V (q := 5) lk_X5_179 (sp_X5_needVersion h ((VerA_nI (by omega)).mpr ⟨hw, ht⟩)) rc_X5 dX5_referenced_2 (by decide) (Nat.le_of_ble_eq_true rfl) rfl ?_
  refine E_aload0 (q := 6) dX5_referenced_5 rfl ?_
  refine G_X5_store (q := 9) fl_X5_12 dX5_referenced_6 rfl ?_
  refine G_X4_blocks (q := 12) isSt_1 fl_X5_95 dX5_referenced_9 rfl ?_
  refine E_iload1 (q := 13) dX5_referenced_12 rfl ?_
  refine C_S1I (q := 16) lk_X5_200 (sp_X5_bit (by omega)) dX5_referenced_13 (by decide) (Nat.le_of_ble_eq_true rfl) rfl ?_
  refine E_iconst (v := nI 0) (q := 17) dX5_referenced_16 (by decide) rfl ?_
  refine E_iconst (v := nI 0) (q := 18) dX5_referenced_17 (by decide) rfl ?_
  refine C_V3I (q := 21) lk_X5_216 (sp_X0_unitsWhere h.1.blocks h.bi h.bw hp32 (by decide) (by decide)) (rc_X0 isSt_1.blocks) dX5_referenced_18 (by decide) (Nat.le_of_ble_eq_true rfl) rfl ?_
  refine V_int (congrArg nI (uwF_w h.2.2 w)) ?_
  exact E_ireturn rfl rfl dX5_referenced_21 (PI_of rfl rfl)
theorem sp_X5_exclusive {w : Nat}  (h : SI M 1 A) (hw : w < 22) (ht : th A w) : Spec D 10 yX5_exclusive cfX5_exclusive [.ref (ad 0), .int (nI (w))] (wl D ad M) 0 0 (PI (nI (fsum (hbF (2 ^ w)) A.2)) (wl D ad M)) := by
  refine Spec.of (by decide) rfl (Nat.le_of_ble_eq_true rfl) rfl ?_
  have hp32 : 2 ^ w < 2 ^ 32 := Nat.pow_lt_pow_right (by decide) (by omega)
  refine E_aload0 (q := 1) dX5_exclusive_0 rfl ?_
  refine E_iload1 (q := 2) dX5_exclusive_1 rfl ?_
  refine C_V1V (q := 5) lk_X5_179 (sp_X5_needVersion h ((VerA_nI (by omega)).mpr ⟨hw, ht⟩)) rc_X5 dX5_exclusive_2 (by decide) (Nat.le_of_ble_eq_true rfl) rfl ?_
  refine E_aload0 (q := 6) dX5_exclusive_5 rfl ?_
  refine G_X5_store (q := 9) fl_X5_12 dX5_exclusive_6 rfl ?_
  refine G_X4_blocks (q := 12) isSt_1 fl_X5_95 dX5_exclusive_9 rfl ?_
  refine E_iload1 (q := 13) dX5_exclusive_12 rfl ?_
  refine C_S1I (q := 16) lk_X5_200 (sp_X5_bit (by omega)) dX5_exclusive_13 (by decide) (Nat.le_of_ble_eq_true rfl) rfl ?_
  refine C_V1I (q := 19) lk_X5_231 (sp_X0_unitsOnlyOf h.1.blocks h.bi h.bw hp32) (rc_X0 isSt_1.blocks) dX5_exclusive_16 (by decide) (Nat.le_of_ble_eq_true rfl) rfl ?_
  exact E_ireturn rfl rfl dX5_exclusive_19 (PI_of rfl rfl)
theorem sp_X5_whyKept {s : Nat}  (h : SI M 1 A) (hs : s < 16) (ht : th A s) : Spec D 10 yX5_whyKept cfX5_whyKept [.ref (ad 0), .int (nI (s))] (wl D ad M) 0 0 (PI (nI (whyN A s)) (wl D ad M)) := by
  refine Spec.of (by decide) rfl (Nat.le_of_ble_eq_true rfl) rfl ?_
  have hcl := clo_lt (A := A) (s := s)
  have hhl := hdM_lt (A := A)
  refine E_aload0 (q := 1) dX5_whyKept_0 rfl ?_
  refine E_iload1 (q := 2) dX5_whyKept_1 rfl ?_
  refine C_V1V (q := 5) lk_X5_161 (sp_X5_needSnapshot h ((SnpA_nI (by omega)).mpr ⟨hs, ht⟩)) rc_X5 dX5_whyKept_2 (by decide) (Nat.le_of_ble_eq_true rfl) rfl ?_
  refine E_aload0 (q := 6) dX5_whyKept_5 rfl ?_
  refine G_X5_store (q := 9) fl_X5_12 dX5_whyKept_6 rfl ?_
  refine E_iload1 (q := 10) dX5_whyKept_9 rfl ?_
  refine C_V1I (q := 13) lk_X5_173 (sp_X4_offspring h (by omega)) (rc_X4 isSt_1) dX5_whyKept_10 (by decide) (Nat.le_of_ble_eq_true rfl) rfl ?_
  refine E_if_eq (tgt := 18) (q := 16) dX5_whyKept_13 (by decide) rfl (fun h13 => ?_) (fun h13 => ?_)
  · skip
    refine E_aload0 (q := 19) dX5_whyKept_18 rfl ?_
    refine G_X5_store (q := 22) fl_X5_12 dX5_whyKept_19 rfl ?_
    refine G_X4_heldSet (q := 25) isSt_1 fl_X5_170 dX5_whyKept_22 rfl ?_
    refine V_int h.2.1.1.2.2.2.2 ?_
    refine E_iload1 (q := 26) dX5_whyKept_25 rfl ?_
    refine C_S2I (q := 29) lk_X5_88 (sp_X5_contains (by omega) (by omega)) dX5_whyKept_26 (by decide) (Nat.le_of_ble_eq_true rfl) rfl ?_
    refine E_if_eq (tgt := 36) (q := 32) dX5_whyKept_29 (by decide) rfl (fun h29 => ?_) (fun h29 => ?_)
    · skip
      refine E_iconst (v := nI 0) (q := 37) dX5_whyKept_36 (by decide) rfl ?_
      exact E_ireturn rfl rfl dX5_whyKept_37 (PI_of (by rw [whyN, if_neg (fun z => z ((nI_z (by omega)).mp h13)), if_neg (show ¬ A.1 4 s = 1 from fun z => zI_0 h29 (hdM_bit.mpr ⟨hs, z⟩))]) rfl)
    · skip
      refine E_iconst (v := nI 2) (q := 33) dX5_whyKept_32 (by decide) rfl ?_
      refine E_goto (q := 37) dX5_whyKept_33 (by decide) ?_
      exact E_ireturn rfl rfl dX5_whyKept_37 (PI_of (by rw [whyN, if_neg (fun z => z ((nI_z (by omega)).mp h13)), if_pos (show A.1 4 s = 1 from (hdM_bit.mp (zI_n h29)).2)]) rfl)
  · skip
    refine E_iconst (v := nI 1) (q := 17) dX5_whyKept_16 (by decide) rfl ?_
    exact E_ireturn rfl rfl dX5_whyKept_17 (PI_of (by rw [whyN, if_pos (fun z => h13 (by rw [z]; rfl))]) rfl)
theorem sp_X5_usedBySnapshots {v : Nat}  (h : SI M 1 A) (hv : v < 6) (ht : th A (16 + v)) : Spec D 10 yX5_usedBySnapshots cfX5_usedBySnapshots [.ref (ad 0), .int (nI (v))] (wl D ad M) 0 0 (PI (nI (fsum (hbF (rowM A v)) A.2)) (wl D ad M)) := by
  refine Spec.of (by decide) rfl (Nat.le_of_ble_eq_true rfl) rfl ?_
  have hl := rowM_lt (A := A) (v := v)
  refine E_aload0 (q := 1) dX5_usedBySnapshots_0 rfl ?_
  refine E_iload1 (q := 2) dX5_usedBySnapshots_1 rfl ?_
  refine C_V1V (q := 5) lk_X5_69 (sp_X5_needVolume h ((VolA_nI (by omega)).mpr ⟨hv, ht⟩)) rc_X5 dX5_usedBySnapshots_2 (by decide) (Nat.le_of_ble_eq_true rfl) rfl ?_
  refine E_aload0 (q := 6) dX5_usedBySnapshots_5 rfl ?_
  refine G_X5_store (q := 9) fl_X5_12 dX5_usedBySnapshots_6 rfl ?_
  refine G_X4_blocks (q := 12) isSt_1 fl_X5_95 dX5_usedBySnapshots_9 rfl ?_
  refine E_aload0 (q := 13) dX5_usedBySnapshots_12 rfl ?_
  refine G_X5_store (q := 16) fl_X5_12 dX5_usedBySnapshots_13 rfl ?_
  refine E_iload1 (q := 17) dX5_usedBySnapshots_16 rfl ?_
  refine C_V1I (q := 20) lk_X5_85 (sp_X4_rowOf h (by omega)) (rc_X4 isSt_1) dX5_usedBySnapshots_17 (by decide) (Nat.le_of_ble_eq_true rfl) rfl ?_
  refine C_V1I (q := 23) lk_X5_231 (sp_X0_unitsOnlyOf h.1.blocks h.bi h.bw (by omega)) (rc_X0 isSt_1.blocks) dX5_usedBySnapshots_20 (by decide) (Nat.le_of_ble_eq_true rfl) rfl ?_
  exact E_ireturn rfl rfl dX5_usedBySnapshots_23 (PI_of rfl rfl)
theorem sp_X5_freedByVolume {v : Nat}  (h : SI M 1 A) (hv : v < 6) (ht : th A (16 + v)) : Spec D 10 yX5_freedByVolume cfX5_freedByVolume [.ref (ad 0), .int (nI (v))] (wl D ad M) 0 0 (PI (nI (fsum (hbF (rowM A v ||| 2 ^ (16 + v))) A.2)) (wl D ad M)) := by
  refine Spec.of (by decide) rfl (Nat.le_of_ble_eq_true rfl) rfl ?_
  have hl := volS_lt (A := A) hv
  refine E_aload0 (q := 1) dX5_freedByVolume_0 rfl ?_
  refine E_iload1 (q := 2) dX5_freedByVolume_1 rfl ?_
  refine C_V1V (q := 5) lk_X5_69 (sp_X5_needVolume h ((VolA_nI (by omega)).mpr ⟨hv, ht⟩)) rc_X5 dX5_freedByVolume_2 (by decide) (Nat.le_of_ble_eq_true rfl) rfl ?_
  refine E_aload0 (q := 6) dX5_freedByVolume_5 rfl ?_
  refine G_X5_store (q := 9) fl_X5_12 dX5_freedByVolume_6 rfl ?_
  refine G_X4_blocks (q := 12) isSt_1 fl_X5_95 dX5_freedByVolume_9 rfl ?_
  refine E_aload0 (q := 13) dX5_freedByVolume_12 rfl ?_
  refine G_X5_store (q := 16) fl_X5_12 dX5_freedByVolume_13 rfl ?_
  refine E_iload1 (q := 17) dX5_freedByVolume_16 rfl ?_
  refine C_V1I (q := 20) lk_X5_219 (sp_X4_versionsOf h hv) (rc_X4 isSt_1) dX5_freedByVolume_17 (by decide) (Nat.le_of_ble_eq_true rfl) rfl ?_
  refine C_V1I (q := 23) lk_X5_231 (sp_X0_unitsOnlyOf h.1.blocks h.bi h.bw (by omega)) (rc_X0 isSt_1.blocks) dX5_freedByVolume_20 (by decide) (Nat.le_of_ble_eq_true rfl) rfl ?_
  exact E_ireturn rfl rfl dX5_freedByVolume_23 (PI_of rfl rfl)
theorem sp_X5_volumeNumber0 {v : Nat}  (h : SI M 1 A) (hv : v < 6) (ht : th A (16 + v)) : Spec D 10 yX5_volumeNumber cfX5_volumeNumber [.ref (ad 0), .int (nI (v)), .int (nI (0))] (wl D ad M) 0 0 (PI (oI (org A v)) (wl D ad M)) := by
  refine Spec.of (by decide) rfl (Nat.le_of_ble_eq_true rfl) rfl ?_
  have hl := rowM_lt (A := A) (v := v)
  refine E_aload0 (q := 1) dX5_volumeNumber_0 rfl ?_
  refine E_iload1 (q := 2) dX5_volumeNumber_1 rfl ?_
  refine C_V1V (q := 5) lk_X5_69 (sp_X5_needVolume h ((VolA_nI (by omega)).mpr ⟨hv, ht⟩)) rc_X5 dX5_volumeNumber_2 (by decide) (Nat.le_of_ble_eq_true rfl) rfl ?_
  refine E_iload2 (q := 6) dX5_volumeNumber_5 rfl ?_
  refine E_tableIn (q := 32) dX5_volumeNumber_6 (by decide) (by decide) (show _ = some _ from rfl) (by decide) ?_
  refine E_aload0 (q := 33) dX5_volumeNumber_32 rfl ?_
  refine G_X5_store (q := 36) fl_X5_12 dX5_volumeNumber_33 rfl ?_
  refine G_X4_origins (q := 39) isSt_1 fl_X5_155 dX5_volumeNumber_36 rfl ?_
  refine E_iload1 (q := 40) dX5_volumeNumber_39 rfl ?_
  refine E_ialdN (q := 41) isSt_1.origins (by omega) (by decide) dX5_volumeNumber_40 rfl ?_
  refine V_int (h.2.1.2.2.2.1 v hv ht).2.1 ?_
  exact E_ireturn rfl rfl dX5_volumeNumber_41 (PI_of rfl rfl)
theorem sp_X5_volumeNumber1 {v : Nat}  (h : SI M 1 A) (hv : v < 6) (ht : th A (16 + v)) : Spec D 10 yX5_volumeNumber cfX5_volumeNumber [.ref (ad 0), .int (nI (v)), .int (nI (1))] (wl D ad M) 0 0 (PI (nI (rowL A v).length) (wl D ad M)) := by
  refine Spec.of (by decide) rfl (Nat.le_of_ble_eq_true rfl) rfl ?_
  have hl := rowM_lt (A := A) (v := v)
  refine E_aload0 (q := 1) dX5_volumeNumber_0 rfl ?_
  refine E_iload1 (q := 2) dX5_volumeNumber_1 rfl ?_
  refine C_V1V (q := 5) lk_X5_69 (sp_X5_needVolume h ((VolA_nI (by omega)).mpr ⟨hv, ht⟩)) rc_X5 dX5_volumeNumber_2 (by decide) (Nat.le_of_ble_eq_true rfl) rfl ?_
  refine E_iload2 (q := 6) dX5_volumeNumber_5 rfl ?_
  refine E_tableIn (q := 42) dX5_volumeNumber_6 (by decide) (by decide) (show _ = some _ from rfl) (by decide) ?_
  refine E_aload0 (q := 43) dX5_volumeNumber_42 rfl ?_
  refine G_X5_store (q := 46) fl_X5_12 dX5_volumeNumber_43 rfl ?_
  refine E_iload1 (q := 47) dX5_volumeNumber_46 rfl ?_
  refine C_V1I (q := 50) lk_X5_85 (sp_X4_rowOf h (by omega)) (rc_X4 isSt_1) dX5_volumeNumber_47 (by decide) (Nat.le_of_ble_eq_true rfl) rfl ?_
  refine C_S1I (q := 53) lk_X5_133 (sp_J6_bitCount_0f7a4 (by omega)) dX5_volumeNumber_50 (by decide) (Nat.le_of_ble_eq_true rfl) rfl ?_
  refine V_int (congrArg nI (row_pop v)) ?_
  exact E_ireturn rfl rfl dX5_volumeNumber_53 (PI_of rfl rfl)
theorem sp_X5_volumeNumber2 {v : Nat}  (h : SI M 1 A) (hv : v < 6) (ht : th A (16 + v)) : Spec D 10 yX5_volumeNumber cfX5_volumeNumber [.ref (ad 0), .int (nI (v)), .int (nI (2))] (wl D ad M) 0 0 (PI (nI (quo A v)) (wl D ad M)) := by
  refine Spec.of (by decide) rfl (Nat.le_of_ble_eq_true rfl) rfl ?_
  have hl := rowM_lt (A := A) (v := v)
  refine E_aload0 (q := 1) dX5_volumeNumber_0 rfl ?_
  refine E_iload1 (q := 2) dX5_volumeNumber_1 rfl ?_
  refine C_V1V (q := 5) lk_X5_69 (sp_X5_needVolume h ((VolA_nI (by omega)).mpr ⟨hv, ht⟩)) rc_X5 dX5_volumeNumber_2 (by decide) (Nat.le_of_ble_eq_true rfl) rfl ?_
  refine E_iload2 (q := 6) dX5_volumeNumber_5 rfl ?_
  refine E_tableIn (q := 54) dX5_volumeNumber_6 (by decide) (by decide) (show _ = some _ from rfl) (by decide) ?_
  refine E_aload0 (q := 55) dX5_volumeNumber_54 rfl ?_
  refine G_X5_store (q := 58) fl_X5_12 dX5_volumeNumber_55 rfl ?_
  refine G_X4_quotas (q := 61) isSt_1 fl_X5_158 dX5_volumeNumber_58 rfl ?_
  refine E_iload1 (q := 62) dX5_volumeNumber_61 rfl ?_
  refine E_ialdN (q := 63) isSt_1.quotas (by omega) (by decide) dX5_volumeNumber_62 rfl ?_
  refine V_int (h.2.1.2.2.2.1 v hv ht).2.2 ?_
  exact E_ireturn rfl rfl dX5_volumeNumber_63 (PI_of rfl rfl)
theorem sp_X5_volumeNumberX {v : Nat} {q : Int32} (h : SI M 1 A) (hv : v < 6) (ht : th A (16 + v)) (hq : q.toInt < 0 ∨ 2 < q.toInt) : Spec D 10 yX5_volumeNumber cfX5_volumeNumber [.ref (ad 0), .int (nI (v)), .int (q)] (wl D ad M) 0 0 (PI (-2) (wl D ad M)) := by
  refine Spec.of (by decide) rfl (Nat.le_of_ble_eq_true rfl) rfl ?_
  refine E_aload0 (q := 1) dX5_volumeNumber_0 rfl ?_
  refine E_iload1 (q := 2) dX5_volumeNumber_1 rfl ?_
  refine C_V1V (q := 5) lk_X5_69 (sp_X5_needVolume h ((VolA_nI (by omega)).mpr ⟨hv, ht⟩)) rc_X5 dX5_volumeNumber_2 (by decide) (Nat.le_of_ble_eq_true rfl) rfl ?_
  refine E_iload2 (q := 6) dX5_volumeNumber_5 rfl ?_
  refine E_tableOut (q := 64) dX5_volumeNumber_6 hq (by decide) ?_
  refine E_bipush (v := -2) (q := 66) dX5_volumeNumber_64 (by decide) rfl ?_
  exact E_ireturn rfl rfl dX5_volumeNumber_66 (PI_of rfl rfl)
theorem sp_X5_snapshotNumber0 {s : Nat}  (h : SI M 1 A) (hs : s < 16) (ht : th A s) : Spec D 10 yX5_snapshotNumber cfX5_snapshotNumber [.ref (ad 0), .int (nI (s)), .int (nI (0))] (wl D ad M) 0 0 (PI (nI (home A s)) (wl D ad M)) := by
  refine Spec.of (by decide) rfl (Nat.le_of_ble_eq_true rfl) rfl ?_
  have hcl := clo_lt (A := A) (s := s)
  have hhl := hdM_lt (A := A)
  refine E_aload0 (q := 1) dX5_snapshotNumber_0 rfl ?_
  refine E_iload1 (q := 2) dX5_snapshotNumber_1 rfl ?_
  refine C_V1V (q := 5) lk_X5_161 (sp_X5_needSnapshot h ((SnpA_nI (by omega)).mpr ⟨hs, ht⟩)) rc_X5 dX5_snapshotNumber_2 (by decide) (Nat.le_of_ble_eq_true rfl) rfl ?_
  refine E_iload2 (q := 6) dX5_snapshotNumber_5 rfl ?_
  refine E_tableIn (q := 40) dX5_snapshotNumber_6 (by decide) (by decide) (show _ = some _ from rfl) (by decide) ?_
  refine E_aload0 (q := 41) dX5_snapshotNumber_40 rfl ?_
  refine G_X5_store (q := 44) fl_X5_12 dX5_snapshotNumber_41 rfl ?_
  refine G_X4_homes (q := 47) isSt_1 fl_X5_164 dX5_snapshotNumber_44 rfl ?_
  refine E_iload1 (q := 48) dX5_snapshotNumber_47 rfl ?_
  refine E_ialdN (q := 49) isSt_1.homes (by omega) (by decide) dX5_snapshotNumber_48 rfl ?_
  refine V_int (h.2.1.2.2.1 s hs ht).1 ?_
  exact E_ireturn rfl rfl dX5_snapshotNumber_49 (PI_of rfl rfl)
theorem sp_X5_snapshotNumber1 {s : Nat}  (h : SI M 1 A) (hs : s < 16) (ht : th A s) : Spec D 10 yX5_snapshotNumber cfX5_snapshotNumber [.ref (ad 0), .int (nI (s)), .int (nI (1))] (wl D ad M) 0 0 (PI (nI (stm A s)) (wl D ad M)) := by
  refine Spec.of (by decide) rfl (Nat.le_of_ble_eq_true rfl) rfl ?_
  have hcl := clo_lt (A := A) (s := s)
  have hhl := hdM_lt (A := A)
  refine E_aload0 (q := 1) dX5_snapshotNumber_0 rfl ?_
  refine E_iload1 (q := 2) dX5_snapshotNumber_1 rfl ?_
  refine C_V1V (q := 5) lk_X5_161 (sp_X5_needSnapshot h ((SnpA_nI (by omega)).mpr ⟨hs, ht⟩)) rc_X5 dX5_snapshotNumber_2 (by decide) (Nat.le_of_ble_eq_true rfl) rfl ?_
  refine E_iload2 (q := 6) dX5_snapshotNumber_5 rfl ?_
  refine E_tableIn (q := 50) dX5_snapshotNumber_6 (by decide) (by decide) (show _ = some _ from rfl) (by decide) ?_
  refine E_aload0 (q := 51) dX5_snapshotNumber_50 rfl ?_
  refine G_X5_store (q := 54) fl_X5_12 dX5_snapshotNumber_51 rfl ?_
  refine G_X4_times (q := 57) isSt_1 fl_X5_167 dX5_snapshotNumber_54 rfl ?_
  refine E_iload1 (q := 58) dX5_snapshotNumber_57 rfl ?_
  refine E_ialdN (q := 59) isSt_1.times (by omega) (by decide) dX5_snapshotNumber_58 rfl ?_
  refine V_int (h.2.1.2.2.1 s hs ht).2.1 ?_
  exact E_ireturn rfl rfl dX5_snapshotNumber_59 (PI_of rfl rfl)
theorem sp_X5_snapshotNumber2 {s : Nat}  (h : SI M 1 A) (hs : s < 16) (ht : th A s) : Spec D 10 yX5_snapshotNumber cfX5_snapshotNumber [.ref (ad 0), .int (nI (s)), .int (nI (2))] (wl D ad M) 0 0 (PI (nI (A.1 4 s)) (wl D ad M)) := by
  refine Spec.of (by decide) rfl (Nat.le_of_ble_eq_true rfl) rfl ?_
  have hcl := clo_lt (A := A) (s := s)
  have hhl := hdM_lt (A := A)
  refine E_aload0 (q := 1) dX5_snapshotNumber_0 rfl ?_
  refine E_iload1 (q := 2) dX5_snapshotNumber_1 rfl ?_
  refine C_V1V (q := 5) lk_X5_161 (sp_X5_needSnapshot h ((SnpA_nI (by omega)).mpr ⟨hs, ht⟩)) rc_X5 dX5_snapshotNumber_2 (by decide) (Nat.le_of_ble_eq_true rfl) rfl ?_
  refine E_iload2 (q := 6) dX5_snapshotNumber_5 rfl ?_
  refine E_tableIn (q := 60) dX5_snapshotNumber_6 (by decide) (by decide) (show _ = some _ from rfl) (by decide) ?_
  refine E_aload0 (q := 61) dX5_snapshotNumber_60 rfl ?_
  refine G_X5_store (q := 64) fl_X5_12 dX5_snapshotNumber_61 rfl ?_
  refine G_X4_heldSet (q := 67) isSt_1 fl_X5_170 dX5_snapshotNumber_64 rfl ?_
  refine V_int h.2.1.1.2.2.2.2 ?_
  refine E_iload1 (q := 68) dX5_snapshotNumber_67 rfl ?_
  refine C_S2I (q := 71) lk_X5_88 (sp_X5_contains (by omega) (by omega)) dX5_snapshotNumber_68 (by decide) (Nat.le_of_ble_eq_true rfl) rfl ?_
  refine E_if_eq (tgt := 78) (q := 74) dX5_snapshotNumber_71 (by decide) rfl (fun h71 => ?_) (fun h71 => ?_)
  · skip
    refine E_iconst (v := nI 0) (q := 79) dX5_snapshotNumber_78 (by decide) rfl ?_
    exact E_ireturn rfl rfl dX5_snapshotNumber_79 (PI_of (by rw [show A.1 4 s = 0 by have := h.2.2.1.2.2.1 s hs; have h2 : ¬ A.1 4 s = 1 := fun z => zI_0 h71 (hdM_bit.mpr ⟨hs, z⟩); omega]) rfl)
  · skip
    refine E_iconst (v := nI 1) (q := 75) dX5_snapshotNumber_74 (by decide) rfl ?_
    refine E_goto (q := 79) dX5_snapshotNumber_75 (by decide) ?_
    exact E_ireturn rfl rfl dX5_snapshotNumber_79 (PI_of (by rw [show A.1 4 s = 1 from (hdM_bit.mp (zI_n h71)).2]) rfl)
theorem sp_X5_snapshotNumber3 {s : Nat}  (h : SI M 1 A) (hs : s < 16) (ht : th A s) : Spec D 10 yX5_snapshotNumber cfX5_snapshotNumber [.ref (ad 0), .int (nI (s)), .int (nI (3))] (wl D ad M) 0 0 (PI (nI (popN (clo A s))) (wl D ad M)) := by
  refine Spec.of (by decide) rfl (Nat.le_of_ble_eq_true rfl) rfl ?_
  have hcl := clo_lt (A := A) (s := s)
  have hhl := hdM_lt (A := A)
  refine E_aload0 (q := 1) dX5_snapshotNumber_0 rfl ?_
  refine E_iload1 (q := 2) dX5_snapshotNumber_1 rfl ?_
  refine C_V1V (q := 5) lk_X5_161 (sp_X5_needSnapshot h ((SnpA_nI (by omega)).mpr ⟨hs, ht⟩)) rc_X5 dX5_snapshotNumber_2 (by decide) (Nat.le_of_ble_eq_true rfl) rfl ?_
  refine E_iload2 (q := 6) dX5_snapshotNumber_5 rfl ?_
  refine E_tableIn (q := 80) dX5_snapshotNumber_6 (by decide) (by decide) (show _ = some _ from rfl) (by decide) ?_
  refine E_aload0 (q := 81) dX5_snapshotNumber_80 rfl ?_
  refine G_X5_store (q := 84) fl_X5_12 dX5_snapshotNumber_81 rfl ?_
  refine E_iload1 (q := 85) dX5_snapshotNumber_84 rfl ?_
  refine C_V1I (q := 88) lk_X5_173 (sp_X4_offspring h (by omega)) (rc_X4 isSt_1) dX5_snapshotNumber_85 (by decide) (Nat.le_of_ble_eq_true rfl) rfl ?_
  refine C_S1I (q := 91) lk_X5_133 (sp_J6_bitCount_0f7a4 (by omega)) dX5_snapshotNumber_88 (by decide) (Nat.le_of_ble_eq_true rfl) rfl ?_
  exact E_ireturn rfl rfl dX5_snapshotNumber_91 (PI_of rfl rfl)
theorem sp_X5_snapshotNumber4 {s : Nat}  (h : SI M 1 A) (hs : s < 16) (ht : th A s) : Spec D 10 yX5_snapshotNumber cfX5_snapshotNumber [.ref (ad 0), .int (nI (s)), .int (nI (4))] (wl D ad M) 0 0 (PI (nI (plc A s)) (wl D ad M)) := by
  refine Spec.of (by decide) rfl (Nat.le_of_ble_eq_true rfl) rfl ?_
  have hcl := clo_lt (A := A) (s := s)
  have hhl := hdM_lt (A := A)
  refine E_aload0 (q := 1) dX5_snapshotNumber_0 rfl ?_
  refine E_iload1 (q := 2) dX5_snapshotNumber_1 rfl ?_
  refine C_V1V (q := 5) lk_X5_161 (sp_X5_needSnapshot h ((SnpA_nI (by omega)).mpr ⟨hs, ht⟩)) rc_X5 dX5_snapshotNumber_2 (by decide) (Nat.le_of_ble_eq_true rfl) rfl ?_
  refine E_iload2 (q := 6) dX5_snapshotNumber_5 rfl ?_
  refine E_tableIn (q := 92) dX5_snapshotNumber_6 (by decide) (by decide) (show _ = some _ from rfl) (by decide) ?_
  refine E_aload0 (q := 93) dX5_snapshotNumber_92 rfl ?_
  refine G_X5_store (q := 96) fl_X5_12 dX5_snapshotNumber_93 rfl ?_
  refine E_iload1 (q := 97) dX5_snapshotNumber_96 rfl ?_
  refine C_V1I (q := 100) lk_X5_176 (sp_X4_placeOf h hs ht) (rc_X4 isSt_1) dX5_snapshotNumber_97 (by decide) (Nat.le_of_ble_eq_true rfl) rfl ?_
  exact E_ireturn rfl rfl dX5_snapshotNumber_100 (PI_of rfl rfl)
theorem sp_X5_snapshotNumberX {s : Nat} {q : Int32} (h : SI M 1 A) (hs : s < 16) (ht : th A s) (hq : q.toInt < 0 ∨ 4 < q.toInt) : Spec D 10 yX5_snapshotNumber cfX5_snapshotNumber [.ref (ad 0), .int (nI (s)), .int (q)] (wl D ad M) 0 0 (PI (-2) (wl D ad M)) := by
  refine Spec.of (by decide) rfl (Nat.le_of_ble_eq_true rfl) rfl ?_
  refine E_aload0 (q := 1) dX5_snapshotNumber_0 rfl ?_
  refine E_iload1 (q := 2) dX5_snapshotNumber_1 rfl ?_
  refine C_V1V (q := 5) lk_X5_161 (sp_X5_needSnapshot h ((SnpA_nI (by omega)).mpr ⟨hs, ht⟩)) rc_X5 dX5_snapshotNumber_2 (by decide) (Nat.le_of_ble_eq_true rfl) rfl ?_
  refine E_iload2 (q := 6) dX5_snapshotNumber_5 rfl ?_
  refine E_tableOut (q := 101) dX5_snapshotNumber_6 hq (by decide) ?_
  refine E_bipush (v := -2) (q := 103) dX5_snapshotNumber_101 (by decide) rfl ?_
  exact E_ireturn rfl rfl dX5_snapshotNumber_103 (PI_of rfl rfl)
theorem sp_X5_snapshotAt {v : Nat} {q : Int32} (h : SI M 1 A) (hv : v < 6) (ht : th A (16 + v)) : Spec D 10 yX5_snapshotAt cfX5_snapshotAt [.ref (ad 0), .int (nI (v)), .int (q)] (wl D ad M) 0 0 (PI (snpAtV A v q) (wl D ad M)) := by
  refine Spec.of (by decide) rfl (Nat.le_of_ble_eq_true rfl) rfl ?_
  have hl := rowM_lt (A := A) (v := v)
  have hmain : V D cfX5_snapshotAt (rmOf 10 0 0) (QM D (PI (snpAtV A v q) (wl D ad M)) 0 0) 0 0 17 [some (.ref (ad 0)), some (.int (nI (v))), some (.int (q)), some (.int (nI (rowM A v))), some (.int (nI (0)))] [] (wl D ad M) := by
    refine (upto0 (n := 16) (P := fun i => (∀ j, j < i → ¬ (th A j ∧ home A j = v ∧ nI (plc A j) = q)) → V D cfX5_snapshotAt (rmOf 10 0 0) (QM D (PI (snpAtV A v q) (wl D ad M)) 0 0) 0 0 17 [some (.ref (ad 0)), some (.int (nI (v))), some (.int (q)), some (.int (nI (rowM A v))), some (.int (nI (i)))] [] (wl D ad M)) ?_ ?_) (fun j hj => absurd hj (by omega))
    · intro hno
      refine E_iload4 (q := 19) dX5_snapshotAt_17 rfl ?_
      refine E_bipush (v := nI 16) (q := 21) dX5_snapshotAt_19 (by decide) rfl ?_
      refine E_icmp_geN (tgt := 55) (q := 24) dX5_snapshotAt_21 (by decide) rfl (by omega) (by omega) (fun h21 => ?_) (fun h21 => ?_)
      · skip
        refine E_iconst (v := -1) (q := 56) dX5_snapshotAt_55 (by decide) rfl ?_
        exact E_ireturn rfl rfl dX5_snapshotAt_56 (PI_of (fnd_miss hno).symm rfl)
      · skip
        exact absurd h21 (by omega)
    · intro i hi ih hno
      have hb : (rowM A v).testBit i = true → i < 16 ∧ th A i ∧ home A i = v := fun z => rowM_bit.mp z
      refine E_iload4 (q := 19) dX5_snapshotAt_17 rfl ?_
      refine E_bipush (v := nI 16) (q := 21) dX5_snapshotAt_19 (by decide) rfl ?_
      refine E_icmp_geN (tgt := 55) (q := 24) dX5_snapshotAt_21 (by decide) rfl (by omega) (by omega) (fun h21 => ?_) (fun h21 => ?_)
      · skip
        exact absurd h21 (by omega)
      · skip
        refine E_iload3 (q := 25) dX5_snapshotAt_24 rfl ?_
        refine E_iload4 (q := 27) dX5_snapshotAt_25 rfl ?_
        refine C_S2I (q := 30) lk_X5_88 (sp_X5_contains (by omega) (by omega)) dX5_snapshotAt_27 (by decide) (Nat.le_of_ble_eq_true rfl) rfl ?_
        refine E_if_eq (tgt := 49) (q := 33) dX5_snapshotAt_30 (by decide) rfl (fun h30 => ?_) (fun h30 => ?_)
        · skip
          refine E_iinc4 (q := 52) dX5_snapshotAt_49 (nI_inc _) rfl rfl ?_
          refine E_goto (q := 17) dX5_snapshotAt_52 (by decide) ?_
          exact ih (no_lt hno (fun z => zI_0 h30 (rowM_bit.mpr ⟨hi, z.1, z.2.1⟩)))
        · skip
          refine E_aload0 (q := 34) dX5_snapshotAt_33 rfl ?_
          refine G_X5_store (q := 37) fl_X5_12 dX5_snapshotAt_34 rfl ?_
          refine E_iload4 (q := 39) dX5_snapshotAt_37 rfl ?_
          refine C_V1I (q := 42) lk_X5_176 (sp_X4_placeOf h hi (hb (zI_n h30)).2.1) (rc_X4 isSt_1) dX5_snapshotAt_39 (by decide) (Nat.le_of_ble_eq_true rfl) rfl ?_
          refine E_iload2 (q := 43) dX5_snapshotAt_42 rfl ?_
          refine E_icmp_ne (tgt := 49) (q := 46) dX5_snapshotAt_43 (by decide) rfl (fun h43 => ?_) (fun h43 => ?_)
          · skip
            refine E_iinc4 (q := 52) dX5_snapshotAt_49 (nI_inc _) rfl rfl ?_
            refine E_goto (q := 17) dX5_snapshotAt_52 (by decide) ?_
            exact ih (no_lt hno (fun z => h43 z.2.2))
          · skip
            refine E_iload4 (q := 48) dX5_snapshotAt_46 rfl ?_
            exact E_ireturn rfl rfl dX5_snapshotAt_48 (PI_of (fnd_hit hi hno ⟨(hb (zI_n h30)).2.1, (hb (zI_n h30)).2.2, h43⟩).symm rfl)
  refine E_aload0 (q := 1) dX5_snapshotAt_0 rfl ?_
  refine E_iload1 (q := 2) dX5_snapshotAt_1 rfl ?_
  refine C_V1V (q := 5) lk_X5_69 (sp_X5_needVolume h ((VolA_nI (by omega)).mpr ⟨hv, ht⟩)) rc_X5 dX5_snapshotAt_2 (by decide) (Nat.le_of_ble_eq_true rfl) rfl ?_
  refine E_aload0 (q := 6) dX5_snapshotAt_5 rfl ?_
  refine G_X5_store (q := 9) fl_X5_12 dX5_snapshotAt_6 rfl ?_
  refine E_iload1 (q := 10) dX5_snapshotAt_9 rfl ?_
  refine C_V1I (q := 13) lk_X5_85 (sp_X4_rowOf h (by omega)) (rc_X4 isSt_1) dX5_snapshotAt_10 (by decide) (Nat.le_of_ble_eq_true rfl) rfl ?_
  refine E_istore3 (q := 14) dX5_snapshotAt_13 rfl rfl ?_
  refine E_iconst (v := nI 0) (q := 15) dX5_snapshotAt_14 (by decide) rfl ?_
  refine E_istore4 (q := 17) dX5_snapshotAt_15 rfl rfl ?_
  exact hmain
theorem sp_X5_wouldMove {v : Nat}  (h : SI M 1 A) (hv : v < 6) (ht : th A (16 + v)) : Spec D 10 yX5_wouldMove cfX5_wouldMove [.ref (ad 0), .int (nI (v))] (wl D ad M) 0 0 (PI (movV A v) (wl D ad M)) := by
  refine Spec.of (by decide) rfl (Nat.le_of_ble_eq_true rfl) rfl ?_
  have ho16 := (h.2.2.1.2.2.2.1 v hv ht).2.1
  refine E_aload0 (q := 1) dX5_wouldMove_0 rfl ?_
  refine E_iload1 (q := 2) dX5_wouldMove_1 rfl ?_
  refine C_V1V (q := 5) lk_X5_69 (sp_X5_needVolume h ((VolA_nI (by omega)).mpr ⟨hv, ht⟩)) rc_X5 dX5_wouldMove_2 (by decide) (Nat.le_of_ble_eq_true rfl) rfl ?_
  refine E_aload0 (q := 6) dX5_wouldMove_5 rfl ?_
  refine G_X5_store (q := 9) fl_X5_12 dX5_wouldMove_6 rfl ?_
  refine G_X4_origins (q := 12) isSt_1 fl_X5_155 dX5_wouldMove_9 rfl ?_
  refine E_iload1 (q := 13) dX5_wouldMove_12 rfl ?_
  refine E_ialdN (q := 14) isSt_1.origins (by omega) (by decide) dX5_wouldMove_13 rfl ?_
  refine V_int (h.2.1.2.2.2.1 v hv ht).2.1 ?_
  refine E_istore2 (q := 15) dX5_wouldMove_14 rfl rfl ?_
  refine E_iload2 (q := 16) dX5_wouldMove_15 rfl ?_
  refine E_iconst (v := -1) (q := 17) dX5_wouldMove_16 (by decide) rfl ?_
  skip
  refine E_icmp_ne (tgt := 24) (q := 20) dX5_wouldMove_17 (by decide) rfl (fun h17 => ?_) (fun h17 => ?_)
  · skip
    obtain ⟨s, ho⟩ : ∃ s, org A v = s + 1 := ⟨org A v - 1, by have hne : org A v ≠ 0 := fun z => h17 (by rw [z]; rfl); omega⟩
    have hs2 : s < 16 := by omega
    have hp := h.2.2.2.1 v s hv ht ho
    refine E_aload0 (q := 25) dX5_wouldMove_24 rfl ?_
    refine G_X5_store (q := 28) fl_X5_12 dX5_wouldMove_25 rfl ?_
    refine E_iload2 (q := 29) dX5_wouldMove_28 rfl ?_
    rw [ho, oI_s]
    refine C_V1I (q := 32) lk_X5_176 (sp_X4_placeOf h hs2 hp.1) (rc_X4 isSt_1) dX5_wouldMove_29 (by decide) (Nat.le_of_ble_eq_true rfl) rfl ?_
    refine E_iconst (v := nI 1) (q := 33) dX5_wouldMove_32 (by decide) rfl ?_
    refine E_iaddN (q := 34) dX5_wouldMove_33 rfl ?_
    exact E_ireturn rfl rfl dX5_wouldMove_34 (PI_of (by rw [movV, if_neg (by omega), ho]; rfl) rfl)
  · skip
    refine E_iconst (v := nI 0) (q := 21) dX5_wouldMove_20 (by decide) rfl ?_
    refine E_goto (q := 34) dX5_wouldMove_21 (by decide) ?_
    exact E_ireturn rfl rfl dX5_wouldMove_34 (PI_of (by rw [movV, if_pos ((oI_neg (by omega)).mp (by rw [h17]; decide))]) rfl)
theorem sp_X5_besideOrigin {v : Nat} (h : SI M 1 A) (hv : v < 6) (ht : th A (16 + v)) : Spec D 10 yX5_besideOrigin cfX5_besideOrigin [.ref (ad 0), .int (nI (v))] (wl D ad M) 0 0 (PI (nI (besV A v)) (wl D ad M)) := by
  refine Spec.of (by decide) rfl (Nat.le_of_ble_eq_true rfl) rfl ?_
  have ho16 := (h.2.2.1.2.2.2.1 v hv ht).2.1
  have hS22 := volS_lt (A := A) hv
  have hend : ∀ av, av < 2 ^ 22 → (av = (match org A v with | 0 => 0 | s + 1 => 2 ^ s)) → ∀ x2 : Int32, V D cfX5_besideOrigin (rmOf 10 0 0) (QM D (PI (nI (besV A v)) (wl D ad M)) 0 0) 0 0 28 [some (.ref (ad 0)), some (.int (nI (v))), some (.int (x2)), none, none] [.int (nI av)] (wl D ad M) := by
    intro av hav heq x2
    have hbe := bes_eq h.2.2 heq
    have hor : av ||| volS A v < 2 ^ 22 := Nat.or_lt_two_pow hav hS22
    refine E_istore3 (q := 29) dX5_besideOrigin_28 rfl rfl ?_
    refine E_aload0 (q := 30) dX5_besideOrigin_29 rfl ?_
    refine G_X5_store (q := 33) fl_X5_12 dX5_besideOrigin_30 rfl ?_
    refine G_X4_blocks (q := 36) isSt_1 fl_X5_95 dX5_besideOrigin_33 rfl ?_
    refine E_astore4 (q := 38) dX5_besideOrigin_36 rfl rfl ?_
    refine E_aload4 (q := 40) dX5_besideOrigin_38 rfl ?_
    refine E_iconst (v := nI 0) (q := 41) dX5_besideOrigin_40 (by decide) rfl ?_
    refine E_iload3 (q := 42) dX5_besideOrigin_41 rfl ?_
    refine E_iconst (v := nI 0) (q := 43) dX5_besideOrigin_42 (by decide) rfl ?_
    refine C_V3I (q := 46) lk_X5_216 (sp_X0_unitsWhere h.1.blocks h.bi h.bw (by decide) (by omega) (by decide)) (rc_X0 isSt_1.blocks) dX5_besideOrigin_43 (by decide) (Nat.le_of_ble_eq_true rfl) rfl ?_
    refine E_aload4 (q := 48) dX5_besideOrigin_46 rfl ?_
    refine E_iconst (v := nI 0) (q := 49) dX5_besideOrigin_48 (by decide) rfl ?_
    refine E_iload3 (q := 50) dX5_besideOrigin_49 rfl ?_
    refine E_aload0 (q := 51) dX5_besideOrigin_50 rfl ?_
    refine G_X5_store (q := 54) fl_X5_12 dX5_besideOrigin_51 rfl ?_
    refine E_iload1 (q := 55) dX5_besideOrigin_54 rfl ?_
    refine C_V1I (q := 58) lk_X5_219 (sp_X4_versionsOf h hv) (rc_X4 isSt_1) dX5_besideOrigin_55 (by decide) (Nat.le_of_ble_eq_true rfl) rfl ?_
    refine E_iorN (q := 59) dX5_besideOrigin_58 (nI_or _ _) rfl ?_
    refine E_iconst (v := nI 0) (q := 60) dX5_besideOrigin_59 (by decide) rfl ?_
    refine C_V3I (q := 63) lk_X5_216 (sp_X0_unitsWhere h.1.blocks h.bi h.bw (by decide) (by omega) (by decide)) (rc_X0 isSt_1.blocks) dX5_besideOrigin_60 (by decide) (Nat.le_of_ble_eq_true rfl) rfl ?_
    refine E_isubN (q := 64) dX5_besideOrigin_63 (by omega) rfl ?_
    exact E_ireturn rfl rfl dX5_besideOrigin_64 (PI_of (congrArg nI (by omega)) rfl)
  cases ho : org A v with
  | zero =>
    refine E_aload0 (q := 1) dX5_besideOrigin_0 rfl ?_
    refine E_iload1 (q := 2) dX5_besideOrigin_1 rfl ?_
    refine C_V1V (q := 5) lk_X5_69 (sp_X5_needVolume h ((VolA_nI (by omega)).mpr ⟨hv, ht⟩)) rc_X5 dX5_besideOrigin_2 (by decide) (Nat.le_of_ble_eq_true rfl) rfl ?_
    refine E_aload0 (q := 6) dX5_besideOrigin_5 rfl ?_
    refine G_X5_store (q := 9) fl_X5_12 dX5_besideOrigin_6 rfl ?_
    refine G_X4_origins (q := 12) isSt_1 fl_X5_155 dX5_besideOrigin_9 rfl ?_
    refine E_iload1 (q := 13) dX5_besideOrigin_12 rfl ?_
    refine E_ialdN (q := 14) isSt_1.origins (by omega) (by decide) dX5_besideOrigin_13 rfl ?_
    refine V_int (show _ = (-1 : Int32) by rw [(h.2.1.2.2.2.1 v hv ht).2.1, ho]; rfl) ?_
    refine E_istore2 (q := 15) dX5_besideOrigin_14 rfl rfl ?_
    refine E_iload2 (q := 16) dX5_besideOrigin_15 rfl ?_
    refine E_iconst (v := -1) (q := 17) dX5_besideOrigin_16 (by decide) rfl ?_
    refine E_icmp_ne (tgt := 24) (q := 20) dX5_besideOrigin_17 (by decide) rfl (fun h17 => ?_) (fun h17 => ?_)
    · skip
      exact absurd rfl h17
    · skip
      refine E_iconst (v := nI 0) (q := 21) dX5_besideOrigin_20 (by decide) rfl ?_
      refine E_goto (q := 28) dX5_besideOrigin_21 (by decide) ?_
      exact V_sub (by repeat (first | exact subL_nil | refine subL_s ?_ | refine subL_n ?_)) (hend 0 (by decide) (by rw [ho]) (-1))
  | succ s =>
    have hp := h.2.2.2.1 v s hv ht ho
    have hs22 : 2 ^ s < 2 ^ 22 := Nat.pow_lt_pow_right (by decide) (by omega)
    refine E_aload0 (q := 1) dX5_besideOrigin_0 rfl ?_
    refine E_iload1 (q := 2) dX5_besideOrigin_1 rfl ?_
    refine C_V1V (q := 5) lk_X5_69 (sp_X5_needVolume h ((VolA_nI (by omega)).mpr ⟨hv, ht⟩)) rc_X5 dX5_besideOrigin_2 (by decide) (Nat.le_of_ble_eq_true rfl) rfl ?_
    refine E_aload0 (q := 6) dX5_besideOrigin_5 rfl ?_
    refine G_X5_store (q := 9) fl_X5_12 dX5_besideOrigin_6 rfl ?_
    refine G_X4_origins (q := 12) isSt_1 fl_X5_155 dX5_besideOrigin_9 rfl ?_
    refine E_iload1 (q := 13) dX5_besideOrigin_12 rfl ?_
    refine E_ialdN (q := 14) isSt_1.origins (by omega) (by decide) dX5_besideOrigin_13 rfl ?_
    refine V_int (show _ = nI s by rw [(h.2.1.2.2.2.1 v hv ht).2.1, ho, oI_s]) ?_
    refine E_istore2 (q := 15) dX5_besideOrigin_14 rfl rfl ?_
    refine E_iload2 (q := 16) dX5_besideOrigin_15 rfl ?_
    refine E_iconst (v := -1) (q := 17) dX5_besideOrigin_16 (by decide) rfl ?_
    refine E_icmp_ne (tgt := 24) (q := 20) dX5_besideOrigin_17 (by decide) rfl (fun h17 => ?_) (fun h17 => ?_)
    · skip
      refine E_iload2 (q := 25) dX5_besideOrigin_24 rfl ?_
      refine C_S1I (q := 28) lk_X5_200 (sp_X5_bit (by omega)) dX5_besideOrigin_25 (by decide) (Nat.le_of_ble_eq_true rfl) rfl ?_
      exact V_sub (by repeat (first | exact subL_nil | refine subL_s ?_ | refine subL_n ?_)) (hend (2 ^ s) hs22 (by rw [ho]) (nI s))
    · skip
      exact absurd h17 (nI_nm1 (by omega))
theorem sp_X5_common {u w : Nat} (h : SI M 1 A) (hu : u < 22) (htu : th A u) (hw : w < 22) (ht : th A w) : Spec D 10 yX5_common cfX5_common [.ref (ad 0), .int (nI (u)), .int (nI (w))] (wl D ad M) 0 0 (PI (comV A u w) (wl D ad M)) := by
  refine Spec.of (by decide) rfl (Nat.le_of_ble_eq_true rfl) rfl ?_
  have h1 := linM_lt (A := A) (w := u)
  have h2 : linM A u &&& linM A w < 2 ^ 22 := and_lt h1
  refine E_aload0 (q := 1) dX5_common_0 rfl ?_
  refine E_iload1 (q := 2) dX5_common_1 rfl ?_
  refine C_V1V (q := 5) lk_X5_179 (sp_X5_needVersion h ((VerA_nI (by omega)).mpr ⟨hu, htu⟩)) rc_X5 dX5_common_2 (by decide) (Nat.le_of_ble_eq_true rfl) rfl ?_
  refine E_aload0 (q := 6) dX5_common_5 rfl ?_
  refine E_iload2 (q := 7) dX5_common_6 rfl ?_
  refine C_V1V (q := 10) lk_X5_179 (sp_X5_needVersion h ((VerA_nI (by omega)).mpr ⟨hw, ht⟩)) rc_X5 dX5_common_7 (by decide) (Nat.le_of_ble_eq_true rfl) rfl ?_
  refine E_aload0 (q := 11) dX5_common_10 rfl ?_
  refine G_X5_store (q := 14) fl_X5_12 dX5_common_11 rfl ?_
  refine E_iload1 (q := 15) dX5_common_14 rfl ?_
  refine C_V1I (q := 18) lk_X5_188 (sp_X4_lineage h hu htu) (rc_X4 isSt_1) dX5_common_15 (by decide) (Nat.le_of_ble_eq_true rfl) rfl ?_
  refine E_aload0 (q := 19) dX5_common_18 rfl ?_
  refine G_X5_store (q := 22) fl_X5_12 dX5_common_19 rfl ?_
  refine E_iload2 (q := 23) dX5_common_22 rfl ?_
  refine C_V1I (q := 26) lk_X5_188 (sp_X4_lineage h hw ht) (rc_X4 isSt_1) dX5_common_23 (by decide) (Nat.le_of_ble_eq_true rfl) rfl ?_
  refine E_iand (q := 27) dX5_common_26 rfl ?_
  refine V_int (nI_and _ _) ?_
  refine C_S1I (q := 30) lk_X5_191 (sp_X5_highest (by omega)) dX5_common_27 (by decide) (Nat.le_of_ble_eq_true rfl) rfl ?_
  exact E_ireturn rfl rfl dX5_common_30 (PI_of (com_hi h.2.2 hu htu hw ht) rfl)
theorem sp_X5_shared {u w : Nat} (h : SI M 1 A) (hu : u < 22) (htu : th A u) (hw : w < 22) (ht : th A w) : Spec D 10 yX5_shared cfX5_shared [.ref (ad 0), .int (nI (u)), .int (nI (w))] (wl D ad M) 0 0 (PI (nI (fsum (fun x => if (own x).testBit u = true then (if (own x).testBit w = true then siz x else 0) else 0) A.2)) (wl D ad M)) := by
  refine Spec.of (by decide) rfl (Nat.le_of_ble_eq_true rfl) rfl ?_
  have hp1 : 2 ^ u < 2 ^ 22 := Nat.pow_lt_pow_right (by decide) hu
  have hp2 : 2 ^ w < 2 ^ 22 := Nat.pow_lt_pow_right (by decide) hw
  have hor : 2 ^ u ||| 2 ^ w < 2 ^ 22 := Nat.or_lt_two_pow hp1 hp2
  have hf : ∀ x : Blk, own x &&& (2 ^ u ||| 2 ^ w) = 2 ^ u ||| 2 ^ w ↔ (own x).testBit u = true ∧ (own x).testBit w = true := fun x => by
    constructor
    · intro e
      have h1 : ∀ k, (2 ^ u ||| 2 ^ w).testBit k = true → (own x).testBit k = true := fun k hk => by
        rw [← e] at hk; exact (and_bit.mp hk).1
      exact ⟨h1 u (or_bit.mpr (Or.inl (pow_bit.mpr rfl))), h1 w (or_bit.mpr (Or.inr (pow_bit.mpr rfl)))⟩
    · rintro ⟨h1, h2⟩
      refine eq_bits fun k => ?_
      rw [and_bit, or_bit, pow_bit, pow_bit]
      constructor
      · exact fun z => z.2
      · intro z
        refine ⟨?_, z⟩
        rcases z with z | z
        · exact z ▸ h1
        · exact z ▸ h2
  refine E_aload0 (q := 1) dX5_shared_0 rfl ?_
  refine E_iload1 (q := 2) dX5_shared_1 rfl ?_
  refine C_V1V (q := 5) lk_X5_179 (sp_X5_needVersion h ((VerA_nI (by omega)).mpr ⟨hu, htu⟩)) rc_X5 dX5_shared_2 (by decide) (Nat.le_of_ble_eq_true rfl) rfl ?_
  refine E_aload0 (q := 6) dX5_shared_5 rfl ?_
  refine E_iload2 (q := 7) dX5_shared_6 rfl ?_
  refine C_V1V (q := 10) lk_X5_179 (sp_X5_needVersion h ((VerA_nI (by omega)).mpr ⟨hw, ht⟩)) rc_X5 dX5_shared_7 (by decide) (Nat.le_of_ble_eq_true rfl) rfl ?_
  refine E_aload0 (q := 11) dX5_shared_10 rfl ?_
  refine G_X5_store (q := 14) fl_X5_12 dX5_shared_11 rfl ?_
  refine G_X4_blocks (q := 17) isSt_1 fl_X5_95 dX5_shared_14 rfl ?_
  refine E_iload1 (q := 18) dX5_shared_17 rfl ?_
  refine C_S1I (q := 21) lk_X5_200 (sp_X5_bit (by omega)) dX5_shared_18 (by decide) (Nat.le_of_ble_eq_true rfl) rfl ?_
  refine E_iload2 (q := 22) dX5_shared_21 rfl ?_
  refine C_S1I (q := 25) lk_X5_200 (sp_X5_bit (by omega)) dX5_shared_22 (by decide) (Nat.le_of_ble_eq_true rfl) rfl ?_
  refine E_iorN (q := 26) dX5_shared_25 (nI_or _ _) rfl ?_
  refine E_iconst (v := nI 0) (q := 27) dX5_shared_26 (by decide) rfl ?_
  refine E_iconst (v := nI 0) (q := 28) dX5_shared_27 (by decide) rfl ?_
  refine C_V3I (q := 31) lk_X5_216 (sp_X0_unitsWhere h.1.blocks h.bi h.bw (by omega) (by decide) (by decide)) (rc_X0 isSt_1.blocks) dX5_shared_28 (by decide) (Nat.le_of_ble_eq_true rfl) rfl ?_
  exact E_ireturn rfl rfl dX5_shared_31 (PI_of (congrArg nI (uwF_if h.2.2 _ _ _ _ (fun x hx => ⟨fun c => by have := (hf x).mp c.2.1; rw [if_pos this.1, if_pos this.2], fun c => if c1 : (own x).testBit u = true then by rw [if_pos c1, if_neg (fun c2 => c ⟨(h.bw.2 x hx).1, (hf x).mpr ⟨c1, c2⟩, Nat.and_zero _⟩)] else by rw [if_neg c1]⟩))) rfl)
theorem sp_X5_unlike {u w : Nat} (h : SI M 1 A) (hu : u < 22) (htu : th A u) (hw : w < 22) (ht : th A w) : Spec D 10 yX5_unlike cfX5_unlike [.ref (ad 0), .int (nI (u)), .int (nI (w))] (wl D ad M) 0 0 (PI (nI (bset (fun i => bAt A.2 u i ≠ bAt A.2 w i) 12)) (wl D ad M)) := by
  refine Spec.of (by decide) rfl (Nat.le_of_ble_eq_true rfl) rfl ?_
  have hmain : V D cfX5_unlike (rmOf 10 0 0) (QM D (PI (nI (bset (fun i => bAt A.2 u i ≠ bAt A.2 w i) 12)) (wl D ad M)) 0 0) 0 0 15 [some (.ref (ad 0)), some (.int (nI (u))), some (.int (nI (w))), some (.int (nI (0))), some (.int (nI (0)))] [] (wl D ad M) := by
    refine upto0 (n := 12) (P := fun k => V D cfX5_unlike (rmOf 10 0 0) (QM D (PI (nI (bset (fun i => bAt A.2 u i ≠ bAt A.2 w i) 12)) (wl D ad M)) 0 0) 0 0 15 [some (.ref (ad 0)), some (.int (nI (u))), some (.int (nI (w))), some (.int (nI (bset (fun i => bAt A.2 u i ≠ bAt A.2 w i) k))), some (.int (nI (k)))] [] (wl D ad M)) ?_ ?_
    · skip
      refine E_iload4 (q := 17) dX5_unlike_15 rfl ?_
      refine E_bipush (v := nI 12) (q := 19) dX5_unlike_17 (by decide) rfl ?_
      refine E_icmp_geN (tgt := 65) (q := 22) dX5_unlike_19 (by decide) rfl (by omega) (by omega) (fun h19 => ?_) (fun h19 => ?_)
      · skip
        refine E_iload3 (q := 66) dX5_unlike_65 rfl ?_
        exact E_ireturn rfl rfl dX5_unlike_66 (PI_of rfl rfl)
      · skip
        exact absurd h19 (by omega)
    · intro k hk ih
      refine E_iload4 (q := 17) dX5_unlike_15 rfl ?_
      refine E_bipush (v := nI 12) (q := 19) dX5_unlike_17 (by decide) rfl ?_
      refine E_icmp_geN (tgt := 65) (q := 22) dX5_unlike_19 (by decide) rfl (by omega) (by omega) (fun h19 => ?_) (fun h19 => ?_)
      · skip
        exact absurd h19 (by omega)
      · skip
        refine E_aload0 (q := 23) dX5_unlike_22 rfl ?_
        refine G_X5_store (q := 26) fl_X5_12 dX5_unlike_23 rfl ?_
        refine G_X4_blocks (q := 29) isSt_1 fl_X5_95 dX5_unlike_26 rfl ?_
        refine E_iload1 (q := 30) dX5_unlike_29 rfl ?_
        refine E_iload4 (q := 32) dX5_unlike_30 rfl ?_
        refine C_V2I (q := 35) lk_X5_99 (sp_X0_indexAt h.1.blocks h.bi h.bw hu (by omega)) (rc_X0 isSt_1.blocks) dX5_unlike_32 (by decide) (Nat.le_of_ble_eq_true rfl) rfl ?_
        refine E_aload0 (q := 36) dX5_unlike_35 rfl ?_
        refine G_X5_store (q := 39) fl_X5_12 dX5_unlike_36 rfl ?_
        refine G_X4_blocks (q := 42) isSt_1 fl_X5_95 dX5_unlike_39 rfl ?_
        refine E_iload2 (q := 43) dX5_unlike_42 rfl ?_
        refine E_iload4 (q := 45) dX5_unlike_43 rfl ?_
        refine C_V2I (q := 48) lk_X5_99 (sp_X0_indexAt h.1.blocks h.bi h.bw hw (by omega)) (rc_X0 isSt_1.blocks) dX5_unlike_45 (by decide) (Nat.le_of_ble_eq_true rfl) rfl ?_
        refine E_icmp_eq (tgt := 59) (q := 51) dX5_unlike_48 (by decide) rfl (fun h48 => ?_) (fun h48 => ?_)
        · skip
          refine E_iinc4 (q := 62) dX5_unlike_59 (nI_inc _) rfl rfl ?_
          refine E_goto (q := 15) dX5_unlike_62 (by decide) ?_
          rw [← bset_next_off (n := k) (fun z => z ((ix_eq h.2.2 u w k).mp h48))] at ih
          exact ih
        · skip
          refine E_iload3 (q := 52) dX5_unlike_51 rfl ?_
          refine E_iload4 (q := 54) dX5_unlike_52 rfl ?_
          refine C_S1I (q := 57) lk_X5_200 (sp_X5_bit (by omega)) dX5_unlike_54 (by decide) (Nat.le_of_ble_eq_true rfl) rfl ?_
          refine E_iorN (q := 58) dX5_unlike_57 (bset_on (n := k) (fun z => h48 ((ix_eq h.2.2 u w k).mpr z))) rfl ?_
          refine E_istore3 (q := 59) dX5_unlike_58 rfl rfl ?_
          refine E_iinc4 (q := 62) dX5_unlike_59 (nI_inc _) rfl rfl ?_
          refine E_goto (q := 15) dX5_unlike_62 (by decide) ?_
          exact ih
  refine E_aload0 (q := 1) dX5_unlike_0 rfl ?_
  refine E_iload1 (q := 2) dX5_unlike_1 rfl ?_
  refine C_V1V (q := 5) lk_X5_179 (sp_X5_needVersion h ((VerA_nI (by omega)).mpr ⟨hu, htu⟩)) rc_X5 dX5_unlike_2 (by decide) (Nat.le_of_ble_eq_true rfl) rfl ?_
  refine E_aload0 (q := 6) dX5_unlike_5 rfl ?_
  refine E_iload2 (q := 7) dX5_unlike_6 rfl ?_
  refine C_V1V (q := 10) lk_X5_179 (sp_X5_needVersion h ((VerA_nI (by omega)).mpr ⟨hw, ht⟩)) rc_X5 dX5_unlike_7 (by decide) (Nat.le_of_ble_eq_true rfl) rfl ?_
  refine E_iconst (v := nI 0) (q := 11) dX5_unlike_10 (by decide) rfl ?_
  refine E_istore3 (q := 12) dX5_unlike_11 rfl rfl ?_
  refine E_iconst (v := nI 0) (q := 13) dX5_unlike_12 (by decide) rfl ?_
  refine E_istore4 (q := 15) dX5_unlike_13 rfl rfl ?_
  exact hmain
theorem sp_X5_blockAt {w a : Nat} (h : SI M 1 A) (hw : w < 22) (ht : th A w) (ha : a < 12) : Spec D 10 yX5_blockAt cfX5_blockAt [.ref (ad 0), .int (nI (w)), .int (nI (a))] (wl D ad M) 0 0 (PI (blkV A w a) (wl D ad M)) := by
  refine Spec.of (by decide) rfl (Nat.le_of_ble_eq_true rfl) rfl ?_
  rcases at_cases A.2 w a with ⟨hx, hno⟩ | ⟨j, x, hf, hx⟩
  · skip
    refine E_aload0 (q := 1) dX5_blockAt_0 rfl ?_
    refine E_iload1 (q := 2) dX5_blockAt_1 rfl ?_
    refine C_V1V (q := 5) lk_X5_179 (sp_X5_needVersion h ((VerA_nI (by omega)).mpr ⟨hw, ht⟩)) rc_X5 dX5_blockAt_2 (by decide) (Nat.le_of_ble_eq_true rfl) rfl ?_
    refine E_aload0 (q := 6) dX5_blockAt_5 rfl ?_
    refine E_iload2 (q := 7) dX5_blockAt_6 rfl ?_
    refine C_V1V (q := 10) lk_X5_194 (sp_X5_needAddress ⟨a, ha, rfl⟩) rc_X5 dX5_blockAt_7 (by decide) (Nat.le_of_ble_eq_true rfl) rfl ?_
    refine E_aload0 (q := 11) dX5_blockAt_10 rfl ?_
    refine G_X5_store (q := 14) fl_X5_12 dX5_blockAt_11 rfl ?_
    refine G_X4_blocks (q := 17) isSt_1 fl_X5_95 dX5_blockAt_14 rfl ?_
    refine E_iload1 (q := 18) dX5_blockAt_17 rfl ?_
    refine E_iload2 (q := 19) dX5_blockAt_18 rfl ?_
    refine C_V2I (q := 22) lk_X5_99 (sp_X0_indexAtN h.1.blocks h.bi h.bw hw (by omega) hno) (rc_X0 isSt_1.blocks) dX5_blockAt_19 (by decide) (Nat.le_of_ble_eq_true rfl) rfl ?_
    refine E_istore3 (q := 23) dX5_blockAt_22 rfl rfl ?_
    refine E_iload3 (q := 24) dX5_blockAt_23 rfl ?_
    refine E_iconst (v := -1) (q := 25) dX5_blockAt_24 (by decide) rfl ?_
    refine E_icmp_ne (tgt := 32) (q := 28) dX5_blockAt_25 (by decide) rfl (fun h25 => ?_) (fun h25 => ?_)
    · skip
      exact absurd rfl h25
    · skip
      refine E_iconst (v := -1) (q := 29) dX5_blockAt_28 (by decide) rfl ?_
      refine E_goto (q := 44) dX5_blockAt_29 (by decide) ?_
      exact E_ireturn rfl rfl dX5_blockAt_44 (PI_of (by rw [blkV, if_pos (bAt_none hx).1]) rfl)
  · have hj := (List.getElem?_eq_some_iff.mp hf.1).1
    have hjl := h.bw.1
    have hxp := (h.bw.2 x (List.mem_of_getElem? hf.1)).1
    refine E_aload0 (q := 1) dX5_blockAt_0 rfl ?_
    refine E_iload1 (q := 2) dX5_blockAt_1 rfl ?_
    refine C_V1V (q := 5) lk_X5_179 (sp_X5_needVersion h ((VerA_nI (by omega)).mpr ⟨hw, ht⟩)) rc_X5 dX5_blockAt_2 (by decide) (Nat.le_of_ble_eq_true rfl) rfl ?_
    refine E_aload0 (q := 6) dX5_blockAt_5 rfl ?_
    refine E_iload2 (q := 7) dX5_blockAt_6 rfl ?_
    refine C_V1V (q := 10) lk_X5_194 (sp_X5_needAddress ⟨a, ha, rfl⟩) rc_X5 dX5_blockAt_7 (by decide) (Nat.le_of_ble_eq_true rfl) rfl ?_
    refine E_aload0 (q := 11) dX5_blockAt_10 rfl ?_
    refine G_X5_store (q := 14) fl_X5_12 dX5_blockAt_11 rfl ?_
    refine G_X4_blocks (q := 17) isSt_1 fl_X5_95 dX5_blockAt_14 rfl ?_
    refine E_iload1 (q := 18) dX5_blockAt_17 rfl ?_
    refine E_iload2 (q := 19) dX5_blockAt_18 rfl ?_
    refine C_V2I (q := 22) lk_X5_99 (sp_X0_indexAtS h.1.blocks h.bi h.bw hw (by omega) hf) (rc_X0 isSt_1.blocks) dX5_blockAt_19 (by decide) (Nat.le_of_ble_eq_true rfl) rfl ?_
    refine E_istore3 (q := 23) dX5_blockAt_22 rfl rfl ?_
    refine E_iload3 (q := 24) dX5_blockAt_23 rfl ?_
    refine E_iconst (v := -1) (q := 25) dX5_blockAt_24 (by decide) rfl ?_
    refine E_icmp_ne (tgt := 32) (q := 28) dX5_blockAt_25 (by decide) rfl (fun h25 => ?_) (fun h25 => ?_)
    · skip
      refine E_aload0 (q := 33) dX5_blockAt_32 rfl ?_
      refine G_X5_store (q := 36) fl_X5_12 dX5_blockAt_33 rfl ?_
      refine G_X4_blocks (q := 39) isSt_1 fl_X5_95 dX5_blockAt_36 rfl ?_
      refine G_X0_births (q := 42) isSt_1.blocks fl_X5_197 dX5_blockAt_39 rfl ?_
      refine E_iload3 (q := 43) dX5_blockAt_42 rfl ?_
      refine E_ialdN (q := 44) isSt_1.blocks.births (by omega) (by decide) dX5_blockAt_43 rfl ?_
      refine V_int (h.bi.2 j x hf.1).1 ?_
      exact E_ireturn rfl rfl dX5_blockAt_44 (PI_of (by rw [blkV, (bAt_some hx).1, if_neg (by omega)]) rfl)
    · skip
      exact absurd h25 (nI_nm1 (by omega))
theorem sp_X5_sameAt {w a : Nat} (h : SI M 1 A) (hw : w < 22) (ht : th A w) (ha : a < 12) : Spec D 10 yX5_sameAt cfX5_sameAt [.ref (ad 0), .int (nI (w)), .int (nI (a))] (wl D ad M) 0 0 (PI (nI (bset (fun v => th A v ∧ bAt A.2 v a = bAt A.2 w a) 22)) (wl D ad M)) := by
  refine Spec.of (by decide) rfl (Nat.le_of_ble_eq_true rfl) rfl ?_
  rcases at_cases A.2 w a with ⟨hx, hno⟩ | ⟨j, x, hf, hx⟩
  · skip
    refine E_aload0 (q := 1) dX5_sameAt_0 rfl ?_
    refine E_iload1 (q := 2) dX5_sameAt_1 rfl ?_
    refine C_V1V (q := 5) lk_X5_179 (sp_X5_needVersion h ((VerA_nI (by omega)).mpr ⟨hw, ht⟩)) rc_X5 dX5_sameAt_2 (by decide) (Nat.le_of_ble_eq_true rfl) rfl ?_
    refine E_aload0 (q := 6) dX5_sameAt_5 rfl ?_
    refine E_iload2 (q := 7) dX5_sameAt_6 rfl ?_
    refine C_V1V (q := 10) lk_X5_194 (sp_X5_needAddress ⟨a, ha, rfl⟩) rc_X5 dX5_sameAt_7 (by decide) (Nat.le_of_ble_eq_true rfl) rfl ?_
    refine E_aload0 (q := 11) dX5_sameAt_10 rfl ?_
    refine G_X5_store (q := 14) fl_X5_12 dX5_sameAt_11 rfl ?_
    refine G_X4_blocks (q := 17) isSt_1 fl_X5_95 dX5_sameAt_14 rfl ?_
    refine E_iload1 (q := 18) dX5_sameAt_17 rfl ?_
    refine E_iload2 (q := 19) dX5_sameAt_18 rfl ?_
    refine C_V2I (q := 22) lk_X5_99 (sp_X0_indexAtN h.1.blocks h.bi h.bw hw (by omega) hno) (rc_X0 isSt_1.blocks) dX5_sameAt_19 (by decide) (Nat.le_of_ble_eq_true rfl) rfl ?_
    refine E_istore3 (q := 23) dX5_sameAt_22 rfl rfl ?_
    refine E_iload3 (q := 24) dX5_sameAt_23 rfl ?_
    refine E_iconst (v := -1) (q := 25) dX5_sameAt_24 (by decide) rfl ?_
    refine E_icmp_ne (tgt := 50) (q := 28) dX5_sameAt_25 (by decide) rfl (fun h25 => ?_) (fun h25 => ?_)
    · skip
      exact absurd rfl h25
    · skip
      refine E_aload0 (q := 29) dX5_sameAt_28 rfl ?_
      refine G_X5_store (q := 32) fl_X5_12 dX5_sameAt_29 rfl ?_
      refine G_X4_there (q := 35) isSt_1 fl_X5_127 dX5_sameAt_32 rfl ?_
      refine V_int h.2.1.1.2.2.2.1 ?_
      refine E_aload0 (q := 36) dX5_sameAt_35 rfl ?_
      refine G_X5_store (q := 39) fl_X5_12 dX5_sameAt_36 rfl ?_
      refine G_X4_blocks (q := 42) isSt_1 fl_X5_95 dX5_sameAt_39 rfl ?_
      refine E_iload2 (q := 43) dX5_sameAt_42 rfl ?_
      refine C_V1I (q := 46) lk_X5_210 (sp_X0_ownersAt h.1.blocks h.bi h.bw (by omega)) (rc_X0 isSt_1.blocks) dX5_sameAt_43 (by decide) (Nat.le_of_ble_eq_true rfl) rfl ?_
      refine E_iconst (v := -1) (q := 47) dX5_sameAt_46 (by decide) rfl ?_
      refine E_ixor (q := 48) dX5_sameAt_47 rfl ?_
      refine E_iand (q := 49) dX5_sameAt_48 rfl ?_
      refine V_int (show _ = _ by rw [nI_andn, same_N h.2.2 hx]) ?_
      exact E_ireturn rfl rfl dX5_sameAt_49 (PI_of rfl rfl)
  · have hj := (List.getElem?_eq_some_iff.mp hf.1).1
    have hjl := h.bw.1
    refine E_aload0 (q := 1) dX5_sameAt_0 rfl ?_
    refine E_iload1 (q := 2) dX5_sameAt_1 rfl ?_
    refine C_V1V (q := 5) lk_X5_179 (sp_X5_needVersion h ((VerA_nI (by omega)).mpr ⟨hw, ht⟩)) rc_X5 dX5_sameAt_2 (by decide) (Nat.le_of_ble_eq_true rfl) rfl ?_
    refine E_aload0 (q := 6) dX5_sameAt_5 rfl ?_
    refine E_iload2 (q := 7) dX5_sameAt_6 rfl ?_
    refine C_V1V (q := 10) lk_X5_194 (sp_X5_needAddress ⟨a, ha, rfl⟩) rc_X5 dX5_sameAt_7 (by decide) (Nat.le_of_ble_eq_true rfl) rfl ?_
    refine E_aload0 (q := 11) dX5_sameAt_10 rfl ?_
    refine G_X5_store (q := 14) fl_X5_12 dX5_sameAt_11 rfl ?_
    refine G_X4_blocks (q := 17) isSt_1 fl_X5_95 dX5_sameAt_14 rfl ?_
    refine E_iload1 (q := 18) dX5_sameAt_17 rfl ?_
    refine E_iload2 (q := 19) dX5_sameAt_18 rfl ?_
    refine C_V2I (q := 22) lk_X5_99 (sp_X0_indexAtS h.1.blocks h.bi h.bw hw (by omega) hf) (rc_X0 isSt_1.blocks) dX5_sameAt_19 (by decide) (Nat.le_of_ble_eq_true rfl) rfl ?_
    refine E_istore3 (q := 23) dX5_sameAt_22 rfl rfl ?_
    refine E_iload3 (q := 24) dX5_sameAt_23 rfl ?_
    refine E_iconst (v := -1) (q := 25) dX5_sameAt_24 (by decide) rfl ?_
    refine E_icmp_ne (tgt := 50) (q := 28) dX5_sameAt_25 (by decide) rfl (fun h25 => ?_) (fun h25 => ?_)
    · skip
      refine E_aload0 (q := 51) dX5_sameAt_50 rfl ?_
      refine G_X5_store (q := 54) fl_X5_12 dX5_sameAt_51 rfl ?_
      refine G_X4_blocks (q := 57) isSt_1 fl_X5_95 dX5_sameAt_54 rfl ?_
      refine G_X0_owners (q := 60) isSt_1.blocks fl_X5_213 dX5_sameAt_57 rfl ?_
      refine E_iload3 (q := 61) dX5_sameAt_60 rfl ?_
      refine E_ialdN (q := 62) isSt_1.blocks.owners (by omega) (by decide) dX5_sameAt_61 rfl ?_
      refine V_int (h.bi.2 j x hf.1).2.2.2 ?_
      exact E_ireturn rfl rfl dX5_sameAt_62 (PI_of (congrArg nI (same_S h.2.2 hx)) rfl)
    · skip
      exact absurd h25 (nI_nm1 (by omega))
theorem sp_X5_wouldFree {v a : Nat} (h : SI M 1 A) (hv : v < 6) (ht : th A (16 + v)) (ha : a < 12) : Spec D 10 yX5_wouldFree cfX5_wouldFree [.ref (ad 0), .int (nI (v)), .int (nI (a))] (wl D ad M) 0 0 (PI (nI (aln A (16 + v) a)) (wl D ad M)) := by
  refine Spec.of (by decide) rfl (Nat.le_of_ble_eq_true rfl) rfl ?_
  refine E_aload0 (q := 1) dX5_wouldFree_0 rfl ?_
  refine E_iload1 (q := 2) dX5_wouldFree_1 rfl ?_
  refine C_V1V (q := 5) lk_X5_69 (sp_X5_needVolume h ((VolA_nI (by omega)).mpr ⟨hv, ht⟩)) rc_X5 dX5_wouldFree_2 (by decide) (Nat.le_of_ble_eq_true rfl) rfl ?_
  refine E_aload0 (q := 6) dX5_wouldFree_5 rfl ?_
  refine E_iload2 (q := 7) dX5_wouldFree_6 rfl ?_
  refine C_V1V (q := 10) lk_X5_194 (sp_X5_needAddress ⟨a, ha, rfl⟩) rc_X5 dX5_wouldFree_7 (by decide) (Nat.le_of_ble_eq_true rfl) rfl ?_
  refine E_aload0 (q := 11) dX5_wouldFree_10 rfl ?_
  refine G_X5_store (q := 14) fl_X5_12 dX5_wouldFree_11 rfl ?_
  refine G_X4_blocks (q := 17) isSt_1 fl_X5_95 dX5_wouldFree_14 rfl ?_
  refine E_bipush (v := nI 16) (q := 19) dX5_wouldFree_17 (by decide) rfl ?_
  refine E_iload1 (q := 20) dX5_wouldFree_19 rfl ?_
  refine E_iaddN (q := 21) dX5_wouldFree_20 rfl ?_
  refine E_iload2 (q := 22) dX5_wouldFree_21 rfl ?_
  refine C_V2I (q := 25) lk_X5_222 (sp_X0_unitsAloneAt h.1.blocks h.bi h.bw (by omega) (by omega)) (rc_X0 isSt_1.blocks) dX5_wouldFree_22 (by decide) (Nat.le_of_ble_eq_true rfl) rfl ?_
  exact E_ireturn rfl rfl dX5_wouldFree_25 (PI_of rfl rfl)
theorem sp_X5_writtenSince {v s : Nat} (h : SI M 1 A) (hv : v < 6) (ht : th A (16 + v)) (hs : s < 16) (hts : th A s) : Spec D 10 yX5_writtenSince cfX5_writtenSince [.ref (ad 0), .int (nI (v)), .int (nI (s))] (wl D ad M) 0 0 (PI (nI (fsum (fun x => if (own x).testBit (16 + v) = true then (if stm A s < x.1 then siz x else 0) else 0) A.2)) (wl D ad M)) := by
  refine Spec.of (by decide) rfl (Nat.le_of_ble_eq_true rfl) rfl ?_
  have hst := (h.2.2.1.2.2.2.2.1 s hs hts).2.2.2.1
  have hT := h.2.2.1.1.1
  have hp32 : 2 ^ (16 + v) < 2 ^ 32 := Nat.pow_lt_pow_right (by decide) (by omega)
  refine E_aload0 (q := 1) dX5_writtenSince_0 rfl ?_
  refine E_iload1 (q := 2) dX5_writtenSince_1 rfl ?_
  refine C_V1V (q := 5) lk_X5_69 (sp_X5_needVolume h ((VolA_nI (by omega)).mpr ⟨hv, ht⟩)) rc_X5 dX5_writtenSince_2 (by decide) (Nat.le_of_ble_eq_true rfl) rfl ?_
  refine E_aload0 (q := 6) dX5_writtenSince_5 rfl ?_
  refine E_iload2 (q := 7) dX5_writtenSince_6 rfl ?_
  refine C_V1V (q := 10) lk_X5_161 (sp_X5_needSnapshot h ((SnpA_nI (by omega)).mpr ⟨hs, hts⟩)) rc_X5 dX5_writtenSince_7 (by decide) (Nat.le_of_ble_eq_true rfl) rfl ?_
  refine E_aload0 (q := 11) dX5_writtenSince_10 rfl ?_
  refine G_X5_store (q := 14) fl_X5_12 dX5_writtenSince_11 rfl ?_
  refine G_X4_blocks (q := 17) isSt_1 fl_X5_95 dX5_writtenSince_14 rfl ?_
  refine E_bipush (v := nI 16) (q := 19) dX5_writtenSince_17 (by decide) rfl ?_
  refine E_iload1 (q := 20) dX5_writtenSince_19 rfl ?_
  refine E_iaddN (q := 21) dX5_writtenSince_20 rfl ?_
  refine C_S1I (q := 24) lk_X5_200 (sp_X5_bit (by omega)) dX5_writtenSince_21 (by decide) (Nat.le_of_ble_eq_true rfl) rfl ?_
  refine E_iconst (v := nI 0) (q := 25) dX5_writtenSince_24 (by decide) rfl ?_
  refine E_aload0 (q := 26) dX5_writtenSince_25 rfl ?_
  refine G_X5_store (q := 29) fl_X5_12 dX5_writtenSince_26 rfl ?_
  refine G_X4_times (q := 32) isSt_1 fl_X5_167 dX5_writtenSince_29 rfl ?_
  refine E_iload2 (q := 33) dX5_writtenSince_32 rfl ?_
  refine E_ialdN (q := 34) isSt_1.times (by omega) (by decide) dX5_writtenSince_33 rfl ?_
  refine V_int (h.2.1.2.2.1 s hs hts).2.1 ?_
  refine C_V3I (q := 37) lk_X5_216 (sp_X0_unitsWhere h.1.blocks h.bi h.bw hp32 (by decide) (by omega)) (rc_X0 isSt_1.blocks) dX5_writtenSince_34 (by decide) (Nat.le_of_ble_eq_true rfl) rfl ?_
  exact E_ireturn rfl rfl dX5_writtenSince_37 (PI_of (congrArg nI (uwF_if h.2.2 _ _ _ _ (fun x hx => ⟨fun c => by rw [if_pos (own_fit.mp c.2), if_pos c.1], fun c => if c1 : (own x).testBit (16 + v) = true then by rw [if_pos c1, if_neg (fun c2 => c ⟨c2, own_fit.mpr c1⟩)] else by rw [if_neg c1]⟩))) rfl)
theorem sp_X5_birthInN {w : Nat} (h : SI M 1 A) (hw : w < 22) (ht : th A w) : Spec D 10 yX5_birthIn cfX5_birthIn [.ref (ad 0), .int (nI (w)), .int (nI (1))] (wl D ad M) 0 0 (PI (bV (maxN (bAt A.2 w) 12)) (wl D ad M)) := by
  refine Spec.of (by decide) rfl (Nat.le_of_ble_eq_true rfl) rfl ?_
  have hp32 : 2 ^ w < 2 ^ 32 := Nat.pow_lt_pow_right (by decide) (by omega)
  refine E_aload0 (q := 1) dX5_birthIn_0 rfl ?_
  refine E_iload1 (q := 2) dX5_birthIn_1 rfl ?_
  refine C_V1V (q := 5) lk_X5_179 (sp_X5_needVersion h ((VerA_nI (by omega)).mpr ⟨hw, ht⟩)) rc_X5 dX5_birthIn_2 (by decide) (Nat.le_of_ble_eq_true rfl) rfl ?_
  refine E_aload0 (q := 6) dX5_birthIn_5 rfl ?_
  refine G_X5_store (q := 9) fl_X5_12 dX5_birthIn_6 rfl ?_
  refine G_X4_blocks (q := 12) isSt_1 fl_X5_95 dX5_birthIn_9 rfl ?_
  refine E_iload1 (q := 13) dX5_birthIn_12 rfl ?_
  refine C_S1I (q := 16) lk_X5_200 (sp_X5_bit (by omega)) dX5_birthIn_13 (by decide) (Nat.le_of_ble_eq_true rfl) rfl ?_
  refine E_iconst (v := nI 0) (q := 17) dX5_birthIn_16 (by decide) rfl ?_
  refine C_V2I (q := 20) lk_X5_203 (sp_X0_numberWhere h.1.blocks h.bi h.bw hp32 (by decide)) (rc_X0 isSt_1.blocks) dX5_birthIn_17 (by decide) (Nat.le_of_ble_eq_true rfl) rfl ?_
  refine E_iconst (v := nI 1) (q := 21) dX5_birthIn_20 (by decide) rfl ?_
  refine E_isub (q := 22) dX5_birthIn_21 rfl ?_
  refine E_istore3 (q := 23) dX5_birthIn_22 rfl rfl ?_
  refine E_aload0 (q := 24) dX5_birthIn_23 rfl ?_
  refine G_X5_store (q := 27) fl_X5_12 dX5_birthIn_24 rfl ?_
  refine G_X4_blocks (q := 30) isSt_1 fl_X5_95 dX5_birthIn_27 rfl ?_
  refine E_iload1 (q := 31) dX5_birthIn_30 rfl ?_
  refine C_S1I (q := 34) lk_X5_200 (sp_X5_bit (by omega)) dX5_birthIn_31 (by decide) (Nat.le_of_ble_eq_true rfl) rfl ?_
  refine E_iconst (v := nI 0) (q := 35) dX5_birthIn_34 (by decide) rfl ?_
  refine E_iload2 (q := 36) dX5_birthIn_35 rfl ?_
  refine E_if_eq (tgt := 43) (q := 39) dX5_birthIn_36 (by decide) rfl (fun h36 => ?_) (fun h36 => ?_)
  · first | exact absurd h36 (by decide) | exact absurd (by decide) h36
  · skip
    refine E_iload3 (q := 40) dX5_birthIn_39 rfl ?_
    refine E_goto (q := 44) dX5_birthIn_40 (by decide) ?_
    refine C_V3I (q := 47) lk_X5_206 (sp_X0_birthWhere h.1.blocks h.bi h.bw hp32 (by decide)) (rc_X0 isSt_1.blocks) dX5_birthIn_44 (by decide) (Nat.le_of_ble_eq_true rfl) rfl ?_
    exact E_ireturn rfl rfl dX5_birthIn_47 (PI_of (bV_new h.2.2 w) rfl)
theorem sp_X5_birthInO {w : Nat} (h : SI M 1 A) (hw : w < 22) (ht : th A w) : Spec D 10 yX5_birthIn cfX5_birthIn [.ref (ad 0), .int (nI (w)), .int (nI (0))] (wl D ad M) 0 0 (PI (bV (minN (bAt A.2 w) 12)) (wl D ad M)) := by
  refine Spec.of (by decide) rfl (Nat.le_of_ble_eq_true rfl) rfl ?_
  have hp32 : 2 ^ w < 2 ^ 32 := Nat.pow_lt_pow_right (by decide) (by omega)
  refine E_aload0 (q := 1) dX5_birthIn_0 rfl ?_
  refine E_iload1 (q := 2) dX5_birthIn_1 rfl ?_
  refine C_V1V (q := 5) lk_X5_179 (sp_X5_needVersion h ((VerA_nI (by omega)).mpr ⟨hw, ht⟩)) rc_X5 dX5_birthIn_2 (by decide) (Nat.le_of_ble_eq_true rfl) rfl ?_
  refine E_aload0 (q := 6) dX5_birthIn_5 rfl ?_
  refine G_X5_store (q := 9) fl_X5_12 dX5_birthIn_6 rfl ?_
  refine G_X4_blocks (q := 12) isSt_1 fl_X5_95 dX5_birthIn_9 rfl ?_
  refine E_iload1 (q := 13) dX5_birthIn_12 rfl ?_
  refine C_S1I (q := 16) lk_X5_200 (sp_X5_bit (by omega)) dX5_birthIn_13 (by decide) (Nat.le_of_ble_eq_true rfl) rfl ?_
  refine E_iconst (v := nI 0) (q := 17) dX5_birthIn_16 (by decide) rfl ?_
  refine C_V2I (q := 20) lk_X5_203 (sp_X0_numberWhere h.1.blocks h.bi h.bw hp32 (by decide)) (rc_X0 isSt_1.blocks) dX5_birthIn_17 (by decide) (Nat.le_of_ble_eq_true rfl) rfl ?_
  refine E_iconst (v := nI 1) (q := 21) dX5_birthIn_20 (by decide) rfl ?_
  refine E_isub (q := 22) dX5_birthIn_21 rfl ?_
  refine E_istore3 (q := 23) dX5_birthIn_22 rfl rfl ?_
  refine E_aload0 (q := 24) dX5_birthIn_23 rfl ?_
  refine G_X5_store (q := 27) fl_X5_12 dX5_birthIn_24 rfl ?_
  refine G_X4_blocks (q := 30) isSt_1 fl_X5_95 dX5_birthIn_27 rfl ?_
  refine E_iload1 (q := 31) dX5_birthIn_30 rfl ?_
  refine C_S1I (q := 34) lk_X5_200 (sp_X5_bit (by omega)) dX5_birthIn_31 (by decide) (Nat.le_of_ble_eq_true rfl) rfl ?_
  refine E_iconst (v := nI 0) (q := 35) dX5_birthIn_34 (by decide) rfl ?_
  refine E_iload2 (q := 36) dX5_birthIn_35 rfl ?_
  refine E_if_eq (tgt := 43) (q := 39) dX5_birthIn_36 (by decide) rfl (fun h36 => ?_) (fun h36 => ?_)
  · skip
    refine E_iconst (v := nI 0) (q := 44) dX5_birthIn_43 (by decide) rfl ?_
    refine C_V3I (q := 47) lk_X5_206 (sp_X0_birthWhere h.1.blocks h.bi h.bw hp32 (by decide)) (rc_X0 isSt_1.blocks) dX5_birthIn_44 (by decide) (Nat.le_of_ble_eq_true rfl) rfl ?_
    exact E_ireturn rfl rfl dX5_birthIn_47 (PI_of (bV_old h.2.2 w) rfl)
  · first | exact absurd h36 (by decide) | exact absurd (by decide) h36
theorem sp_X5_deadCount {w : Nat}  (h : SI M 1 A) (hw : w < 22) (ht : th A w) : Spec D 10 yX5_deadCount cfX5_deadCount [.ref (ad 0), .int (nI (w))] (wl D ad M) 0 0 (PI (ahdV A w (fun p => nI (deadL A p w).length) (nI 0)) (wl D ad M)) := by
  refine Spec.of (by decide) rfl (Nat.le_of_ble_eq_true rfl) rfl ?_
  have hp32 : 2 ^ w < 2 ^ 32 := Nat.pow_lt_pow_right (by decide) (by omega)
  cases hz : ahd A w with
  | zero =>
    refine E_aload0 (q := 1) dX5_deadCount_0 rfl ?_
    refine E_iload1 (q := 2) dX5_deadCount_1 rfl ?_
    refine C_V1V (q := 5) lk_X5_179 (sp_X5_needVersion h ((VerA_nI (by omega)).mpr ⟨hw, ht⟩)) rc_X5 dX5_deadCount_2 (by decide) (Nat.le_of_ble_eq_true rfl) rfl ?_
    refine E_aload0 (q := 6) dX5_deadCount_5 rfl ?_
    refine G_X5_store (q := 9) fl_X5_12 dX5_deadCount_6 rfl ?_
    refine E_iload1 (q := 10) dX5_deadCount_9 rfl ?_
    refine C_V1I (q := 13) lk_X5_182 (sp_X4_ahead h hw ht) (rc_X4 isSt_1) dX5_deadCount_10 (by decide) (Nat.le_of_ble_eq_true rfl) rfl ?_
    rw [hz, oI_0]
    refine E_istore2 (q := 14) dX5_deadCount_13 rfl rfl ?_
    refine E_iload2 (q := 15) dX5_deadCount_14 rfl ?_
    refine E_iconst (v := -1) (q := 16) dX5_deadCount_15 (by decide) rfl ?_
    refine E_icmp_ne (tgt := 23) (q := 19) dX5_deadCount_16 (by decide) rfl (fun h16 => ?_) (fun h16 => ?_)
    · skip
      exact absurd rfl h16
    · skip
      refine E_iconst (v := nI 0) (q := 20) dX5_deadCount_19 (by decide) rfl ?_
      refine E_goto (q := 41) dX5_deadCount_20 (by decide) ?_
      exact E_ireturn rfl rfl dX5_deadCount_41 (PI_of (by unfold ahdV; rw [hz]) rfl)
  | succ p =>
    have hp := ahd_in h.2.2 hw ht hz
    have hpp : 2 ^ p < 2 ^ 32 := Nat.pow_lt_pow_right (by decide) (by omega)
    refine E_aload0 (q := 1) dX5_deadCount_0 rfl ?_
    refine E_iload1 (q := 2) dX5_deadCount_1 rfl ?_
    refine C_V1V (q := 5) lk_X5_179 (sp_X5_needVersion h ((VerA_nI (by omega)).mpr ⟨hw, ht⟩)) rc_X5 dX5_deadCount_2 (by decide) (Nat.le_of_ble_eq_true rfl) rfl ?_
    refine E_aload0 (q := 6) dX5_deadCount_5 rfl ?_
    refine G_X5_store (q := 9) fl_X5_12 dX5_deadCount_6 rfl ?_
    refine E_iload1 (q := 10) dX5_deadCount_9 rfl ?_
    refine C_V1I (q := 13) lk_X5_182 (sp_X4_ahead h hw ht) (rc_X4 isSt_1) dX5_deadCount_10 (by decide) (Nat.le_of_ble_eq_true rfl) rfl ?_
    rw [hz, oI_s]
    refine E_istore2 (q := 14) dX5_deadCount_13 rfl rfl ?_
    refine E_iload2 (q := 15) dX5_deadCount_14 rfl ?_
    refine E_iconst (v := -1) (q := 16) dX5_deadCount_15 (by decide) rfl ?_
    refine E_icmp_ne (tgt := 23) (q := 19) dX5_deadCount_16 (by decide) rfl (fun h16 => ?_) (fun h16 => ?_)
    · skip
      refine E_aload0 (q := 24) dX5_deadCount_23 rfl ?_
      refine G_X5_store (q := 27) fl_X5_12 dX5_deadCount_24 rfl ?_
      refine G_X4_blocks (q := 30) isSt_1 fl_X5_95 dX5_deadCount_27 rfl ?_
      refine E_iload2 (q := 31) dX5_deadCount_30 rfl ?_
      refine C_S1I (q := 34) lk_X5_200 (sp_X5_bit (by omega)) dX5_deadCount_31 (by decide) (Nat.le_of_ble_eq_true rfl) rfl ?_
      refine E_iload1 (q := 35) dX5_deadCount_34 rfl ?_
      refine C_S1I (q := 38) lk_X5_200 (sp_X5_bit (by omega)) dX5_deadCount_35 (by decide) (Nat.le_of_ble_eq_true rfl) rfl ?_
      refine C_V2I (q := 41) lk_X5_203 (sp_X0_numberWhere h.1.blocks h.bi h.bw hpp hp32) (rc_X0 isSt_1.blocks) dX5_deadCount_38 (by decide) (Nat.le_of_ble_eq_true rfl) rfl ?_
      exact E_ireturn rfl rfl dX5_deadCount_41 (PI_of (by unfold ahdV; rw [hz, dead_fit]) rfl)
    · skip
      exact absurd h16 (nI_nm1 (by omega))
theorem sp_X5_deadBlock {w : Nat} {q : Int32} (h : SI M 1 A) (hw : w < 22) (ht : th A w) : Spec D 10 yX5_deadBlock cfX5_deadBlock [.ref (ad 0), .int (nI (w)), .int (q)] (wl D ad M) 0 0 (PI (ahdV A w (fun p => nthV (deadL A p w) q) (-1)) (wl D ad M)) := by
  refine Spec.of (by decide) rfl (Nat.le_of_ble_eq_true rfl) rfl ?_
  have hp32 : 2 ^ w < 2 ^ 32 := Nat.pow_lt_pow_right (by decide) (by omega)
  cases hz : ahd A w with
  | zero =>
    refine E_aload0 (q := 1) dX5_deadBlock_0 rfl ?_
    refine E_iload1 (q := 2) dX5_deadBlock_1 rfl ?_
    refine C_V1V (q := 5) lk_X5_179 (sp_X5_needVersion h ((VerA_nI (by omega)).mpr ⟨hw, ht⟩)) rc_X5 dX5_deadBlock_2 (by decide) (Nat.le_of_ble_eq_true rfl) rfl ?_
    refine E_aload0 (q := 6) dX5_deadBlock_5 rfl ?_
    refine G_X5_store (q := 9) fl_X5_12 dX5_deadBlock_6 rfl ?_
    refine E_iload1 (q := 10) dX5_deadBlock_9 rfl ?_
    refine C_V1I (q := 13) lk_X5_182 (sp_X4_ahead h hw ht) (rc_X4 isSt_1) dX5_deadBlock_10 (by decide) (Nat.le_of_ble_eq_true rfl) rfl ?_
    rw [hz, oI_0]
    refine E_istore3 (q := 14) dX5_deadBlock_13 rfl rfl ?_
    refine E_iload3 (q := 15) dX5_deadBlock_14 rfl ?_
    refine E_iconst (v := -1) (q := 16) dX5_deadBlock_15 (by decide) rfl ?_
    refine E_icmp_ne (tgt := 23) (q := 19) dX5_deadBlock_16 (by decide) rfl (fun h16 => ?_) (fun h16 => ?_)
    · skip
      exact absurd rfl h16
    · skip
      refine E_iconst (v := -1) (q := 20) dX5_deadBlock_19 (by decide) rfl ?_
      refine E_goto (q := 42) dX5_deadBlock_20 (by decide) ?_
      exact E_ireturn rfl rfl dX5_deadBlock_42 (PI_of (by unfold ahdV; rw [hz]) rfl)
  | succ p =>
    have hp := ahd_in h.2.2 hw ht hz
    have hpp : 2 ^ p < 2 ^ 32 := Nat.pow_lt_pow_right (by decide) (by omega)
    refine E_aload0 (q := 1) dX5_deadBlock_0 rfl ?_
    refine E_iload1 (q := 2) dX5_deadBlock_1 rfl ?_
    refine C_V1V (q := 5) lk_X5_179 (sp_X5_needVersion h ((VerA_nI (by omega)).mpr ⟨hw, ht⟩)) rc_X5 dX5_deadBlock_2 (by decide) (Nat.le_of_ble_eq_true rfl) rfl ?_
    refine E_aload0 (q := 6) dX5_deadBlock_5 rfl ?_
    refine G_X5_store (q := 9) fl_X5_12 dX5_deadBlock_6 rfl ?_
    refine E_iload1 (q := 10) dX5_deadBlock_9 rfl ?_
    refine C_V1I (q := 13) lk_X5_182 (sp_X4_ahead h hw ht) (rc_X4 isSt_1) dX5_deadBlock_10 (by decide) (Nat.le_of_ble_eq_true rfl) rfl ?_
    rw [hz, oI_s]
    refine E_istore3 (q := 14) dX5_deadBlock_13 rfl rfl ?_
    refine E_iload3 (q := 15) dX5_deadBlock_14 rfl ?_
    refine E_iconst (v := -1) (q := 16) dX5_deadBlock_15 (by decide) rfl ?_
    refine E_icmp_ne (tgt := 23) (q := 19) dX5_deadBlock_16 (by decide) rfl (fun h16 => ?_) (fun h16 => ?_)
    · skip
      refine E_aload0 (q := 24) dX5_deadBlock_23 rfl ?_
      refine G_X5_store (q := 27) fl_X5_12 dX5_deadBlock_24 rfl ?_
      refine G_X4_blocks (q := 30) isSt_1 fl_X5_95 dX5_deadBlock_27 rfl ?_
      refine E_iload3 (q := 31) dX5_deadBlock_30 rfl ?_
      refine C_S1I (q := 34) lk_X5_200 (sp_X5_bit (by omega)) dX5_deadBlock_31 (by decide) (Nat.le_of_ble_eq_true rfl) rfl ?_
      refine E_iload1 (q := 35) dX5_deadBlock_34 rfl ?_
      refine C_S1I (q := 38) lk_X5_200 (sp_X5_bit (by omega)) dX5_deadBlock_35 (by decide) (Nat.le_of_ble_eq_true rfl) rfl ?_
      refine E_iload2 (q := 39) dX5_deadBlock_38 rfl ?_
      refine C_V3I (q := 42) lk_X5_206 (sp_X0_birthWhere h.1.blocks h.bi h.bw hpp hp32) (rc_X0 isSt_1.blocks) dX5_deadBlock_39 (by decide) (Nat.le_of_ble_eq_true rfl) rfl ?_
      exact E_ireturn rfl rfl dX5_deadBlock_42 (PI_of (by unfold ahdV; rw [hz, dead_fit]) rfl)
    · skip
      exact absurd h16 (nI_nm1 (by omega))
theorem sp_X5_byDeadBlocks {s : Nat} (h : SI M 1 A) (hs : s < 16) (ht : th A s) : Spec D 10 yX5_byDeadBlocks cfX5_byDeadBlocks [.ref (ad 0), .int (nI (s))] (wl D ad M) 0 0 (PI (nI (fsum (fun x => if (own x).testBit s = true then (if (own x).testBit (bhd A s) = true then 0 else if snc A s < x.1 then siz x else 0) else 0) A.2)) (wl D ad M)) := by
  refine Spec.of (by decide) rfl (Nat.le_of_ble_eq_true rfl) rfl ?_
  have hp32 : 2 ^ s < 2 ^ 32 := Nat.pow_lt_pow_right (by decide) (by omega)
  have hbh : bhd A s < 22 := by
    unfold bhd
    cases hx : (rowL A (home A s))[plc A s + 1]? with
    | none => have := (h.2.2.hv6 hs ht).1; simp only; omega
    | some t => have := (plc_of hx).2.1; simp only; omega
  have hpb : 2 ^ bhd A s < 2 ^ 32 := Nat.pow_lt_pow_right (by decide) (by omega)
  have hT := h.2.2.1.1.1
  have hend : ∀ t, t = snc A s → t ≤ aT A → ∀ x2 : Int32, V D cfX5_byDeadBlocks (rmOf 10 0 0) (QM D (PI (nI (fsum (fun x => if (own x).testBit s = true then (if (own x).testBit (bhd A s) = true then 0 else if snc A s < x.1 then siz x else 0) else 0) A.2)) (wl D ad M)) 0 0) 0 0 32 [some (.ref (ad 0)), some (.int (nI (s))), some (.int (x2)), none] [.int (nI t)] (wl D ad M) := by
    intro t et htT x2
    subst et
    refine E_istore3 (q := 33) dX5_byDeadBlocks_32 rfl rfl ?_
    refine E_aload0 (q := 34) dX5_byDeadBlocks_33 rfl ?_
    refine G_X5_store (q := 37) fl_X5_12 dX5_byDeadBlocks_34 rfl ?_
    refine G_X4_blocks (q := 40) isSt_1 fl_X5_95 dX5_byDeadBlocks_37 rfl ?_
    refine E_iload1 (q := 41) dX5_byDeadBlocks_40 rfl ?_
    refine C_S1I (q := 44) lk_X5_200 (sp_X5_bit (by omega)) dX5_byDeadBlocks_41 (by decide) (Nat.le_of_ble_eq_true rfl) rfl ?_
    refine E_aload0 (q := 45) dX5_byDeadBlocks_44 rfl ?_
    refine G_X5_store (q := 48) fl_X5_12 dX5_byDeadBlocks_45 rfl ?_
    refine E_iload1 (q := 49) dX5_byDeadBlocks_48 rfl ?_
    refine C_V1I (q := 52) lk_X5_185 (sp_X4_follower h hs ht) (rc_X4 isSt_1) dX5_byDeadBlocks_49 (by decide) (Nat.le_of_ble_eq_true rfl) rfl ?_
    refine C_S1I (q := 55) lk_X5_200 (sp_X5_bit (by omega)) dX5_byDeadBlocks_52 (by decide) (Nat.le_of_ble_eq_true rfl) rfl ?_
    refine E_iload3 (q := 56) dX5_byDeadBlocks_55 rfl ?_
    refine C_V3I (q := 59) lk_X5_216 (sp_X0_unitsWhere h.1.blocks h.bi h.bw hp32 hpb (by omega)) (rc_X0 isSt_1.blocks) dX5_byDeadBlocks_56 (by decide) (Nat.le_of_ble_eq_true rfl) rfl ?_
    exact E_ireturn rfl rfl dX5_byDeadBlocks_59 (PI_of (congrArg nI (uwF_if h.2.2 _ _ _ _ (fun x hx => ⟨fun c => by rw [if_pos (and_pow.mp c.2.1), if_neg (and_pow0.mp c.2.2), if_pos c.1], fun c => if c1 : (own x).testBit s = true then (if c2 : (own x).testBit (bhd A s) = true then by rw [if_pos c1, if_pos c2] else by rw [if_pos c1, if_neg c2, if_neg (fun c3 => c ⟨c3, and_pow.mpr c1, and_pow0.mpr c2⟩)]) else by rw [if_neg c1]⟩))) rfl)
  cases hz : ahd A s with
  | zero =>
    refine E_aload0 (q := 1) dX5_byDeadBlocks_0 rfl ?_
    refine E_iload1 (q := 2) dX5_byDeadBlocks_1 rfl ?_
    refine C_V1V (q := 5) lk_X5_161 (sp_X5_needSnapshot h ((SnpA_nI (by omega)).mpr ⟨hs, ht⟩)) rc_X5 dX5_byDeadBlocks_2 (by decide) (Nat.le_of_ble_eq_true rfl) rfl ?_
    refine E_aload0 (q := 6) dX5_byDeadBlocks_5 rfl ?_
    refine G_X5_store (q := 9) fl_X5_12 dX5_byDeadBlocks_6 rfl ?_
    refine E_iload1 (q := 10) dX5_byDeadBlocks_9 rfl ?_
    refine C_V1I (q := 13) lk_X5_182 (sp_X4_ahead h (by omega) ht) (rc_X4 isSt_1) dX5_byDeadBlocks_10 (by decide) (Nat.le_of_ble_eq_true rfl) rfl ?_
    rw [hz, oI_0]
    refine E_istore2 (q := 14) dX5_byDeadBlocks_13 rfl rfl ?_
    refine E_iload2 (q := 15) dX5_byDeadBlocks_14 rfl ?_
    refine E_iconst (v := -1) (q := 16) dX5_byDeadBlocks_15 (by decide) rfl ?_
    refine E_icmp_ne (tgt := 23) (q := 19) dX5_byDeadBlocks_16 (by decide) rfl (fun h16 => ?_) (fun h16 => ?_)
    · skip
      exact absurd rfl h16
    · skip
      refine E_iconst (v := nI 0) (q := 20) dX5_byDeadBlocks_19 (by decide) rfl ?_
      refine E_goto (q := 32) dX5_byDeadBlocks_20 (by decide) ?_
      exact hend 0 (by rw [snc, hz]) (Nat.zero_le _) _
  | succ p =>
    have hp := ahd_in h.2.2 (w := s) (by omega) ht hz
    have hp16 : p < 16 := by omega
    have hst := (h.2.2.1.2.2.2.2.1 p hp16 hp.2.2).2.2.2.1
    refine E_aload0 (q := 1) dX5_byDeadBlocks_0 rfl ?_
    refine E_iload1 (q := 2) dX5_byDeadBlocks_1 rfl ?_
    refine C_V1V (q := 5) lk_X5_161 (sp_X5_needSnapshot h ((SnpA_nI (by omega)).mpr ⟨hs, ht⟩)) rc_X5 dX5_byDeadBlocks_2 (by decide) (Nat.le_of_ble_eq_true rfl) rfl ?_
    refine E_aload0 (q := 6) dX5_byDeadBlocks_5 rfl ?_
    refine G_X5_store (q := 9) fl_X5_12 dX5_byDeadBlocks_6 rfl ?_
    refine E_iload1 (q := 10) dX5_byDeadBlocks_9 rfl ?_
    refine C_V1I (q := 13) lk_X5_182 (sp_X4_ahead h (by omega) ht) (rc_X4 isSt_1) dX5_byDeadBlocks_10 (by decide) (Nat.le_of_ble_eq_true rfl) rfl ?_
    rw [hz, oI_s]
    refine E_istore2 (q := 14) dX5_byDeadBlocks_13 rfl rfl ?_
    refine E_iload2 (q := 15) dX5_byDeadBlocks_14 rfl ?_
    refine E_iconst (v := -1) (q := 16) dX5_byDeadBlocks_15 (by decide) rfl ?_
    refine E_icmp_ne (tgt := 23) (q := 19) dX5_byDeadBlocks_16 (by decide) rfl (fun h16 => ?_) (fun h16 => ?_)
    · skip
      refine E_aload0 (q := 24) dX5_byDeadBlocks_23 rfl ?_
      refine G_X5_store (q := 27) fl_X5_12 dX5_byDeadBlocks_24 rfl ?_
      refine G_X4_times (q := 30) isSt_1 fl_X5_167 dX5_byDeadBlocks_27 rfl ?_
      refine E_iload2 (q := 31) dX5_byDeadBlocks_30 rfl ?_
      refine E_ialdN (q := 32) isSt_1.times (by omega) (by decide) dX5_byDeadBlocks_31 rfl ?_
      refine V_int (h.2.1.2.2.1 p hp16 hp.2.2).2.1 ?_
      exact hend (stm A p) (by rw [snc, hz]) hst _
    · skip
      exact absurd h16 (nI_nm1 (by omega))
theorem sp_X5_used (h : SI M 1 A) : Spec D 10 yX5_used cfX5_used [.ref (ad 0)] (wl D ad M) 0 0 (PI (nI (fsum siz A.2)) (wl D ad M)) := by
  refine Spec.of (by decide) rfl (Nat.le_of_ble_eq_true rfl) rfl ?_
  refine E_aload0 (q := 1) dX5_used_0 rfl ?_
  refine G_X5_store (q := 4) fl_X5_12 dX5_used_1 rfl ?_
  refine G_X4_blocks (q := 7) isSt_1 fl_X5_95 dX5_used_4 rfl ?_
  refine E_iconst (v := nI 0) (q := 8) dX5_used_7 (by decide) rfl ?_
  refine E_iconst (v := nI 0) (q := 9) dX5_used_8 (by decide) rfl ?_
  refine E_iconst (v := nI 0) (q := 10) dX5_used_9 (by decide) rfl ?_
  refine C_V3I (q := 13) lk_X5_216 (sp_X0_unitsWhere h.1.blocks h.bi h.bw (by decide) (by decide) (by decide)) (rc_X0 isSt_1.blocks) dX5_used_10 (by decide) (Nat.le_of_ble_eq_true rfl) rfl ?_
  refine V_int (congrArg nI (uwF_all h.bw)) ?_
  exact E_ireturn rfl rfl dX5_used_13 (PI_of rfl rfl)
theorem sp_X5_isThere {p : Int32} (h : SI M 1 A) : Spec D 10 yX5_isThere cfX5_isThere [.ref (ad 0), .int (p)] (wl D ad M) 0 0 (PI (zI (VerA A p)) (wl D ad M)) := by
  refine Spec.of (by decide) rfl (Nat.le_of_ble_eq_true rfl) rfl ?_
  refine E_aload0 (q := 1) dX5_isThere_0 rfl ?_
  refine G_X5_store (q := 4) fl_X5_12 dX5_isThere_1 rfl ?_
  refine E_iload1 (q := 5) dX5_isThere_4 rfl ?_
  refine C_V1I (q := 8) lk_X5_151 (sp_X4_has h) (rc_X4 isSt_1) dX5_isThere_5 (by decide) (Nat.le_of_ble_eq_true rfl) rfl ?_
  exact E_zreturn rfl rfl (bI_nar _) dX5_isThere_8 (PI_of rfl rfl)
theorem sp_X5_namedS {p : Int32} (h : SI M 1 A) : Spec D 10 yX5_named cfX5_named [.ref (ad 0), .int (nI (1)), .int (p)] (wl D ad M) 0 0 (PI (fnd (fun k => p ≠ 0 ∧ th A k ∧ nI (snm A k) = p) 16) (wl D ad M)) := by
  refine Spec.of (by decide) rfl (Nat.le_of_ble_eq_true rfl) rfl ?_
  refine E_iload1 (q := 1) dX5_named_0 rfl ?_
  refine E_if_eq (tgt := 15) (q := 4) dX5_named_1 (by decide) rfl (fun h1 => ?_) (fun h1 => ?_)
  · first | exact absurd h1 (by decide) | exact absurd (by decide) h1
  · skip
    refine E_aload0 (q := 5) dX5_named_4 rfl ?_
    refine G_X5_store (q := 8) fl_X5_12 dX5_named_5 rfl ?_
    refine E_iload2 (q := 9) dX5_named_8 rfl ?_
    refine C_V1I (q := 12) lk_X5_141 (sp_X4_snapshotWithName h) (rc_X4 isSt_1) dX5_named_9 (by decide) (Nat.le_of_ble_eq_true rfl) rfl ?_
    refine E_goto (q := 23) dX5_named_12 (by decide) ?_
    exact E_ireturn rfl rfl dX5_named_23 (PI_of rfl rfl)
theorem sp_X5_namedV {p : Int32} (h : SI M 1 A) : Spec D 10 yX5_named cfX5_named [.ref (ad 0), .int (nI (0)), .int (p)] (wl D ad M) 0 0 (PI (fnd (fun k => p ≠ 0 ∧ th A (16 + k) ∧ nI (vnm A k) = p) 6) (wl D ad M)) := by
  refine Spec.of (by decide) rfl (Nat.le_of_ble_eq_true rfl) rfl ?_
  refine E_iload1 (q := 1) dX5_named_0 rfl ?_
  refine E_if_eq (tgt := 15) (q := 4) dX5_named_1 (by decide) rfl (fun h1 => ?_) (fun h1 => ?_)
  · skip
    refine E_aload0 (q := 16) dX5_named_15 rfl ?_
    refine G_X5_store (q := 19) fl_X5_12 dX5_named_16 rfl ?_
    refine E_iload2 (q := 20) dX5_named_19 rfl ?_
    refine C_V1I (q := 23) lk_X5_144 (sp_X4_volumeWithName h) (rc_X4 isSt_1) dX5_named_20 (by decide) (Nat.le_of_ble_eq_true rfl) rfl ?_
    exact E_ireturn rfl rfl dX5_named_23 (PI_of rfl rfl)
  · first | exact absurd h1 (by decide) | exact absurd (by decide) h1
theorem sp_X5_getSetting0 (h : SI M 1 A) : Spec D 10 yX5_getSetting cfX5_getSetting [.ref (ad 0), .int (nI (0))] (wl D ad M) 0 0 (PI (nI (aP A)) (wl D ad M)) := by
  refine Spec.of (by decide) rfl (Nat.le_of_ble_eq_true rfl) rfl ?_
  refine E_iload1 (q := 1) dX5_getSetting_0 rfl ?_
  refine E_if_eq (tgt := 12) (q := 4) dX5_getSetting_1 (by decide) rfl (fun h1 => ?_) (fun h1 => ?_)
  · skip
    refine E_aload0 (q := 13) dX5_getSetting_12 rfl ?_
    refine G_X5_store (q := 16) fl_X5_12 dX5_getSetting_13 rfl ?_
    refine G_X4_settings (q := 19) isSt_1 fl_X5_148 dX5_getSetting_16 rfl ?_
    refine E_iload1 (q := 20) dX5_getSetting_19 rfl ?_
    refine E_ialdN (q := 21) isSt_1.settings (by omega) (by decide) dX5_getSetting_20 rfl ?_
    refine V_int h.2.1.2.1.1 ?_
    exact E_ireturn rfl rfl dX5_getSetting_21 (PI_of rfl rfl)
  · first | exact absurd h1 (by decide) | exact absurd (by decide) h1
theorem sp_X5_getSetting1 (h : SI M 1 A) : Spec D 10 yX5_getSetting cfX5_getSetting [.ref (ad 0), .int (nI (1))] (wl D ad M) 0 0 (PI (nI (aC A)) (wl D ad M)) := by
  refine Spec.of (by decide) rfl (Nat.le_of_ble_eq_true rfl) rfl ?_
  refine E_iload1 (q := 1) dX5_getSetting_0 rfl ?_
  refine E_if_eq (tgt := 12) (q := 4) dX5_getSetting_1 (by decide) rfl (fun h1 => ?_) (fun h1 => ?_)
  · first | exact absurd h1 (by decide) | exact absurd (by decide) h1
  · skip
    refine E_iload1 (q := 5) dX5_getSetting_4 rfl ?_
    refine E_iconst (v := nI 1) (q := 6) dX5_getSetting_5 (by decide) rfl ?_
    refine E_icmp_eqN (tgt := 12) (q := 9) dX5_getSetting_6 (by decide) rfl (by omega) (by omega) (fun h6 => ?_) (fun h6 => ?_)
    · skip
      refine E_aload0 (q := 13) dX5_getSetting_12 rfl ?_
      refine G_X5_store (q := 16) fl_X5_12 dX5_getSetting_13 rfl ?_
      refine G_X4_settings (q := 19) isSt_1 fl_X5_148 dX5_getSetting_16 rfl ?_
      refine E_iload1 (q := 20) dX5_getSetting_19 rfl ?_
      refine E_ialdN (q := 21) isSt_1.settings (by omega) (by decide) dX5_getSetting_20 rfl ?_
      refine V_int h.2.1.2.1.2 ?_
      exact E_ireturn rfl rfl dX5_getSetting_21 (PI_of rfl rfl)
    · first | exact absurd h6 (by decide) | exact absurd (by decide) h6
theorem sp_X5_getSettingX {q : Int32} (h : SI M 1 A) (h0 : q ≠ 0) (h10 : q ≠ nI 1) : Spec D 10 yX5_getSetting cfX5_getSetting [.ref (ad 0), .int (q)] (wl D ad M) 0 0 (PI (-2) (wl D ad M)) := by
  refine Spec.of (by decide) rfl (Nat.le_of_ble_eq_true rfl) rfl ?_
  refine E_iload1 (q := 1) dX5_getSetting_0 rfl ?_
  refine E_if_eq (tgt := 12) (q := 4) dX5_getSetting_1 (by decide) rfl (fun h1 => ?_) (fun h1 => ?_)
  · skip
    exact absurd h1 h0
  · skip
    refine E_iload1 (q := 5) dX5_getSetting_4 rfl ?_
    refine E_iconst (v := nI 1) (q := 6) dX5_getSetting_5 (by decide) rfl ?_
    refine E_icmp_eq (tgt := 12) (q := 9) dX5_getSetting_6 (by decide) rfl (fun h6 => ?_) (fun h6 => ?_)
    · skip
      exact absurd h6 h10
    · skip
      refine E_bipush (v := -2) (q := 11) dX5_getSetting_9 (by decide) rfl ?_
      exact E_ireturn rfl rfl dX5_getSetting_11 (PI_of rfl rfl)
theorem sp_X5_count0 (h : SI M 1 A) : Spec D 10 yX5_count cfX5_count [.ref (ad 0), .int (nI (0))] (wl D ad M) 0 0 (PI (nI (aV A)) (wl D ad M)) := by
  refine Spec.of (by decide) rfl (Nat.le_of_ble_eq_true rfl) rfl ?_
  have htl := thM_lt (A := A)
  have hsl := snps_lt (A := A)
  have hal : andn (thM A) (sbN 16) < 2 ^ 22 := Nat.lt_of_le_of_lt andn_le htl
  refine E_iload1 (q := 1) dX5_count_0 rfl ?_
  refine E_tableIn (q := 40) dX5_count_1 (by decide) (by decide) (show _ = some _ from rfl) (by decide) ?_
  refine E_aload0 (q := 41) dX5_count_40 rfl ?_
  refine G_X5_store (q := 44) fl_X5_12 dX5_count_41 rfl ?_
  refine G_X4_volumesCome (q := 47) isSt_1 fl_X5_116 dX5_count_44 rfl ?_
  refine V_int h.2.1.1.2.1 ?_
  exact E_ireturn rfl rfl dX5_count_47 (PI_of rfl rfl)
theorem sp_X5_count1 (h : SI M 1 A) : Spec D 10 yX5_count cfX5_count [.ref (ad 0), .int (nI (1))] (wl D ad M) 0 0 (PI (nI (aS A)) (wl D ad M)) := by
  refine Spec.of (by decide) rfl (Nat.le_of_ble_eq_true rfl) rfl ?_
  have htl := thM_lt (A := A)
  have hsl := snps_lt (A := A)
  have hal : andn (thM A) (sbN 16) < 2 ^ 22 := Nat.lt_of_le_of_lt andn_le htl
  refine E_iload1 (q := 1) dX5_count_0 rfl ?_
  refine E_tableIn (q := 48) dX5_count_1 (by decide) (by decide) (show _ = some _ from rfl) (by decide) ?_
  refine E_aload0 (q := 49) dX5_count_48 rfl ?_
  refine G_X5_store (q := 52) fl_X5_12 dX5_count_49 rfl ?_
  refine G_X4_snapshotsCome (q := 55) isSt_1 fl_X5_119 dX5_count_52 rfl ?_
  refine V_int h.2.1.1.2.2.1 ?_
  exact E_ireturn rfl rfl dX5_count_55 (PI_of rfl rfl)
theorem sp_X5_count2 (h : SI M 1 A) : Spec D 10 yX5_count cfX5_count [.ref (ad 0), .int (nI (2))] (wl D ad M) 0 0 (PI (nI A.2.length) (wl D ad M)) := by
  refine Spec.of (by decide) rfl (Nat.le_of_ble_eq_true rfl) rfl ?_
  have htl := thM_lt (A := A)
  have hsl := snps_lt (A := A)
  have hal : andn (thM A) (sbN 16) < 2 ^ 22 := Nat.lt_of_le_of_lt andn_le htl
  refine E_iload1 (q := 1) dX5_count_0 rfl ?_
  refine E_tableIn (q := 56) dX5_count_1 (by decide) (by decide) (show _ = some _ from rfl) (by decide) ?_
  refine E_aload0 (q := 57) dX5_count_56 rfl ?_
  refine G_X5_store (q := 60) fl_X5_12 dX5_count_57 rfl ?_
  refine G_X4_blocks (q := 63) isSt_1 fl_X5_95 dX5_count_60 rfl ?_
  refine G_X0_length (q := 66) isSt_1.blocks fl_X5_122 dX5_count_63 rfl ?_
  refine V_int h.bi.1 ?_
  exact E_ireturn rfl rfl dX5_count_66 (PI_of rfl rfl)
theorem sp_X5_count3 (h : SI M 1 A) : Spec D 10 yX5_count cfX5_count [.ref (ad 0), .int (nI (3))] (wl D ad M) 0 0 (PI (nI (aT A)) (wl D ad M)) := by
  refine Spec.of (by decide) rfl (Nat.le_of_ble_eq_true rfl) rfl ?_
  have htl := thM_lt (A := A)
  have hsl := snps_lt (A := A)
  have hal : andn (thM A) (sbN 16) < 2 ^ 22 := Nat.lt_of_le_of_lt andn_le htl
  refine E_iload1 (q := 1) dX5_count_0 rfl ?_
  refine E_tableIn (q := 67) dX5_count_1 (by decide) (by decide) (show _ = some _ from rfl) (by decide) ?_
  refine E_aload0 (q := 68) dX5_count_67 rfl ?_
  refine G_X5_store (q := 71) fl_X5_12 dX5_count_68 rfl ?_
  refine G_X4_time (q := 74) isSt_1 fl_X5_124 dX5_count_71 rfl ?_
  refine V_int h.2.1.1.1 ?_
  exact E_ireturn rfl rfl dX5_count_74 (PI_of rfl rfl)
theorem sp_X5_count4 (h : SI M 1 A) : Spec D 10 yX5_count cfX5_count [.ref (ad 0), .int (nI (4))] (wl D ad M) 0 0 (PI (nI (popN (bset (fun v => th A (16 + v)) 6))) (wl D ad M)) := by
  refine Spec.of (by decide) rfl (Nat.le_of_ble_eq_true rfl) rfl ?_
  have htl := thM_lt (A := A)
  have hsl := snps_lt (A := A)
  have hal : andn (thM A) (sbN 16) < 2 ^ 22 := Nat.lt_of_le_of_lt andn_le htl
  refine E_iload1 (q := 1) dX5_count_0 rfl ?_
  refine E_tableIn (q := 75) dX5_count_1 (by decide) (by decide) (show _ = some _ from rfl) (by decide) ?_
  refine E_aload0 (q := 76) dX5_count_75 rfl ?_
  refine G_X5_store (q := 79) fl_X5_12 dX5_count_76 rfl ?_
  refine G_X4_there (q := 82) isSt_1 fl_X5_127 dX5_count_79 rfl ?_
  refine V_int h.2.1.1.2.2.2.1 ?_
  refine E_bipush (v := nI 16) (q := 84) dX5_count_82 (by decide) rfl ?_
  refine C_S1I (q := 87) lk_X5_130 (sp_X5_snapshotsBefore (by omega)) dX5_count_84 (by decide) (Nat.le_of_ble_eq_true rfl) rfl ?_
  refine E_iconst (v := -1) (q := 88) dX5_count_87 (by decide) rfl ?_
  refine E_ixor (q := 89) dX5_count_88 rfl ?_
  refine E_iand (q := 90) dX5_count_89 rfl ?_
  refine V_int (nI_andn _ _) ?_
  refine C_S1I (q := 93) lk_X5_133 (sp_J6_bitCount_0f7a4 (by omega)) dX5_count_90 (by decide) (Nat.le_of_ble_eq_true rfl) rfl ?_
  exact E_ireturn rfl rfl dX5_count_93 (PI_of (congrArg nI vol_pop) rfl)
theorem sp_X5_count5 (h : SI M 1 A) : Spec D 10 yX5_count cfX5_count [.ref (ad 0), .int (nI (5))] (wl D ad M) 0 0 (PI (nI (popN (snps A))) (wl D ad M)) := by
  refine Spec.of (by decide) rfl (Nat.le_of_ble_eq_true rfl) rfl ?_
  have htl := thM_lt (A := A)
  have hsl := snps_lt (A := A)
  have hal : andn (thM A) (sbN 16) < 2 ^ 22 := Nat.lt_of_le_of_lt andn_le htl
  refine E_iload1 (q := 1) dX5_count_0 rfl ?_
  refine E_tableIn (q := 94) dX5_count_1 (by decide) (by decide) (show _ = some _ from rfl) (by decide) ?_
  refine E_aload0 (q := 95) dX5_count_94 rfl ?_
  refine G_X5_store (q := 98) fl_X5_12 dX5_count_95 rfl ?_
  refine C_V0I (q := 101) lk_X5_138 (sp_X4_snapshotSet h) (rc_X4 isSt_1) dX5_count_98 (by decide) (Nat.le_of_ble_eq_true rfl) rfl ?_
  refine C_S1I (q := 104) lk_X5_133 (sp_J6_bitCount_0f7a4 (by omega)) dX5_count_101 (by decide) (Nat.le_of_ble_eq_true rfl) rfl ?_
  exact E_ireturn rfl rfl dX5_count_104 (PI_of rfl rfl)
theorem sp_X5_countX {q : Int32} (h : SI M 1 A) (hq : q.toInt < 0 ∨ 5 < q.toInt) : Spec D 10 yX5_count cfX5_count [.ref (ad 0), .int (q)] (wl D ad M) 0 0 (PI (-2) (wl D ad M)) := by
  refine Spec.of (by decide) rfl (Nat.le_of_ble_eq_true rfl) rfl ?_
  refine E_iload1 (q := 1) dX5_count_0 rfl ?_
  refine E_tableOut (q := 105) dX5_count_1 hq (by decide) ?_
  refine E_bipush (v := -2) (q := 107) dX5_count_105 (by decide) rfl ?_
  exact E_ireturn rfl rfl dX5_count_107 (PI_of rfl rfl)
theorem sp_X5_undoCount {k : Int32} (hk : M 131 2 = k) : Spec D 10 yX5_undoCount cfX5_undoCount [.ref (ad 0)] (wl D ad M) 0 0 (PI k (wl D ad M)) := by
  refine Spec.of (by decide) rfl (Nat.le_of_ble_eq_true rfl) rfl ?_
  refine E_aload0 (q := 1) dX5_undoCount_0 rfl ?_
  refine G_X5_history (q := 4) fl_X5_19 dX5_undoCount_1 rfl ?_
  refine G_X1_length (q := 7) fl_X5_147 dX5_undoCount_4 rfl ?_
  refine V_int hk ?_
  exact E_ireturn rfl rfl dX5_undoCount_7 (PI_of rfl rfl)
theorem sp_X5_sizeOf {p : Int32} (h : SI M 1 A) : Spec D 10 yX5_sizeOf cfX5_sizeOf [.ref (ad 0), .int (p)] (wl D ad M) 0 0 (PI (szV A p) (wl D ad M)) := by
  refine Spec.of (by decide) rfl (Nat.le_of_ble_eq_true rfl) rfl ?_
  have hT := h.2.2.1.1.1
  have hl := h.bw.1
  by_cases hx : ∃ x, x ∈ A.2 ∧ nI x.1 = p
  · obtain ⟨j, x, hf⟩ := atFst (P := fun x => nI x.1 = p) hx
    have hj := (List.getElem?_eq_some_iff.mp hf.1).1
    refine E_aload0 (q := 1) dX5_sizeOf_0 rfl ?_
    refine G_X5_store (q := 4) fl_X5_12 dX5_sizeOf_1 rfl ?_
    refine G_X4_blocks (q := 7) isSt_1 fl_X5_95 dX5_sizeOf_4 rfl ?_
    refine E_iload1 (q := 8) dX5_sizeOf_7 rfl ?_
    refine C_V1I (q := 11) lk_X5_225 (sp_X0_indexOfBirthS h.1.blocks h.bi h.bw hf) (rc_X0 isSt_1.blocks) dX5_sizeOf_8 (by decide) (Nat.le_of_ble_eq_true rfl) rfl ?_
    refine E_istore2 (q := 12) dX5_sizeOf_11 rfl rfl ?_
    refine E_iload2 (q := 13) dX5_sizeOf_12 rfl ?_
    refine E_iconst (v := -1) (q := 14) dX5_sizeOf_13 (by decide) rfl ?_
    refine E_icmp_ne (tgt := 21) (q := 17) dX5_sizeOf_14 (by decide) rfl (fun h14 => ?_) (fun h14 => ?_)
    · skip
      refine E_aload0 (q := 22) dX5_sizeOf_21 rfl ?_
      refine G_X5_store (q := 25) fl_X5_12 dX5_sizeOf_22 rfl ?_
      refine G_X4_blocks (q := 28) isSt_1 fl_X5_95 dX5_sizeOf_25 rfl ?_
      refine G_X0_sizes (q := 31) isSt_1.blocks fl_X5_228 dX5_sizeOf_28 rfl ?_
      refine E_iload2 (q := 32) dX5_sizeOf_31 rfl ?_
      refine E_ialdN (q := 33) isSt_1.blocks.sizes (by omega) (by decide) dX5_sizeOf_32 rfl ?_
      refine V_int (h.bi.2 j x hf.1).2.1 ?_
      exact E_ireturn rfl rfl dX5_sizeOf_33 (PI_of (by rw [← hf.2.1, (szV_hit h.2.2.2.2 (List.mem_of_getElem? hf.1) (by omega)).1]) rfl)
    · skip
      exact absurd h14 (nI_nm1 (by omega))
  · have hno : ∀ x, x ∈ A.2 → ¬ nI x.1 = p := fun x q z => hx ⟨x, q, z⟩
    refine E_aload0 (q := 1) dX5_sizeOf_0 rfl ?_
    refine G_X5_store (q := 4) fl_X5_12 dX5_sizeOf_1 rfl ?_
    refine G_X4_blocks (q := 7) isSt_1 fl_X5_95 dX5_sizeOf_4 rfl ?_
    refine E_iload1 (q := 8) dX5_sizeOf_7 rfl ?_
    refine C_V1I (q := 11) lk_X5_225 (sp_X0_indexOfBirthN h.1.blocks h.bi h.bw hno) (rc_X0 isSt_1.blocks) dX5_sizeOf_8 (by decide) (Nat.le_of_ble_eq_true rfl) rfl ?_
    refine E_istore2 (q := 12) dX5_sizeOf_11 rfl rfl ?_
    refine E_iload2 (q := 13) dX5_sizeOf_12 rfl ?_
    refine E_iconst (v := -1) (q := 14) dX5_sizeOf_13 (by decide) rfl ?_
    refine E_icmp_ne (tgt := 21) (q := 17) dX5_sizeOf_14 (by decide) rfl (fun h14 => ?_) (fun h14 => ?_)
    · skip
      exact absurd rfl h14
    · skip
      refine E_iconst (v := -1) (q := 18) dX5_sizeOf_17 (by decide) rfl ?_
      refine E_goto (q := 33) dX5_sizeOf_18 (by decide) ?_
      exact E_ireturn rfl rfl dX5_sizeOf_33 (PI_of (szV_miss hno).1.symm rfl)
theorem sp_X5_holders {p : Int32} (h : SI M 1 A) : Spec D 10 yX5_holders cfX5_holders [.ref (ad 0), .int (p)] (wl D ad M) 0 0 (PI (owV A p) (wl D ad M)) := by
  refine Spec.of (by decide) rfl (Nat.le_of_ble_eq_true rfl) rfl ?_
  have hT := h.2.2.1.1.1
  have hl := h.bw.1
  by_cases hx : ∃ x, x ∈ A.2 ∧ nI x.1 = p
  · obtain ⟨j, x, hf⟩ := atFst (P := fun x => nI x.1 = p) hx
    have hj := (List.getElem?_eq_some_iff.mp hf.1).1
    refine E_aload0 (q := 1) dX5_holders_0 rfl ?_
    refine G_X5_store (q := 4) fl_X5_12 dX5_holders_1 rfl ?_
    refine G_X4_blocks (q := 7) isSt_1 fl_X5_95 dX5_holders_4 rfl ?_
    refine E_iload1 (q := 8) dX5_holders_7 rfl ?_
    refine C_V1I (q := 11) lk_X5_225 (sp_X0_indexOfBirthS h.1.blocks h.bi h.bw hf) (rc_X0 isSt_1.blocks) dX5_holders_8 (by decide) (Nat.le_of_ble_eq_true rfl) rfl ?_
    refine E_istore2 (q := 12) dX5_holders_11 rfl rfl ?_
    refine E_iload2 (q := 13) dX5_holders_12 rfl ?_
    refine E_iconst (v := -1) (q := 14) dX5_holders_13 (by decide) rfl ?_
    refine E_icmp_ne (tgt := 21) (q := 17) dX5_holders_14 (by decide) rfl (fun h14 => ?_) (fun h14 => ?_)
    · skip
      refine E_aload0 (q := 22) dX5_holders_21 rfl ?_
      refine G_X5_store (q := 25) fl_X5_12 dX5_holders_22 rfl ?_
      refine G_X4_blocks (q := 28) isSt_1 fl_X5_95 dX5_holders_25 rfl ?_
      refine G_X0_owners (q := 31) isSt_1.blocks fl_X5_213 dX5_holders_28 rfl ?_
      refine E_iload2 (q := 32) dX5_holders_31 rfl ?_
      refine E_ialdN (q := 33) isSt_1.blocks.owners (by omega) (by decide) dX5_holders_32 rfl ?_
      refine V_int (h.bi.2 j x hf.1).2.2.2 ?_
      exact E_ireturn rfl rfl dX5_holders_33 (PI_of (by rw [← hf.2.1, (szV_hit h.2.2.2.2 (List.mem_of_getElem? hf.1) (by omega)).2]) rfl)
    · skip
      exact absurd h14 (nI_nm1 (by omega))
  · have hno : ∀ x, x ∈ A.2 → ¬ nI x.1 = p := fun x q z => hx ⟨x, q, z⟩
    refine E_aload0 (q := 1) dX5_holders_0 rfl ?_
    refine G_X5_store (q := 4) fl_X5_12 dX5_holders_1 rfl ?_
    refine G_X4_blocks (q := 7) isSt_1 fl_X5_95 dX5_holders_4 rfl ?_
    refine E_iload1 (q := 8) dX5_holders_7 rfl ?_
    refine C_V1I (q := 11) lk_X5_225 (sp_X0_indexOfBirthN h.1.blocks h.bi h.bw hno) (rc_X0 isSt_1.blocks) dX5_holders_8 (by decide) (Nat.le_of_ble_eq_true rfl) rfl ?_
    refine E_istore2 (q := 12) dX5_holders_11 rfl rfl ?_
    refine E_iload2 (q := 13) dX5_holders_12 rfl ?_
    refine E_iconst (v := -1) (q := 14) dX5_holders_13 (by decide) rfl ?_
    refine E_icmp_ne (tgt := 21) (q := 17) dX5_holders_14 (by decide) rfl (fun h14 => ?_) (fun h14 => ?_)
    · skip
      exact absurd rfl h14
    · skip
      refine E_iconst (v := nI 0) (q := 18) dX5_holders_17 (by decide) rfl ?_
      refine E_goto (q := 33) dX5_holders_18 (by decide) ?_
      exact E_ireturn rfl rfl dX5_holders_33 (PI_of (szV_miss hno).2.symm rfl)
theorem sp_X5_freedByB {q : Int32} (h : SI M 1 A) (hq : ¬ q &&& (nI (snps A) ^^^ (-1)) = 0) : Spec D 10 yX5_freedBy cfX5_freedBy [.ref (ad 0), .int (q)] (wl D ad M) 0 0 (PI (-1) (wl D ad M)) := by
  refine Spec.of (by decide) rfl (Nat.le_of_ble_eq_true rfl) rfl ?_
  refine E_iload1 (q := 1) dX5_freedBy_0 rfl ?_
  refine E_aload0 (q := 2) dX5_freedBy_1 rfl ?_
  refine G_X5_store (q := 5) fl_X5_12 dX5_freedBy_2 rfl ?_
  refine C_V0I (q := 8) lk_X5_138 (sp_X4_snapshotSet h) (rc_X4 isSt_1) dX5_freedBy_5 (by decide) (Nat.le_of_ble_eq_true rfl) rfl ?_
  refine E_iconst (v := -1) (q := 9) dX5_freedBy_8 (by decide) rfl ?_
  refine E_ixor (q := 10) dX5_freedBy_9 rfl ?_
  refine E_iand (q := 11) dX5_freedBy_10 rfl ?_
  refine E_if_eq (tgt := 16) (q := 14) dX5_freedBy_11 (by decide) rfl (fun h11 => ?_) (fun h11 => ?_)
  · skip
    exact absurd h11 hq
  · skip
    refine E_iconst (v := -1) (q := 15) dX5_freedBy_14 (by decide) rfl ?_
    exact E_ireturn rfl rfl dX5_freedBy_15 (PI_of rfl rfl)
theorem sp_X5_freedBy {m : Nat} (h : SI M 1 A) (hm : m < 2 ^ 31) (hq : nI m &&& (nI (snps A) ^^^ (-1)) = 0) : Spec D 10 yX5_freedBy cfX5_freedBy [.ref (ad 0), .int (nI (m))] (wl D ad M) 0 0 (PI (nI (fsum (hbF m) A.2)) (wl D ad M)) := by
  refine Spec.of (by decide) rfl (Nat.le_of_ble_eq_true rfl) rfl ?_
  refine E_iload1 (q := 1) dX5_freedBy_0 rfl ?_
  refine E_aload0 (q := 2) dX5_freedBy_1 rfl ?_
  refine G_X5_store (q := 5) fl_X5_12 dX5_freedBy_2 rfl ?_
  refine C_V0I (q := 8) lk_X5_138 (sp_X4_snapshotSet h) (rc_X4 isSt_1) dX5_freedBy_5 (by decide) (Nat.le_of_ble_eq_true rfl) rfl ?_
  refine E_iconst (v := -1) (q := 9) dX5_freedBy_8 (by decide) rfl ?_
  refine E_ixor (q := 10) dX5_freedBy_9 rfl ?_
  refine E_iand (q := 11) dX5_freedBy_10 rfl ?_
  refine E_if_eq (tgt := 16) (q := 14) dX5_freedBy_11 (by decide) rfl (fun h11 => ?_) (fun h11 => ?_)
  · skip
    refine E_aload0 (q := 17) dX5_freedBy_16 rfl ?_
    refine G_X5_store (q := 20) fl_X5_12 dX5_freedBy_17 rfl ?_
    refine G_X4_blocks (q := 23) isSt_1 fl_X5_95 dX5_freedBy_20 rfl ?_
    refine E_iload1 (q := 24) dX5_freedBy_23 rfl ?_
    refine C_V1I (q := 27) lk_X5_231 (sp_X0_unitsOnlyOf h.1.blocks h.bi h.bw (by omega)) (rc_X0 isSt_1.blocks) dX5_freedBy_24 (by decide) (Nat.le_of_ble_eq_true rfl) rfl ?_
    exact E_ireturn rfl rfl dX5_freedBy_27 (PI_of rfl rfl)
  · skip
    exact absurd hq h11
theorem sp_X5_mostExclusive (h : SI M 1 A) : Spec D 10 yX5_mostExclusive cfX5_mostExclusive [.ref (ad 0)] (wl D ad M) 0 0 (PI ((mxE A 16).1) (wl D ad M)) := by
  refine Spec.of (by decide) rfl (Nat.le_of_ble_eq_true rfl) rfl ?_
  have hle : ∀ i, (mxE A i).2 ≤ 2376 := fun i => by
    induction i with
    | zero => exact Nat.zero_le _
    | succ i ih =>
      rw [mxE]
      split
      · exact ih
      · exact hb_le h.2.2.2.2 _
  have hmain : V D cfX5_mostExclusive (rmOf 10 0 0) (QM D (PI ((mxE A 16).1) (wl D ad M)) 0 0) 0 0 6 [some (.ref (ad 0)), some (.int ((mxE A 0).1)), some (.int (nI ((mxE A 0).2))), some (.int (nI (0))), none] [] (wl D ad M) := by
    refine upto0 (n := 16) (P := fun k => V D cfX5_mostExclusive (rmOf 10 0 0) (QM D (PI ((mxE A 16).1) (wl D ad M)) 0 0) 0 0 6 [some (.ref (ad 0)), some (.int ((mxE A k).1)), some (.int (nI ((mxE A k).2))), some (.int (nI (k))), none] [] (wl D ad M)) ?_ ?_
    · skip
      refine E_iload3 (q := 7) dX5_mostExclusive_6 rfl ?_
      refine E_bipush (v := nI 16) (q := 9) dX5_mostExclusive_7 (by decide) rfl ?_
      refine E_icmp_geN (tgt := 45) (q := 12) dX5_mostExclusive_9 (by decide) rfl (by omega) (by omega) (fun h9 => ?_) (fun h9 => ?_)
      · skip
        refine E_iload1 (q := 46) dX5_mostExclusive_45 rfl ?_
        exact E_ireturn rfl rfl dX5_mostExclusive_46 (PI_of rfl rfl)
      · skip
        exact absurd h9 (by omega)
    · intro k hk ih
      have hl := hle k
      have hb := hb_le h.2.2.2.2 (2 ^ k)
      have hp32 : 2 ^ k < 2 ^ 32 := Nat.pow_lt_pow_right (by decide) (by omega)
      have hs : mxE A (k + 1) = if fsum (hbF (2 ^ k)) A.2 ≤ (mxE A k).2 then mxE A k else (nI k, fsum (hbF (2 ^ k)) A.2) := rfl
      refine E_iload3 (q := 7) dX5_mostExclusive_6 rfl ?_
      refine E_bipush (v := nI 16) (q := 9) dX5_mostExclusive_7 (by decide) rfl ?_
      refine E_icmp_geN (tgt := 45) (q := 12) dX5_mostExclusive_9 (by decide) rfl (by omega) (by omega) (fun h9 => ?_) (fun h9 => ?_)
      · skip
        exact absurd h9 (by omega)
      · skip
        refine E_aload0 (q := 13) dX5_mostExclusive_12 rfl ?_
        refine G_X5_store (q := 16) fl_X5_12 dX5_mostExclusive_13 rfl ?_
        refine G_X4_blocks (q := 19) isSt_1 fl_X5_95 dX5_mostExclusive_16 rfl ?_
        refine E_iload3 (q := 20) dX5_mostExclusive_19 rfl ?_
        refine C_S1I (q := 23) lk_X5_200 (sp_X5_bit (by omega)) dX5_mostExclusive_20 (by decide) (Nat.le_of_ble_eq_true rfl) rfl ?_
        refine C_V1I (q := 26) lk_X5_231 (sp_X0_unitsOnlyOf h.1.blocks h.bi h.bw hp32) (rc_X0 isSt_1.blocks) dX5_mostExclusive_23 (by decide) (Nat.le_of_ble_eq_true rfl) rfl ?_
        refine E_istore4 (q := 28) dX5_mostExclusive_26 rfl rfl ?_
        refine E_iload4 (q := 30) dX5_mostExclusive_28 rfl ?_
        refine E_iload2 (q := 31) dX5_mostExclusive_30 rfl ?_
        refine E_icmp_leN (tgt := 39) (q := 34) dX5_mostExclusive_31 (by decide) rfl (by omega) (by omega) (fun h31 => ?_) (fun h31 => ?_)
        · skip
          refine E_iinc3 (q := 42) dX5_mostExclusive_39 (nI_inc _) rfl rfl ?_
          refine E_goto (q := 6) dX5_mostExclusive_42 (by decide) ?_
          rw [hs, if_pos (by omega)] at ih
          exact V_sub (by repeat (first | exact subL_nil | refine subL_s ?_ | refine subL_n ?_)) ih
        · skip
          refine E_iload4 (q := 36) dX5_mostExclusive_34 rfl ?_
          refine E_istore2 (q := 37) dX5_mostExclusive_36 rfl rfl ?_
          refine E_iload3 (q := 38) dX5_mostExclusive_37 rfl ?_
          refine E_istore1 (q := 39) dX5_mostExclusive_38 rfl rfl ?_
          refine E_iinc3 (q := 42) dX5_mostExclusive_39 (nI_inc _) rfl rfl ?_
          refine E_goto (q := 6) dX5_mostExclusive_42 (by decide) ?_
          rw [hs, if_neg (by omega)] at ih
          exact V_sub (by repeat (first | exact subL_nil | refine subL_s ?_ | refine subL_n ?_)) ih
  refine E_iconst (v := -1) (q := 1) dX5_mostExclusive_0 (by decide) rfl ?_
  refine E_istore1 (q := 2) dX5_mostExclusive_1 rfl rfl ?_
  refine E_iconst (v := nI 0) (q := 3) dX5_mostExclusive_2 (by decide) rfl ?_
  refine E_istore2 (q := 4) dX5_mostExclusive_3 rfl rfl ?_
  refine E_iconst (v := nI 0) (q := 5) dX5_mostExclusive_4 (by decide) rfl ?_
  refine E_istore3 (q := 6) dX5_mostExclusive_5 rfl rfl ?_
  exact hmain
theorem sp_X5_wouldWriteV {p q r : Int32} (h : SI M 1 A) (hn : ¬ VolA A p) : Spec D 10 yX5_wouldWrite cfX5_wouldWrite [.ref (ad 0), .int (p), .int (q), .int (r)] (wl D ad M) 0 0 (PI (-1) (wl D ad M)) := by
  refine Spec.of (by decide) rfl (Nat.le_of_ble_eq_true rfl) rfl ?_
  refine E_aload0 (q := 1) dX5_wouldWrite_0 rfl ?_
  refine G_X5_store (q := 4) fl_X5_12 dX5_wouldWrite_1 rfl ?_
  refine E_iload1 (q := 5) dX5_wouldWrite_4 rfl ?_
  refine E_iload2 (q := 6) dX5_wouldWrite_5 rfl ?_
  refine E_iload3 (q := 7) dX5_wouldWrite_6 rfl ?_
  refine C_V3I (q := 10) lk_X5_238 (sp_X4_writeAnswerV h hn) (rc_X4 isSt_1) dX5_wouldWrite_7 (by decide) (Nat.le_of_ble_eq_true rfl) rfl ?_
  exact E_ireturn rfl rfl dX5_wouldWrite_10 (PI_of rfl rfl)
theorem sp_X5_wouldWriteB {p q r : Int32} (h : SI M 1 A) (hp : VolA A p) (hn : ¬ (AdrP q ∧ SizP r)) : Spec D 10 yX5_wouldWrite cfX5_wouldWrite [.ref (ad 0), .int (p), .int (q), .int (r)] (wl D ad M) 0 0 (PI (-2) (wl D ad M)) := by
  refine Spec.of (by decide) rfl (Nat.le_of_ble_eq_true rfl) rfl ?_
  refine E_aload0 (q := 1) dX5_wouldWrite_0 rfl ?_
  refine G_X5_store (q := 4) fl_X5_12 dX5_wouldWrite_1 rfl ?_
  refine E_iload1 (q := 5) dX5_wouldWrite_4 rfl ?_
  refine E_iload2 (q := 6) dX5_wouldWrite_5 rfl ?_
  refine E_iload3 (q := 7) dX5_wouldWrite_6 rfl ?_
  refine C_V3I (q := 10) lk_X5_238 (sp_X4_writeAnswerB h hp hn) (rc_X4 isSt_1) dX5_wouldWrite_7 (by decide) (Nat.le_of_ble_eq_true rfl) rfl ?_
  exact E_ireturn rfl rfl dX5_wouldWrite_10 (PI_of rfl rfl)
theorem sp_X5_wouldWrite {v a z : Nat} (h : SI M 1 A) (hv : v < 6) (ht : th A (16 + v)) (ha : a < 12) (hz : 1 ≤ z ∧ z ≤ 9) : Spec D 10 yX5_wouldWrite cfX5_wouldWrite [.ref (ad 0), .int (nI (v)), .int (nI (a)), .int (nI (z))] (wl D ad M) 0 0 (PI (wwI A v a z) (wl D ad M)) := by
  refine Spec.of (by decide) rfl (Nat.le_of_ble_eq_true rfl) rfl ?_
  refine E_aload0 (q := 1) dX5_wouldWrite_0 rfl ?_
  refine G_X5_store (q := 4) fl_X5_12 dX5_wouldWrite_1 rfl ?_
  refine E_iload1 (q := 5) dX5_wouldWrite_4 rfl ?_
  refine E_iload2 (q := 6) dX5_wouldWrite_5 rfl ?_
  refine E_iload3 (q := 7) dX5_wouldWrite_6 rfl ?_
  refine C_V3I (q := 10) lk_X5_238 (sp_X4_writeAnswer h hv ht ha hz) (rc_X4 isSt_1) dX5_wouldWrite_7 (by decide) (Nat.le_of_ble_eq_true rfl) rfl ?_
  exact E_ireturn rfl rfl dX5_wouldWrite_10 (PI_of rfl rfl)
theorem sp_X5_sharing (h : SI M 1 A) : Spec D 10 yX5_sharing cfX5_sharing [.ref (ad 0)] (wl D ad M) 0 0 (PD (shrV A) (wl D ad M)) := by
  refine Spec.of (by decide) rfl (Nat.le_of_ble_eq_true rfl) rfl ?_
  have hs := sz_le h.2.2.2.2
  refine E_aload0 (q := 1) dX5_sharing_0 rfl ?_
  refine G_X5_store (q := 4) fl_X5_12 dX5_sharing_1 rfl ?_
  refine G_X4_blocks (q := 7) isSt_1 fl_X5_95 dX5_sharing_4 rfl ?_
  refine E_iconst (v := nI 0) (q := 8) dX5_sharing_7 (by decide) rfl ?_
  refine E_iconst (v := nI 0) (q := 9) dX5_sharing_8 (by decide) rfl ?_
  refine E_iconst (v := nI 0) (q := 10) dX5_sharing_9 (by decide) rfl ?_
  refine C_V3I (q := 13) lk_X5_216 (sp_X0_unitsWhere h.1.blocks h.bi h.bw (by decide) (by decide) (by decide)) (rc_X0 isSt_1.blocks) dX5_sharing_10 (by decide) (Nat.le_of_ble_eq_true rfl) rfl ?_
  refine V_int (congrArg nI (uwF_all h.bw)) ?_
  refine E_istore1 (q := 14) dX5_sharing_13 rfl rfl ?_
  refine E_iload1 (q := 15) dX5_sharing_14 rfl ?_
  refine E_if_ne (tgt := 20) (q := 18) dX5_sharing_15 (by decide) rfl (fun h15 => ?_) (fun h15 => ?_)
  · skip
    refine E_aload0 (q := 21) dX5_sharing_20 rfl ?_
    refine G_X5_store (q := 24) fl_X5_12 dX5_sharing_21 rfl ?_
    refine G_X4_blocks (q := 27) isSt_1 fl_X5_95 dX5_sharing_24 rfl ?_
    refine C_V0I (q := 30) lk_X5_241 (sp_X0_unitsByVersions h.1.blocks h.bi h.bw) (rc_X0 isSt_1.blocks) dX5_sharing_27 (by decide) (Nat.le_of_ble_eq_true rfl) rfl ?_
    refine V_int (congrArg nI (shr_eq h.2.2)) ?_
    refine E_i2d (q := 31) dX5_sharing_30 rfl ?_
    refine E_iload1 (q := 32) dX5_sharing_31 rfl ?_
    refine E_i2d (q := 33) dX5_sharing_32 rfl ?_
    refine E_ddiv (q := 34) dX5_sharing_33 (ddiv_ok h15) rfl ?_
    exact E_dreturn rfl rfl dX5_sharing_34 ⟨by rw [shrV, if_neg (fun z => h15 (by rw [z]; rfl))], rfl⟩
  · skip
    refine E_dconst0 (q := 19) dX5_sharing_18 rfl ?_
    exact E_dreturn rfl rfl dX5_sharing_19 ⟨by rw [shrV, if_pos ((nI_z (by omega)).mp h15)], rfl⟩
end CLS
