
/-! THE CLASS's methods that throw -/
section THM
variable {D : va_G} {ad : Nat → Nat} {M : Mem} {ws : va_W} {A : AS}
theorem sp_T_needVolume {p : Int32} (h : SI M 1 A) (hp : ¬ VolA A p) : SpecT D 7 yX5_needVolume cfX5_needVolume [.ref (ad 0), .int p] (wl D ad M) 1 6 := by
  refine SpecT.of (by decide) rfl (Nat.le_of_ble_eq_true rfl) rfl ?_
  refine E_aload0 (q := 1) dX5_needVolume_0 rfl ?_
  refine G_X5_store (q := 4) fl_X5_12 dX5_needVolume_1 rfl ?_
  refine E_iload1 (q := 5) dX5_needVolume_4 rfl ?_
  refine C_V1I (q := 8) lk_X5_254 (sp_X4_hasVolume h) (rc_X4 isSt_1) dX5_needVolume_5 (by decide) (Nat.le_of_ble_eq_true rfl) rfl ?_
  refine E_if_ne (tgt := 22) (q := 11) dX5_needVolume_8 (by decide) rfl (fun h8 => ?_) (fun h8 => ?_)
  · skip
    exact absurd (zI_n h8) hp
  · skip
    exact E_throwW (i := 9) rfl rfl (by decide) (by omega) (by omega) (Nat.le_of_ble_eq_true rfl) dX5_needVolume_11 dX5_needVolume_14 dX5_needVolume_15 dX5_needVolume_18 dX5_needVolume_21
theorem sp_T_needSnapshot {p : Int32} (h : SI M 1 A) (hp : ¬ SnpA A p) : SpecT D 7 yX5_needSnapshot cfX5_needSnapshot [.ref (ad 0), .int p] (wl D ad M) 1 6 := by
  refine SpecT.of (by decide) rfl (Nat.le_of_ble_eq_true rfl) rfl ?_
  refine E_aload0 (q := 1) dX5_needSnapshot_0 rfl ?_
  refine G_X5_store (q := 4) fl_X5_12 dX5_needSnapshot_1 rfl ?_
  refine E_iload1 (q := 5) dX5_needSnapshot_4 rfl ?_
  refine C_V1I (q := 8) lk_X5_266 (sp_X4_hasSnapshot h) (rc_X4 isSt_1) dX5_needSnapshot_5 (by decide) (Nat.le_of_ble_eq_true rfl) rfl ?_
  refine E_if_ne (tgt := 22) (q := 11) dX5_needSnapshot_8 (by decide) rfl (fun h8 => ?_) (fun h8 => ?_)
  · skip
    exact absurd (zI_n h8) hp
  · skip
    exact E_throwW (i := 10) rfl rfl (by decide) (by omega) (by omega) (Nat.le_of_ble_eq_true rfl) dX5_needSnapshot_11 dX5_needSnapshot_14 dX5_needSnapshot_15 dX5_needSnapshot_18 dX5_needSnapshot_21
theorem sp_T_needVersion {p : Int32} (h : SI M 1 A) (hp : ¬ VerA A p) : SpecT D 7 yX5_needVersion cfX5_needVersion [.ref (ad 0), .int p] (wl D ad M) 1 6 := by
  refine SpecT.of (by decide) rfl (Nat.le_of_ble_eq_true rfl) rfl ?_
  refine E_aload0 (q := 1) dX5_needVersion_0 rfl ?_
  refine G_X5_store (q := 4) fl_X5_12 dX5_needVersion_1 rfl ?_
  refine E_iload1 (q := 5) dX5_needVersion_4 rfl ?_
  refine C_V1I (q := 8) lk_X5_151 (sp_X4_has h) (rc_X4 isSt_1) dX5_needVersion_5 (by decide) (Nat.le_of_ble_eq_true rfl) rfl ?_
  refine E_if_ne (tgt := 22) (q := 11) dX5_needVersion_8 (by decide) rfl (fun h8 => ?_) (fun h8 => ?_)
  · skip
    exact absurd (zI_n h8) hp
  · skip
    exact E_throwW (i := 11) rfl rfl (by decide) (by omega) (by omega) (Nat.le_of_ble_eq_true rfl) dX5_needVersion_11 dX5_needVersion_14 dX5_needVersion_15 dX5_needVersion_18 dX5_needVersion_21
theorem sp_T_needAddress {p : Int32} (hp : ¬ AdrP p) : SpecT D 7 yX5_needAddress cfX5_needAddress [.ref (ad 0), .int p] ws 1 6 := by
  refine SpecT.of (by decide) rfl (Nat.le_of_ble_eq_true rfl) rfl ?_
  refine E_iload1 (q := 1) dX5_needAddress_0 rfl ?_
  refine C_S1I (q := 4) lk_X5_257 (sp_X5_isAddress) dX5_needAddress_1 (by decide) (Nat.le_of_ble_eq_true rfl) rfl ?_
  refine E_if_ne (tgt := 18) (q := 7) dX5_needAddress_4 (by decide) rfl (fun h4 => ?_) (fun h4 => ?_)
  · skip
    exact absurd (zI_n h4) hp
  · skip
    exact E_throwW (i := 12) rfl rfl (by decide) (by omega) (by omega) (Nat.le_of_ble_eq_true rfl) dX5_needAddress_7 dX5_needAddress_10 dX5_needAddress_11 dX5_needAddress_14 dX5_needAddress_17
theorem sp_Ta_volumeNumber {p0 p1 : Int32} (h : SI M 1 A)  (hn : ¬ VolA A p0) : SpecT D 10 yX5_volumeNumber cfX5_volumeNumber [.ref (ad 0), .int p0, .int p1] (wl D ad M) 1 6 := by
  refine SpecT.of (by decide) rfl (Nat.le_of_ble_eq_true rfl) rfl ?_
  refine E_aload0 (q := 1) dX5_volumeNumber_0 rfl ?_
  refine E_iload1 (q := 2) dX5_volumeNumber_1 rfl ?_
  exact E_callVT (ar := [.int p0]) (rest := []) lk_X5_69 (sp_T_needVolume h hn) rc_X5 (by decide) (by omega) (by omega) (Nat.le_of_ble_eq_true rfl) dX5_volumeNumber_2 rfl
theorem sp_Ta_snapshotNumber {p0 p1 : Int32} (h : SI M 1 A)  (hn : ¬ SnpA A p0) : SpecT D 10 yX5_snapshotNumber cfX5_snapshotNumber [.ref (ad 0), .int p0, .int p1] (wl D ad M) 1 6 := by
  refine SpecT.of (by decide) rfl (Nat.le_of_ble_eq_true rfl) rfl ?_
  refine E_aload0 (q := 1) dX5_snapshotNumber_0 rfl ?_
  refine E_iload1 (q := 2) dX5_snapshotNumber_1 rfl ?_
  exact E_callVT (ar := [.int p0]) (rest := []) lk_X5_161 (sp_T_needSnapshot h hn) rc_X5 (by decide) (by omega) (by omega) (Nat.le_of_ble_eq_true rfl) dX5_snapshotNumber_2 rfl
theorem sp_Ta_snapshotAt {p0 p1 : Int32} (h : SI M 1 A)  (hn : ¬ VolA A p0) : SpecT D 10 yX5_snapshotAt cfX5_snapshotAt [.ref (ad 0), .int p0, .int p1] (wl D ad M) 1 6 := by
  refine SpecT.of (by decide) rfl (Nat.le_of_ble_eq_true rfl) rfl ?_
  refine E_aload0 (q := 1) dX5_snapshotAt_0 rfl ?_
  refine E_iload1 (q := 2) dX5_snapshotAt_1 rfl ?_
  exact E_callVT (ar := [.int p0]) (rest := []) lk_X5_69 (sp_T_needVolume h hn) rc_X5 (by decide) (by omega) (by omega) (Nat.le_of_ble_eq_true rfl) dX5_snapshotAt_2 rfl
theorem sp_Ta_clonesOf {p0 : Int32} (h : SI M 1 A)  (hn : ¬ SnpA A p0) : SpecT D 10 yX5_clonesOf cfX5_clonesOf [.ref (ad 0), .int p0] (wl D ad M) 1 6 := by
  refine SpecT.of (by decide) rfl (Nat.le_of_ble_eq_true rfl) rfl ?_
  refine E_aload0 (q := 1) dX5_clonesOf_0 rfl ?_
  refine E_iload1 (q := 2) dX5_clonesOf_1 rfl ?_
  exact E_callVT (ar := [.int p0]) (rest := []) lk_X5_161 (sp_T_needSnapshot h hn) rc_X5 (by decide) (by omega) (by omega) (Nat.le_of_ble_eq_true rfl) dX5_clonesOf_2 rfl
theorem sp_Ta_before {p0 : Int32} (h : SI M 1 A)  (hn : ¬ VerA A p0) : SpecT D 10 yX5_before cfX5_before [.ref (ad 0), .int p0] (wl D ad M) 1 6 := by
  refine SpecT.of (by decide) rfl (Nat.le_of_ble_eq_true rfl) rfl ?_
  refine E_aload0 (q := 1) dX5_before_0 rfl ?_
  refine E_iload1 (q := 2) dX5_before_1 rfl ?_
  exact E_callVT (ar := [.int p0]) (rest := []) lk_X5_179 (sp_T_needVersion h hn) rc_X5 (by decide) (by omega) (by omega) (Nat.le_of_ble_eq_true rfl) dX5_before_2 rfl
theorem sp_Ta_behind {p0 : Int32} (h : SI M 1 A)  (hn : ¬ SnpA A p0) : SpecT D 10 yX5_behind cfX5_behind [.ref (ad 0), .int p0] (wl D ad M) 1 6 := by
  refine SpecT.of (by decide) rfl (Nat.le_of_ble_eq_true rfl) rfl ?_
  refine E_aload0 (q := 1) dX5_behind_0 rfl ?_
  refine E_iload1 (q := 2) dX5_behind_1 rfl ?_
  exact E_callVT (ar := [.int p0]) (rest := []) lk_X5_161 (sp_T_needSnapshot h hn) rc_X5 (by decide) (by omega) (by omega) (Nat.le_of_ble_eq_true rfl) dX5_behind_2 rfl
theorem sp_Ta_depthOf {p0 : Int32} (h : SI M 1 A)  (hn : ¬ VerA A p0) : SpecT D 10 yX5_depthOf cfX5_depthOf [.ref (ad 0), .int p0] (wl D ad M) 1 6 := by
  refine SpecT.of (by decide) rfl (Nat.le_of_ble_eq_true rfl) rfl ?_
  refine E_aload0 (q := 1) dX5_depthOf_0 rfl ?_
  refine E_iload1 (q := 2) dX5_depthOf_1 rfl ?_
  exact E_callVT (ar := [.int p0]) (rest := []) lk_X5_179 (sp_T_needVersion h hn) rc_X5 (by decide) (by omega) (by omega) (Nat.le_of_ble_eq_true rfl) dX5_depthOf_2 rfl
theorem sp_Ta_common {p0 p1 : Int32} (h : SI M 1 A)  (hn : ¬ VerA A p0) : SpecT D 10 yX5_common cfX5_common [.ref (ad 0), .int p0, .int p1] (wl D ad M) 1 6 := by
  refine SpecT.of (by decide) rfl (Nat.le_of_ble_eq_true rfl) rfl ?_
  refine E_aload0 (q := 1) dX5_common_0 rfl ?_
  refine E_iload1 (q := 2) dX5_common_1 rfl ?_
  exact E_callVT (ar := [.int p0]) (rest := []) lk_X5_179 (sp_T_needVersion h hn) rc_X5 (by decide) (by omega) (by omega) (Nat.le_of_ble_eq_true rfl) dX5_common_2 rfl
theorem sp_Tb_common {p0 p1 : Int32} (h : SI M 1 A) (hp0 : VerA A p0) (hn : ¬ VerA A p1) : SpecT D 10 yX5_common cfX5_common [.ref (ad 0), .int p0, .int p1] (wl D ad M) 1 6 := by
  refine SpecT.of (by decide) rfl (Nat.le_of_ble_eq_true rfl) rfl ?_
  refine E_aload0 (q := 1) dX5_common_0 rfl ?_
  refine E_iload1 (q := 2) dX5_common_1 rfl ?_
  refine C_V1V (q := 5) lk_X5_179 (sp_X5_needVersion h hp0) rc_X5 dX5_common_2 (by decide) (Nat.le_of_ble_eq_true rfl) rfl ?_
  refine E_aload0 (q := 6) dX5_common_5 rfl ?_
  refine E_iload2 (q := 7) dX5_common_6 rfl ?_
  exact E_callVT (ar := [.int p1]) (rest := []) lk_X5_179 (sp_T_needVersion h hn) rc_X5 (by decide) (by omega) (by omega) (Nat.le_of_ble_eq_true rfl) dX5_common_7 rfl
theorem sp_Ta_blockAt {p0 p1 : Int32} (h : SI M 1 A)  (hn : ¬ VerA A p0) : SpecT D 10 yX5_blockAt cfX5_blockAt [.ref (ad 0), .int p0, .int p1] (wl D ad M) 1 6 := by
  refine SpecT.of (by decide) rfl (Nat.le_of_ble_eq_true rfl) rfl ?_
  refine E_aload0 (q := 1) dX5_blockAt_0 rfl ?_
  refine E_iload1 (q := 2) dX5_blockAt_1 rfl ?_
  exact E_callVT (ar := [.int p0]) (rest := []) lk_X5_179 (sp_T_needVersion h hn) rc_X5 (by decide) (by omega) (by omega) (Nat.le_of_ble_eq_true rfl) dX5_blockAt_2 rfl
theorem sp_Tb_blockAt {p0 p1 : Int32} (h : SI M 1 A) (hp0 : VerA A p0) (hn : ¬ AdrP p1) : SpecT D 10 yX5_blockAt cfX5_blockAt [.ref (ad 0), .int p0, .int p1] (wl D ad M) 1 6 := by
  refine SpecT.of (by decide) rfl (Nat.le_of_ble_eq_true rfl) rfl ?_
  refine E_aload0 (q := 1) dX5_blockAt_0 rfl ?_
  refine E_iload1 (q := 2) dX5_blockAt_1 rfl ?_
  refine C_V1V (q := 5) lk_X5_179 (sp_X5_needVersion h hp0) rc_X5 dX5_blockAt_2 (by decide) (Nat.le_of_ble_eq_true rfl) rfl ?_
  refine E_aload0 (q := 6) dX5_blockAt_5 rfl ?_
  refine E_iload2 (q := 7) dX5_blockAt_6 rfl ?_
  exact E_callVT (ar := [.int p1]) (rest := []) lk_X5_194 (sp_T_needAddress hn) rc_X5 (by decide) (by omega) (by omega) (Nat.le_of_ble_eq_true rfl) dX5_blockAt_7 rfl
theorem sp_Ta_birthIn {p0 p1 : Int32} (h : SI M 1 A)  (hn : ¬ VerA A p0) : SpecT D 10 yX5_birthIn cfX5_birthIn [.ref (ad 0), .int p0, .int p1] (wl D ad M) 1 6 := by
  refine SpecT.of (by decide) rfl (Nat.le_of_ble_eq_true rfl) rfl ?_
  refine E_aload0 (q := 1) dX5_birthIn_0 rfl ?_
  refine E_iload1 (q := 2) dX5_birthIn_1 rfl ?_
  exact E_callVT (ar := [.int p0]) (rest := []) lk_X5_179 (sp_T_needVersion h hn) rc_X5 (by decide) (by omega) (by omega) (Nat.le_of_ble_eq_true rfl) dX5_birthIn_2 rfl
theorem sp_Ta_sameAt {p0 p1 : Int32} (h : SI M 1 A)  (hn : ¬ VerA A p0) : SpecT D 10 yX5_sameAt cfX5_sameAt [.ref (ad 0), .int p0, .int p1] (wl D ad M) 1 6 := by
  refine SpecT.of (by decide) rfl (Nat.le_of_ble_eq_true rfl) rfl ?_
  refine E_aload0 (q := 1) dX5_sameAt_0 rfl ?_
  refine E_iload1 (q := 2) dX5_sameAt_1 rfl ?_
  exact E_callVT (ar := [.int p0]) (rest := []) lk_X5_179 (sp_T_needVersion h hn) rc_X5 (by decide) (by omega) (by omega) (Nat.le_of_ble_eq_true rfl) dX5_sameAt_2 rfl
theorem sp_Tb_sameAt {p0 p1 : Int32} (h : SI M 1 A) (hp0 : VerA A p0) (hn : ¬ AdrP p1) : SpecT D 10 yX5_sameAt cfX5_sameAt [.ref (ad 0), .int p0, .int p1] (wl D ad M) 1 6 := by
  refine SpecT.of (by decide) rfl (Nat.le_of_ble_eq_true rfl) rfl ?_
  refine E_aload0 (q := 1) dX5_sameAt_0 rfl ?_
  refine E_iload1 (q := 2) dX5_sameAt_1 rfl ?_
  refine C_V1V (q := 5) lk_X5_179 (sp_X5_needVersion h hp0) rc_X5 dX5_sameAt_2 (by decide) (Nat.le_of_ble_eq_true rfl) rfl ?_
  refine E_aload0 (q := 6) dX5_sameAt_5 rfl ?_
  refine E_iload2 (q := 7) dX5_sameAt_6 rfl ?_
  exact E_callVT (ar := [.int p1]) (rest := []) lk_X5_194 (sp_T_needAddress hn) rc_X5 (by decide) (by omega) (by omega) (Nat.le_of_ble_eq_true rfl) dX5_sameAt_7 rfl
theorem sp_Ta_besideOrigin {p0 : Int32} (h : SI M 1 A)  (hn : ¬ VolA A p0) : SpecT D 10 yX5_besideOrigin cfX5_besideOrigin [.ref (ad 0), .int p0] (wl D ad M) 1 6 := by
  refine SpecT.of (by decide) rfl (Nat.le_of_ble_eq_true rfl) rfl ?_
  refine E_aload0 (q := 1) dX5_besideOrigin_0 rfl ?_
  refine E_iload1 (q := 2) dX5_besideOrigin_1 rfl ?_
  exact E_callVT (ar := [.int p0]) (rest := []) lk_X5_69 (sp_T_needVolume h hn) rc_X5 (by decide) (by omega) (by omega) (Nat.le_of_ble_eq_true rfl) dX5_besideOrigin_2 rfl
theorem sp_Ta_wouldFree {p0 p1 : Int32} (h : SI M 1 A)  (hn : ¬ VolA A p0) : SpecT D 10 yX5_wouldFree cfX5_wouldFree [.ref (ad 0), .int p0, .int p1] (wl D ad M) 1 6 := by
  refine SpecT.of (by decide) rfl (Nat.le_of_ble_eq_true rfl) rfl ?_
  refine E_aload0 (q := 1) dX5_wouldFree_0 rfl ?_
  refine E_iload1 (q := 2) dX5_wouldFree_1 rfl ?_
  exact E_callVT (ar := [.int p0]) (rest := []) lk_X5_69 (sp_T_needVolume h hn) rc_X5 (by decide) (by omega) (by omega) (Nat.le_of_ble_eq_true rfl) dX5_wouldFree_2 rfl
theorem sp_Tb_wouldFree {p0 p1 : Int32} (h : SI M 1 A) (hp0 : VolA A p0) (hn : ¬ AdrP p1) : SpecT D 10 yX5_wouldFree cfX5_wouldFree [.ref (ad 0), .int p0, .int p1] (wl D ad M) 1 6 := by
  refine SpecT.of (by decide) rfl (Nat.le_of_ble_eq_true rfl) rfl ?_
  refine E_aload0 (q := 1) dX5_wouldFree_0 rfl ?_
  refine E_iload1 (q := 2) dX5_wouldFree_1 rfl ?_
  refine C_V1V (q := 5) lk_X5_69 (sp_X5_needVolume h hp0) rc_X5 dX5_wouldFree_2 (by decide) (Nat.le_of_ble_eq_true rfl) rfl ?_
  refine E_aload0 (q := 6) dX5_wouldFree_5 rfl ?_
  refine E_iload2 (q := 7) dX5_wouldFree_6 rfl ?_
  exact E_callVT (ar := [.int p1]) (rest := []) lk_X5_194 (sp_T_needAddress hn) rc_X5 (by decide) (by omega) (by omega) (Nat.le_of_ble_eq_true rfl) dX5_wouldFree_7 rfl
theorem sp_Ta_referenced {p0 : Int32} (h : SI M 1 A)  (hn : ¬ VerA A p0) : SpecT D 10 yX5_referenced cfX5_referenced [.ref (ad 0), .int p0] (wl D ad M) 1 6 := by
  refine SpecT.of (by decide) rfl (Nat.le_of_ble_eq_true rfl) rfl ?_
  refine E_aload0 (q := 1) dX5_referenced_0 rfl ?_
  refine E_iload1 (q := 2) dX5_referenced_1 rfl ?_
  exact E_callVT (ar := [.int p0]) (rest := []) lk_X5_179 (sp_T_needVersion h hn) rc_X5 (by decide) (by omega) (by omega) (Nat.le_of_ble_eq_true rfl) dX5_referenced_2 rfl
theorem sp_Ta_exclusive {p0 : Int32} (h : SI M 1 A)  (hn : ¬ VerA A p0) : SpecT D 10 yX5_exclusive cfX5_exclusive [.ref (ad 0), .int p0] (wl D ad M) 1 6 := by
  refine SpecT.of (by decide) rfl (Nat.le_of_ble_eq_true rfl) rfl ?_
  refine E_aload0 (q := 1) dX5_exclusive_0 rfl ?_
  refine E_iload1 (q := 2) dX5_exclusive_1 rfl ?_
  exact E_callVT (ar := [.int p0]) (rest := []) lk_X5_179 (sp_T_needVersion h hn) rc_X5 (by decide) (by omega) (by omega) (Nat.le_of_ble_eq_true rfl) dX5_exclusive_2 rfl
theorem sp_Ta_shared {p0 p1 : Int32} (h : SI M 1 A)  (hn : ¬ VerA A p0) : SpecT D 10 yX5_shared cfX5_shared [.ref (ad 0), .int p0, .int p1] (wl D ad M) 1 6 := by
  refine SpecT.of (by decide) rfl (Nat.le_of_ble_eq_true rfl) rfl ?_
  refine E_aload0 (q := 1) dX5_shared_0 rfl ?_
  refine E_iload1 (q := 2) dX5_shared_1 rfl ?_
  exact E_callVT (ar := [.int p0]) (rest := []) lk_X5_179 (sp_T_needVersion h hn) rc_X5 (by decide) (by omega) (by omega) (Nat.le_of_ble_eq_true rfl) dX5_shared_2 rfl
theorem sp_Tb_shared {p0 p1 : Int32} (h : SI M 1 A) (hp0 : VerA A p0) (hn : ¬ VerA A p1) : SpecT D 10 yX5_shared cfX5_shared [.ref (ad 0), .int p0, .int p1] (wl D ad M) 1 6 := by
  refine SpecT.of (by decide) rfl (Nat.le_of_ble_eq_true rfl) rfl ?_
  refine E_aload0 (q := 1) dX5_shared_0 rfl ?_
  refine E_iload1 (q := 2) dX5_shared_1 rfl ?_
  refine C_V1V (q := 5) lk_X5_179 (sp_X5_needVersion h hp0) rc_X5 dX5_shared_2 (by decide) (Nat.le_of_ble_eq_true rfl) rfl ?_
  refine E_aload0 (q := 6) dX5_shared_5 rfl ?_
  refine E_iload2 (q := 7) dX5_shared_6 rfl ?_
  exact E_callVT (ar := [.int p1]) (rest := []) lk_X5_179 (sp_T_needVersion h hn) rc_X5 (by decide) (by omega) (by omega) (Nat.le_of_ble_eq_true rfl) dX5_shared_7 rfl
theorem sp_Ta_unlike {p0 p1 : Int32} (h : SI M 1 A)  (hn : ¬ VerA A p0) : SpecT D 10 yX5_unlike cfX5_unlike [.ref (ad 0), .int p0, .int p1] (wl D ad M) 1 6 := by
  refine SpecT.of (by decide) rfl (Nat.le_of_ble_eq_true rfl) rfl ?_
  refine E_aload0 (q := 1) dX5_unlike_0 rfl ?_
  refine E_iload1 (q := 2) dX5_unlike_1 rfl ?_
  exact E_callVT (ar := [.int p0]) (rest := []) lk_X5_179 (sp_T_needVersion h hn) rc_X5 (by decide) (by omega) (by omega) (Nat.le_of_ble_eq_true rfl) dX5_unlike_2 rfl
theorem sp_Tb_unlike {p0 p1 : Int32} (h : SI M 1 A) (hp0 : VerA A p0) (hn : ¬ VerA A p1) : SpecT D 10 yX5_unlike cfX5_unlike [.ref (ad 0), .int p0, .int p1] (wl D ad M) 1 6 := by
  refine SpecT.of (by decide) rfl (Nat.le_of_ble_eq_true rfl) rfl ?_
  refine E_aload0 (q := 1) dX5_unlike_0 rfl ?_
  refine E_iload1 (q := 2) dX5_unlike_1 rfl ?_
  refine C_V1V (q := 5) lk_X5_179 (sp_X5_needVersion h hp0) rc_X5 dX5_unlike_2 (by decide) (Nat.le_of_ble_eq_true rfl) rfl ?_
  refine E_aload0 (q := 6) dX5_unlike_5 rfl ?_
  refine E_iload2 (q := 7) dX5_unlike_6 rfl ?_
  exact E_callVT (ar := [.int p1]) (rest := []) lk_X5_179 (sp_T_needVersion h hn) rc_X5 (by decide) (by omega) (by omega) (Nat.le_of_ble_eq_true rfl) dX5_unlike_7 rfl
theorem sp_Ta_writtenSince {p0 p1 : Int32} (h : SI M 1 A)  (hn : ¬ VolA A p0) : SpecT D 10 yX5_writtenSince cfX5_writtenSince [.ref (ad 0), .int p0, .int p1] (wl D ad M) 1 6 := by
  refine SpecT.of (by decide) rfl (Nat.le_of_ble_eq_true rfl) rfl ?_
  refine E_aload0 (q := 1) dX5_writtenSince_0 rfl ?_
  refine E_iload1 (q := 2) dX5_writtenSince_1 rfl ?_
  exact E_callVT (ar := [.int p0]) (rest := []) lk_X5_69 (sp_T_needVolume h hn) rc_X5 (by decide) (by omega) (by omega) (Nat.le_of_ble_eq_true rfl) dX5_writtenSince_2 rfl
theorem sp_Tb_writtenSince {p0 p1 : Int32} (h : SI M 1 A) (hp0 : VolA A p0) (hn : ¬ SnpA A p1) : SpecT D 10 yX5_writtenSince cfX5_writtenSince [.ref (ad 0), .int p0, .int p1] (wl D ad M) 1 6 := by
  refine SpecT.of (by decide) rfl (Nat.le_of_ble_eq_true rfl) rfl ?_
  refine E_aload0 (q := 1) dX5_writtenSince_0 rfl ?_
  refine E_iload1 (q := 2) dX5_writtenSince_1 rfl ?_
  refine C_V1V (q := 5) lk_X5_69 (sp_X5_needVolume h hp0) rc_X5 dX5_writtenSince_2 (by decide) (Nat.le_of_ble_eq_true rfl) rfl ?_
  refine E_aload0 (q := 6) dX5_writtenSince_5 rfl ?_
  refine E_iload2 (q := 7) dX5_writtenSince_6 rfl ?_
  exact E_callVT (ar := [.int p1]) (rest := []) lk_X5_161 (sp_T_needSnapshot h hn) rc_X5 (by decide) (by omega) (by omega) (Nat.le_of_ble_eq_true rfl) dX5_writtenSince_7 rfl
theorem sp_Ta_deadCount {p0 : Int32} (h : SI M 1 A)  (hn : ¬ VerA A p0) : SpecT D 10 yX5_deadCount cfX5_deadCount [.ref (ad 0), .int p0] (wl D ad M) 1 6 := by
  refine SpecT.of (by decide) rfl (Nat.le_of_ble_eq_true rfl) rfl ?_
  refine E_aload0 (q := 1) dX5_deadCount_0 rfl ?_
  refine E_iload1 (q := 2) dX5_deadCount_1 rfl ?_
  exact E_callVT (ar := [.int p0]) (rest := []) lk_X5_179 (sp_T_needVersion h hn) rc_X5 (by decide) (by omega) (by omega) (Nat.le_of_ble_eq_true rfl) dX5_deadCount_2 rfl
theorem sp_Ta_deadBlock {p0 p1 : Int32} (h : SI M 1 A)  (hn : ¬ VerA A p0) : SpecT D 10 yX5_deadBlock cfX5_deadBlock [.ref (ad 0), .int p0, .int p1] (wl D ad M) 1 6 := by
  refine SpecT.of (by decide) rfl (Nat.le_of_ble_eq_true rfl) rfl ?_
  refine E_aload0 (q := 1) dX5_deadBlock_0 rfl ?_
  refine E_iload1 (q := 2) dX5_deadBlock_1 rfl ?_
  exact E_callVT (ar := [.int p0]) (rest := []) lk_X5_179 (sp_T_needVersion h hn) rc_X5 (by decide) (by omega) (by omega) (Nat.le_of_ble_eq_true rfl) dX5_deadBlock_2 rfl
theorem sp_Ta_byDeadBlocks {p0 : Int32} (h : SI M 1 A)  (hn : ¬ SnpA A p0) : SpecT D 10 yX5_byDeadBlocks cfX5_byDeadBlocks [.ref (ad 0), .int p0] (wl D ad M) 1 6 := by
  refine SpecT.of (by decide) rfl (Nat.le_of_ble_eq_true rfl) rfl ?_
  refine E_aload0 (q := 1) dX5_byDeadBlocks_0 rfl ?_
  refine E_iload1 (q := 2) dX5_byDeadBlocks_1 rfl ?_
  exact E_callVT (ar := [.int p0]) (rest := []) lk_X5_161 (sp_T_needSnapshot h hn) rc_X5 (by decide) (by omega) (by omega) (Nat.le_of_ble_eq_true rfl) dX5_byDeadBlocks_2 rfl
theorem sp_Ta_freedByVolume {p0 : Int32} (h : SI M 1 A)  (hn : ¬ VolA A p0) : SpecT D 10 yX5_freedByVolume cfX5_freedByVolume [.ref (ad 0), .int p0] (wl D ad M) 1 6 := by
  refine SpecT.of (by decide) rfl (Nat.le_of_ble_eq_true rfl) rfl ?_
  refine E_aload0 (q := 1) dX5_freedByVolume_0 rfl ?_
  refine E_iload1 (q := 2) dX5_freedByVolume_1 rfl ?_
  exact E_callVT (ar := [.int p0]) (rest := []) lk_X5_69 (sp_T_needVolume h hn) rc_X5 (by decide) (by omega) (by omega) (Nat.le_of_ble_eq_true rfl) dX5_freedByVolume_2 rfl
theorem sp_Ta_usedBySnapshots {p0 : Int32} (h : SI M 1 A)  (hn : ¬ VolA A p0) : SpecT D 10 yX5_usedBySnapshots cfX5_usedBySnapshots [.ref (ad 0), .int p0] (wl D ad M) 1 6 := by
  refine SpecT.of (by decide) rfl (Nat.le_of_ble_eq_true rfl) rfl ?_
  refine E_aload0 (q := 1) dX5_usedBySnapshots_0 rfl ?_
  refine E_iload1 (q := 2) dX5_usedBySnapshots_1 rfl ?_
  exact E_callVT (ar := [.int p0]) (rest := []) lk_X5_69 (sp_T_needVolume h hn) rc_X5 (by decide) (by omega) (by omega) (Nat.le_of_ble_eq_true rfl) dX5_usedBySnapshots_2 rfl
theorem sp_Ta_whyKept {p0 : Int32} (h : SI M 1 A)  (hn : ¬ SnpA A p0) : SpecT D 10 yX5_whyKept cfX5_whyKept [.ref (ad 0), .int p0] (wl D ad M) 1 6 := by
  refine SpecT.of (by decide) rfl (Nat.le_of_ble_eq_true rfl) rfl ?_
  refine E_aload0 (q := 1) dX5_whyKept_0 rfl ?_
  refine E_iload1 (q := 2) dX5_whyKept_1 rfl ?_
  exact E_callVT (ar := [.int p0]) (rest := []) lk_X5_161 (sp_T_needSnapshot h hn) rc_X5 (by decide) (by omega) (by omega) (Nat.le_of_ble_eq_true rfl) dX5_whyKept_2 rfl
theorem sp_Ta_wouldMove {p0 : Int32} (h : SI M 1 A)  (hn : ¬ VolA A p0) : SpecT D 10 yX5_wouldMove cfX5_wouldMove [.ref (ad 0), .int p0] (wl D ad M) 1 6 := by
  refine SpecT.of (by decide) rfl (Nat.le_of_ble_eq_true rfl) rfl ?_
  refine E_aload0 (q := 1) dX5_wouldMove_0 rfl ?_
  refine E_iload1 (q := 2) dX5_wouldMove_1 rfl ?_
  exact E_callVT (ar := [.int p0]) (rest := []) lk_X5_69 (sp_T_needVolume h hn) rc_X5 (by decide) (by omega) (by omega) (Nat.le_of_ble_eq_true rfl) dX5_wouldMove_2 rfl
theorem sp_Ta_writeOut {p0 : Int32} (h : SI M 1 A)  (hn : ¬ VolA A p0) : SpecT D 10 yX5_writeOut cfX5_writeOut [.ref (ad 0), .int p0] (wl D ad M) 1 6 := by
  refine SpecT.of (by decide) rfl (Nat.le_of_ble_eq_true rfl) rfl ?_
  refine E_aload0 (q := 1) dX5_writeOut_0 rfl ?_
  refine E_iload1 (q := 2) dX5_writeOut_1 rfl ?_
  exact E_callVT (ar := [.int p0]) (rest := []) lk_X5_69 (sp_T_needVolume h hn) rc_X5 (by decide) (by omega) (by omega) (Nat.le_of_ble_eq_true rfl) dX5_writeOut_2 rfl
end THM
