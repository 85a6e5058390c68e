
/-! THE CLASS: a store changes -/
section CLS
variable {D : va_G} {ad : Nat → Nat} {M : Mem} {wx : Nat} {ws : va_W} {A : AS} {b b2 : Nat} {bl : List Blk}
theorem no_new {w : Nat} (hw : w < 22) : ¬ th newA w := fun z => by
  have := thM_bit.mpr ⟨hw, z⟩
  rw [newA_thM, Nat.zero_testBit] at this
  cases this
theorem StoreIs.new {M' : Mem} (h0 : M' b 0 = nI 0) (h1 : M' b 1 = nI 0) (h2 : M' b 2 = nI 0) (h3 : M' b 3 = nI 0) (h4 : M' b 4 = nI 0) (h5 : M' (b + 1) 0 = nI 200) (h6 : M' (b + 1) 1 = nI 3) (h7 : M' (b + 8) 4 = nI 0) : StoreIs M' b newA :=
  ⟨⟨h0, h1, h2, by rw [newA_thM]; exact h3, by rw [newA_hdM]; exact h4⟩, ⟨h5, h6⟩, fun s hs ht => absurd ht (no_new (by omega)), fun v hv ht => absurd ht (no_new (by omega)), h7, fun i x hx => by
    have : (newA.2)[i]? = none := rfl
    rw [this] at hx; cases hx⟩
theorem sp_X4_reset (hs : IsSt b) : Spec D 1 yX4_reset cfX4_reset [.ref (ad (b))] (wl D ad M) 0 0 (PY (SW D ad M b newA)) := by
  refine Spec.of (by decide) rfl (Nat.le_of_ble_eq_true rfl) rfl ?_
  have hbb := hs.blocks
  refine E_aload0 (q := 1) dX4_reset_0 rfl ?_
  refine E_iconst (v := nI 0) (q := 2) dX4_reset_1 (by decide) rfl ?_
  refine P_X4_time (q := 5) hs fl_X4_43 dX4_reset_2 rfl ?_
  refine E_aload0 (q := 6) dX4_reset_5 rfl ?_
  refine E_iconst (v := nI 0) (q := 7) dX4_reset_6 (by decide) rfl ?_
  refine P_X4_volumesCome (q := 10) hs fl_X4_47 dX4_reset_7 rfl ?_
  refine E_aload0 (q := 11) dX4_reset_10 rfl ?_
  refine E_iconst (v := nI 0) (q := 12) dX4_reset_11 (by decide) rfl ?_
  refine P_X4_snapshotsCome (q := 15) hs fl_X4_50 dX4_reset_12 rfl ?_
  refine E_aload0 (q := 16) dX4_reset_15 rfl ?_
  refine E_iconst (v := nI 0) (q := 17) dX4_reset_16 (by decide) rfl ?_
  refine P_X4_there (q := 20) hs fl_X4_53 dX4_reset_17 rfl ?_
  refine E_aload0 (q := 21) dX4_reset_20 rfl ?_
  refine E_iconst (v := nI 0) (q := 22) dX4_reset_21 (by decide) rfl ?_
  refine P_X4_heldSet (q := 25) hs fl_X4_56 dX4_reset_22 rfl ?_
  refine E_aload0 (q := 26) dX4_reset_25 rfl ?_
  refine G_X4_settings (q := 29) hs fl_X4_9 dX4_reset_26 rfl ?_
  refine E_iconst (v := nI 0) (q := 30) dX4_reset_29 (by decide) rfl ?_
  refine E_sipush (v := nI 200) (q := 33) dX4_reset_30 (by decide) rfl ?_
  refine E_iastN (q := 34) hs.settings (by omega) (by decide) dX4_reset_33 rfl ?_
  refine E_aload0 (q := 35) dX4_reset_34 rfl ?_
  refine G_X4_settings (q := 38) hs fl_X4_9 dX4_reset_35 rfl ?_
  refine E_iconst (v := nI 1) (q := 39) dX4_reset_38 (by decide) rfl ?_
  refine E_iconst (v := nI 3) (q := 40) dX4_reset_39 (by decide) rfl ?_
  refine E_iastN (q := 41) hs.settings (by omega) (by decide) dX4_reset_40 rfl ?_
  refine E_aload0 (q := 42) dX4_reset_41 rfl ?_
  refine G_X4_blocks (q := 45) hs fl_X4_36 dX4_reset_42 rfl ?_
  refine E_iconst (v := nI 0) (q := 46) dX4_reset_45 (by decide) rfl ?_
  refine P_X0_length (q := 49) hs.blocks fl_X4_59 dX4_reset_46 rfl ?_
  exact E_vreturn rfl rfl dX4_reset_49 ⟨rfl, _, rfl, StoreIs.new (by rw [upd2_row (by omega), upd2_row (by omega), upd2_row (by omega), upd2_ne (by omega), upd2_ne (by omega), upd2_ne (by omega), upd2_ne (by omega)]; exact upd2_same) (by rw [upd2_row (by omega), upd2_row (by omega), upd2_row (by omega), upd2_ne (by omega), upd2_ne (by omega), upd2_ne (by omega)]; exact upd2_same) (by rw [upd2_row (by omega), upd2_row (by omega), upd2_row (by omega), upd2_ne (by omega), upd2_ne (by omega)]; exact upd2_same) (by rw [upd2_row (by omega), upd2_row (by omega), upd2_row (by omega), upd2_ne (by omega)]; exact upd2_same) (by rw [upd2_row (by omega), upd2_row (by omega), upd2_row (by omega)]; exact upd2_same) (by rw [upd2_row (by omega), upd2_ne (by omega)]; exact upd2_same) (by rw [upd2_row (by omega)]; exact upd2_same) upd2_same, fun c hc => by rw [upd2_row (by omega), upd2_row (by omega), upd2_row (by omega), upd2_row (by omega), upd2_row (by omega), upd2_row (by omega), upd2_row (by omega), upd2_row (by omega)]⟩
theorem StoreIs.copy {M' : Mem} (h : StoreIs M b2 A) (h0 : M' b 0 = M b2 0) (h1 : M' b 1 = M b2 1) (h2 : M' b 2 = M b2 2) (h3 : M' b 3 = M b2 3) (h4 : M' b 4 = M b2 4) (g1 : ∀ j, j < 2 → M' (b + 1) j = M (b2 + 1) j) (g2 : ∀ j, j < 16 → M' (b + 2) j = M (b2 + 2) j) (g3 : ∀ j, j < 16 → M' (b + 3) j = M (b2 + 3) j) (g4 : ∀ j, j < 16 → M' (b + 4) j = M (b2 + 4) j) (g5 : ∀ j, j < 6 → M' (b + 5) j = M (b2 + 5) j) (g6 : ∀ j, j < 6 → M' (b + 6) j = M (b2 + 6) j) (g7 : ∀ j, j < 6 → M' (b + 7) j = M (b2 + 7) j) (hB : BlkIs M' (b + 8) A.2) : StoreIs M' b A :=
  ⟨⟨h0.trans h.1.1, h1.trans h.1.2.1, h2.trans h.1.2.2.1, h3.trans h.1.2.2.2.1, h4.trans h.1.2.2.2.2⟩, ⟨(g1 0 (by decide)).trans h.2.1.1, (g1 1 (by decide)).trans h.2.1.2⟩, fun s hs ht => ⟨(g2 s hs).trans (h.2.2.1 s hs ht).1, (g3 s hs).trans (h.2.2.1 s hs ht).2.1, (g4 s hs).trans (h.2.2.1 s hs ht).2.2⟩, fun v hv ht => ⟨(g5 v hv).trans (h.2.2.2.1 v hv ht).1, (g6 v hv).trans (h.2.2.2.1 v hv ht).2.1, (g7 v hv).trans (h.2.2.2.1 v hv ht).2.2⟩, hB⟩
theorem sp_X4_copyFrom (hs : IsSt b) (hs2 : IsSt b2) (hne : b + 12 < b2 ∨ b2 + 12 < b) (h : StoreIs M b2 A) (hA : WF A) : Spec D 2 yX4_copyFrom cfX4_copyFrom [.ref (ad (b)), .ref (ad (b2))] (wl D ad M) 0 0 (PY (SW D ad M b A)) := by
  refine Spec.of (by decide) rfl (Nat.le_of_ble_eq_true rfl) rfl ?_
  have hbb := hs.blocks
  have hbb2 := hs2.blocks
  refine E_aload0 (q := 1) dX4_copyFrom_0 rfl ?_
  refine E_aload1 (q := 2) dX4_copyFrom_1 rfl ?_
  refine G_X4_time (q := 5) hs2 fl_X4_43 dX4_copyFrom_2 rfl ?_
  refine P_X4_time (q := 8) hs fl_X4_43 dX4_copyFrom_5 rfl ?_
  refine E_aload0 (q := 9) dX4_copyFrom_8 rfl ?_
  refine E_aload1 (q := 10) dX4_copyFrom_9 rfl ?_
  refine G_X4_volumesCome (q := 13) hs2 fl_X4_47 dX4_copyFrom_10 rfl ?_
  refine V_int (show _ = M b2 1 by rw [upd2_row (by omega)]) ?_
  refine P_X4_volumesCome (q := 16) hs fl_X4_47 dX4_copyFrom_13 rfl ?_
  refine E_aload0 (q := 17) dX4_copyFrom_16 rfl ?_
  refine E_aload1 (q := 18) dX4_copyFrom_17 rfl ?_
  refine G_X4_snapshotsCome (q := 21) hs2 fl_X4_50 dX4_copyFrom_18 rfl ?_
  refine V_int (show _ = M b2 2 by rw [upd2_row (by omega), upd2_row (by omega)]) ?_
  refine P_X4_snapshotsCome (q := 24) hs fl_X4_50 dX4_copyFrom_21 rfl ?_
  refine E_aload0 (q := 25) dX4_copyFrom_24 rfl ?_
  refine E_aload1 (q := 26) dX4_copyFrom_25 rfl ?_
  refine G_X4_there (q := 29) hs2 fl_X4_53 dX4_copyFrom_26 rfl ?_
  refine V_int (show _ = M b2 3 by rw [upd2_row (by omega), upd2_row (by omega), upd2_row (by omega)]) ?_
  refine P_X4_there (q := 32) hs fl_X4_53 dX4_copyFrom_29 rfl ?_
  refine E_aload0 (q := 33) dX4_copyFrom_32 rfl ?_
  refine E_aload1 (q := 34) dX4_copyFrom_33 rfl ?_
  refine G_X4_heldSet (q := 37) hs2 fl_X4_56 dX4_copyFrom_34 rfl ?_
  refine V_int (show _ = M b2 4 by rw [upd2_row (by omega), upd2_row (by omega), upd2_row (by omega), upd2_row (by omega)]) ?_
  refine P_X4_heldSet (q := 40) hs fl_X4_56 dX4_copyFrom_37 rfl ?_
  refine E_aload1 (q := 41) dX4_copyFrom_40 rfl ?_
  refine G_X4_settings (q := 44) hs2 fl_X4_9 dX4_copyFrom_41 rfl ?_
  refine E_iconst (v := nI 0) (q := 45) dX4_copyFrom_44 (by decide) rfl ?_
  refine E_aload0 (q := 46) dX4_copyFrom_45 rfl ?_
  refine G_X4_settings (q := 49) hs fl_X4_9 dX4_copyFrom_46 rfl ?_
  refine E_iconst (v := nI 0) (q := 50) dX4_copyFrom_49 (by decide) rfl ?_
  refine E_iconst (v := nI 2) (q := 51) dX4_copyFrom_50 (by decide) rfl ?_
  refine E_acopy (q := 54) ac_X4 (by decide) hs2.settings hs.settings (by omega) (by omega) (by decide) (Nat.le_of_ble_eq_true rfl) dX4_copyFrom_51 rfl ?_
  refine E_aload1 (q := 55) dX4_copyFrom_54 rfl ?_
  refine G_X4_homes (q := 58) hs2 fl_X4_15 dX4_copyFrom_55 rfl ?_
  refine E_iconst (v := nI 0) (q := 59) dX4_copyFrom_58 (by decide) rfl ?_
  refine E_aload0 (q := 60) dX4_copyFrom_59 rfl ?_
  refine G_X4_homes (q := 63) hs fl_X4_15 dX4_copyFrom_60 rfl ?_
  refine E_iconst (v := nI 0) (q := 64) dX4_copyFrom_63 (by decide) rfl ?_
  refine E_bipush (v := nI 16) (q := 66) dX4_copyFrom_64 (by decide) rfl ?_
  refine E_acopy (q := 69) ac_X4 (by decide) hs2.homes hs.homes (by omega) (by omega) (by decide) (Nat.le_of_ble_eq_true rfl) dX4_copyFrom_66 rfl ?_
  refine E_aload1 (q := 70) dX4_copyFrom_69 rfl ?_
  refine G_X4_times (q := 73) hs2 fl_X4_18 dX4_copyFrom_70 rfl ?_
  refine E_iconst (v := nI 0) (q := 74) dX4_copyFrom_73 (by decide) rfl ?_
  refine E_aload0 (q := 75) dX4_copyFrom_74 rfl ?_
  refine G_X4_times (q := 78) hs fl_X4_18 dX4_copyFrom_75 rfl ?_
  refine E_iconst (v := nI 0) (q := 79) dX4_copyFrom_78 (by decide) rfl ?_
  refine E_bipush (v := nI 16) (q := 81) dX4_copyFrom_79 (by decide) rfl ?_
  refine E_acopy (q := 84) ac_X4 (by decide) hs2.times hs.times (by omega) (by omega) (by decide) (Nat.le_of_ble_eq_true rfl) dX4_copyFrom_81 rfl ?_
  refine E_aload1 (q := 85) dX4_copyFrom_84 rfl ?_
  refine G_X4_snapshotNames (q := 88) hs2 fl_X4_21 dX4_copyFrom_85 rfl ?_
  refine E_iconst (v := nI 0) (q := 89) dX4_copyFrom_88 (by decide) rfl ?_
  refine E_aload0 (q := 90) dX4_copyFrom_89 rfl ?_
  refine G_X4_snapshotNames (q := 93) hs fl_X4_21 dX4_copyFrom_90 rfl ?_
  refine E_iconst (v := nI 0) (q := 94) dX4_copyFrom_93 (by decide) rfl ?_
  refine E_bipush (v := nI 16) (q := 96) dX4_copyFrom_94 (by decide) rfl ?_
  refine E_acopy (q := 99) ac_X4 (by decide) hs2.snapshotNames hs.snapshotNames (by omega) (by omega) (by decide) (Nat.le_of_ble_eq_true rfl) dX4_copyFrom_96 rfl ?_
  refine E_aload1 (q := 100) dX4_copyFrom_99 rfl ?_
  refine G_X4_volumeNames (q := 103) hs2 fl_X4_24 dX4_copyFrom_100 rfl ?_
  refine E_iconst (v := nI 0) (q := 104) dX4_copyFrom_103 (by decide) rfl ?_
  refine E_aload0 (q := 105) dX4_copyFrom_104 rfl ?_
  refine G_X4_volumeNames (q := 108) hs fl_X4_24 dX4_copyFrom_105 rfl ?_
  refine E_iconst (v := nI 0) (q := 109) dX4_copyFrom_108 (by decide) rfl ?_
  refine E_bipush (v := nI 6) (q := 111) dX4_copyFrom_109 (by decide) rfl ?_
  refine E_acopy (q := 114) ac_X4 (by decide) hs2.volumeNames hs.volumeNames (by omega) (by omega) (by decide) (Nat.le_of_ble_eq_true rfl) dX4_copyFrom_111 rfl ?_
  refine E_aload1 (q := 115) dX4_copyFrom_114 rfl ?_
  refine G_X4_origins (q := 118) hs2 fl_X4_27 dX4_copyFrom_115 rfl ?_
  refine E_iconst (v := nI 0) (q := 119) dX4_copyFrom_118 (by decide) rfl ?_
  refine E_aload0 (q := 120) dX4_copyFrom_119 rfl ?_
  refine G_X4_origins (q := 123) hs fl_X4_27 dX4_copyFrom_120 rfl ?_
  refine E_iconst (v := nI 0) (q := 124) dX4_copyFrom_123 (by decide) rfl ?_
  refine E_bipush (v := nI 6) (q := 126) dX4_copyFrom_124 (by decide) rfl ?_
  refine E_acopy (q := 129) ac_X4 (by decide) hs2.origins hs.origins (by omega) (by omega) (by decide) (Nat.le_of_ble_eq_true rfl) dX4_copyFrom_126 rfl ?_
  refine E_aload1 (q := 130) dX4_copyFrom_129 rfl ?_
  refine G_X4_quotas (q := 133) hs2 fl_X4_30 dX4_copyFrom_130 rfl ?_
  refine E_iconst (v := nI 0) (q := 134) dX4_copyFrom_133 (by decide) rfl ?_
  refine E_aload0 (q := 135) dX4_copyFrom_134 rfl ?_
  refine G_X4_quotas (q := 138) hs fl_X4_30 dX4_copyFrom_135 rfl ?_
  refine E_iconst (v := nI 0) (q := 139) dX4_copyFrom_138 (by decide) rfl ?_
  refine E_bipush (v := nI 6) (q := 141) dX4_copyFrom_139 (by decide) rfl ?_
  refine E_acopy (q := 144) ac_X4 (by decide) hs2.quotas hs.quotas (by omega) (by omega) (by decide) (Nat.le_of_ble_eq_true rfl) dX4_copyFrom_141 rfl ?_
  refine E_aload0 (q := 145) dX4_copyFrom_144 rfl ?_
  refine G_X4_blocks (q := 148) hs fl_X4_36 dX4_copyFrom_145 rfl ?_
  refine E_aload1 (q := 149) dX4_copyFrom_148 rfl ?_
  refine G_X4_blocks (q := 152) hs2 fl_X4_36 dX4_copyFrom_149 rfl ?_
  refine C_V1Y (q := 155) lk_X4_68 (sp_X0_copyFrom hbb hbb2 (by omega) (h.2.2.2.2.congr (fun c h1 h2 => by rw [row2_ne (by omega), row2_ne (by omega), row2_ne (by omega), row2_ne (by omega), row2_ne (by omega), row2_ne (by omega), row2_ne (by omega), upd2_row (by omega), upd2_row (by omega), upd2_row (by omega), upd2_row (by omega), upd2_row (by omega)])) hA.blw.1) (rc_X0 hs.blocks) dX4_copyFrom_152 (by decide) (Nat.le_of_ble_eq_true rfl) rfl ?_
  refine kkEW ?_
  rintro M1 ⟨hb1, hk1⟩
  exact E_vreturn rfl rfl dX4_copyFrom_155 ⟨rfl, M1, rfl, StoreIs.copy h (by rw [hk1 _ (Or.inl (by omega)), row2_ne (by omega), row2_ne (by omega), row2_ne (by omega), row2_ne (by omega), row2_ne (by omega), row2_ne (by omega), row2_ne (by omega), upd2_ne (by omega), upd2_ne (by omega), upd2_ne (by omega), upd2_ne (by omega)]; exact upd2_same) (by rw [hk1 _ (Or.inl (by omega)), row2_ne (by omega), row2_ne (by omega), row2_ne (by omega), row2_ne (by omega), row2_ne (by omega), row2_ne (by omega), row2_ne (by omega), upd2_ne (by omega), upd2_ne (by omega), upd2_ne (by omega)]; exact upd2_same) (by rw [hk1 _ (Or.inl (by omega)), row2_ne (by omega), row2_ne (by omega), row2_ne (by omega), row2_ne (by omega), row2_ne (by omega), row2_ne (by omega), row2_ne (by omega), upd2_ne (by omega), upd2_ne (by omega)]; exact upd2_same) (by rw [hk1 _ (Or.inl (by omega)), row2_ne (by omega), row2_ne (by omega), row2_ne (by omega), row2_ne (by omega), row2_ne (by omega), row2_ne (by omega), row2_ne (by omega), upd2_ne (by omega)]; exact upd2_same) (by rw [hk1 _ (Or.inl (by omega)), row2_ne (by omega), row2_ne (by omega), row2_ne (by omega), row2_ne (by omega), row2_ne (by omega), row2_ne (by omega), row2_ne (by omega)]; exact upd2_same) (fun j hj => (by rw [hk1 _ (Or.inl (by omega)), row2_ne (by omega), row2_ne (by omega), row2_ne (by omega), row2_ne (by omega), row2_ne (by omega), row2_ne (by omega), row2_same, cpy_at (by omega), upd2_row (by omega), upd2_row (by omega), upd2_row (by omega), upd2_row (by omega), upd2_row (by omega)])) (fun j hj => (by rw [hk1 _ (Or.inl (by omega)), row2_ne (by omega), row2_ne (by omega), row2_ne (by omega), row2_ne (by omega), row2_ne (by omega), row2_same, cpy_at (by omega), row2_ne (by omega), upd2_row (by omega), upd2_row (by omega), upd2_row (by omega), upd2_row (by omega), upd2_row (by omega)])) (fun j hj => (by rw [hk1 _ (Or.inl (by omega)), row2_ne (by omega), row2_ne (by omega), row2_ne (by omega), row2_ne (by omega), row2_same, cpy_at (by omega), row2_ne (by omega), row2_ne (by omega), upd2_row (by omega), upd2_row (by omega), upd2_row (by omega), upd2_row (by omega), upd2_row (by omega)])) (fun j hj => (by rw [hk1 _ (Or.inl (by omega)), row2_ne (by omega), row2_ne (by omega), row2_ne (by omega), row2_same, cpy_at (by omega), row2_ne (by omega), row2_ne (by omega), row2_ne (by omega), upd2_row (by omega), upd2_row (by omega), upd2_row (by omega), upd2_row (by omega), upd2_row (by omega)])) (fun j hj => (by rw [hk1 _ (Or.inl (by omega)), row2_ne (by omega), row2_ne (by omega), row2_same, cpy_at (by omega), row2_ne (by omega), row2_ne (by omega), row2_ne (by omega), row2_ne (by omega), upd2_row (by omega), upd2_row (by omega), upd2_row (by omega), upd2_row (by omega), upd2_row (by omega)])) (fun j hj => (by rw [hk1 _ (Or.inl (by omega)), row2_ne (by omega), row2_same, cpy_at (by omega), row2_ne (by omega), row2_ne (by omega), row2_ne (by omega), row2_ne (by omega), row2_ne (by omega), upd2_row (by omega), upd2_row (by omega), upd2_row (by omega), upd2_row (by omega), upd2_row (by omega)])) (fun j hj => (by rw [hk1 _ (Or.inl (by omega)), row2_same, cpy_at (by omega), row2_ne (by omega), row2_ne (by omega), row2_ne (by omega), row2_ne (by omega), row2_ne (by omega), row2_ne (by omega), upd2_row (by omega), upd2_row (by omega), upd2_row (by omega), upd2_row (by omega), upd2_row (by omega)])) hb1, fun c hc => by rw [hk1 c (by omega), row2_ne (by omega), row2_ne (by omega), row2_ne (by omega), row2_ne (by omega), row2_ne (by omega), row2_ne (by omega), row2_ne (by omega), upd2_row (by omega), upd2_row (by omega), upd2_row (by omega), upd2_row (by omega), upd2_row (by omega)]⟩
theorem SI.to {M' : Mem} (h : SI M b A) (e : ∀ c, b ≤ c → c ≤ b + 12 → M' c = M c) : SI M' b A := ⟨h.1, h.2.1.congr e, h.2.2⟩
theorem StoreIs.rem {m : Nat} {M' : Mem} (h : StoreIs M b A) (e : ∀ c, b ≤ c → c < b + 8 → M' c = upd2 M b 3 (nI (andn (thM A) m)) c) (hB : BlkIs M' (b + 8) (relB A.2 (fun _ => m))) : StoreIs M' b (remA A m) := by
  refine ⟨⟨?_, ?_, ?_, ?_, ?_⟩, ?_, fun s hs ht => ?_, fun v hv ht => ?_, hB⟩
  · rw [e b (by omega) (by omega), upd2_ne (by omega)]; exact h.1.1
  · rw [e b (by omega) (by omega), upd2_ne (by omega)]; exact h.1.2.1
  · rw [e b (by omega) (by omega), upd2_ne (by omega)]; exact h.1.2.2.1
  · rw [e b (by omega) (by omega), remA_thM]; exact upd2_same
  · rw [e b (by omega) (by omega), upd2_ne (by omega), remA_hdM]; exact h.1.2.2.2.2
  · rw [e (b + 1) (by omega) (by omega), upd2_row (by omega)]; exact h.2.1
  · rw [e (b + 2) (by omega) (by omega), e (b + 3) (by omega) (by omega), e (b + 4) (by omega) (by omega), upd2_row (by omega), upd2_row (by omega), upd2_row (by omega)]
    exact h.2.2.1 s hs (remA_th.mp ht).1
  · rw [e (b + 5) (by omega) (by omega), e (b + 6) (by omega) (by omega), e (b + 7) (by omega) (by omega), upd2_row (by omega), upd2_row (by omega), upd2_row (by omega)]
    exact h.2.2.2.1 v hv (remA_th.mp ht).1
theorem sp_X4_remove {m : Nat} (h : SI M b A) (hm : m < 2 ^ 32) : Spec D 4 yX4_remove cfX4_remove [.ref (ad (b)), .int (nI (m))] (wl D ad M) 0 0 (PX (fun y w => y = nI (freedB A.2 (fun _ => m)) ∧ SW D ad M b (remA A m) w)) := by
  refine Spec.of (by decide) rfl (Nat.le_of_ble_eq_true rfl) rfl ?_
  have hbb := h.1.blocks
  refine E_aload0 (q := 1) dX4_remove_0 rfl ?_
  refine E_dup (q := 2) dX4_remove_1 rfl rfl ?_
  refine G_X4_there (q := 5) h.1 fl_X4_53 dX4_remove_2 rfl ?_
  refine V_int h.2.1.1.2.2.2.1 ?_
  refine E_iload1 (q := 6) dX4_remove_5 rfl ?_
  refine E_iconst (v := -1) (q := 7) dX4_remove_6 (by decide) rfl ?_
  refine E_ixor (q := 8) dX4_remove_7 rfl ?_
  refine E_iand (q := 9) dX4_remove_8 rfl ?_
  refine V_int (nI_andn _ _) ?_
  refine P_X4_there (q := 12) h.1 fl_X4_53 dX4_remove_9 rfl ?_
  refine E_aload0 (q := 13) dX4_remove_12 rfl ?_
  refine G_X4_blocks (q := 16) h.1 fl_X4_36 dX4_remove_13 rfl ?_
  refine E_iload1 (q := 17) dX4_remove_16 rfl ?_
  refine C_V1X (q := 20) lk_X4_150 (sp_X0_release hbb (h.bi.congr (fun c h1 h2 => upd2_row (by omega))) h.bw hm) (rc_X0 h.1.blocks) dX4_remove_17 (by decide) (Nat.le_of_ble_eq_true rfl) rfl ?_
  refine kkEI ?_
  rintro M1 ⟨hb1, hk1⟩
  exact E_ireturn rfl rfl dX4_remove_20 ⟨_, rfl, rfl, M1, rfl, h.2.1.rem (fun c h1 h2 => by rw [hk1 c (Or.inl (by omega))]) hb1, fun c hc => by rw [hk1 c (by omega), upd2_row (by omega)]⟩
theorem StoreIs.rol {s : Nat} {M' : Mem} (h : StoreIs M b A) (e : ∀ c, b ≤ c → c < b + 8 → M' c = upd2 M b 3 (nI (andn (thM A) (rowB A s))) c) (hB : BlkIs M' (b + 8) (rolA A s).2) : StoreIs M' b (rolA A s) := by
  have ht' : ∀ w, th (rolA A s) w → th A w := fun w z => (drop_th (bl' := A.2)).mp z |>.1
  refine ⟨⟨?_, ?_, ?_, ?_, ?_⟩, ?_, fun t hs ht => ?_, fun v hv ht => ?_, hB⟩
  · rw [e b (by omega) (by omega), upd2_ne (by omega)]; exact h.1.1
  · rw [e b (by omega) (by omega), upd2_ne (by omega)]; exact h.1.2.1
  · rw [e b (by omega) (by omega), upd2_ne (by omega)]; exact h.1.2.2.1
  · rw [e b (by omega) (by omega), show thM (rolA A s) = andn (thM A) (rowB A s) from drop_thM]; exact upd2_same
  · rw [e b (by omega) (by omega), upd2_ne (by omega), show hdM (rolA A s) = hdM A from drop_hdM]; exact h.1.2.2.2.2
  · rw [e (b + 1) (by omega) (by omega), upd2_row (by omega)]; exact h.2.1
  · rw [e (b + 2) (by omega) (by omega), e (b + 3) (by omega) (by omega), e (b + 4) (by omega) (by omega), upd2_row (by omega), upd2_row (by omega), upd2_row (by omega)]
    exact h.2.2.1 t hs (ht' t ht)
  · rw [e (b + 5) (by omega) (by omega), e (b + 6) (by omega) (by omega), e (b + 7) (by omega) (by omega), upd2_row (by omega), upd2_row (by omega), upd2_row (by omega)]
    exact h.2.2.2.1 v hv (ht' _ ht)
theorem sp_X4_returnTo {s : Nat} (h : SI M b A) (hs : s < 16) (ht : th A s) : Spec D 6 yX4_returnTo cfX4_returnTo [.ref (ad (b)), .int (nI (s))] (wl D ad M) 0 0 (PX (fun y w => y = nI (freedB A.2 (fun _ => rowB A s ||| 2 ^ (16 + home A s))) ∧ SW D ad M b (rolA A s) w)) := by
  refine Spec.of (by decide) rfl (Nat.le_of_ble_eq_true rfl) rfl ?_
  have hbb := h.1.blocks
  have hh := h.2.2.hv6 hs ht
  have hrl := rowB_lt (A := A) (s := s)
  have hp := Nat.pow_lt_pow_right (a := 2) (by decide) (show 16 + home A s < 22 by omega)
  have hor : rowB A s ||| 2 ^ (16 + home A s) < 2 ^ 22 := Nat.or_lt_two_pow (Nat.lt_trans hrl (by decide)) hp
  have hbl2 : BLW (relB A.2 (fun _ => rowB A s ||| 2 ^ (16 + home A s))) := ⟨Nat.le_trans (List.length_filter_le _ _) (by rw [List.length_map]; exact h.bw.1), fun x hx => by
    obtain ⟨y, hy, e1, e2, e3, e4, e5⟩ := rel_mem (g := fun _ => rowB A s ||| 2 ^ (16 + home A s)) hx
    obtain ⟨a1, a2, a3, a4, a5⟩ := h.bw.2 y hy
    exact ⟨by omega, by omega, by omega, by omega, by rw [e4]; exact Nat.lt_of_le_of_lt andn_le a5⟩⟩
  refine E_bipush (v := nI 16) (q := 2) dX4_returnTo_0 (by decide) rfl ?_
  refine E_aload0 (q := 3) dX4_returnTo_2 rfl ?_
  refine G_X4_homes (q := 6) h.1 fl_X4_15 dX4_returnTo_3 rfl ?_
  refine E_iload1 (q := 7) dX4_returnTo_6 rfl ?_
  refine E_ialdN (q := 8) h.1.homes (by omega) (by decide) dX4_returnTo_7 rfl ?_
  refine V_int (h.2.1.2.2.1 s hs ht).1 ?_
  refine E_iaddN (q := 9) dX4_returnTo_8 rfl ?_
  refine E_istore2 (q := 10) dX4_returnTo_9 rfl rfl ?_
  refine E_aload0 (q := 11) dX4_returnTo_10 rfl ?_
  refine E_iload1 (q := 12) dX4_returnTo_11 rfl ?_
  refine C_V1I (q := 15) lk_X4_104 (sp_X4_rowBehind h hs ht) (rc_X4 h.1) dX4_returnTo_12 (by decide) (Nat.le_of_ble_eq_true rfl) rfl ?_
  refine E_istore3 (q := 16) dX4_returnTo_15 rfl rfl ?_
  refine E_aload0 (q := 17) dX4_returnTo_16 rfl ?_
  refine E_dup (q := 18) dX4_returnTo_17 rfl rfl ?_
  refine G_X4_there (q := 21) h.1 fl_X4_53 dX4_returnTo_18 rfl ?_
  refine V_int h.2.1.1.2.2.2.1 ?_
  refine E_iload3 (q := 22) dX4_returnTo_21 rfl ?_
  refine E_iconst (v := -1) (q := 23) dX4_returnTo_22 (by decide) rfl ?_
  refine E_ixor (q := 24) dX4_returnTo_23 rfl ?_
  refine E_iand (q := 25) dX4_returnTo_24 rfl ?_
  refine V_int (nI_andn _ _) ?_
  refine P_X4_there (q := 28) h.1 fl_X4_53 dX4_returnTo_25 rfl ?_
  refine E_aload0 (q := 29) dX4_returnTo_28 rfl ?_
  refine G_X4_blocks (q := 32) h.1 fl_X4_36 dX4_returnTo_29 rfl ?_
  refine E_iload3 (q := 33) dX4_returnTo_32 rfl ?_
  refine E_iload2 (q := 34) dX4_returnTo_33 rfl ?_
  refine C_SN1I (q := 37) lk_X4_84 (sp_X5_bit (by omega)) dX4_returnTo_34 (by decide) (Nat.le_of_ble_eq_true rfl) rfl ?_
  refine E_iorN (q := 38) dX4_returnTo_37 (nI_or _ _) rfl ?_
  refine C_V1X (q := 41) lk_X4_150 (sp_X0_release hbb (h.bi.congr (fun c h1 h2 => upd2_row (by omega))) h.bw (Nat.lt_trans hor (by decide))) (rc_X0 h.1.blocks) dX4_returnTo_38 (by decide) (Nat.le_of_ble_eq_true rfl) rfl ?_
  refine kkEI ?_
  rintro M1 ⟨hb1, hk1⟩
  refine E_istore4 (q := 43) dX4_returnTo_41 rfl rfl ?_
  refine E_aload0 (q := 44) dX4_returnTo_43 rfl ?_
  refine G_X4_blocks (q := 47) h.1 fl_X4_36 dX4_returnTo_44 rfl ?_
  refine E_iload1 (q := 48) dX4_returnTo_47 rfl ?_
  refine E_iload2 (q := 49) dX4_returnTo_48 rfl ?_
  refine C_V2Y (q := 52) lk_X4_146 (sp_X0_lend hbb hb1 hbl2 (by omega) (by omega)) (rc_X0 h.1.blocks) dX4_returnTo_49 (by decide) (Nat.le_of_ble_eq_true rfl) rfl ?_
  refine kkEW ?_
  rintro M2 ⟨hb2, hk2⟩
  refine E_iload4 (q := 54) dX4_returnTo_52 rfl ?_
  exact E_ireturn rfl rfl dX4_returnTo_54 ⟨_, rfl, rfl, M2, rfl, h.2.1.rol (fun c h1 h2 => by rw [hk2 c (Or.inl (by omega)), hk1 c (Or.inl (by omega))]) hb2, fun c hc => by rw [hk2 c (by omega), hk1 c (by omega), upd2_row (by omega)]⟩
theorem StoreIs.blk {v a z : Nat} {M' : Mem} (h : StoreIs M b A) (e : ∀ c, b ≤ c → c < b + 8 → M' c = upd2 M b 0 (nI (aT A + 1)) c) (hB : BlkIs M' (b + 8) (mkBlk A v a z).2) : StoreIs M' b (mkBlk A v a z) := by
  have h0 : ∀ i j, ¬ (i = 0 ∧ j = 0) → (mkBlk A v a z).1 i j = A.1 i j := fun i j hn => ts_ne hn
  have e1 : thM (mkBlk A v a z) = thM A := bset_congr fun k _ => by unfold th; rw [h0 1 k (by omega)]
  have e2 : hdM (mkBlk A v a z) = hdM A := bset_congr fun k _ => by unfold hld; rw [h0 4 k (by omega)]
  refine ⟨⟨?_, ?_, ?_, ?_, ?_⟩, ?_, fun t hs ht => ?_, fun v hv ht => ?_, hB⟩
  · rw [e b (by omega) (by omega), show aT (mkBlk A v a z) = aT A + 1 by simp [aT, mkBlk, ts]]; exact upd2_same
  · rw [e b (by omega) (by omega), upd2_ne (by omega), aV, h0 0 1 (by omega)]; exact h.1.2.1
  · rw [e b (by omega) (by omega), upd2_ne (by omega), aS, h0 0 2 (by omega)]; exact h.1.2.2.1
  · rw [e b (by omega) (by omega), upd2_ne (by omega), e1]; exact h.1.2.2.2.1
  · rw [e b (by omega) (by omega), upd2_ne (by omega), e2]; exact h.1.2.2.2.2
  · rw [e (b + 1) (by omega) (by omega), upd2_row (by omega), aP, aC, h0 0 3 (by omega), h0 0 4 (by omega)]; exact h.2.1
  · rw [e (b + 2) (by omega) (by omega), e (b + 3) (by omega) (by omega), e (b + 4) (by omega) (by omega), upd2_row (by omega), upd2_row (by omega), upd2_row (by omega)]
    unfold th at ht
    rw [h0 1 t (by omega)] at ht
    unfold home stm snm
    rw [h0 2 t (by omega), h0 3 t (by omega), h0 7 t (by omega)]
    exact h.2.2.1 t hs ht
  · rw [e (b + 5) (by omega) (by omega), e (b + 6) (by omega) (by omega), e (b + 7) (by omega) (by omega), upd2_row (by omega), upd2_row (by omega), upd2_row (by omega)]
    unfold th at ht
    rw [h0 1 _ (by omega)] at ht
    unfold vnm org quo
    rw [h0 8 v (by omega), h0 5 v (by omega), h0 6 v (by omega)]
    exact h.2.2.2.1 v hv ht
theorem sp_X4_putBlock {v a z : Nat} (h : SI M b A) (hv : v < 6) (ht : th A (16 + v)) (ha : a < 12) (hz : 1 ≤ z ∧ z ≤ 9) (hT : aT A + 1 < 2 ^ 24) : Spec D 5 yX4_putBlock cfX4_putBlock [.ref (ad (b)), .int (nI (v)), .int (nI (a)), .int (nI (z))] (wl D ad M) 0 0 (PY (SW D ad M b (mkBlk A v a z))) := by
  refine Spec.of (by decide) rfl (Nat.le_of_ble_eq_true rfl) rfl ?_
  have hbb := h.1.blocks
  have hlen : (relAt A.2 (16 + v) a).length < 264 := by
    have := (mkBlk_WF h.2.2 hv ht ha hz hT).2.2.len
    have e : (mkBlk A v a z).2.length = (relAt A.2 (16 + v) a).length + 1 := List.length_append
    omega
  refine E_aload0 (q := 1) dX4_putBlock_0 rfl ?_
  refine E_dup (q := 2) dX4_putBlock_1 rfl rfl ?_
  refine G_X4_time (q := 5) h.1 fl_X4_43 dX4_putBlock_2 rfl ?_
  refine V_int h.2.1.1.1 ?_
  refine E_iconst (v := nI 1) (q := 6) dX4_putBlock_5 (by decide) rfl ?_
  refine E_iaddN (q := 7) dX4_putBlock_6 rfl ?_
  refine P_X4_time (q := 10) h.1 fl_X4_43 dX4_putBlock_7 rfl ?_
  refine E_aload0 (q := 11) dX4_putBlock_10 rfl ?_
  refine G_X4_blocks (q := 14) h.1 fl_X4_36 dX4_putBlock_11 rfl ?_
  refine E_bipush (v := nI 16) (q := 16) dX4_putBlock_14 (by decide) rfl ?_
  refine E_iload1 (q := 17) dX4_putBlock_16 rfl ?_
  refine E_iaddN (q := 18) dX4_putBlock_17 rfl ?_
  refine E_iload2 (q := 19) dX4_putBlock_18 rfl ?_
  refine C_V2X (q := 22) lk_X4_139 (sp_X0_releaseAt hbb (h.bi.congr (fun c h1 h2 => upd2_row (by omega))) h.2.2 (by omega) (by omega)) (rc_X0 h.1.blocks) dX4_putBlock_19 (by decide) (Nat.le_of_ble_eq_true rfl) rfl ?_
  refine kkEI ?_
  rintro M1 ⟨hb1, hk1⟩
  refine E_pop (q := 23) dX4_putBlock_22 rfl rfl ?_
  refine E_aload0 (q := 24) dX4_putBlock_23 rfl ?_
  refine G_X4_blocks (q := 27) h.1 fl_X4_36 dX4_putBlock_24 rfl ?_
  refine E_aload0 (q := 28) dX4_putBlock_27 rfl ?_
  refine G_X4_time (q := 31) h.1 fl_X4_43 dX4_putBlock_28 rfl ?_
  refine V_int (show _ = nI (aT A + 1) by rw [hk1 b (Or.inl (by omega))]; exact upd2_same) ?_
  refine E_iload3 (q := 32) dX4_putBlock_31 rfl ?_
  refine E_iload2 (q := 33) dX4_putBlock_32 rfl ?_
  refine E_bipush (v := nI 16) (q := 35) dX4_putBlock_33 (by decide) rfl ?_
  refine E_iload1 (q := 36) dX4_putBlock_35 rfl ?_
  refine E_iaddN (q := 37) dX4_putBlock_36 rfl ?_
  refine C_V4Y (q := 40) lk_X4_142 (sp_X0_append hbb hb1 hlen (by omega)) (rc_X0 h.1.blocks) dX4_putBlock_37 (by decide) (Nat.le_of_ble_eq_true rfl) rfl ?_
  refine kkEW ?_
  rintro M2 ⟨hb2, hk2⟩
  exact E_vreturn rfl rfl dX4_putBlock_40 ⟨rfl, M2, rfl, h.2.1.blk (fun c h1 h2 => by rw [hk2 c (Or.inl (by omega)), hk1 c (Or.inl (by omega))]) hb2, fun c hc => by rw [hk2 c (by omega), hk1 c (by omega), upd2_row (by omega)]⟩
theorem StoreIs.trm {v a : Nat} {M' : Mem} (h : StoreIs M b A) (e : ∀ c, b ≤ c → c < b + 8 → M' c = M c) (hB : BlkIs M' (b + 8) (trmA A v a).2) : StoreIs M' b (trmA A v a) :=
  ⟨by rw [e b (by omega) (by omega)]; exact h.1, by rw [e (b + 1) (by omega) (by omega)]; exact h.2.1,
   fun s hs ht => by rw [e (b + 2) (by omega) (by omega), e (b + 3) (by omega) (by omega), e (b + 4) (by omega) (by omega)]; exact h.2.2.1 s hs ht,
   fun v hv ht => by rw [e (b + 5) (by omega) (by omega), e (b + 6) (by omega) (by omega), e (b + 7) (by omega) (by omega)]; exact h.2.2.2.1 v hv ht, hB⟩
theorem StoreIs.vol {o n : Nat} {M' : Mem} (h : StoreIs M b A) (hv6 : aV A < 6) (e : ∀ c, b ≤ c → c < b + 8 → M' c = (upd2 (upd2 (upd2 (upd2 (upd2 M b 1 (nI (aV A + 1))) b 3 (nI (thM A ||| 2 ^ (16 + aV A)))) (b + 5) (aV A) (nI n)) (b + 6) (aV A) (oI o)) (b + 7) (aV A) (nI 0)) c) (hB : BlkIs M' (b + 8) (mkVol A o n).2) : StoreIs M' b (mkVol A o n) := by
  have e0 : ∀ j, M' b j = if j = 3 then nI (thM A ||| 2 ^ (16 + aV A)) else if j = 1 then nI (aV A + 1) else M b j := fun j => by
    rw [e b (by omega) (by omega), upd2_row (by omega), upd2_row (by omega), upd2_row (by omega)]
    unfold upd2
    by_cases c : j = 3
    · simp [c]
    · by_cases c1 : j = 1 <;> simp [c, c1]
  have e5 : ∀ j, M' (b + 5) j = if j = aV A then nI n else M (b + 5) j := fun j => by
    rw [e (b + 5) (by omega) (by omega), upd2_row (by omega), upd2_row (by omega)]
    by_cases c : j = aV A
    · rw [if_pos c, c]; exact upd2_same
    · rw [if_neg c, upd2_ne (by omega), upd2_row (by omega), upd2_row (by omega)]
  have e6 : ∀ j, M' (b + 6) j = if j = aV A then oI o else M (b + 6) j := fun j => by
    rw [e (b + 6) (by omega) (by omega), upd2_row (by omega)]
    by_cases c : j = aV A
    · rw [if_pos c, c]; exact upd2_same
    · rw [if_neg c, upd2_ne (by omega), upd2_row (by omega), upd2_row (by omega), upd2_row (by omega)]
  have e7 : ∀ j, M' (b + 7) j = if j = aV A then nI 0 else M (b + 7) j := fun j => by
    rw [e (b + 7) (by omega) (by omega)]
    by_cases c : j = aV A
    · rw [if_pos c, c]; exact upd2_same
    · rw [if_neg c, upd2_ne (by omega), upd2_row (by omega), upd2_row (by omega), upd2_row (by omega), upd2_row (by omega)]
  refine ⟨⟨?_, ?_, ?_, ?_, ?_⟩, ?_, fun t hs ht => ?_, fun v hv ht => ?_, hB⟩
  · rw [e0, if_neg (by decide), if_neg (by decide)]; exact h.1.1
  · rw [e0, if_neg (by decide), if_pos rfl]; rfl
  · rw [e0, if_neg (by decide), if_neg (by decide)]; exact h.1.2.2.1
  · rw [e0, if_pos rfl, mkVol_thM hv6]
  · rw [e0, if_neg (by decide), if_neg (by decide), mkVol_hdM]; exact h.1.2.2.2.2
  · rw [e (b + 1) (by omega) (by omega), upd2_row (by omega), upd2_row (by omega), upd2_row (by omega), upd2_row (by omega), upd2_row (by omega)]; exact h.2.1
  · have e2 : ∀ c, b + 2 ≤ c → c ≤ b + 4 → M' c = M c := fun c h1 h2 => by rw [e c (by omega) (by omega), upd2_row (by omega), upd2_row (by omega), upd2_row (by omega), upd2_row (by omega), upd2_row (by omega)]
    rw [e2 _ (by omega) (by omega), e2 _ (by omega) (by omega), e2 _ (by omega) (by omega)]
    have ht : th A t := (mkVol_th.mp ht).resolve_right (by omega)
    exact h.2.2.1 t hs ht
  · rw [e5, e6, e7]
    unfold vnm org quo
    rw [mkVol_T, mkVol_T, mkVol_T]
    by_cases c : v = aV A
    · simp [c]
    · have ht : th A (16 + v) := (mkVol_th.mp ht).resolve_right (by omega)
      simp [c]
      exact h.2.2.2.1 v hv ht
theorem sp_X4_addVolumeN {n : Nat} (h : SI M b A) (hv6 : aV A < 6) : Spec D 4 yX4_addVolume cfX4_addVolume [.ref (ad (b)), .int (nI (n)), .int (-1)] (wl D ad M) 0 0 (PX (fun y w => y = nI (aV A) ∧ SW D ad M b (mkVol A (0) n) w)) := by
  refine Spec.of (by decide) rfl (Nat.le_of_ble_eq_true rfl) rfl ?_
  have hbb := h.1.blocks
  refine E_aload0 (q := 1) dX4_addVolume_0 rfl ?_
  refine G_X4_volumesCome (q := 4) h.1 fl_X4_47 dX4_addVolume_1 rfl ?_
  refine V_int h.2.1.1.2.1 ?_
  refine E_istore3 (q := 5) dX4_addVolume_4 rfl rfl ?_
  refine E_aload0 (q := 6) dX4_addVolume_5 rfl ?_
  refine E_dup (q := 7) dX4_addVolume_6 rfl rfl ?_
  refine G_X4_volumesCome (q := 10) h.1 fl_X4_47 dX4_addVolume_7 rfl ?_
  refine V_int h.2.1.1.2.1 ?_
  refine E_iconst (v := nI 1) (q := 11) dX4_addVolume_10 (by decide) rfl ?_
  refine E_iaddN (q := 12) dX4_addVolume_11 rfl ?_
  refine P_X4_volumesCome (q := 15) h.1 fl_X4_47 dX4_addVolume_12 rfl ?_
  refine E_aload0 (q := 16) dX4_addVolume_15 rfl ?_
  refine E_dup (q := 17) dX4_addVolume_16 rfl rfl ?_
  refine G_X4_there (q := 20) h.1 fl_X4_53 dX4_addVolume_17 rfl ?_
  refine V_int (show _ = nI (thM A) by rw [upd2_ne (by omega)]; exact h.2.1.1.2.2.2.1) ?_
  refine E_bipush (v := nI 16) (q := 22) dX4_addVolume_20 (by decide) rfl ?_
  refine E_iload3 (q := 23) dX4_addVolume_22 rfl ?_
  refine E_iaddN (q := 24) dX4_addVolume_23 rfl ?_
  refine C_SN1I (q := 27) lk_X4_84 (sp_X5_bit (by omega)) dX4_addVolume_24 (by decide) (Nat.le_of_ble_eq_true rfl) rfl ?_
  refine E_iorN (q := 28) dX4_addVolume_27 (nI_or _ _) rfl ?_
  refine P_X4_there (q := 31) h.1 fl_X4_53 dX4_addVolume_28 rfl ?_
  refine E_aload0 (q := 32) dX4_addVolume_31 rfl ?_
  refine G_X4_volumeNames (q := 35) h.1 fl_X4_24 dX4_addVolume_32 rfl ?_
  refine E_iload3 (q := 36) dX4_addVolume_35 rfl ?_
  refine E_iload1 (q := 37) dX4_addVolume_36 rfl ?_
  refine E_iastN (q := 38) h.1.volumeNames (by omega) (by decide) dX4_addVolume_37 rfl ?_
  refine E_aload0 (q := 39) dX4_addVolume_38 rfl ?_
  refine G_X4_origins (q := 42) h.1 fl_X4_27 dX4_addVolume_39 rfl ?_
  refine E_iload3 (q := 43) dX4_addVolume_42 rfl ?_
  refine E_iload2 (q := 44) dX4_addVolume_43 rfl ?_
  refine E_iastN (q := 45) h.1.origins (by omega) (by decide) dX4_addVolume_44 rfl ?_
  refine E_aload0 (q := 46) dX4_addVolume_45 rfl ?_
  refine G_X4_quotas (q := 49) h.1 fl_X4_30 dX4_addVolume_46 rfl ?_
  refine E_iload3 (q := 50) dX4_addVolume_49 rfl ?_
  refine E_iconst (v := nI 0) (q := 51) dX4_addVolume_50 (by decide) rfl ?_
  refine E_iastN (q := 52) h.1.quotas (by omega) (by decide) dX4_addVolume_51 rfl ?_
  refine E_iload2 (q := 53) dX4_addVolume_52 rfl ?_
  refine E_iconst (v := -1) (q := 54) dX4_addVolume_53 (by decide) rfl ?_
  refine E_icmp_eq (tgt := 69) (q := 57) dX4_addVolume_54 (by decide) rfl (fun h54 => ?_) (fun h54 => ?_)
  · skip
    refine V_ws (congrArg (fun x => wl D ad (upd2 (upd2 (upd2 (upd2 (upd2 M b 1 (nI (aV A + 1))) b 3 (nI (thM A ||| 2 ^ (16 + aV A)))) (b + 5) (aV A) (nI n)) (b + 6) (aV A) x) (b + 7) (aV A) (nI 0))) (show (-1 : Int32) = oI 0 from oI_0.symm)) ?_
    refine E_iload3 (q := 70) dX4_addVolume_69 rfl ?_
    exact E_ireturn rfl rfl dX4_addVolume_70 ⟨_, rfl, rfl, _, rfl, h.2.1.vol hv6 (fun c h1 h2 => rfl) (h.bi.congr (fun c h1 h2 => by rw [upd2_row (by omega), upd2_row (by omega), upd2_row (by omega), upd2_row (by omega), upd2_row (by omega)])), fun c hc => by rw [upd2_row (by omega), upd2_row (by omega), upd2_row (by omega), upd2_row (by omega), upd2_row (by omega)]⟩
  · first | exact absurd h54 (by decide) | exact absurd (by decide) h54
theorem sp_X4_addVolumeS {n s : Nat} (h : SI M b A) (hv6 : aV A < 6) (hs : s < 16) : Spec D 4 yX4_addVolume cfX4_addVolume [.ref (ad (b)), .int (nI (n)), .int (nI (s))] (wl D ad M) 0 0 (PX (fun y w => y = nI (aV A) ∧ SW D ad M b (mkVol A (s + 1) n) w)) := by
  refine Spec.of (by decide) rfl (Nat.le_of_ble_eq_true rfl) rfl ?_
  have hbb := h.1.blocks
  refine E_aload0 (q := 1) dX4_addVolume_0 rfl ?_
  refine G_X4_volumesCome (q := 4) h.1 fl_X4_47 dX4_addVolume_1 rfl ?_
  refine V_int h.2.1.1.2.1 ?_
  refine E_istore3 (q := 5) dX4_addVolume_4 rfl rfl ?_
  refine E_aload0 (q := 6) dX4_addVolume_5 rfl ?_
  refine E_dup (q := 7) dX4_addVolume_6 rfl rfl ?_
  refine G_X4_volumesCome (q := 10) h.1 fl_X4_47 dX4_addVolume_7 rfl ?_
  refine V_int h.2.1.1.2.1 ?_
  refine E_iconst (v := nI 1) (q := 11) dX4_addVolume_10 (by decide) rfl ?_
  refine E_iaddN (q := 12) dX4_addVolume_11 rfl ?_
  refine P_X4_volumesCome (q := 15) h.1 fl_X4_47 dX4_addVolume_12 rfl ?_
  refine E_aload0 (q := 16) dX4_addVolume_15 rfl ?_
  refine E_dup (q := 17) dX4_addVolume_16 rfl rfl ?_
  refine G_X4_there (q := 20) h.1 fl_X4_53 dX4_addVolume_17 rfl ?_
  refine V_int (show _ = nI (thM A) by rw [upd2_ne (by omega)]; exact h.2.1.1.2.2.2.1) ?_
  refine E_bipush (v := nI 16) (q := 22) dX4_addVolume_20 (by decide) rfl ?_
  refine E_iload3 (q := 23) dX4_addVolume_22 rfl ?_
  refine E_iaddN (q := 24) dX4_addVolume_23 rfl ?_
  refine C_SN1I (q := 27) lk_X4_84 (sp_X5_bit (by omega)) dX4_addVolume_24 (by decide) (Nat.le_of_ble_eq_true rfl) rfl ?_
  refine E_iorN (q := 28) dX4_addVolume_27 (nI_or _ _) rfl ?_
  refine P_X4_there (q := 31) h.1 fl_X4_53 dX4_addVolume_28 rfl ?_
  refine E_aload0 (q := 32) dX4_addVolume_31 rfl ?_
  refine G_X4_volumeNames (q := 35) h.1 fl_X4_24 dX4_addVolume_32 rfl ?_
  refine E_iload3 (q := 36) dX4_addVolume_35 rfl ?_
  refine E_iload1 (q := 37) dX4_addVolume_36 rfl ?_
  refine E_iastN (q := 38) h.1.volumeNames (by omega) (by decide) dX4_addVolume_37 rfl ?_
  refine E_aload0 (q := 39) dX4_addVolume_38 rfl ?_
  refine G_X4_origins (q := 42) h.1 fl_X4_27 dX4_addVolume_39 rfl ?_
  refine E_iload3 (q := 43) dX4_addVolume_42 rfl ?_
  refine E_iload2 (q := 44) dX4_addVolume_43 rfl ?_
  refine E_iastN (q := 45) h.1.origins (by omega) (by decide) dX4_addVolume_44 rfl ?_
  refine E_aload0 (q := 46) dX4_addVolume_45 rfl ?_
  refine G_X4_quotas (q := 49) h.1 fl_X4_30 dX4_addVolume_46 rfl ?_
  refine E_iload3 (q := 50) dX4_addVolume_49 rfl ?_
  refine E_iconst (v := nI 0) (q := 51) dX4_addVolume_50 (by decide) rfl ?_
  refine E_iastN (q := 52) h.1.quotas (by omega) (by decide) dX4_addVolume_51 rfl ?_
  refine E_iload2 (q := 53) dX4_addVolume_52 rfl ?_
  refine E_iconst (v := -1) (q := 54) dX4_addVolume_53 (by decide) rfl ?_
  refine E_icmp_eq (tgt := 69) (q := 57) dX4_addVolume_54 (by decide) rfl (fun h54 => ?_) (fun h54 => ?_)
  · skip
    exact absurd h54 (nI_nm1 (by omega))
  · skip
    refine E_aload0 (q := 58) dX4_addVolume_57 rfl ?_
    refine G_X4_blocks (q := 61) h.1 fl_X4_36 dX4_addVolume_58 rfl ?_
    refine E_iload2 (q := 62) dX4_addVolume_61 rfl ?_
    refine E_bipush (v := nI 16) (q := 64) dX4_addVolume_62 (by decide) rfl ?_
    refine E_iload3 (q := 65) dX4_addVolume_64 rfl ?_
    refine E_iaddN (q := 66) dX4_addVolume_65 rfl ?_
    refine C_V2Y (q := 69) lk_X4_146 (sp_X0_lend hbb (h.bi.congr (fun c h1 h2 => by rw [upd2_row (by omega), upd2_row (by omega), upd2_row (by omega), upd2_row (by omega), upd2_row (by omega)])) h.bw (by omega) (by omega)) (rc_X0 h.1.blocks) dX4_addVolume_66 (by decide) (Nat.le_of_ble_eq_true rfl) rfl ?_
    refine kkEW ?_
    rintro M1 ⟨hb1, hk1⟩
    refine E_iload3 (q := 70) dX4_addVolume_69 rfl ?_
    exact E_ireturn rfl rfl dX4_addVolume_70 ⟨_, rfl, rfl, M1, rfl, h.2.1.vol hv6 (fun c h1 h2 => by rw [hk1 c (Or.inl (by omega)), oI_s]) hb1, fun c hc => by rw [hk1 c (by omega), upd2_row (by omega), upd2_row (by omega), upd2_row (by omega), upd2_row (by omega), upd2_row (by omega)]⟩
theorem StoreIs.snp {v n : Nat} {M' : Mem} (h : StoreIs M b A) (hA : WF A) (hs16 : aS A < 16) (e : ∀ c, b ≤ c → c < b + 8 → M' c = (upd2 (upd2 (upd2 (upd2 (upd2 (upd2 M b 2 (nI (aS A + 1))) b 0 (nI (aT A + 1))) b 3 (nI (thM A ||| 2 ^ (aS A)))) (b + 4) (aS A) (nI n)) (b + 2) (aS A) (nI v)) (b + 3) (aS A) (nI (aT A + 1))) c) (hB : BlkIs M' (b + 8) (mkSnp A v n).2) : StoreIs M' b (mkSnp A v n) := by
  have e0 : ∀ j, M' b j = if j = 3 then nI (thM A ||| 2 ^ (aS A)) else if j = 0 then nI (aT A + 1) else if j = 2 then nI (aS A + 1) else M b j := fun j => by
    rw [e b (by omega) (by omega), upd2_row (by omega), upd2_row (by omega), upd2_row (by omega)]
    unfold upd2
    by_cases c : j = 3
    · simp [c]
    · by_cases c1 : j = 0
      · simp [c, c1]
      · by_cases c2 : j = 2 <;> simp [c, c1, c2]
  have e4 : ∀ j, M' (b + 4) j = if j = aS A then nI n else M (b + 4) j := fun j => by
    rw [e (b + 4) (by omega) (by omega), upd2_row (by omega), upd2_row (by omega)]
    by_cases c : j = aS A
    · rw [if_pos c, c]; exact upd2_same
    · rw [if_neg c, upd2_ne (by omega), upd2_row (by omega), upd2_row (by omega), upd2_row (by omega)]
  have e2 : ∀ j, M' (b + 2) j = if j = aS A then nI v else M (b + 2) j := fun j => by
    rw [e (b + 2) (by omega) (by omega), upd2_row (by omega)]
    by_cases c : j = aS A
    · rw [if_pos c, c]; exact upd2_same
    · rw [if_neg c, upd2_ne (by omega), upd2_row (by omega), upd2_row (by omega), upd2_row (by omega), upd2_row (by omega)]
  have e3 : ∀ j, M' (b + 3) j = if j = aS A then nI (aT A + 1) else M (b + 3) j := fun j => by
    rw [e (b + 3) (by omega) (by omega)]
    by_cases c : j = aS A
    · rw [if_pos c, c]; exact upd2_same
    · rw [if_neg c, upd2_ne (by omega), upd2_row (by omega), upd2_row (by omega), upd2_row (by omega), upd2_row (by omega), upd2_row (by omega)]
  refine ⟨⟨?_, ?_, ?_, ?_, ?_⟩, ?_, fun t hs ht => ?_, fun u hv ht => ?_, hB⟩
  · rw [e0, if_neg (by decide), if_pos rfl]; rfl
  · rw [e0, if_neg (by decide), if_neg (by decide), if_neg (by decide)]; exact h.1.2.1
  · rw [e0, if_neg (by decide), if_neg (by decide), if_pos rfl]; rfl
  · rw [e0, if_pos rfl, mkSnp_thM hs16]
  · rw [e0, if_neg (by decide), if_neg (by decide), if_neg (by decide), mkSnp_hdM hA hs16]; exact h.1.2.2.2.2
  · rw [e (b + 1) (by omega) (by omega), upd2_row (by omega), upd2_row (by omega), upd2_row (by omega), upd2_row (by omega), upd2_row (by omega), upd2_row (by omega)]; exact h.2.1
  · rw [e2, e3, e4]
    unfold home stm snm
    rw [mkSnp_T, mkSnp_T, mkSnp_T]
    by_cases c : t = aS A
    · simp [c]
    · have ht : th A t := (mkSnp_th.mp ht).resolve_right c
      simp [c]
      exact h.2.2.1 t hs ht
  · have e5 : ∀ c, b + 5 ≤ c → c ≤ b + 7 → M' c = M c := fun c h1 h2 => by rw [e c (by omega) (by omega), upd2_row (by omega), upd2_row (by omega), upd2_row (by omega), upd2_row (by omega), upd2_row (by omega), upd2_row (by omega)]
    rw [e5 _ (by omega) (by omega), e5 _ (by omega) (by omega), e5 _ (by omega) (by omega)]
    have ht : th A (16 + u) := (mkSnp_th.mp ht).resolve_right (by omega)
    exact h.2.2.2.1 u hv ht
theorem sp_X4_addSnapshot {v n : Nat} (h : SI M b A) (hs16 : aS A < 16) (hv : v < 6) : Spec D 4 yX4_addSnapshot cfX4_addSnapshot [.ref (ad (b)), .int (nI (n)), .int (nI (v))] (wl D ad M) 0 0 (PX (fun y w => y = nI (aS A) ∧ SW D ad M b (mkSnp A v n) w)) := by
  refine Spec.of (by decide) rfl (Nat.le_of_ble_eq_true rfl) rfl ?_
  have hbb := h.1.blocks
  refine E_aload0 (q := 1) dX4_addSnapshot_0 rfl ?_
  refine G_X4_snapshotsCome (q := 4) h.1 fl_X4_50 dX4_addSnapshot_1 rfl ?_
  refine V_int h.2.1.1.2.2.1 ?_
  refine E_istore3 (q := 5) dX4_addSnapshot_4 rfl rfl ?_
  refine E_aload0 (q := 6) dX4_addSnapshot_5 rfl ?_
  refine E_dup (q := 7) dX4_addSnapshot_6 rfl rfl ?_
  refine G_X4_snapshotsCome (q := 10) h.1 fl_X4_50 dX4_addSnapshot_7 rfl ?_
  refine V_int h.2.1.1.2.2.1 ?_
  refine E_iconst (v := nI 1) (q := 11) dX4_addSnapshot_10 (by decide) rfl ?_
  refine E_iaddN (q := 12) dX4_addSnapshot_11 rfl ?_
  refine P_X4_snapshotsCome (q := 15) h.1 fl_X4_50 dX4_addSnapshot_12 rfl ?_
  refine E_aload0 (q := 16) dX4_addSnapshot_15 rfl ?_
  refine E_dup (q := 17) dX4_addSnapshot_16 rfl rfl ?_
  refine G_X4_time (q := 20) h.1 fl_X4_43 dX4_addSnapshot_17 rfl ?_
  refine V_int (show _ = nI (aT A) by rw [upd2_ne (by omega)]; exact h.2.1.1.1) ?_
  refine E_iconst (v := nI 1) (q := 21) dX4_addSnapshot_20 (by decide) rfl ?_
  refine E_iaddN (q := 22) dX4_addSnapshot_21 rfl ?_
  refine P_X4_time (q := 25) h.1 fl_X4_43 dX4_addSnapshot_22 rfl ?_
  refine E_aload0 (q := 26) dX4_addSnapshot_25 rfl ?_
  refine E_dup (q := 27) dX4_addSnapshot_26 rfl rfl ?_
  refine G_X4_there (q := 30) h.1 fl_X4_53 dX4_addSnapshot_27 rfl ?_
  refine V_int (show _ = nI (thM A) by rw [upd2_ne (by omega), upd2_ne (by omega)]; exact h.2.1.1.2.2.2.1) ?_
  refine E_iload3 (q := 31) dX4_addSnapshot_30 rfl ?_
  refine C_SN1I (q := 34) lk_X4_84 (sp_X5_bit (by omega)) dX4_addSnapshot_31 (by decide) (Nat.le_of_ble_eq_true rfl) rfl ?_
  refine E_iorN (q := 35) dX4_addSnapshot_34 (nI_or _ _) rfl ?_
  refine P_X4_there (q := 38) h.1 fl_X4_53 dX4_addSnapshot_35 rfl ?_
  refine E_aload0 (q := 39) dX4_addSnapshot_38 rfl ?_
  refine G_X4_snapshotNames (q := 42) h.1 fl_X4_21 dX4_addSnapshot_39 rfl ?_
  refine E_iload3 (q := 43) dX4_addSnapshot_42 rfl ?_
  refine E_iload1 (q := 44) dX4_addSnapshot_43 rfl ?_
  refine E_iastN (q := 45) h.1.snapshotNames (by omega) (by decide) dX4_addSnapshot_44 rfl ?_
  refine E_aload0 (q := 46) dX4_addSnapshot_45 rfl ?_
  refine G_X4_homes (q := 49) h.1 fl_X4_15 dX4_addSnapshot_46 rfl ?_
  refine E_iload3 (q := 50) dX4_addSnapshot_49 rfl ?_
  refine E_iload2 (q := 51) dX4_addSnapshot_50 rfl ?_
  refine E_iastN (q := 52) h.1.homes (by omega) (by decide) dX4_addSnapshot_51 rfl ?_
  refine E_aload0 (q := 53) dX4_addSnapshot_52 rfl ?_
  refine G_X4_times (q := 56) h.1 fl_X4_18 dX4_addSnapshot_53 rfl ?_
  refine E_iload3 (q := 57) dX4_addSnapshot_56 rfl ?_
  refine E_aload0 (q := 58) dX4_addSnapshot_57 rfl ?_
  refine G_X4_time (q := 61) h.1 fl_X4_43 dX4_addSnapshot_58 rfl ?_
  refine V_int (show _ = nI (aT A + 1) by rw [upd2_row (by omega), upd2_row (by omega), upd2_ne (by omega)]; exact upd2_same) ?_
  refine E_iastN (q := 62) h.1.times (by omega) (by decide) dX4_addSnapshot_61 rfl ?_
  refine E_aload0 (q := 63) dX4_addSnapshot_62 rfl ?_
  refine G_X4_blocks (q := 66) h.1 fl_X4_36 dX4_addSnapshot_63 rfl ?_
  refine E_bipush (v := nI 16) (q := 68) dX4_addSnapshot_66 (by decide) rfl ?_
  refine E_iload2 (q := 69) dX4_addSnapshot_68 rfl ?_
  refine E_iaddN (q := 70) dX4_addSnapshot_69 rfl ?_
  refine E_iload3 (q := 71) dX4_addSnapshot_70 rfl ?_
  refine C_V2Y (q := 74) lk_X4_146 (sp_X0_lend hbb (h.bi.congr (fun c h1 h2 => by rw [upd2_row (by omega), upd2_row (by omega), upd2_row (by omega), upd2_row (by omega), upd2_row (by omega), upd2_row (by omega)])) h.bw (by omega) (by omega)) (rc_X0 h.1.blocks) dX4_addSnapshot_71 (by decide) (Nat.le_of_ble_eq_true rfl) rfl ?_
  refine kkEW ?_
  rintro M1 ⟨hb1, hk1⟩
  refine E_iload3 (q := 75) dX4_addSnapshot_74 rfl ?_
  exact E_ireturn rfl rfl dX4_addSnapshot_75 ⟨_, rfl, rfl, M1, rfl, h.2.1.snp h.2.2 hs16 (fun c h1 h2 => hk1 c (Or.inl (by omega))) hb1, fun c hc => by rw [hk1 c (by omega), upd2_row (by omega), upd2_row (by omega), upd2_row (by omega), upd2_row (by omega), upd2_row (by omega), upd2_row (by omega)]⟩
def hmF (g : Nat → Int32) (m : Nat) (v : Int32) (i : Nat) : Nat → Int32 := fun j => if j < i ∧ m.testBit j = true then v else g j
theorem hmF_0 {g : Nat → Int32} {m : Nat} {v : Int32} : hmF g m v 0 = g := funext fun j => if_neg (by omega)
theorem hmF_on {g : Nat → Int32} {m i : Nat} {v : Int32} (h : m.testBit i = true) : upd (hmF g m v i) i v = hmF g m v (i + 1) := funext fun j => by
  unfold upd hmF
  by_cases c : j = i
  · rw [if_pos c, if_pos ⟨by omega, c ▸ h⟩]
  · rw [if_neg c]
    by_cases c2 : j < i ∧ m.testBit j = true
    · rw [if_pos c2, if_pos ⟨by omega, c2.2⟩]
    · rw [if_neg c2, if_neg (fun z => c2 ⟨by omega, z.2⟩)]
theorem hmF_off {g : Nat → Int32} {m i : Nat} {v : Int32} (h : ¬ m.testBit i = true) : hmF g m v i = hmF g m v (i + 1) := funext fun j => by
  unfold hmF
  by_cases c2 : j < i ∧ m.testBit j = true
  · rw [if_pos c2, if_pos ⟨by omega, c2.2⟩]
  · rw [if_neg c2, if_neg (fun z => c2 ⟨by
      have : j ≠ i := fun e => h (e ▸ z.2)
      omega, z.2⟩)]
theorem mov_bit {s k : Nat} (hs : s < 16) (ht : th A s) : (ahM A s ||| 2 ^ s).testBit k = true ↔ k < 16 ∧ A.1 1 k = 1 ∧ A.1 2 k = home A s ∧ k ≤ s := by
  have hh : homeOf A s = home A s := if_pos hs
  rw [or_bit, pow_bit]
  unfold ahM
  rw [bset_bit, hh]
  constructor
  · rintro (⟨a, c, d, e⟩ | rfl)
    · exact ⟨a, c, d, by omega⟩
    · exact ⟨hs, ht, rfl, Nat.le_refl _⟩
  · rintro ⟨a, c, d, e⟩
    by_cases c2 : s = k
    · exact Or.inr c2
    · exact Or.inl ⟨a, c, d, by omega⟩
theorem StoreIs.pro {v s : Nat} {M' : Mem} (h : StoreIs M b A) (hA : WF A) (hv : v < 6) (ht : th A (16 + v)) (ho : org A v = s + 1) (e : ∀ c, b ≤ c → c ≤ b + 12 → c ≠ b + 2 → c ≠ b + 6 → M' c = M c) (e2 : ∀ j, M' (b + 2) j = hmF (M (b + 2)) (ahM A s ||| 2 ^ s) (nI v) 16 j) (e6 : ∀ j, M' (b + 6) j = if j = home A s then nI s else if j = v then M (b + 6) (home A s) else M (b + 6) j) : StoreIs M' b (proA A v) := by
  obtain ⟨n1, n2, n3⟩ := pro_ne hA hv ht ho
  have hcol : ∀ i j, i ≠ 2 → i ≠ 5 → (proA A v).1 i j = A.1 i j := fun i j h2 h5 => proA_col h2 h5
  have hth : ∀ w, th (proA A v) w ↔ th A w := fun w => by unfold th; rw [hcol 1 w (by decide) (by decide)]
  have hh6 := hA.hv6 n2 n3
  refine ⟨⟨?_, ?_, ?_, ?_, ?_⟩, ?_, fun t hs ht' => ?_, fun u hu ht' => ?_, h.2.2.2.2.congr fun c h1 h2 => e c (by omega) (by omega) (by omega) (by omega)⟩
  · rw [e b (by omega) (by omega) (by omega) (by omega), aT, hcol 0 0 (by decide) (by decide)]; exact h.1.1
  · rw [e b (by omega) (by omega) (by omega) (by omega), aV, hcol 0 1 (by decide) (by decide)]; exact h.1.2.1
  · rw [e b (by omega) (by omega) (by omega) (by omega), aS, hcol 0 2 (by decide) (by decide)]; exact h.1.2.2.1
  · rw [e b (by omega) (by omega) (by omega) (by omega), proA_thM]; exact h.1.2.2.2.1
  · rw [e b (by omega) (by omega) (by omega) (by omega), proA_hdM]; exact h.1.2.2.2.2
  · rw [e (b + 1) (by omega) (by omega) (by omega) (by omega), aP, aC, hcol 0 3 (by decide) (by decide), hcol 0 4 (by decide) (by decide)]; exact h.2.1
  · have ht0 := (hth t).mp ht'
    obtain ⟨g1, g2, g3⟩ := h.2.2.1 t hs ht0
    rw [e2, e (b + 3) (by omega) (by omega) (by omega) (by omega), e (b + 4) (by omega) (by omega) (by omega) (by omega), proA_home ho, stm, snm, hcol 3 t (by decide) (by decide), hcol 7 t (by decide) (by decide)]
    refine ⟨?_, g2, g3⟩
    unfold hmF
    have hm := mov_bit (A := A) (k := t) n2 n3
    by_cases c : A.1 1 t = 1 ∧ A.1 2 t = home A s ∧ t ≤ s
    · rw [if_pos c, if_pos ⟨hs, hm.mpr ⟨hs, c⟩⟩]
    · rw [if_neg c, if_neg (fun z => c (hm.mp z.2).2)]; exact g1
  · have ht0 := (hth (16 + u)).mp ht'
    obtain ⟨g1, g2, g3⟩ := h.2.2.2.1 u hu ht0
    rw [e6, e (b + 5) (by omega) (by omega) (by omega) (by omega), e (b + 7) (by omega) (by omega) (by omega) (by omega), proA_org ho, vnm, quo, hcol 8 u (by decide) (by decide), hcol 6 u (by decide) (by decide)]
    refine ⟨g1, ?_, g3⟩
    by_cases c : u = home A s
    · rw [if_pos c, if_neg (by omega), if_pos c, oI_s]
    · rw [if_neg c]
      by_cases c2 : u = v
      · rw [if_pos c2, if_pos c2]
        exact (h.2.2.2.1 _ hh6.1 hh6.2).2.1
      · rw [if_neg c2, if_neg c2, if_neg c]; exact g2
theorem upd_org {f : Nat → Int32} {u v s j : Nat} : upd2 (upd2 (row2 M (b + 2) f) (b + 6) v (M (b + 6) u)) (b + 6) u (nI s) (b + 6) j = if j = u then nI s else if j = v then M (b + 6) u else M (b + 6) j := by
  unfold upd2
  rw [row2_ne (by omega)]
  by_cases c : j = u
  · simp [c]
  · by_cases c2 : j = v <;> simp [c, c2]
theorem sp_X4_moveOriginInto {v s : Nat} (h : SI M b A) (hv : v < 6) (ht : th A (16 + v)) (ho : org A v = s + 1) : Spec D 6 yX4_moveOriginInto cfX4_moveOriginInto [.ref (ad (b)), .int (nI (v))] (wl D ad M) 0 0 (PX (fun y w => y = nI (plc A s + 1) ∧ SW D ad M b (proA A v) w)) := by
  refine Spec.of (by decide) rfl (Nat.le_of_ble_eq_true rfl) rfl ?_
  have hbb := h.1.blocks
  obtain ⟨n1, hs, hts⟩ := pro_ne h.2.2 hv ht ho
  have hh := h.2.2.hv6 hs hts
  have hal := ahM_lt (A := A) (w := s)
  have hp := Nat.pow_lt_pow_right (a := 2) (by decide) hs
  have hor : ahM A s ||| 2 ^ s < 2 ^ 16 := Nat.or_lt_two_pow hal hp
  have hpop : popN (ahM A s ||| 2 ^ s) = plc A s + 1 := by
    rw [popN_or (by omega) (fun z => by
      unfold ahM at z
      have := ((bset_bit _ _ _).mp z).2.2.2; omega), ah_pop]
    rfl
  have hmain : V D cfX4_moveOriginInto (rmOf 6 0 0) (QM D (PX (fun y w => y = nI (plc A s + 1) ∧ SW D ad M b (proA A v) w)) 0 0) 0 0 29 [some (.ref (ad (b))), some (.int (nI (v))), some (.int (nI (s))), some (.int (nI (home A s))), some (.int (nI (ahM A s ||| 2 ^ s))), some (.int (nI (0)))] [] (wl D ad (row2 M (b + 2) (hmF (M (b + 2)) (ahM A s ||| 2 ^ s) (nI v) 0))) := by
    refine upto0 (n := 16) (P := fun i => V D cfX4_moveOriginInto (rmOf 6 0 0) (QM D (PX (fun y w => y = nI (plc A s + 1) ∧ SW D ad M b (proA A v) w)) 0 0) 0 0 29 [some (.ref (ad (b))), some (.int (nI (v))), some (.int (nI (s))), some (.int (nI (home A s))), some (.int (nI (ahM A s ||| 2 ^ s))), some (.int (nI (i)))] [] (wl D ad (row2 M (b + 2) (hmF (M (b + 2)) (ahM A s ||| 2 ^ s) (nI v) i)))) ?_ ?_
    · skip
      refine E_iload5 (q := 31) dX4_moveOriginInto_29 rfl ?_
      refine E_bipush (v := nI 16) (q := 33) dX4_moveOriginInto_31 (by decide) rfl ?_
      refine E_icmp_geN (tgt := 60) (q := 36) dX4_moveOriginInto_33 (by decide) rfl (by omega) (by omega) (fun h33 => ?_) (fun h33 => ?_)
      · skip
        refine E_aload0 (q := 61) dX4_moveOriginInto_60 rfl ?_
        refine G_X4_origins (q := 64) h.1 fl_X4_27 dX4_moveOriginInto_61 rfl ?_
        refine E_iload1 (q := 65) dX4_moveOriginInto_64 rfl ?_
        refine E_aload0 (q := 66) dX4_moveOriginInto_65 rfl ?_
        refine G_X4_origins (q := 69) h.1 fl_X4_27 dX4_moveOriginInto_66 rfl ?_
        refine E_iload3 (q := 70) dX4_moveOriginInto_69 rfl ?_
        refine E_ialdN (q := 71) h.1.origins (by omega) (by decide) dX4_moveOriginInto_70 rfl ?_
        refine V_int (show _ = M (b + 6) (home A s) by rw [row2_ne (by omega)]) ?_
        refine E_iastN (q := 72) h.1.origins (by omega) (by decide) dX4_moveOriginInto_71 rfl ?_
        refine E_aload0 (q := 73) dX4_moveOriginInto_72 rfl ?_
        refine G_X4_origins (q := 76) h.1 fl_X4_27 dX4_moveOriginInto_73 rfl ?_
        refine E_iload3 (q := 77) dX4_moveOriginInto_76 rfl ?_
        refine E_iload2 (q := 78) dX4_moveOriginInto_77 rfl ?_
        refine E_iastN (q := 79) h.1.origins (by omega) (by decide) dX4_moveOriginInto_78 rfl ?_
        refine E_iload4 (q := 81) dX4_moveOriginInto_79 rfl ?_
        refine C_S1I (q := 84) lk_X4_96 (sp_J6_bitCount_0f7a4 (by omega)) dX4_moveOriginInto_81 (by decide) (Nat.le_of_ble_eq_true rfl) rfl ?_
        refine V_int (congrArg nI hpop) ?_
        exact E_ireturn rfl rfl dX4_moveOriginInto_84 ⟨_, rfl, rfl, _, rfl, h.2.1.pro h.2.2 hv ht ho (fun c h1 h2 h3 h4 => by rw [upd2_row (by omega), upd2_row (by omega), row2_ne (by omega)]) (fun j => by rw [upd2_row (by omega), upd2_row (by omega), row2_same]) (fun j => upd_org), fun c hc => by rw [upd2_row (by omega), upd2_row (by omega), row2_ne (by omega)]⟩
      · skip
        exact absurd h33 (by omega)
    · intro i hi ih
      refine E_iload5 (q := 31) dX4_moveOriginInto_29 rfl ?_
      refine E_bipush (v := nI 16) (q := 33) dX4_moveOriginInto_31 (by decide) rfl ?_
      refine E_icmp_geN (tgt := 60) (q := 36) dX4_moveOriginInto_33 (by decide) rfl (by omega) (by omega) (fun h33 => ?_) (fun h33 => ?_)
      · skip
        exact absurd h33 (by omega)
      · skip
        refine E_iload4 (q := 38) dX4_moveOriginInto_36 rfl ?_
        refine E_iload5 (q := 40) dX4_moveOriginInto_38 rfl ?_
        refine C_SN2I (q := 43) lk_X4_72 (sp_X5_contains (by omega) (by omega)) dX4_moveOriginInto_40 (by decide) (Nat.le_of_ble_eq_true rfl) rfl ?_
        refine E_if_eq (tgt := 54) (q := 46) dX4_moveOriginInto_43 (by decide) rfl (fun h43 => ?_) (fun h43 => ?_)
        · skip
          refine V_ws (congrArg (fun g => wl D ad (row2 M (b + 2) g)) (hmF_off (zI_0 h43))) ?_
          refine E_iinc5 (q := 57) dX4_moveOriginInto_54 (nI_inc _) rfl rfl ?_
          refine E_goto (q := 29) dX4_moveOriginInto_57 (by decide) ?_
          exact ih
        · skip
          refine E_aload0 (q := 47) dX4_moveOriginInto_46 rfl ?_
          refine G_X4_homes (q := 50) h.1 fl_X4_15 dX4_moveOriginInto_47 rfl ?_
          refine E_iload5 (q := 52) dX4_moveOriginInto_50 rfl ?_
          refine E_iload1 (q := 53) dX4_moveOriginInto_52 rfl ?_
          refine E_iastN (q := 54) h.1.homes (by omega) (by decide) dX4_moveOriginInto_53 rfl ?_
          refine V_ws (congrArg (wl D ad) row2_upd) ?_
          refine V_ws (congrArg (fun g => wl D ad (row2 M (b + 2) g)) (hmF_on (zI_n h43))) ?_
          refine E_iinc5 (q := 57) dX4_moveOriginInto_54 (nI_inc _) rfl rfl ?_
          refine E_goto (q := 29) dX4_moveOriginInto_57 (by decide) ?_
          exact ih
  rw [hmF_0, row2_self] at hmain
  refine E_aload0 (q := 1) dX4_moveOriginInto_0 rfl ?_
  refine G_X4_origins (q := 4) h.1 fl_X4_27 dX4_moveOriginInto_1 rfl ?_
  refine E_iload1 (q := 5) dX4_moveOriginInto_4 rfl ?_
  refine E_ialdN (q := 6) h.1.origins (by omega) (by decide) dX4_moveOriginInto_5 rfl ?_
  refine V_int (show _ = nI s by rw [(h.2.1.2.2.2.1 v hv ht).2.1, ho, oI_s]) ?_
  refine E_istore2 (q := 7) dX4_moveOriginInto_6 rfl rfl ?_
  refine E_aload0 (q := 8) dX4_moveOriginInto_7 rfl ?_
  refine G_X4_homes (q := 11) h.1 fl_X4_15 dX4_moveOriginInto_8 rfl ?_
  refine E_iload2 (q := 12) dX4_moveOriginInto_11 rfl ?_
  refine E_ialdN (q := 13) h.1.homes (by omega) (by decide) dX4_moveOriginInto_12 rfl ?_
  refine V_int (h.2.1.2.2.1 s hs hts).1 ?_
  refine E_istore3 (q := 14) dX4_moveOriginInto_13 rfl rfl ?_
  refine E_aload0 (q := 15) dX4_moveOriginInto_14 rfl ?_
  refine E_iload2 (q := 16) dX4_moveOriginInto_15 rfl ?_
  refine C_V1I (q := 19) lk_X4_93 (sp_X4_rowAhead h (by omega) hts) (rc_X4 h.1) dX4_moveOriginInto_16 (by decide) (Nat.le_of_ble_eq_true rfl) rfl ?_
  refine E_iload2 (q := 20) dX4_moveOriginInto_19 rfl ?_
  refine C_SN1I (q := 23) lk_X4_84 (sp_X5_bit (by omega)) dX4_moveOriginInto_20 (by decide) (Nat.le_of_ble_eq_true rfl) rfl ?_
  refine E_iorN (q := 24) dX4_moveOriginInto_23 (nI_or _ _) rfl ?_
  refine E_istore4 (q := 26) dX4_moveOriginInto_24 rfl rfl ?_
  refine E_iconst (v := nI 0) (q := 27) dX4_moveOriginInto_26 (by decide) rfl ?_
  refine E_istore5 (q := 29) dX4_moveOriginInto_27 rfl rfl ?_
  exact hmain
end CLS