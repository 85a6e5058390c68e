

/-! THE REFERENCE makes volumes, snapshots, blocks -/
section MODEL
variable {D : va_G} {ad : Nat → Nat} {M : Mem} {wx : Nat} {ws : va_W} {A : AS} {f : Nat → Int32}
theorem nI_ge0 {s : Nat} (h : s < 2 ^ 31) : (0 : Int32) ≤ nI s := Int32.not_lt.mp (nI_pos h)
def volG (f : Nat → Int32) (v : Nat) (o n : Int32) : Nat → Int32 := upd (upd (upd (upd (upd f (5 + 21 * v + 0) (nI 1)) (5 + 21 * v + 1) o) (5 + 21 * v + 2) (nI 0)) (5 + 21 * v + 3) n) (5 + 21 * v + 4) (nI 0)
theorem volG_ne {v j : Nat} {o n : Int32} (h : ¬ (5 + 21 * v ≤ j ∧ j < 5 + 21 * v + 5)) : volG f v o n j = f j := by
  unfold volG
  rw [upd_ne (by omega), upd_ne (by omega), upd_ne (by omega), upd_ne (by omega), upd_ne (by omega)]
theorem sp_X6_makeVolN {nm : Nat} (hw : WX M wx) (hR : RowIs f A) (hA : WF A) (hv : aV A < 6) : Spec D 3 yX6_makeVolume cfX6_makeVolume [.ref (ad 157), .int (-1), .int (nI (nm))] (wl D ad (row2 M wx f)) 0 0 (PX (fun x w => x = nI (aV A) ∧ RW D ad M wx (mkVol A 0 nm) w)) := by
  refine Spec.of (by decide) rfl (Nat.le_of_ble_eq_true rfl) rfl ?_
  have hr := hw.all
  have hs := hw.2
  have hmain : V D cfX6_makeVolume (rmOf 3 0 0) (QM D (PX (fun x w => x = nI (aV A) ∧ RW D ad M wx (mkVol A 0 nm) w)) 0 0) 0 0 67 [some (.ref (ad 157)), some (.int (-1)), some (.int (nI (nm))), some (.int (nI (aV A))), some (.int (nI (0)))] [] (wl D ad (row2 M wx (layF (volG f (aV A) (nI 0) (nI nm)) (16 + aV A) (fun _ => nI 0) (fun _ => nI 0) 0))) := by
    refine upto0 (n := 12) (P := fun k => V D cfX6_makeVolume (rmOf 3 0 0) (QM D (PX (fun x w => x = nI (aV A) ∧ RW D ad M wx (mkVol A 0 nm) w)) 0 0) 0 0 67 [some (.ref (ad 157)), some (.int (-1)), some (.int (nI (nm))), some (.int (nI (aV A))), some (.int (nI (k)))] [] (wl D ad (row2 M wx (layF (volG f (aV A) (nI 0) (nI nm)) (16 + aV A) (fun _ => nI 0) (fun _ => nI 0) k)))) ?_ ?_
    · skip
      refine E_iload4 (q := 69) dX6_makeVolume_67 rfl ?_
      refine E_bipush (v := nI 12) (q := 71) dX6_makeVolume_69 (by decide) rfl ?_
      refine E_icmp_geN (tgt := 120) (q := 74) dX6_makeVolume_71 (by decide) rfl (by omega) (by omega) (fun h71 => ?_) (fun h71 => ?_)
      · skip
        refine E_aload0 (q := 121) dX6_makeVolume_120 rfl ?_
        refine G_X6_w (q := 124) (x := wx) (hr _) fl_X6_16 dX6_makeVolume_121 rfl ?_
        refine E_iconst (v := nI 3) (q := 125) dX6_makeVolume_124 (by decide) rfl ?_
        refine E_dup2 (q := 126) dX6_makeVolume_125 rfl rfl rfl ?_
        refine E_ialdN (q := 127) hs (by omega) (by decide) dX6_makeVolume_126 rfl ?_
        refine V_int (congrFun row2_same _) ?_
        refine V_int (show _ = nI (aV A) by rw [layF_ne (by omega) (by omega), volG_ne (by omega), hR.1.2.2.2.1]) ?_
        refine E_iconst (v := nI 1) (q := 128) dX6_makeVolume_127 (by decide) rfl ?_
        refine E_iaddN (q := 129) dX6_makeVolume_128 rfl ?_
        refine E_iastN (q := 130) hs (by omega) (by decide) dX6_makeVolume_129 rfl ?_
        refine V_ws (congrArg (wl D ad) row2_upd) ?_
        refine E_iload3 (q := 131) dX6_makeVolume_130 rfl ?_
        exact E_ireturn rfl rfl dX6_makeVolume_131 ⟨_, rfl, rfl, _, hR.vol (n := nm) (o := 0) (bs := fun _ => nI 0) (us := fun _ => nI 0) hA hv (fun _ _ => rfl) (fun _ _ => rfl), rfl⟩
      · skip
        exact absurd h71 (by omega)
    · intro k hk ih
      refine E_iload4 (q := 69) dX6_makeVolume_67 rfl ?_
      refine E_bipush (v := nI 12) (q := 71) dX6_makeVolume_69 (by decide) rfl ?_
      refine E_icmp_geN (tgt := 120) (q := 74) dX6_makeVolume_71 (by decide) rfl (by omega) (by omega) (fun h71 => ?_) (fun h71 => ?_)
      · skip
        exact absurd h71 (by omega)
      · skip
        refine E_aload0 (q := 75) dX6_makeVolume_74 rfl ?_
        refine E_bipush (v := nI 16) (q := 77) dX6_makeVolume_75 (by decide) rfl ?_
        refine E_iload3 (q := 78) dX6_makeVolume_77 rfl ?_
        refine E_iaddN (q := 79) dX6_makeVolume_78 rfl ?_
        refine E_iload4 (q := 81) dX6_makeVolume_79 rfl ?_
        refine E_iload1 (q := 82) dX6_makeVolume_81 rfl ?_
        refine E_if_ge (tgt := 89) (q := 85) dX6_makeVolume_82 (by decide) rfl (fun h82 => ?_) (fun h82 => ?_)
        · skip
          exact absurd h82 (by decide)
        · skip
          refine E_iconst (v := nI 0) (q := 86) dX6_makeVolume_85 (by decide) rfl ?_
          refine E_goto (q := 96) dX6_makeVolume_86 (by decide) ?_
          refine E_iload1 (q := 97) dX6_makeVolume_96 rfl ?_
          refine E_if_ge (tgt := 104) (q := 100) dX6_makeVolume_97 (by decide) rfl (fun h97 => ?_) (fun h97 => ?_)
          · skip
            exact absurd h97 (by decide)
          · skip
            refine E_iconst (v := nI 0) (q := 101) dX6_makeVolume_100 (by decide) rfl ?_
            refine E_goto (q := 111) dX6_makeVolume_101 (by decide) ?_
            refine C_V4V (q := 114) lk_X6_83 (sp_X6_layR hw (by omega) (by omega)) rc_X6 dX6_makeVolume_111 (by decide) (Nat.le_of_ble_eq_true rfl) rfl ?_
            refine V_ws (congrArg (fun g => wl D ad (row2 M wx g)) (layF_s (f := volG f (aV A) (nI 0) (nI nm)) (bs := fun _ => nI 0) (us := fun _ => nI 0) (by omega) hk)) ?_
            refine E_iinc4 (q := 117) dX6_makeVolume_114 (nI_inc _) rfl rfl ?_
            refine E_goto (q := 67) dX6_makeVolume_117 (by decide) ?_
            exact ih
  rw [layF_0] at hmain
  refine E_aload0 (q := 1) dX6_makeVolume_0 rfl ?_
  refine G_X6_w (q := 4) (x := wx) (hr _) fl_X6_16 dX6_makeVolume_1 rfl ?_
  refine E_iconst (v := nI 3) (q := 5) dX6_makeVolume_4 (by decide) rfl ?_
  refine E_ialdN (q := 6) hs (by omega) (by decide) dX6_makeVolume_5 rfl ?_
  refine V_int (congrFun row2_same _) ?_
  refine V_int hR.1.2.2.2.1 ?_
  refine E_istore3 (q := 7) dX6_makeVolume_6 rfl rfl ?_
  refine E_aload0 (q := 8) dX6_makeVolume_7 rfl ?_
  refine G_X6_w (q := 11) (x := wx) (hr _) fl_X6_16 dX6_makeVolume_8 rfl ?_
  refine E_iload3 (q := 12) dX6_makeVolume_11 rfl ?_
  refine E_iconst (v := nI 0) (q := 13) dX6_makeVolume_12 (by decide) rfl ?_
  refine C_S2I (q := 16) lk_X6_53 (sp_X6_ofVolume) dX6_makeVolume_13 (by decide) (Nat.le_of_ble_eq_true rfl) rfl ?_
  refine E_iconst (v := nI 1) (q := 17) dX6_makeVolume_16 (by decide) rfl ?_
  refine E_iastN (q := 18) hs (by omega) (by decide) dX6_makeVolume_17 rfl ?_
  refine V_ws (congrArg (wl D ad) row2_upd) ?_
  refine E_aload0 (q := 19) dX6_makeVolume_18 rfl ?_
  refine G_X6_w (q := 22) (x := wx) (hr _) fl_X6_16 dX6_makeVolume_19 rfl ?_
  refine E_iload3 (q := 23) dX6_makeVolume_22 rfl ?_
  refine E_iconst (v := nI 1) (q := 24) dX6_makeVolume_23 (by decide) rfl ?_
  refine C_S2I (q := 27) lk_X6_53 (sp_X6_ofVolume) dX6_makeVolume_24 (by decide) (Nat.le_of_ble_eq_true rfl) rfl ?_
  refine E_iload1 (q := 28) dX6_makeVolume_27 rfl ?_
  refine E_iconst (v := nI 1) (q := 29) dX6_makeVolume_28 (by decide) rfl ?_
  refine E_iadd (q := 30) dX6_makeVolume_29 rfl ?_
  refine V_int (show (-1 : Int32) + nI 1 = nI 0 by decide) ?_
  refine E_iastN (q := 31) hs (by omega) (by decide) dX6_makeVolume_30 rfl ?_
  refine V_ws (congrArg (wl D ad) row2_upd) ?_
  refine E_aload0 (q := 32) dX6_makeVolume_31 rfl ?_
  refine G_X6_w (q := 35) (x := wx) (hr _) fl_X6_16 dX6_makeVolume_32 rfl ?_
  refine E_iload3 (q := 36) dX6_makeVolume_35 rfl ?_
  refine E_iconst (v := nI 2) (q := 37) dX6_makeVolume_36 (by decide) rfl ?_
  refine C_S2I (q := 40) lk_X6_53 (sp_X6_ofVolume) dX6_makeVolume_37 (by decide) (Nat.le_of_ble_eq_true rfl) rfl ?_
  refine E_iconst (v := nI 0) (q := 41) dX6_makeVolume_40 (by decide) rfl ?_
  refine E_iastN (q := 42) hs (by omega) (by decide) dX6_makeVolume_41 rfl ?_
  refine V_ws (congrArg (wl D ad) row2_upd) ?_
  refine E_aload0 (q := 43) dX6_makeVolume_42 rfl ?_
  refine G_X6_w (q := 46) (x := wx) (hr _) fl_X6_16 dX6_makeVolume_43 rfl ?_
  refine E_iload3 (q := 47) dX6_makeVolume_46 rfl ?_
  refine E_iconst (v := nI 3) (q := 48) dX6_makeVolume_47 (by decide) rfl ?_
  refine C_S2I (q := 51) lk_X6_53 (sp_X6_ofVolume) dX6_makeVolume_48 (by decide) (Nat.le_of_ble_eq_true rfl) rfl ?_
  refine E_iload2 (q := 52) dX6_makeVolume_51 rfl ?_
  refine E_iastN (q := 53) hs (by omega) (by decide) dX6_makeVolume_52 rfl ?_
  refine V_ws (congrArg (wl D ad) row2_upd) ?_
  refine E_aload0 (q := 54) dX6_makeVolume_53 rfl ?_
  refine G_X6_w (q := 57) (x := wx) (hr _) fl_X6_16 dX6_makeVolume_54 rfl ?_
  refine E_iload3 (q := 58) dX6_makeVolume_57 rfl ?_
  refine E_iconst (v := nI 4) (q := 59) dX6_makeVolume_58 (by decide) rfl ?_
  refine C_S2I (q := 62) lk_X6_53 (sp_X6_ofVolume) dX6_makeVolume_59 (by decide) (Nat.le_of_ble_eq_true rfl) rfl ?_
  refine E_iconst (v := nI 0) (q := 63) dX6_makeVolume_62 (by decide) rfl ?_
  refine E_iastN (q := 64) hs (by omega) (by decide) dX6_makeVolume_63 rfl ?_
  refine V_ws (congrArg (wl D ad) row2_upd) ?_
  refine E_iconst (v := nI 0) (q := 65) dX6_makeVolume_64 (by decide) rfl ?_
  refine E_istore4 (q := 67) dX6_makeVolume_65 rfl rfl ?_
  exact hmain
theorem sp_X6_makeVolS {nm s : Nat} (hw : WX M wx) (hR : RowIs f A) (hA : WF A) (hv : aV A < 6) (hs16 : s < 16) : Spec D 3 yX6_makeVolume cfX6_makeVolume [.ref (ad 157), .int (nI (s)), .int (nI (nm))] (wl D ad (row2 M wx f)) 0 0 (PX (fun x w => x = nI (aV A) ∧ RW D ad M wx (mkVol A (s + 1) nm) w)) := by
  refine Spec.of (by decide) rfl (Nat.le_of_ble_eq_true rfl) rfl ?_
  have hr := hw.all
  have hs := hw.2
  have hmain : V D cfX6_makeVolume (rmOf 3 0 0) (QM D (PX (fun x w => x = nI (aV A) ∧ RW D ad M wx (mkVol A (s + 1) nm) w)) 0 0) 0 0 67 [some (.ref (ad 157)), some (.int (nI (s))), some (.int (nI (nm))), some (.int (nI (aV A))), some (.int (nI (0)))] [] (wl D ad (row2 M wx (layF (volG f (aV A) (nI (s + 1)) (nI nm)) (16 + aV A) (fun a => f (211 + 12 * s + a)) (fun a => f (475 + 12 * s + a)) 0))) := by
    refine upto0 (n := 12) (P := fun k => V D cfX6_makeVolume (rmOf 3 0 0) (QM D (PX (fun x w => x = nI (aV A) ∧ RW D ad M wx (mkVol A (s + 1) nm) w)) 0 0) 0 0 67 [some (.ref (ad 157)), some (.int (nI (s))), some (.int (nI (nm))), some (.int (nI (aV A))), some (.int (nI (k)))] [] (wl D ad (row2 M wx (layF (volG f (aV A) (nI (s + 1)) (nI nm)) (16 + aV A) (fun a => f (211 + 12 * s + a)) (fun a => f (475 + 12 * s + a)) k)))) ?_ ?_
    · skip
      refine E_iload4 (q := 69) dX6_makeVolume_67 rfl ?_
      refine E_bipush (v := nI 12) (q := 71) dX6_makeVolume_69 (by decide) rfl ?_
      refine E_icmp_geN (tgt := 120) (q := 74) dX6_makeVolume_71 (by decide) rfl (by omega) (by omega) (fun h71 => ?_) (fun h71 => ?_)
      · skip
        refine E_aload0 (q := 121) dX6_makeVolume_120 rfl ?_
        refine G_X6_w (q := 124) (x := wx) (hr _) fl_X6_16 dX6_makeVolume_121 rfl ?_
        refine E_iconst (v := nI 3) (q := 125) dX6_makeVolume_124 (by decide) rfl ?_
        refine E_dup2 (q := 126) dX6_makeVolume_125 rfl rfl rfl ?_
        refine E_ialdN (q := 127) hs (by omega) (by decide) dX6_makeVolume_126 rfl ?_
        refine V_int (congrFun row2_same _) ?_
        refine V_int (show _ = nI (aV A) by rw [layF_ne (by omega) (by omega), volG_ne (by omega), hR.1.2.2.2.1]) ?_
        refine E_iconst (v := nI 1) (q := 128) dX6_makeVolume_127 (by decide) rfl ?_
        refine E_iaddN (q := 129) dX6_makeVolume_128 rfl ?_
        refine E_iastN (q := 130) hs (by omega) (by decide) dX6_makeVolume_129 rfl ?_
        refine V_ws (congrArg (wl D ad) row2_upd) ?_
        refine E_iload3 (q := 131) dX6_makeVolume_130 rfl ?_
        exact E_ireturn rfl rfl dX6_makeVolume_131 ⟨_, rfl, rfl, _, hR.vol (n := nm) (o := s + 1) (bs := fun a => f (211 + 12 * s + a)) (us := fun a => f (475 + 12 * s + a)) hA hv (fun a ha => hR.bth (by omega) ha) (fun a ha => hR.unt (by omega) ha), rfl⟩
      · skip
        exact absurd h71 (by omega)
    · intro k hk ih
      refine E_iload4 (q := 69) dX6_makeVolume_67 rfl ?_
      refine E_bipush (v := nI 12) (q := 71) dX6_makeVolume_69 (by decide) rfl ?_
      refine E_icmp_geN (tgt := 120) (q := 74) dX6_makeVolume_71 (by decide) rfl (by omega) (by omega) (fun h71 => ?_) (fun h71 => ?_)
      · skip
        exact absurd h71 (by omega)
      · skip
        refine E_aload0 (q := 75) dX6_makeVolume_74 rfl ?_
        refine E_bipush (v := nI 16) (q := 77) dX6_makeVolume_75 (by decide) rfl ?_
        refine E_iload3 (q := 78) dX6_makeVolume_77 rfl ?_
        refine E_iaddN (q := 79) dX6_makeVolume_78 rfl ?_
        refine E_iload4 (q := 81) dX6_makeVolume_79 rfl ?_
        refine E_iload1 (q := 82) dX6_makeVolume_81 rfl ?_
        refine E_if_ge (tgt := 89) (q := 85) dX6_makeVolume_82 (by decide) rfl (fun h82 => ?_) (fun h82 => ?_)
        · skip
          refine E_aload0 (q := 90) dX6_makeVolume_89 rfl ?_
          refine E_iload1 (q := 91) dX6_makeVolume_90 rfl ?_
          refine E_iload4 (q := 93) dX6_makeVolume_91 rfl ?_
          refine C_V2I (q := 96) lk_X6_77 (sp_X6_birthR hw (by omega) (by omega)) rc_X6 dX6_makeVolume_93 (by decide) (Nat.le_of_ble_eq_true rfl) rfl ?_
          refine V_int (show _ = f (211 + 12 * s + k) by rw [layF_ne (by omega) (by omega), volG_ne (by omega)]) ?_
          refine E_iload1 (q := 97) dX6_makeVolume_96 rfl ?_
          refine E_if_ge (tgt := 104) (q := 100) dX6_makeVolume_97 (by decide) rfl (fun h97 => ?_) (fun h97 => ?_)
          · skip
            refine E_aload0 (q := 105) dX6_makeVolume_104 rfl ?_
            refine E_iload1 (q := 106) dX6_makeVolume_105 rfl ?_
            refine E_iload4 (q := 108) dX6_makeVolume_106 rfl ?_
            refine C_V2I (q := 111) lk_X6_80 (sp_X6_unitsR hw (by omega) (by omega)) rc_X6 dX6_makeVolume_108 (by decide) (Nat.le_of_ble_eq_true rfl) rfl ?_
            refine V_int (show _ = f (475 + 12 * s + k) by rw [layF_ne (by omega) (by omega), volG_ne (by omega)]) ?_
            refine C_V4V (q := 114) lk_X6_83 (sp_X6_layR hw (by omega) (by omega)) rc_X6 dX6_makeVolume_111 (by decide) (Nat.le_of_ble_eq_true rfl) rfl ?_
            refine V_ws (congrArg (fun g => wl D ad (row2 M wx g)) (layF_s (f := volG f (aV A) (nI (s + 1)) (nI nm)) (bs := fun a => f (211 + 12 * s + a)) (us := fun a => f (475 + 12 * s + a)) (by omega) hk)) ?_
            refine E_iinc4 (q := 117) dX6_makeVolume_114 (nI_inc _) rfl rfl ?_
            refine E_goto (q := 67) dX6_makeVolume_117 (by decide) ?_
            exact ih
          · skip
            exact absurd (nI_ge0 (by omega)) h97
        · skip
          exact absurd (nI_ge0 (by omega)) h82
  rw [layF_0] at hmain
  refine E_aload0 (q := 1) dX6_makeVolume_0 rfl ?_
  refine G_X6_w (q := 4) (x := wx) (hr _) fl_X6_16 dX6_makeVolume_1 rfl ?_
  refine E_iconst (v := nI 3) (q := 5) dX6_makeVolume_4 (by decide) rfl ?_
  refine E_ialdN (q := 6) hs (by omega) (by decide) dX6_makeVolume_5 rfl ?_
  refine V_int (congrFun row2_same _) ?_
  refine V_int hR.1.2.2.2.1 ?_
  refine E_istore3 (q := 7) dX6_makeVolume_6 rfl rfl ?_
  refine E_aload0 (q := 8) dX6_makeVolume_7 rfl ?_
  refine G_X6_w (q := 11) (x := wx) (hr _) fl_X6_16 dX6_makeVolume_8 rfl ?_
  refine E_iload3 (q := 12) dX6_makeVolume_11 rfl ?_
  refine E_iconst (v := nI 0) (q := 13) dX6_makeVolume_12 (by decide) rfl ?_
  refine C_S2I (q := 16) lk_X6_53 (sp_X6_ofVolume) dX6_makeVolume_13 (by decide) (Nat.le_of_ble_eq_true rfl) rfl ?_
  refine E_iconst (v := nI 1) (q := 17) dX6_makeVolume_16 (by decide) rfl ?_
  refine E_iastN (q := 18) hs (by omega) (by decide) dX6_makeVolume_17 rfl ?_
  refine V_ws (congrArg (wl D ad) row2_upd) ?_
  refine E_aload0 (q := 19) dX6_makeVolume_18 rfl ?_
  refine G_X6_w (q := 22) (x := wx) (hr _) fl_X6_16 dX6_makeVolume_19 rfl ?_
  refine E_iload3 (q := 23) dX6_makeVolume_22 rfl ?_
  refine E_iconst (v := nI 1) (q := 24) dX6_makeVolume_23 (by decide) rfl ?_
  refine C_S2I (q := 27) lk_X6_53 (sp_X6_ofVolume) dX6_makeVolume_24 (by decide) (Nat.le_of_ble_eq_true rfl) rfl ?_
  refine E_iload1 (q := 28) dX6_makeVolume_27 rfl ?_
  refine E_iconst (v := nI 1) (q := 29) dX6_makeVolume_28 (by decide) rfl ?_
  refine E_iaddN (q := 30) dX6_makeVolume_29 rfl ?_
  refine E_iastN (q := 31) hs (by omega) (by decide) dX6_makeVolume_30 rfl ?_
  refine V_ws (congrArg (wl D ad) row2_upd) ?_
  refine E_aload0 (q := 32) dX6_makeVolume_31 rfl ?_
  refine G_X6_w (q := 35) (x := wx) (hr _) fl_X6_16 dX6_makeVolume_32 rfl ?_
  refine E_iload3 (q := 36) dX6_makeVolume_35 rfl ?_
  refine E_iconst (v := nI 2) (q := 37) dX6_makeVolume_36 (by decide) rfl ?_
  refine C_S2I (q := 40) lk_X6_53 (sp_X6_ofVolume) dX6_makeVolume_37 (by decide) (Nat.le_of_ble_eq_true rfl) rfl ?_
  refine E_iconst (v := nI 0) (q := 41) dX6_makeVolume_40 (by decide) rfl ?_
  refine E_iastN (q := 42) hs (by omega) (by decide) dX6_makeVolume_41 rfl ?_
  refine V_ws (congrArg (wl D ad) row2_upd) ?_
  refine E_aload0 (q := 43) dX6_makeVolume_42 rfl ?_
  refine G_X6_w (q := 46) (x := wx) (hr _) fl_X6_16 dX6_makeVolume_43 rfl ?_
  refine E_iload3 (q := 47) dX6_makeVolume_46 rfl ?_
  refine E_iconst (v := nI 3) (q := 48) dX6_makeVolume_47 (by decide) rfl ?_
  refine C_S2I (q := 51) lk_X6_53 (sp_X6_ofVolume) dX6_makeVolume_48 (by decide) (Nat.le_of_ble_eq_true rfl) rfl ?_
  refine E_iload2 (q := 52) dX6_makeVolume_51 rfl ?_
  refine E_iastN (q := 53) hs (by omega) (by decide) dX6_makeVolume_52 rfl ?_
  refine V_ws (congrArg (wl D ad) row2_upd) ?_
  refine E_aload0 (q := 54) dX6_makeVolume_53 rfl ?_
  refine G_X6_w (q := 57) (x := wx) (hr _) fl_X6_16 dX6_makeVolume_54 rfl ?_
  refine E_iload3 (q := 58) dX6_makeVolume_57 rfl ?_
  refine E_iconst (v := nI 4) (q := 59) dX6_makeVolume_58 (by decide) rfl ?_
  refine C_S2I (q := 62) lk_X6_53 (sp_X6_ofVolume) dX6_makeVolume_59 (by decide) (Nat.le_of_ble_eq_true rfl) rfl ?_
  refine E_iconst (v := nI 0) (q := 63) dX6_makeVolume_62 (by decide) rfl ?_
  refine E_iastN (q := 64) hs (by omega) (by decide) dX6_makeVolume_63 rfl ?_
  refine V_ws (congrArg (wl D ad) row2_upd) ?_
  refine E_iconst (v := nI 0) (q := 65) dX6_makeVolume_64 (by decide) rfl ?_
  refine E_istore4 (q := 67) dX6_makeVolume_65 rfl rfl ?_
  exact hmain
end MODEL
