
/-! THE REFERENCE writes a volume, and tells its letters -/
section MODEL
variable {D : va_G} {ad : Nat → Nat} {M : Mem} {ws : va_W} {A : AS} {T : List Nat} {v m k x c : Nat}
theorem take_snT {L : List Nat} {k s : Nat} (h : L[k]? = some s) : snT A (L.take (k + 1)) = (snT A (L.take k) ++ [32]) ++ nmT (snm A s) := by
  rw [List.take_succ, h, Option.toList_some, snT_app, List.append_assoc]
  rfl
theorem sp_X6_writeOut (h : RI M 158 A) (hv : v < 6) (ht : th A (16 + v)) : Spec D 14 yX6_writeOut cfX6_writeOut [.ref (ad 157), .int (nI (v))] (wl D ad M) 0 0 (PX (fun y w => y = nI (outT A v).length ∧ ∃ M', w = wl D ad M' ∧ (OutR M' (outT A v) ∧ (∀ c, c ≠ 157 → c ≠ 164 → M' c = M c) ∧ M' 157 4 = nI 0 ∧ ∀ j, j ≠ 4 → j ≠ 23 → M' 157 j = M 157 j))) := by
  refine Spec.of (by decide) rfl (Nat.le_of_ble_eq_true rfl) rfl ?_
  have hA := h.2.2
  have hvn := (h.2.2.1.2.2.2.1 v hv ht).2.2.2
  have hrl := rowL_len A v
  have hsl := snT_len A (rowL A v)
  have hhd := hdT_len (A := A) (v := v)
  have hvn6 := nmT_len (vnm A v)
  have h1 : RI (upd2 (upd2 M 157 4 (nI 0)) 157 23 (nI 0)) 158 A := (h.fl).u (by decide)
  have hst : OutR (upd2 (upd2 M 157 4 (nI 0)) 157 23 (nI 0)) [] := ⟨upd2_same, fun i c hi => by simp at hi⟩
  have hadr : ∀ M2, OutR M2 ((hdT A v ++ snT A (rowL A v)) ++ adT A v 0) → FrO (upd2 (upd2 M 157 4 (nI 0)) 157 23 (nI 0)) M2 → V D cfX6_writeOut (rmOf 14 0 0) (QM D (PX (fun y w => y = nI (outT A v).length ∧ ∃ M', w = wl D ad M' ∧ (OutR M' (outT A v) ∧ (∀ c, c ≠ 157 → c ≠ 164 → M' c = M c) ∧ M' 157 4 = nI 0 ∧ ∀ j, j ≠ 4 → j ≠ 23 → M' 157 j = M 157 j))) 0 0) 0 0 78 [some (.ref (ad 157)), some (.int (nI (v))), some (.int (nI (0)))] [] (wl D ad M2) := by
    refine upto0 (n := 12) (P := fun a => ∀ M2, OutR M2 ((hdT A v ++ snT A (rowL A v)) ++ adT A v a) → FrO (upd2 (upd2 M 157 4 (nI 0)) 157 23 (nI 0)) M2 → V D cfX6_writeOut (rmOf 14 0 0) (QM D (PX (fun y w => y = nI (outT A v).length ∧ ∃ M', w = wl D ad M' ∧ (OutR M' (outT A v) ∧ (∀ c, c ≠ 157 → c ≠ 164 → M' c = M c) ∧ M' 157 4 = nI 0 ∧ ∀ j, j ≠ 4 → j ≠ 23 → M' 157 j = M 157 j))) 0 0) 0 0 78 [some (.ref (ad 157)), some (.int (nI (v))), some (.int (nI (a)))] [] (wl D ad M2)) ?_ ?_
    · intro M2 o2 f2
      have o3 : OutR M2 (outT A v) := o2
      refine E_iload2 (q := 79) dX6_writeOut_78 rfl ?_
      refine E_bipush (v := nI 12) (q := 81) dX6_writeOut_79 (by decide) rfl ?_
      refine E_icmp_geN (tgt := 130) (q := 84) dX6_writeOut_81 (by decide) rfl (by omega) (by omega) (fun h81 => ?_) (fun h81 => ?_)
      · skip
        refine E_aload0 (q := 131) dX6_writeOut_130 rfl ?_
        refine G_X6_outputSize (q := 134) fl_X6_323 dX6_writeOut_131 rfl ?_
        refine V_int o3.1 ?_
        exact E_ireturn rfl rfl dX6_writeOut_134 ⟨_, rfl, rfl, M2, rfl, o3, fun c a d => by rw [f2.1 c a d, upd2_row a, upd2_row a], by rw [f2.2 4 (by decide), upd2_ne (by decide)]; exact upd2_same, fun j a d => by rw [f2.2 j d, upd2_ne (fun z => d z.2), upd2_ne (fun z => a z.2)]⟩
      · skip
        exact absurd h81 (by omega)
    · intro a ha ih M2 o2 f2
      have hI2 := f2.ri h1 (by decide)
      have hal := adT_len hA (v := v) a
      have hbl := bT_len hA (v := v) (a := a)
      have hl1 : ((hdT A v ++ snT A (rowL A v)) ++ adT A v a).length + 9 ≤ 300 := by rw [List.length_append, List.length_append]; omega
      have hap : ∀ t, ((hdT A v ++ snT A (rowL A v)) ++ adT A v a ++ [32]) ++ t = (hdT A v ++ snT A (rowL A v)) ++ (adT A v a ++ (32 :: t)) := fun t => by simp
      have hbt := h1.bt (16 + v) a
      by_cases c : bAt A.2 (16 + v) a = 0
      · have hb : adT A v (a + 1) = adT A v a ++ (32 :: [45]) := by rw [adT, bT, if_pos c]
        rw [hb, ← hap] at ih
        refine E_iload2 (q := 79) dX6_writeOut_78 rfl ?_
        refine E_bipush (v := nI 12) (q := 81) dX6_writeOut_79 (by decide) rfl ?_
        refine E_icmp_geN (tgt := 130) (q := 84) dX6_writeOut_81 (by decide) rfl (by omega) (by omega) (fun h81 => ?_) (fun h81 => ?_)
        · skip
          exact absurd h81 (by omega)
        · skip
          refine E_aload0 (q := 85) dX6_writeOut_84 rfl ?_
          refine E_bipush (v := nI 32) (q := 87) dX6_writeOut_85 (by decide) rfl ?_
          refine C_V1Y (q := 90) lk_X6_326 (sp_X6_lays (c := 32) o2 (by omega)) rc_X6 dX6_writeOut_87 (by decide) (Nat.le_of_ble_eq_true rfl) rfl ?_
          refine kkEW ?_
          rintro M3 ⟨o3, f3⟩
          have hI3 := f3.ri hI2 (by decide)
          refine E_aload0 (q := 91) dX6_writeOut_90 rfl ?_
          refine E_bipush (v := nI 16) (q := 93) dX6_writeOut_91 (by decide) rfl ?_
          refine E_iload1 (q := 94) dX6_writeOut_93 rfl ?_
          refine E_iaddN (q := 95) dX6_writeOut_94 rfl ?_
          refine E_iload2 (q := 96) dX6_writeOut_95 rfl ?_
          refine C_V2I (q := 99) lk_X6_77 (sp_X6_birthA hI3 (by omega) ha) rc_X6 dX6_writeOut_96 (by decide) (Nat.le_of_ble_eq_true rfl) rfl ?_
          rw [c]
          refine E_if_ne (tgt := 111) (q := 102) dX6_writeOut_99 (by decide) rfl (fun h99 => ?_) (fun h99 => ?_)
          · first | exact absurd h99 (by decide) | exact absurd (by decide) h99
          · skip
            refine E_aload0 (q := 103) dX6_writeOut_102 rfl ?_
            refine E_bipush (v := nI 45) (q := 105) dX6_writeOut_103 (by decide) rfl ?_
            refine C_V1Y (q := 108) lk_X6_326 (sp_X6_lays (c := 45) o3 (by rw [List.length_append]; have : [32].length = 1 := rfl; omega)) rc_X6 dX6_writeOut_105 (by decide) (Nat.le_of_ble_eq_true rfl) rfl ?_
            refine kkEW ?_
            rintro M4 ⟨o4, f4⟩
            refine E_goto (q := 124) dX6_writeOut_108 (by decide) ?_
            refine E_iinc2 (q := 127) dX6_writeOut_124 (nI_inc _) rfl rfl ?_
            refine E_goto (q := 78) dX6_writeOut_127 (by decide) ?_
            exact ih M4 o4 ((f2.tr f3).tr f4)
      · have hb : adT A v (a + 1) = adT A v a ++ (32 :: numT (bAt A.2 (16 + v) a)) := by rw [adT, bT, if_neg c]
        rw [hb, ← hap] at ih
        refine E_iload2 (q := 79) dX6_writeOut_78 rfl ?_
        refine E_bipush (v := nI 12) (q := 81) dX6_writeOut_79 (by decide) rfl ?_
        refine E_icmp_geN (tgt := 130) (q := 84) dX6_writeOut_81 (by decide) rfl (by omega) (by omega) (fun h81 => ?_) (fun h81 => ?_)
        · skip
          exact absurd h81 (by omega)
        · skip
          refine E_aload0 (q := 85) dX6_writeOut_84 rfl ?_
          refine E_bipush (v := nI 32) (q := 87) dX6_writeOut_85 (by decide) rfl ?_
          refine C_V1Y (q := 90) lk_X6_326 (sp_X6_lays (c := 32) o2 (by omega)) rc_X6 dX6_writeOut_87 (by decide) (Nat.le_of_ble_eq_true rfl) rfl ?_
          refine kkEW ?_
          rintro M3 ⟨o3, f3⟩
          have hI3 := f3.ri hI2 (by decide)
          refine E_aload0 (q := 91) dX6_writeOut_90 rfl ?_
          refine E_bipush (v := nI 16) (q := 93) dX6_writeOut_91 (by decide) rfl ?_
          refine E_iload1 (q := 94) dX6_writeOut_93 rfl ?_
          refine E_iaddN (q := 95) dX6_writeOut_94 rfl ?_
          refine E_iload2 (q := 96) dX6_writeOut_95 rfl ?_
          refine C_V2I (q := 99) lk_X6_77 (sp_X6_birthA hI3 (by omega) ha) rc_X6 dX6_writeOut_96 (by decide) (Nat.le_of_ble_eq_true rfl) rfl ?_
          refine E_if_ne (tgt := 111) (q := 102) dX6_writeOut_99 (by decide) rfl (fun h99 => ?_) (fun h99 => ?_)
          · skip
            refine E_aload0 (q := 112) dX6_writeOut_111 rfl ?_
            refine E_aload0 (q := 113) dX6_writeOut_112 rfl ?_
            refine E_bipush (v := nI 16) (q := 115) dX6_writeOut_113 (by decide) rfl ?_
            refine E_iload1 (q := 116) dX6_writeOut_115 rfl ?_
            refine E_iaddN (q := 117) dX6_writeOut_116 rfl ?_
            refine E_iload2 (q := 118) dX6_writeOut_117 rfl ?_
            refine C_V2I (q := 121) lk_X6_77 (sp_X6_birthA hI3 (by omega) ha) rc_X6 dX6_writeOut_118 (by decide) (Nat.le_of_ble_eq_true rfl) rfl ?_
            refine C_V1Y (q := 124) lk_X6_332 (sp_X6_layNumber hbt o3 (by rw [List.length_append]; have : [32].length = 1 := rfl; omega)) rc_X6 dX6_writeOut_121 (by decide) (Nat.le_of_ble_eq_true rfl) rfl ?_
            refine kkEW ?_
            rintro M4 ⟨o4, f4⟩
            refine E_iinc2 (q := 127) dX6_writeOut_124 (nI_inc _) rfl rfl ?_
            refine E_goto (q := 78) dX6_writeOut_127 (by decide) ?_
            exact ih M4 o4 ((f2.tr f3).tr f4)
          · skip
            exact absurd ((nI_z (by omega)).mp h99) c
  have hrow : ∀ M2, OutR M2 (hdT A v ++ snT A ((rowL A v).take 0)) → FrO (upd2 (upd2 M 157 4 (nI 0)) 157 23 (nI 0)) M2 → V D cfX6_writeOut (rmOf 14 0 0) (QM D (PX (fun y w => y = nI (outT A v).length ∧ ∃ M', w = wl D ad M' ∧ (OutR M' (outT A v) ∧ (∀ c, c ≠ 157 → c ≠ 164 → M' c = M c) ∧ M' 157 4 = nI 0 ∧ ∀ j, j ≠ 4 → j ≠ 23 → M' 157 j = M 157 j))) 0 0) 0 0 37 [some (.ref (ad 157)), some (.int (nI (v))), some (.int (nI (0)))] [] (wl D ad M2) := by
    refine upto0 (n := (rowL A v).length) (P := fun k => ∀ M2, OutR M2 (hdT A v ++ snT A ((rowL A v).take k)) → FrO (upd2 (upd2 M 157 4 (nI 0)) 157 23 (nI 0)) M2 → V D cfX6_writeOut (rmOf 14 0 0) (QM D (PX (fun y w => y = nI (outT A v).length ∧ ∃ M', w = wl D ad M' ∧ (OutR M' (outT A v) ∧ (∀ c, c ≠ 157 → c ≠ 164 → M' c = M c) ∧ M' 157 4 = nI 0 ∧ ∀ j, j ≠ 4 → j ≠ 23 → M' 157 j = M 157 j))) 0 0) 0 0 37 [some (.ref (ad 157)), some (.int (nI (v))), some (.int (nI (k)))] [] (wl D ad M2)) ?_ ?_
    · intro M2 o2 f2
      rw [List.take_length] at o2
      have hI2 := f2.ri h1 (by decide)
      refine E_iload2 (q := 38) dX6_writeOut_37 rfl ?_
      refine E_aload0 (q := 39) dX6_writeOut_38 rfl ?_
      refine E_iload1 (q := 40) dX6_writeOut_39 rfl ?_
      refine E_iconst (v := nI 4) (q := 41) dX6_writeOut_40 (by decide) rfl ?_
      refine C_V2I (q := 44) lk_X6_64 (sp_X6_volM hI2 hv ht) rc_X6 dX6_writeOut_41 (by decide) (Nat.le_of_ble_eq_true rfl) rfl ?_
      refine E_icmp_geN (tgt := 76) (q := 47) dX6_writeOut_44 (by decide) rfl (by omega) (by omega) (fun h44 => ?_) (fun h44 => ?_)
      · skip
        refine E_iconst (v := nI 0) (q := 77) dX6_writeOut_76 (by decide) rfl ?_
        refine E_istore2 (q := 78) dX6_writeOut_77 rfl rfl ?_
        exact hadr M2 (by rw [show adT A v 0 = [] from rfl, List.append_nil]; exact o2) f2
      · skip
        exact absurd h44 (by omega)
    · intro k hk ih M2 o2 f2
      have hI2 := f2.ri h1 (by decide)
      have hg : (rowL A v)[k]? = some (rowL A v)[k] := List.getElem?_eq_getElem hk
      generalize (rowL A v)[k] = s at hg
      have hs := mem_rowL.mp (List.mem_of_getElem? hg)
      have hsn := (h.2.2.1.2.2.2.2.1 s hs.1 hs.2.1).2.2.2.2
      have hn6 := nmT_len (snm A s)
      have htl := snT_len A ((rowL A v).take k)
      rw [List.length_take] at htl
      have hl1 : (hdT A v ++ snT A ((rowL A v).take k)).length + 7 ≤ 300 := by rw [List.length_append]; omega
      rw [take_snT hg, ← List.append_assoc, ← List.append_assoc] at ih
      refine E_iload2 (q := 38) dX6_writeOut_37 rfl ?_
      refine E_aload0 (q := 39) dX6_writeOut_38 rfl ?_
      refine E_iload1 (q := 40) dX6_writeOut_39 rfl ?_
      refine E_iconst (v := nI 4) (q := 41) dX6_writeOut_40 (by decide) rfl ?_
      refine C_V2I (q := 44) lk_X6_64 (sp_X6_volM hI2 hv ht) rc_X6 dX6_writeOut_41 (by decide) (Nat.le_of_ble_eq_true rfl) rfl ?_
      refine E_icmp_geN (tgt := 76) (q := 47) dX6_writeOut_44 (by decide) rfl (by omega) (by omega) (fun h44 => ?_) (fun h44 => ?_)
      · skip
        exact absurd h44 (by omega)
      · skip
        refine E_aload0 (q := 48) dX6_writeOut_47 rfl ?_
        refine E_bipush (v := nI 32) (q := 50) dX6_writeOut_48 (by decide) rfl ?_
        refine C_V1Y (q := 53) lk_X6_326 (sp_X6_lays (c := 32) o2 (by omega)) rc_X6 dX6_writeOut_50 (by decide) (Nat.le_of_ble_eq_true rfl) rfl ?_
        refine kkEW ?_
        rintro M3 ⟨o3, f3⟩
        have hI3 := f3.ri hI2 (by decide)
        refine E_aload0 (q := 54) dX6_writeOut_53 rfl ?_
        refine E_aload0 (q := 55) dX6_writeOut_54 rfl ?_
        refine E_aload0 (q := 56) dX6_writeOut_55 rfl ?_
        refine E_iload1 (q := 57) dX6_writeOut_56 rfl ?_
        refine E_iconst (v := nI 5) (q := 58) dX6_writeOut_57 (by decide) rfl ?_
        refine E_iload2 (q := 59) dX6_writeOut_58 rfl ?_
        refine E_iaddN (q := 60) dX6_writeOut_59 rfl ?_
        refine C_V2I (q := 63) lk_X6_64 (sp_X6_volL hI3 hv ht hg) rc_X6 dX6_writeOut_60 (by decide) (Nat.le_of_ble_eq_true rfl) rfl ?_
        refine E_iconst (v := nI 4) (q := 64) dX6_writeOut_63 (by decide) rfl ?_
        refine C_V2I (q := 67) lk_X6_67 (sp_X6_snpN hI3 hs.1 hs.2.1) rc_X6 dX6_writeOut_64 (by decide) (Nat.le_of_ble_eq_true rfl) rfl ?_
        refine C_V1Y (q := 70) lk_X6_329 (sp_X6_layName hsn o3 (by rw [List.length_append]; have : [32].length = 1 := rfl; omega)) rc_X6 dX6_writeOut_67 (by decide) (Nat.le_of_ble_eq_true rfl) rfl ?_
        refine kkEW ?_
        rintro M4 ⟨o4, f4⟩
        refine E_iinc2 (q := 73) dX6_writeOut_70 (nI_inc _) rfl rfl ?_
        refine E_goto (q := 37) dX6_writeOut_73 (by decide) ?_
        exact ih M4 o4 ((f2.tr f3).tr f4)
  refine E_aload0 (q := 1) dX6_writeOut_0 rfl ?_
  refine E_aload0 (q := 2) dX6_writeOut_1 rfl ?_
  refine E_iload1 (q := 3) dX6_writeOut_2 rfl ?_
  refine C_V1I (q := 6) lk_X6_74 (sp_X6_isVolT h ((VolA_nI (by omega)).mpr ⟨hv, ht⟩)) rc_X6 dX6_writeOut_3 (by decide) (Nat.le_of_ble_eq_true rfl) rfl ?_
  refine C_V1I (q := 9) lk_X6_128 (sp_X6_failsT) rc_X6 dX6_writeOut_6 (by decide) (Nat.le_of_ble_eq_true rfl) rfl ?_
  refine E_if_eq (tgt := 14) (q := 12) dX6_writeOut_9 (by decide) rfl (fun h9 => ?_) (fun h9 => ?_)
  · skip
    refine E_aload0 (q := 15) dX6_writeOut_14 rfl ?_
    refine E_iconst (v := nI 0) (q := 16) dX6_writeOut_15 (by decide) rfl ?_
    refine P_X6_outputSize (q := 19) fl_X6_323 dX6_writeOut_16 rfl ?_
    refine E_aload0 (q := 20) dX6_writeOut_19 rfl ?_
    refine E_aload0 (q := 21) dX6_writeOut_20 rfl ?_
    refine E_iload1 (q := 22) dX6_writeOut_21 rfl ?_
    refine E_iconst (v := nI 3) (q := 23) dX6_writeOut_22 (by decide) rfl ?_
    refine C_V2I (q := 26) lk_X6_64 (sp_X6_volN h1 hv ht) rc_X6 dX6_writeOut_23 (by decide) (Nat.le_of_ble_eq_true rfl) rfl ?_
    refine C_V1Y (q := 29) lk_X6_329 (sp_X6_layName hvn hst (by decide)) rc_X6 dX6_writeOut_26 (by decide) (Nat.le_of_ble_eq_true rfl) rfl ?_
    refine kkEW ?_
    rintro M3 ⟨o3, f3⟩
    refine E_aload0 (q := 30) dX6_writeOut_29 rfl ?_
    refine E_bipush (v := nI 58) (q := 32) dX6_writeOut_30 (by decide) rfl ?_
    refine C_V1Y (q := 35) lk_X6_326 (sp_X6_lays (c := 58) o3 (by rw [List.nil_append]; omega)) rc_X6 dX6_writeOut_32 (by decide) (Nat.le_of_ble_eq_true rfl) rfl ?_
    refine kkEW ?_
    rintro M4 ⟨o4, f4⟩
    refine E_iconst (v := nI 0) (q := 36) dX6_writeOut_35 (by decide) rfl ?_
    refine E_istore2 (q := 37) dX6_writeOut_36 rfl rfl ?_
    exact hrow M4 (by rw [List.take_zero, show snT A [] = [] from rfl, List.append_nil]; exact o4) (f3.tr f4)
  · first | exact absurd h9 (by decide) | exact absurd (by decide) h9
def ouI (T : List Nat) (q : Int32) : Int32 := if 0 ≤ q then (match T[q.toNatClampNeg]? with | some c => nI c | none => -1) else -1
theorem ouI_hit {k c : Nat} (hk : k < 2 ^ 31) (h : T[k]? = some c) : ouI T (nI k) = nI c := by
  unfold ouI
  rw [if_pos (nI_ge0 hk), nI_clamp hk, h]
theorem ouI_miss {q : Int32} (hT : T.length < 2 ^ 31) (h : ¬ ∃ k, k < T.length ∧ q = nI k) : ouI T q = -1 := by
  unfold ouI
  by_cases c : 0 ≤ q
  · rw [if_pos c]
    obtain ⟨k, hk, rfl⟩ := nI_of (x := q) (fun z => absurd c (Int32.not_le.mpr z))
    rw [nI_clamp hk, List.getElem?_eq_none (Nat.le_of_not_lt fun z => h ⟨k, z, rfl⟩)]
  · rw [if_neg c]
theorem sp_X6_outputAt {q : Int32} (h : OutR M T) (hl : T.length ≤ 300) : Spec D 14 yX6_outputAt cfX6_outputAt [.ref (ad 157), .int (q)] (wl D ad M) 0 0 (PI (ouI T q) (wl D ad (upd2 M 157 4 (nI 0)))) := by
  refine Spec.of (by decide) rfl (Nat.le_of_ble_eq_true rfl) rfl ?_
  by_cases c : ∃ k, k < T.length ∧ q = nI k
  · obtain ⟨k, hk, rfl⟩ := c
    have hg : T[k]? = some T[k] := List.getElem?_eq_getElem hk
    have hz : zI (nI 0 ≤ nI k ∧ nI k ≤ nI T.length - nI 1) = nI 1 := (zI_t ((rngm (by omega)).mpr ⟨k, hk, rfl⟩)).symm
    refine E_aload0 (q := 1) dX6_outputAt_0 rfl ?_
    refine E_iconst (v := nI 0) (q := 2) dX6_outputAt_1 (by decide) rfl ?_
    refine P_X6_thrown (q := 5) fl_X6_43 dX6_outputAt_2 rfl ?_
    refine E_iload1 (q := 6) dX6_outputAt_5 rfl ?_
    refine E_iconst (v := nI 0) (q := 7) dX6_outputAt_6 (by decide) rfl ?_
    refine E_aload0 (q := 8) dX6_outputAt_7 rfl ?_
    refine G_X6_outputSize (q := 11) fl_X6_323 dX6_outputAt_8 rfl ?_
    refine V_int (show _ = nI T.length by rw [upd2_ne (by decide)]; exact h.1) ?_
    refine E_iconst (v := nI 1) (q := 12) dX6_outputAt_11 (by decide) rfl ?_
    refine E_isub (q := 13) dX6_outputAt_12 rfl ?_
    refine C_S3I (q := 16) lk_X6_60 (sp_X6_inRange) dX6_outputAt_13 (by decide) (Nat.le_of_ble_eq_true rfl) rfl ?_
    refine V_int hz ?_
    refine E_if_eq (tgt := 28) (q := 19) dX6_outputAt_16 (by decide) rfl (fun h16 => ?_) (fun h16 => ?_)
    · first | exact absurd h16 (by decide) | exact absurd (by decide) h16
    · skip
      refine E_aload0 (q := 20) dX6_outputAt_19 rfl ?_
      refine G_X6_output (q := 23) fl_X6_36 dX6_outputAt_20 rfl ?_
      refine E_iload1 (q := 24) dX6_outputAt_23 rfl ?_
      refine E_ialdN (q := 25) sk_164 (by omega) (by decide) dX6_outputAt_24 rfl ?_
      refine V_int (show _ = ouI T (nI k) by rw [upd2_row (by decide), ouI_hit (by omega) hg]; exact h.2 k _ hg) ?_
      refine E_goto (q := 29) dX6_outputAt_25 (by decide) ?_
      exact E_ireturn rfl rfl dX6_outputAt_29 (PI_of rfl rfl)
  · have hz : zI (nI 0 ≤ q ∧ q ≤ nI T.length - nI 1) = nI 0 := (zI_f (fun z => c ((rngm (by omega)).mp z))).symm
    refine E_aload0 (q := 1) dX6_outputAt_0 rfl ?_
    refine E_iconst (v := nI 0) (q := 2) dX6_outputAt_1 (by decide) rfl ?_
    refine P_X6_thrown (q := 5) fl_X6_43 dX6_outputAt_2 rfl ?_
    refine E_iload1 (q := 6) dX6_outputAt_5 rfl ?_
    refine E_iconst (v := nI 0) (q := 7) dX6_outputAt_6 (by decide) rfl ?_
    refine E_aload0 (q := 8) dX6_outputAt_7 rfl ?_
    refine G_X6_outputSize (q := 11) fl_X6_323 dX6_outputAt_8 rfl ?_
    refine V_int (show _ = nI T.length by rw [upd2_ne (by decide)]; exact h.1) ?_
    refine E_iconst (v := nI 1) (q := 12) dX6_outputAt_11 (by decide) rfl ?_
    refine E_isub (q := 13) dX6_outputAt_12 rfl ?_
    refine C_S3I (q := 16) lk_X6_60 (sp_X6_inRange) dX6_outputAt_13 (by decide) (Nat.le_of_ble_eq_true rfl) rfl ?_
    refine V_int hz ?_
    refine E_if_eq (tgt := 28) (q := 19) dX6_outputAt_16 (by decide) rfl (fun h16 => ?_) (fun h16 => ?_)
    · skip
      refine E_iconst (v := -1) (q := 29) dX6_outputAt_28 (by decide) rfl ?_
      exact E_ireturn rfl rfl dX6_outputAt_29 (PI_of (ouI_miss (by omega) c).symm rfl)
    · first | exact absurd h16 (by decide) | exact absurd (by decide) h16
end MODEL
