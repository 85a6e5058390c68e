/-! THE REFERENCE: ahead, behind, clones, names, sums -/
section AHD
variable {A : AS}
theorem rowAh_take (A : AS) (w : Nat) : rowAh A w = (rowL A (homeOf A w)).take (rowAh A w).length := pw_filter_take (rowL_pw A _) w
theorem rowAh_live {w : Nat} (hw : 16 ≤ w) : rowAh A w = rowL A (w - 16) := by
  unfold rowAh homeOf
  rw [if_neg (by omega), List.filter_eq_self]
  intro t ht
  have := (mem_rowL.mp ht).1
  simp; omega
theorem ahd_pos {w : Nat} (hn : 0 < (rowAh A w).length) : ∃ t, (rowL A (homeOf A w))[(rowAh A w).length - 1]? = some t ∧ ahd A w = t + 1 := by
  have h1 : (rowAh A w).getLast? = (rowL A (homeOf A w))[(rowAh A w).length - 1]? := by
    rw [List.getLast?_eq_getElem?]
    conv => lhs; rw [rowAh_take]
    rw [List.getElem?_take]
    have : (List.take (rowAh A w).length (rowL A (homeOf A w))).length = (rowAh A w).length := by rw [← rowAh_take]
    rw [this, if_pos (by omega)]
  cases hl : (rowAh A w).getLast? with
  | none =>
    rw [List.getLast?_eq_none_iff] at hl
    rw [hl] at hn; simp at hn
  | some t => exact ⟨t, by rw [← h1, hl], by unfold ahd; rw [hl]⟩
theorem ahd_zero {w : Nat} (hn : (rowAh A w).length = 0) : ahd A w = org A (homeOf A w) := by
  unfold ahd
  rw [List.eq_nil_of_length_eq_zero hn]
  rfl
end AHD
section MODEL
variable {D : va_G} {ad : Nat → Nat} {M : Mem} {wx : Nat} {ws : va_W} {A : AS}
theorem sp_X6_beforeOf {w : Nat} (hw : WX M wx) (hR : RowIs (M wx) A) (h0 : WF0 A) (hv : w < 22) (ht : th A w) : Spec D 4 yX6_beforeOf cfX6_beforeOf [.ref (ad 157), .int (nI (w))] (wl D ad M) 0 0 (PI (oI (ahd A w)) (wl D ad M)) := by
  refine Spec.of (by decide) rfl (Nat.le_of_ble_eq_true rfl) rfl ?_
  have hl1 := rowL_len A (w - 16)
  have hp := plc_lt A w
  refine E_iload1 (q := 1) dX6_beforeOf_0 rfl ?_
  refine E_bipush (v := nI 16) (q := 3) dX6_beforeOf_1 (by decide) rfl ?_
  refine E_icmp_ltN (tgt := 10) (q := 6) dX6_beforeOf_3 (by decide) rfl (by omega) (by omega) (fun h3 => ?_) (fun h3 => ?_)
  · skip
    have hh := h0.2.2.2.2.1 w h3 ht
    have hS := hR.2.2.2.2.1 w h3 ht
    have hL := hR.2.2.2.1 _ hh.2.1 hh.2.2.1
    have hho : homeOf A w = home A w := if_pos h3
    refine E_iconst (v := nI 0) (q := 11) dX6_beforeOf_10 (by decide) rfl ?_
    refine E_istore2 (q := 12) dX6_beforeOf_11 rfl rfl ?_
    refine E_iload2 (q := 13) dX6_beforeOf_12 rfl ?_
    refine E_if_eq (tgt := 23) (q := 16) dX6_beforeOf_13 (by decide) rfl (fun h13 => ?_) (fun h13 => ?_)
    · skip
      refine E_aload0 (q := 24) dX6_beforeOf_23 rfl ?_
      refine E_iload1 (q := 25) dX6_beforeOf_24 rfl ?_
      refine E_iconst (v := nI 1) (q := 26) dX6_beforeOf_25 (by decide) rfl ?_
      refine C_V2I (q := 29) lk_X6_67 (sp_X6_snapshot hw (by omega)) rc_X6 dX6_beforeOf_26 (by decide) (Nat.le_of_ble_eq_true rfl) rfl ?_
      refine V_int hS.1 ?_
      refine E_istore3 (q := 30) dX6_beforeOf_29 rfl rfl ?_
      refine E_iload2 (q := 31) dX6_beforeOf_30 rfl ?_
      refine E_if_eq (tgt := 43) (q := 34) dX6_beforeOf_31 (by decide) rfl (fun h31 => ?_) (fun h31 => ?_)
      · skip
        refine E_aload0 (q := 44) dX6_beforeOf_43 rfl ?_
        refine E_iload1 (q := 45) dX6_beforeOf_44 rfl ?_
        refine C_V1I (q := 48) lk_X6_104 (sp_X6_placeOf hw hR h0 h3 ht) rc_X6 dX6_beforeOf_45 (by decide) (Nat.le_of_ble_eq_true rfl) rfl ?_
        refine E_istore4 (q := 50) dX6_beforeOf_48 rfl rfl ?_
        refine E_iload4 (q := 52) dX6_beforeOf_50 rfl ?_
        refine E_if_le (tgt := 69) (q := 55) dX6_beforeOf_52 (by decide) rfl (fun h52 => ?_) (fun h52 => ?_)
        · skip
          have hz : ahd A w = org A (home A w) := hho ▸ ahd_zero (A := A) (w := w) (show (rowAh A w).length = 0 from Nat.le_zero.mp ((nI_leI (a := plc A w) (b := 0) (by omega) (by decide)).mp h52))
          refine E_aload0 (q := 70) dX6_beforeOf_69 rfl ?_
          refine E_iload3 (q := 71) dX6_beforeOf_70 rfl ?_
          refine C_V1I (q := 74) lk_X6_107 (sp_X6_origin hw hR hh.2.1 hh.2.2.1) rc_X6 dX6_beforeOf_71 (by decide) (Nat.le_of_ble_eq_true rfl) rfl ?_
          exact E_ireturn rfl rfl dX6_beforeOf_74 (PI_of (by rw [hz]) rfl)
        · skip
          have hpos : 0 < plc A w := Nat.pos_of_ne_zero (fun z => h52 (by rw [z]; decide))
          obtain ⟨t, ht1, ht2⟩ := ahd_pos (A := A) (w := w) hpos
          rw [hho] at ht1
          refine E_aload0 (q := 56) dX6_beforeOf_55 rfl ?_
          refine E_iload3 (q := 57) dX6_beforeOf_56 rfl ?_
          refine E_iconst (v := nI 5) (q := 58) dX6_beforeOf_57 (by decide) rfl ?_
          refine E_iload4 (q := 60) dX6_beforeOf_58 rfl ?_
          refine E_iaddN (q := 61) dX6_beforeOf_60 rfl ?_
          refine E_iconst (v := nI 1) (q := 62) dX6_beforeOf_61 (by decide) rfl ?_
          refine E_isubN (q := 63) dX6_beforeOf_62 (by omega) rfl ?_
          refine C_V2I (q := 66) lk_X6_64 (sp_X6_volume hw (by omega)) rc_X6 dX6_beforeOf_63 (by decide) (Nat.le_of_ble_eq_true rfl) rfl ?_
          refine V_int (by have := hL.2.2.2.2 _ _ ht1; rw [show 5 + plc A w - 1 = 5 + ((rowAh A w).length - 1) by show 5 + plc A w - 1 = 5 + (plc A w - 1); omega, this, ← oI_s, ← ht2] : _ = oI (ahd A w)) ?_
          refine E_goto (q := 74) dX6_beforeOf_66 (by decide) ?_
          exact E_ireturn rfl rfl dX6_beforeOf_74 (PI_of rfl rfl)
      · first | exact absurd h31 (by decide) | exact absurd (by decide) h31
    · first | exact absurd h13 (by decide) | exact absurd (by decide) h13
  · skip
    have hL := hR.2.2.2.1 (w - 16) (by omega) (by rw [show 16 + (w - 16) = w by omega]; exact ht)
    have hho : homeOf A w = w - 16 := if_neg (by omega)
    refine E_iconst (v := nI 1) (q := 7) dX6_beforeOf_6 (by decide) rfl ?_
    refine E_goto (q := 11) dX6_beforeOf_7 (by decide) ?_
    refine E_istore2 (q := 12) dX6_beforeOf_11 rfl rfl ?_
    refine E_iload2 (q := 13) dX6_beforeOf_12 rfl ?_
    refine E_if_eq (tgt := 23) (q := 16) dX6_beforeOf_13 (by decide) rfl (fun h13 => ?_) (fun h13 => ?_)
    · first | exact absurd h13 (by decide) | exact absurd (by decide) h13
    · skip
      refine E_iload1 (q := 17) dX6_beforeOf_16 rfl ?_
      refine E_bipush (v := nI 16) (q := 19) dX6_beforeOf_17 (by decide) rfl ?_
      refine E_isubN (q := 20) dX6_beforeOf_19 (by omega) rfl ?_
      refine E_goto (q := 29) dX6_beforeOf_20 (by decide) ?_
      refine E_istore3 (q := 30) dX6_beforeOf_29 rfl rfl ?_
      refine E_iload2 (q := 31) dX6_beforeOf_30 rfl ?_
      refine E_if_eq (tgt := 43) (q := 34) dX6_beforeOf_31 (by decide) rfl (fun h31 => ?_) (fun h31 => ?_)
      · first | exact absurd h31 (by decide) | exact absurd (by decide) h31
      · skip
        refine E_aload0 (q := 35) dX6_beforeOf_34 rfl ?_
        refine E_iload3 (q := 36) dX6_beforeOf_35 rfl ?_
        refine E_iconst (v := nI 4) (q := 37) dX6_beforeOf_36 (by decide) rfl ?_
        refine C_V2I (q := 40) lk_X6_64 (sp_X6_volume hw (by omega)) rc_X6 dX6_beforeOf_37 (by decide) (Nat.le_of_ble_eq_true rfl) rfl ?_
        refine V_int hL.2.2.2.1 ?_
        refine E_goto (q := 48) dX6_beforeOf_40 (by decide) ?_
        refine E_istore4 (q := 50) dX6_beforeOf_48 rfl rfl ?_
        refine E_iload4 (q := 52) dX6_beforeOf_50 rfl ?_
        refine E_if_le (tgt := 69) (q := 55) dX6_beforeOf_52 (by decide) rfl (fun h52 => ?_) (fun h52 => ?_)
        · skip
          have hz : ahd A w = org A (w - 16) := hho ▸ ahd_zero (A := A) (w := w) (by rw [rowAh_live (by omega)]; exact Nat.le_zero.mp ((nI_leI (b := 0) (by omega) (by omega)).mp h52))
          refine E_aload0 (q := 70) dX6_beforeOf_69 rfl ?_
          refine E_iload3 (q := 71) dX6_beforeOf_70 rfl ?_
          refine C_V1I (q := 74) lk_X6_107 (sp_X6_origin hw hR (by omega) (by rw [show 16 + (w - 16) = w by omega]; exact ht)) rc_X6 dX6_beforeOf_71 (by decide) (Nat.le_of_ble_eq_true rfl) rfl ?_
          exact E_ireturn rfl rfl dX6_beforeOf_74 (PI_of (by rw [hz]) rfl)
        · skip
          have hpos : 0 < (rowAh A w).length := by rw [rowAh_live (by omega)]; exact Nat.pos_of_ne_zero (fun z => h52 (by rw [z]; decide))
          have hpos2 := hpos
          rw [rowAh_live (by omega)] at hpos2
          obtain ⟨t, ht1, ht2⟩ := ahd_pos (A := A) (w := w) hpos
          rw [hho] at ht1
          rw [rowAh_live (by omega)] at ht1
          refine E_aload0 (q := 56) dX6_beforeOf_55 rfl ?_
          refine E_iload3 (q := 57) dX6_beforeOf_56 rfl ?_
          refine E_iconst (v := nI 5) (q := 58) dX6_beforeOf_57 (by decide) rfl ?_
          refine E_iload4 (q := 60) dX6_beforeOf_58 rfl ?_
          refine E_iaddN (q := 61) dX6_beforeOf_60 rfl ?_
          refine E_iconst (v := nI 1) (q := 62) dX6_beforeOf_61 (by decide) rfl ?_
          refine E_isubN (q := 63) dX6_beforeOf_62 (by omega) rfl ?_
          refine C_V2I (q := 66) lk_X6_64 (sp_X6_volume hw (by omega)) rc_X6 dX6_beforeOf_63 (by decide) (Nat.le_of_ble_eq_true rfl) rfl ?_
          refine V_int (by have := hL.2.2.2.2 _ _ ht1; rw [show 5 + (rowL A (w - 16)).length - 1 = 5 + ((rowL A (w - 16)).length - 1) by omega, this, ← oI_s, ← ht2] : _ = oI (ahd A w)) ?_
          refine E_goto (q := 74) dX6_beforeOf_66 (by decide) ?_
          exact E_ireturn rfl rfl dX6_beforeOf_74 (PI_of rfl rfl)
end MODEL
