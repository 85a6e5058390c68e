
/-! THE REFERENCE: changes -/
section MODEL
variable {D : va_G} {ad : Nat → Nat} {M : Mem} {wx : Nat} {ws : va_W} {A : AS}
/-- the memory once remembered -/
def tM (M : Mem) (k : Nat) : Mem := remM (upd2 M 157 4 (nI 0)) k
theorem RI.rem {k : Nat} (h : RI M 158 A) : RI (remM M k) 158 A := ⟨⟨by rw [remM_157 (by decide)]; exact h.1.1, h.1.2⟩, by rw [remM_158]; exact h.2.1, h.2.2⟩
theorem tM_158 {k : Nat} : tM M k 158 = M 158 := by unfold tM; rw [remM_158, upd2_row (by decide)]
theorem why_lt (s : Nat) : whyN A s < 2 ^ 31 := by
  unfold whyN
  split
  · omega
  · split <;> omega
theorem rem_le (m : Nat) : fsum siz (remA A m).2 ≤ fsum siz A.2 := by
  have := rel_siz (bl := A.2) (g := fun _ => m)
  show fsum siz (relB A.2 (fun _ => m)) ≤ _
  omega
theorem trm_le (v a : Nat) : fsum siz (trmA A v a).2 ≤ fsum siz A.2 := by
  have := rel_siz (bl := A.2) (g := fun b => if b = a then 2 ^ (16 + v) else 0)
  show fsum siz (relB A.2 (fun b => if b = a then 2 ^ (16 + v) else 0)) ≤ _
  omega
theorem rol_le (s : Nat) : fsum siz (rolA A s).2 ≤ fsum siz A.2 := by
  have := rel_siz (bl := A.2) (g := fun _ => rowB A s ||| 2 ^ (16 + home A s))
  show fsum siz (lendB _ _ _) ≤ _
  rw [lend_siz]
  omega
/-- the units that are freed from A to B -/
def gone (A B : AS) : Nat := fsum siz A.2 - fsum siz B.2
theorem sp_X6_newVolumeF (h : RI M 158 A) (hv : aV A = 6) : Spec D 14 yX6_newVolume cfX6_newVolume [.ref (ad 157)] (wl D ad M) 0 0 (PI (-3) (wl D ad (upd2 M 157 4 (nI 0)))) := by
  refine Spec.of (by decide) rfl (Nat.le_of_ble_eq_true rfl) rfl ?_
  have hw := h.1
  refine E_aload0 (q := 1) dX6_newVolume_0 rfl ?_
  refine E_iconst (v := nI 0) (q := 2) dX6_newVolume_1 (by decide) rfl ?_
  refine P_X6_thrown (q := 5) fl_X6_43 dX6_newVolume_2 rfl ?_
  refine E_aload0 (q := 6) dX6_newVolume_5 rfl ?_
  refine G_X6_w (q := 9) (x := 158) (by repeat (first | exact hw | refine WX.w ?_ | refine WX.u (by decide) ?_)) fl_X6_16 dX6_newVolume_6 rfl ?_
  refine E_iconst (v := nI 3) (q := 10) dX6_newVolume_9 (by decide) rfl ?_
  refine E_ialdN (q := 11) hw.2 (by omega) (by decide) dX6_newVolume_10 rfl ?_
  refine V_int h.fl.2.1.1.2.2.2.1 ?_
  refine E_bipush (v := nI 6) (q := 13) dX6_newVolume_11 (by decide) rfl ?_
  refine E_icmp_neN (tgt := 19) (q := 16) dX6_newVolume_13 (by decide) rfl (by omega) (by omega) (fun h13 => ?_) (fun h13 => ?_)
  · skip
    exact absurd hv h13
  · skip
    refine E_bipush (v := -3) (q := 18) dX6_newVolume_16 (by decide) rfl ?_
    exact E_ireturn rfl rfl dX6_newVolume_18 (PI_of rfl rfl)
theorem sp_X6_newVolume {k : Nat} (h : RI M 158 A) (hk : M 157 2 = nI k) (hk8 : k ≤ 8) (hv : aV A < 6) : Spec D 14 yX6_newVolume cfX6_newVolume [.ref (ad 157)] (wl D ad M) 0 0 (PX (fun x w => x = nI (aV A) ∧ RW D ad (tM M k) 158 (mkVol A 0 0) w)) := by
  refine Spec.of (by decide) rfl (Nat.le_of_ble_eq_true rfl) rfl ?_
  have hw := h.1
  have hk1 : upd2 M 157 4 (nI 0) 157 2 = nI k := by rw [upd2_ne (by decide)]; exact hk
  have h2 : RI (tM M k) 158 A := h.fl.rem
  have hr := h2.1.all
  have hs := h2.1.2
  have hq : RI (row2 (tM M k) 158 (tM M k 158)) 158 A := RI.row h2.1 h2.2.1 h2.2.2
  refine E_aload0 (q := 1) dX6_newVolume_0 rfl ?_
  refine E_iconst (v := nI 0) (q := 2) dX6_newVolume_1 (by decide) rfl ?_
  refine P_X6_thrown (q := 5) fl_X6_43 dX6_newVolume_2 rfl ?_
  refine E_aload0 (q := 6) dX6_newVolume_5 rfl ?_
  refine G_X6_w (q := 9) (x := 158) (by repeat (first | exact hw | refine WX.w ?_ | refine WX.u (by decide) ?_)) fl_X6_16 dX6_newVolume_6 rfl ?_
  refine E_iconst (v := nI 3) (q := 10) dX6_newVolume_9 (by decide) rfl ?_
  refine E_ialdN (q := 11) hw.2 (by omega) (by decide) dX6_newVolume_10 rfl ?_
  refine V_int h.fl.2.1.1.2.2.2.1 ?_
  refine E_bipush (v := nI 6) (q := 13) dX6_newVolume_11 (by decide) rfl ?_
  refine E_icmp_neN (tgt := 19) (q := 16) dX6_newVolume_13 (by decide) rfl (by omega) (by omega) (fun h13 => ?_) (fun h13 => ?_)
  · skip
    refine E_aload0 (q := 20) dX6_newVolume_19 rfl ?_
    refine C_V0V (q := 23) lk_X6_183 (sp_X6_remember hk1 hk8) rc_X6 dX6_newVolume_20 (by decide) (Nat.le_of_ble_eq_true rfl) rfl ?_
    refine V_ws (show _ = wl D ad (row2 (tM M k) 158 (tM M k 158)) from congrArg (wl D ad) row2_self.symm) ?_
    refine E_aload0 (q := 24) dX6_newVolume_23 rfl ?_
    refine E_iconst (v := -1) (q := 25) dX6_newVolume_24 (by decide) rfl ?_
    refine E_iconst (v := nI 0) (q := 26) dX6_newVolume_25 (by decide) rfl ?_
    refine C_V2X (q := 29) lk_X6_186 (sp_X6_makeVolN (f := tM M k 158) (nm := 0) h2.1 h2.2.1 h2.2.2 hv) rc_X6 dX6_newVolume_26 (by decide) (Nat.le_of_ble_eq_true rfl) rfl ?_
    refine kkRX ?_
    intro f1 hf1
    exact E_ireturn rfl rfl dX6_newVolume_29 ⟨_, rfl, rfl, f1, hf1, rfl⟩
  · skip
    exact absurd h13 (by omega)
theorem sp_X6_writeV {p q r : Int32} (h : RI M 158 A) (hn : ¬ VolA A p) : Spec D 14 yX6_write cfX6_write [.ref (ad 157), .int (p), .int (q), .int (r)] (wl D ad M) 0 0 (PI (-1) (wl D ad (upd2 M 157 4 (nI 0)))) := by
  refine Spec.of (by decide) rfl (Nat.le_of_ble_eq_true rfl) rfl ?_
  have hw := h.1
  refine E_aload0 (q := 1) dX6_write_0 rfl ?_
  refine E_iconst (v := nI 0) (q := 2) dX6_write_1 (by decide) rfl ?_
  refine P_X6_thrown (q := 5) fl_X6_43 dX6_write_2 rfl ?_
  refine E_aload0 (q := 6) dX6_write_5 rfl ?_
  refine E_iload1 (q := 7) dX6_write_6 rfl ?_
  refine E_iload2 (q := 8) dX6_write_7 rfl ?_
  refine E_iload3 (q := 9) dX6_write_8 rfl ?_
  refine C_V3I (q := 12) lk_X6_176 (sp_X6_refusalV h.fl hn) rc_X6 dX6_write_9 (by decide) (Nat.le_of_ble_eq_true rfl) rfl ?_
  refine E_istore4 (q := 14) dX6_write_12 rfl rfl ?_
  refine E_iload4 (q := 16) dX6_write_14 rfl ?_
  refine E_if_eq (tgt := 22) (q := 19) dX6_write_16 (by decide) rfl (fun h16 => ?_) (fun h16 => ?_)
  · first | exact absurd h16 (by decide) | exact absurd (by decide) h16
  · skip
    refine E_iload4 (q := 21) dX6_write_19 rfl ?_
    exact E_ireturn rfl rfl dX6_write_21 (PI_of rfl rfl)
theorem sp_X6_writeB {p q r : Int32} (h : RI M 158 A) (hp : VolA A p) (hn : ¬ (AdrP q ∧ SizP r)) : Spec D 14 yX6_write cfX6_write [.ref (ad 157), .int (p), .int (q), .int (r)] (wl D ad M) 0 0 (PI (-2) (wl D ad (upd2 M 157 4 (nI 0)))) := by
  refine Spec.of (by decide) rfl (Nat.le_of_ble_eq_true rfl) rfl ?_
  have hw := h.1
  refine E_aload0 (q := 1) dX6_write_0 rfl ?_
  refine E_iconst (v := nI 0) (q := 2) dX6_write_1 (by decide) rfl ?_
  refine P_X6_thrown (q := 5) fl_X6_43 dX6_write_2 rfl ?_
  refine E_aload0 (q := 6) dX6_write_5 rfl ?_
  refine E_iload1 (q := 7) dX6_write_6 rfl ?_
  refine E_iload2 (q := 8) dX6_write_7 rfl ?_
  refine E_iload3 (q := 9) dX6_write_8 rfl ?_
  refine C_V3I (q := 12) lk_X6_176 (sp_X6_refusalB h.fl hp hn) rc_X6 dX6_write_9 (by decide) (Nat.le_of_ble_eq_true rfl) rfl ?_
  refine E_istore4 (q := 14) dX6_write_12 rfl rfl ?_
  refine E_iload4 (q := 16) dX6_write_14 rfl ?_
  refine E_if_eq (tgt := 22) (q := 19) dX6_write_16 (by decide) rfl (fun h16 => ?_) (fun h16 => ?_)
  · first | exact absurd h16 (by decide) | exact absurd (by decide) h16
  · skip
    refine E_iload4 (q := 21) dX6_write_19 rfl ?_
    exact E_ireturn rfl rfl dX6_write_21 (PI_of rfl rfl)
theorem sp_X6_writeR {v a z : Nat} (h : RI M 158 A) (hv : v < 6) (ht : th A (16 + v)) (ha : a < 12) (hz : 1 ≤ z ∧ z ≤ 9) (hne : wrI A v a z ≠ 0) : Spec D 14 yX6_write cfX6_write [.ref (ad 157), .int (nI (v)), .int (nI (a)), .int (nI (z))] (wl D ad M) 0 0 (PI (wrI A v a z) (wl D ad (upd2 M 157 4 (nI 0)))) := by
  refine Spec.of (by decide) rfl (Nat.le_of_ble_eq_true rfl) rfl ?_
  have hw := h.1
  refine E_aload0 (q := 1) dX6_write_0 rfl ?_
  refine E_iconst (v := nI 0) (q := 2) dX6_write_1 (by decide) rfl ?_
  refine P_X6_thrown (q := 5) fl_X6_43 dX6_write_2 rfl ?_
  refine E_aload0 (q := 6) dX6_write_5 rfl ?_
  refine E_iload1 (q := 7) dX6_write_6 rfl ?_
  refine E_iload2 (q := 8) dX6_write_7 rfl ?_
  refine E_iload3 (q := 9) dX6_write_8 rfl ?_
  refine C_V3I (q := 12) lk_X6_176 (sp_X6_refusal h.fl hv ht ha hz) rc_X6 dX6_write_9 (by decide) (Nat.le_of_ble_eq_true rfl) rfl ?_
  refine E_istore4 (q := 14) dX6_write_12 rfl rfl ?_
  refine E_iload4 (q := 16) dX6_write_14 rfl ?_
  refine E_if_eq (tgt := 22) (q := 19) dX6_write_16 (by decide) rfl (fun h16 => ?_) (fun h16 => ?_)
  · skip
    exact absurd h16 hne
  · skip
    refine E_iload4 (q := 21) dX6_write_19 rfl ?_
    exact E_ireturn rfl rfl dX6_write_21 (PI_of rfl rfl)
theorem sp_X6_write {v a z : Nat} {k : Nat} (h : RI M 158 A) (hk : M 157 2 = nI k) (hk8 : k ≤ 8) (hv : v < 6) (ht : th A (16 + v)) (ha : a < 12) (hz : 1 ≤ z ∧ z ≤ 9) (hne : wrI A v a z = 0) : Spec D 14 yX6_write cfX6_write [.ref (ad 157), .int (nI (v)), .int (nI (a)), .int (nI (z))] (wl D ad M) 0 0 (PX (fun x w => x = nI (aT A + 1) ∧ RW D ad (tM M k) 158 (mkBlk A v a z) w)) := by
  refine Spec.of (by decide) rfl (Nat.le_of_ble_eq_true rfl) rfl ?_
  have hw := h.1
  have hk1 : upd2 M 157 4 (nI 0) 157 2 = nI k := by rw [upd2_ne (by decide)]; exact hk
  have h2 : RI (tM M k) 158 A := h.fl.rem
  have hr := h2.1.all
  have hs := h2.1.2
  have hq : RI (row2 (tM M k) 158 (tM M k 158)) 158 A := RI.row h2.1 h2.2.1 h2.2.2
  refine E_aload0 (q := 1) dX6_write_0 rfl ?_
  refine E_iconst (v := nI 0) (q := 2) dX6_write_1 (by decide) rfl ?_
  refine P_X6_thrown (q := 5) fl_X6_43 dX6_write_2 rfl ?_
  refine E_aload0 (q := 6) dX6_write_5 rfl ?_
  refine E_iload1 (q := 7) dX6_write_6 rfl ?_
  refine E_iload2 (q := 8) dX6_write_7 rfl ?_
  refine E_iload3 (q := 9) dX6_write_8 rfl ?_
  refine C_V3I (q := 12) lk_X6_176 (sp_X6_refusal h.fl hv ht ha hz) rc_X6 dX6_write_9 (by decide) (Nat.le_of_ble_eq_true rfl) rfl ?_
  refine E_istore4 (q := 14) dX6_write_12 rfl rfl ?_
  refine E_iload4 (q := 16) dX6_write_14 rfl ?_
  refine E_if_eq (tgt := 22) (q := 19) dX6_write_16 (by decide) rfl (fun h16 => ?_) (fun h16 => ?_)
  · skip
    refine E_aload0 (q := 23) dX6_write_22 rfl ?_
    refine C_V0V (q := 26) lk_X6_183 (sp_X6_remember hk1 hk8) rc_X6 dX6_write_23 (by decide) (Nat.le_of_ble_eq_true rfl) rfl ?_
    refine V_ws (show _ = wl D ad (row2 (tM M k) 158 (tM M k 158)) from congrArg (wl D ad) row2_self.symm) ?_
    refine E_aload0 (q := 27) dX6_write_26 rfl ?_
    refine E_iload1 (q := 28) dX6_write_27 rfl ?_
    refine E_iload2 (q := 29) dX6_write_28 rfl ?_
    refine E_iload3 (q := 30) dX6_write_29 rfl ?_
    refine C_V3X (q := 33) lk_X6_189 (sp_X6_makeBlock (f := tM M k 158) h2.1 h2.2.1 h2.2.2 hv ha) rc_X6 dX6_write_30 (by decide) (Nat.le_of_ble_eq_true rfl) rfl ?_
    refine kkRX ?_
    intro f1 hf1
    exact E_ireturn rfl rfl dX6_write_33 ⟨_, rfl, rfl, f1, hf1, rfl⟩
  · skip
    exact absurd hne h16
theorem sp_X6_trimV {p q : Int32} (h : RI M 158 A) (hn : ¬ VolA A p) : Spec D 14 yX6_trim cfX6_trim [.ref (ad 157), .int (p), .int (q)] (wl D ad M) 0 0 (PI (-1) (wl D ad (upd2 M 157 4 (nI 0)))) := by
  refine Spec.of (by decide) rfl (Nat.le_of_ble_eq_true rfl) rfl ?_
  have hw := h.1
  refine E_aload0 (q := 1) dX6_trim_0 rfl ?_
  refine E_iconst (v := nI 0) (q := 2) dX6_trim_1 (by decide) rfl ?_
  refine P_X6_thrown (q := 5) fl_X6_43 dX6_trim_2 rfl ?_
  refine E_aload0 (q := 6) dX6_trim_5 rfl ?_
  refine E_iload1 (q := 7) dX6_trim_6 rfl ?_
  refine C_V1I (q := 10) lk_X6_74 (sp_X6_isVolF h.fl hn) rc_X6 dX6_trim_7 (by decide) (Nat.le_of_ble_eq_true rfl) rfl ?_
  refine E_if_ne (tgt := 15) (q := 13) dX6_trim_10 (by decide) rfl (fun h10 => ?_) (fun h10 => ?_)
  · first | exact absurd h10 (by decide) | exact absurd (by decide) h10
  · skip
    refine E_iconst (v := -1) (q := 14) dX6_trim_13 (by decide) rfl ?_
    exact E_ireturn rfl rfl dX6_trim_14 (PI_of rfl rfl)
theorem sp_X6_trimB {p q : Int32} (h : RI M 158 A) (hp : VolA A p) (hn : ¬ AdrP q) : Spec D 14 yX6_trim cfX6_trim [.ref (ad 157), .int (p), .int (q)] (wl D ad M) 0 0 (PI (-2) (wl D ad (upd2 M 157 4 (nI 0)))) := by
  refine Spec.of (by decide) rfl (Nat.le_of_ble_eq_true rfl) rfl ?_
  have hw := h.1
  refine E_aload0 (q := 1) dX6_trim_0 rfl ?_
  refine E_iconst (v := nI 0) (q := 2) dX6_trim_1 (by decide) rfl ?_
  refine P_X6_thrown (q := 5) fl_X6_43 dX6_trim_2 rfl ?_
  refine E_aload0 (q := 6) dX6_trim_5 rfl ?_
  refine E_iload1 (q := 7) dX6_trim_6 rfl ?_
  refine C_V1I (q := 10) lk_X6_74 (sp_X6_isVolT h.fl hp) rc_X6 dX6_trim_7 (by decide) (Nat.le_of_ble_eq_true rfl) rfl ?_
  refine E_if_ne (tgt := 15) (q := 13) dX6_trim_10 (by decide) rfl (fun h10 => ?_) (fun h10 => ?_)
  · skip
    refine E_iload2 (q := 16) dX6_trim_15 rfl ?_
    refine C_S1I (q := 19) lk_X6_141 (sp_X6_isAdrF hn) dX6_trim_16 (by decide) (Nat.le_of_ble_eq_true rfl) rfl ?_
    refine E_if_ne (tgt := 25) (q := 22) dX6_trim_19 (by decide) rfl (fun h19 => ?_) (fun h19 => ?_)
    · first | exact absurd h19 (by decide) | exact absurd (by decide) h19
    · skip
      refine E_bipush (v := -2) (q := 24) dX6_trim_22 (by decide) rfl ?_
      exact E_ireturn rfl rfl dX6_trim_24 (PI_of rfl rfl)
  · first | exact absurd h10 (by decide) | exact absurd (by decide) h10
theorem sp_X6_trimN {v a : Nat} (h : RI M 158 A) (hv : v < 6) (ht : th A (16 + v)) (ha : a < 12) (h0 : bAt A.2 (16 + v) a = 0) : Spec D 14 yX6_trim cfX6_trim [.ref (ad 157), .int (nI (v)), .int (nI (a))] (wl D ad M) 0 0 (PI (-4) (wl D ad (upd2 M 157 4 (nI 0)))) := by
  refine Spec.of (by decide) rfl (Nat.le_of_ble_eq_true rfl) rfl ?_
  have hw := h.1
  refine E_aload0 (q := 1) dX6_trim_0 rfl ?_
  refine E_iconst (v := nI 0) (q := 2) dX6_trim_1 (by decide) rfl ?_
  refine P_X6_thrown (q := 5) fl_X6_43 dX6_trim_2 rfl ?_
  refine E_aload0 (q := 6) dX6_trim_5 rfl ?_
  refine E_iload1 (q := 7) dX6_trim_6 rfl ?_
  refine C_V1I (q := 10) lk_X6_74 (sp_X6_isVolT h.fl ((VolA_nI (by omega)).mpr ⟨hv, ht⟩)) rc_X6 dX6_trim_7 (by decide) (Nat.le_of_ble_eq_true rfl) rfl ?_
  refine E_if_ne (tgt := 15) (q := 13) dX6_trim_10 (by decide) rfl (fun h10 => ?_) (fun h10 => ?_)
  · skip
    refine E_iload2 (q := 16) dX6_trim_15 rfl ?_
    refine C_S1I (q := 19) lk_X6_141 (sp_X6_isAdrT ⟨a, ha, rfl⟩) dX6_trim_16 (by decide) (Nat.le_of_ble_eq_true rfl) rfl ?_
    refine E_if_ne (tgt := 25) (q := 22) dX6_trim_19 (by decide) rfl (fun h19 => ?_) (fun h19 => ?_)
    · skip
      refine E_aload0 (q := 26) dX6_trim_25 rfl ?_
      refine E_bipush (v := nI 16) (q := 28) dX6_trim_26 (by decide) rfl ?_
      refine E_iload1 (q := 29) dX6_trim_28 rfl ?_
      refine E_iaddN (q := 30) dX6_trim_29 rfl ?_
      refine E_iload2 (q := 31) dX6_trim_30 rfl ?_
      refine C_V2I (q := 34) lk_X6_77 (sp_X6_birthA h.fl (by omega) (by omega)) rc_X6 dX6_trim_31 (by decide) (Nat.le_of_ble_eq_true rfl) rfl ?_
      rw [h0]
      refine E_if_ne (tgt := 40) (q := 37) dX6_trim_34 (by decide) rfl (fun h34 => ?_) (fun h34 => ?_)
      · first | exact absurd h34 (by decide) | exact absurd (by decide) h34
      · skip
        refine E_bipush (v := -4) (q := 39) dX6_trim_37 (by decide) rfl ?_
        exact E_ireturn rfl rfl dX6_trim_39 (PI_of rfl rfl)
    · first | exact absurd h19 (by decide) | exact absurd (by decide) h19
  · first | exact absurd h10 (by decide) | exact absurd (by decide) h10
theorem sp_X6_trim {v a : Nat} {k : Nat} (h : RI M 158 A) (hk : M 157 2 = nI k) (hk8 : k ≤ 8) (hv : v < 6) (ht : th A (16 + v)) (ha : a < 12) (h0 : bAt A.2 (16 + v) a ≠ 0) : Spec D 14 yX6_trim cfX6_trim [.ref (ad 157), .int (nI (v)), .int (nI (a))] (wl D ad M) 0 0 (PX (fun x w => x = nI (gone A (trmA A v a)) ∧ RW D ad (tM M k) 158 (trmA A v a) w)) := by
  refine Spec.of (by decide) rfl (Nat.le_of_ble_eq_true rfl) rfl ?_
  have hw := h.1
  have hk1 : upd2 M 157 4 (nI 0) 157 2 = nI k := by rw [upd2_ne (by decide)]; exact hk
  have h2 : RI (tM M k) 158 A := h.fl.rem
  have hr := h2.1.all
  have hs := h2.1.2
  have hq : RI (row2 (tM M k) 158 (tM M k 158)) 158 A := RI.row h2.1 h2.2.1 h2.2.2
  have hb := h.bt (16 + v) a
  have hle := trm_le (A := A) v a
  refine E_aload0 (q := 1) dX6_trim_0 rfl ?_
  refine E_iconst (v := nI 0) (q := 2) dX6_trim_1 (by decide) rfl ?_
  refine P_X6_thrown (q := 5) fl_X6_43 dX6_trim_2 rfl ?_
  refine E_aload0 (q := 6) dX6_trim_5 rfl ?_
  refine E_iload1 (q := 7) dX6_trim_6 rfl ?_
  refine C_V1I (q := 10) lk_X6_74 (sp_X6_isVolT h.fl ((VolA_nI (by omega)).mpr ⟨hv, ht⟩)) rc_X6 dX6_trim_7 (by decide) (Nat.le_of_ble_eq_true rfl) rfl ?_
  refine E_if_ne (tgt := 15) (q := 13) dX6_trim_10 (by decide) rfl (fun h10 => ?_) (fun h10 => ?_)
  · skip
    refine E_iload2 (q := 16) dX6_trim_15 rfl ?_
    refine C_S1I (q := 19) lk_X6_141 (sp_X6_isAdrT ⟨a, ha, rfl⟩) dX6_trim_16 (by decide) (Nat.le_of_ble_eq_true rfl) rfl ?_
    refine E_if_ne (tgt := 25) (q := 22) dX6_trim_19 (by decide) rfl (fun h19 => ?_) (fun h19 => ?_)
    · skip
      refine E_aload0 (q := 26) dX6_trim_25 rfl ?_
      refine E_bipush (v := nI 16) (q := 28) dX6_trim_26 (by decide) rfl ?_
      refine E_iload1 (q := 29) dX6_trim_28 rfl ?_
      refine E_iaddN (q := 30) dX6_trim_29 rfl ?_
      refine E_iload2 (q := 31) dX6_trim_30 rfl ?_
      refine C_V2I (q := 34) lk_X6_77 (sp_X6_birthA h.fl (by omega) (by omega)) rc_X6 dX6_trim_31 (by decide) (Nat.le_of_ble_eq_true rfl) rfl ?_
      refine E_if_ne (tgt := 40) (q := 37) dX6_trim_34 (by decide) rfl (fun h34 => ?_) (fun h34 => ?_)
      · skip
        refine E_aload0 (q := 41) dX6_trim_40 rfl ?_
        refine C_V0V (q := 44) lk_X6_183 (sp_X6_remember hk1 hk8) rc_X6 dX6_trim_41 (by decide) (Nat.le_of_ble_eq_true rfl) rfl ?_
        refine V_ws (show _ = wl D ad (row2 (tM M k) 158 (tM M k 158)) from congrArg (wl D ad) row2_self.symm) ?_
        refine E_aload0 (q := 45) dX6_trim_44 rfl ?_
        refine E_iconst (v := nI 1) (q := 46) dX6_trim_45 (by decide) rfl ?_
        refine C_V1I (q := 49) lk_X6_113 (sp_X6_allU hq) rc_X6 dX6_trim_46 (by decide) (Nat.le_of_ble_eq_true rfl) rfl ?_
        refine E_istore3 (q := 50) dX6_trim_49 rfl rfl ?_
        refine E_aload0 (q := 51) dX6_trim_50 rfl ?_
        refine E_bipush (v := nI 16) (q := 53) dX6_trim_51 (by decide) rfl ?_
        refine E_iload1 (q := 54) dX6_trim_53 rfl ?_
        refine E_iaddN (q := 55) dX6_trim_54 rfl ?_
        refine E_iload2 (q := 56) dX6_trim_55 rfl ?_
        refine E_iconst (v := nI 0) (q := 57) dX6_trim_56 (by decide) rfl ?_
        refine E_iconst (v := nI 0) (q := 58) dX6_trim_57 (by decide) rfl ?_
        refine C_V4V (q := 61) lk_X6_83 (sp_X6_layR (M := tM M k) h2.1 (by omega) ha) rc_X6 dX6_trim_58 (by decide) (Nat.le_of_ble_eq_true rfl) rfl ?_
        refine E_iload3 (q := 62) dX6_trim_61 rfl ?_
        refine E_aload0 (q := 63) dX6_trim_62 rfl ?_
        refine E_iconst (v := nI 1) (q := 64) dX6_trim_63 (by decide) rfl ?_
        refine C_V1I (q := 67) lk_X6_113 (sp_X6_allU (RI.row h2.1 (h2.2.1.trm h2.2.2 hv ha) (trmA_WF h.2.2))) rc_X6 dX6_trim_64 (by decide) (Nat.le_of_ble_eq_true rfl) rfl ?_
        refine E_isubN (q := 68) dX6_trim_67 (by omega) rfl ?_
        have hf1 := h2.2.1.trm h2.2.2 hv ha
        exact E_ireturn rfl rfl dX6_trim_68 ⟨_, rfl, rfl, _, hf1, rfl⟩
      · skip
        exact absurd ((nI_z (by omega)).mp h34) h0
    · first | exact absurd h19 (by decide) | exact absurd (by decide) h19
  · first | exact absurd h10 (by decide) | exact absurd (by decide) h10
theorem sp_X6_takeV {p : Int32} (h : RI M 158 A) (hn : ¬ VolA A p) : Spec D 14 yX6_take cfX6_take [.ref (ad 157), .int (p)] (wl D ad M) 0 0 (PI (-1) (wl D ad (upd2 M 157 4 (nI 0)))) := by
  refine Spec.of (by decide) rfl (Nat.le_of_ble_eq_true rfl) rfl ?_
  have hw := h.1
  refine E_aload0 (q := 1) dX6_take_0 rfl ?_
  refine E_iconst (v := nI 0) (q := 2) dX6_take_1 (by decide) rfl ?_
  refine P_X6_thrown (q := 5) fl_X6_43 dX6_take_2 rfl ?_
  refine E_aload0 (q := 6) dX6_take_5 rfl ?_
  refine E_iload1 (q := 7) dX6_take_6 rfl ?_
  refine C_V1I (q := 10) lk_X6_74 (sp_X6_isVolF h.fl hn) rc_X6 dX6_take_7 (by decide) (Nat.le_of_ble_eq_true rfl) rfl ?_
  refine E_if_ne (tgt := 15) (q := 13) dX6_take_10 (by decide) rfl (fun h10 => ?_) (fun h10 => ?_)
  · first | exact absurd h10 (by decide) | exact absurd (by decide) h10
  · skip
    refine E_iconst (v := -1) (q := 14) dX6_take_13 (by decide) rfl ?_
    exact E_ireturn rfl rfl dX6_take_14 (PI_of rfl rfl)
theorem sp_X6_takeF {p : Int32} (h : RI M 158 A) (hp : VolA A p) (hs : aS A = 16) : Spec D 14 yX6_take cfX6_take [.ref (ad 157), .int (p)] (wl D ad M) 0 0 (PI (-3) (wl D ad (upd2 M 157 4 (nI 0)))) := by
  refine Spec.of (by decide) rfl (Nat.le_of_ble_eq_true rfl) rfl ?_
  have hw := h.1
  refine E_aload0 (q := 1) dX6_take_0 rfl ?_
  refine E_iconst (v := nI 0) (q := 2) dX6_take_1 (by decide) rfl ?_
  refine P_X6_thrown (q := 5) fl_X6_43 dX6_take_2 rfl ?_
  refine E_aload0 (q := 6) dX6_take_5 rfl ?_
  refine E_iload1 (q := 7) dX6_take_6 rfl ?_
  refine C_V1I (q := 10) lk_X6_74 (sp_X6_isVolT h.fl hp) rc_X6 dX6_take_7 (by decide) (Nat.le_of_ble_eq_true rfl) rfl ?_
  refine E_if_ne (tgt := 15) (q := 13) dX6_take_10 (by decide) rfl (fun h10 => ?_) (fun h10 => ?_)
  · skip
    refine E_aload0 (q := 16) dX6_take_15 rfl ?_
    refine G_X6_w (q := 19) (x := 158) (by repeat (first | exact hw | refine WX.w ?_ | refine WX.u (by decide) ?_)) fl_X6_16 dX6_take_16 rfl ?_
    refine E_iconst (v := nI 4) (q := 20) dX6_take_19 (by decide) rfl ?_
    refine E_ialdN (q := 21) hw.2 (by omega) (by decide) dX6_take_20 rfl ?_
    refine V_int h.fl.2.1.1.2.2.2.2 ?_
    refine E_bipush (v := nI 16) (q := 23) dX6_take_21 (by decide) rfl ?_
    refine E_icmp_neN (tgt := 29) (q := 26) dX6_take_23 (by decide) rfl (by omega) (by omega) (fun h23 => ?_) (fun h23 => ?_)
    · skip
      exact absurd hs h23
    · skip
      refine E_bipush (v := -3) (q := 28) dX6_take_26 (by decide) rfl ?_
      exact E_ireturn rfl rfl dX6_take_28 (PI_of rfl rfl)
  · first | exact absurd h10 (by decide) | exact absurd (by decide) h10
theorem sp_X6_take {v : Nat} {k : Nat} (h : RI M 158 A) (hk : M 157 2 = nI k) (hk8 : k ≤ 8) (hv : v < 6) (ht : th A (16 + v)) (hs16 : aS A < 16) : Spec D 14 yX6_take cfX6_take [.ref (ad 157), .int (nI (v))] (wl D ad M) 0 0 (PX (fun x w => x = nI (aS A) ∧ RW D ad (tM M k) 158 (mkSnp A v 0) w)) := by
  refine Spec.of (by decide) rfl (Nat.le_of_ble_eq_true rfl) rfl ?_
  have hw := h.1
  have hk1 : upd2 M 157 4 (nI 0) 157 2 = nI k := by rw [upd2_ne (by decide)]; exact hk
  have h2 : RI (tM M k) 158 A := h.fl.rem
  have hr := h2.1.all
  have hs := h2.1.2
  have hq : RI (row2 (tM M k) 158 (tM M k 158)) 158 A := RI.row h2.1 h2.2.1 h2.2.2
  refine E_aload0 (q := 1) dX6_take_0 rfl ?_
  refine E_iconst (v := nI 0) (q := 2) dX6_take_1 (by decide) rfl ?_
  refine P_X6_thrown (q := 5) fl_X6_43 dX6_take_2 rfl ?_
  refine E_aload0 (q := 6) dX6_take_5 rfl ?_
  refine E_iload1 (q := 7) dX6_take_6 rfl ?_
  refine C_V1I (q := 10) lk_X6_74 (sp_X6_isVolT h.fl ((VolA_nI (by omega)).mpr ⟨hv, ht⟩)) rc_X6 dX6_take_7 (by decide) (Nat.le_of_ble_eq_true rfl) rfl ?_
  refine E_if_ne (tgt := 15) (q := 13) dX6_take_10 (by decide) rfl (fun h10 => ?_) (fun h10 => ?_)
  · skip
    refine E_aload0 (q := 16) dX6_take_15 rfl ?_
    refine G_X6_w (q := 19) (x := 158) (by repeat (first | exact hw | refine WX.w ?_ | refine WX.u (by decide) ?_)) fl_X6_16 dX6_take_16 rfl ?_
    refine E_iconst (v := nI 4) (q := 20) dX6_take_19 (by decide) rfl ?_
    refine E_ialdN (q := 21) hw.2 (by omega) (by decide) dX6_take_20 rfl ?_
    refine V_int h.fl.2.1.1.2.2.2.2 ?_
    refine E_bipush (v := nI 16) (q := 23) dX6_take_21 (by decide) rfl ?_
    refine E_icmp_neN (tgt := 29) (q := 26) dX6_take_23 (by decide) rfl (by omega) (by omega) (fun h23 => ?_) (fun h23 => ?_)
    · skip
      refine E_aload0 (q := 30) dX6_take_29 rfl ?_
      refine C_V0V (q := 33) lk_X6_183 (sp_X6_remember hk1 hk8) rc_X6 dX6_take_30 (by decide) (Nat.le_of_ble_eq_true rfl) rfl ?_
      refine V_ws (show _ = wl D ad (row2 (tM M k) 158 (tM M k 158)) from congrArg (wl D ad) row2_self.symm) ?_
      refine E_aload0 (q := 34) dX6_take_33 rfl ?_
      refine E_iload1 (q := 35) dX6_take_34 rfl ?_
      refine E_iconst (v := nI 0) (q := 36) dX6_take_35 (by decide) rfl ?_
      refine C_V2X (q := 39) lk_X6_192 (sp_X6_makeSnapshot (f := tM M k 158) (nm := 0) h2.1 h2.2.1 h2.2.2 hs16 hv ht) rc_X6 dX6_take_36 (by decide) (Nat.le_of_ble_eq_true rfl) rfl ?_
      refine kkRX ?_
      intro f1 hf1
      exact E_ireturn rfl rfl dX6_take_39 ⟨_, rfl, rfl, f1, hf1, rfl⟩
    · skip
      exact absurd h23 (by omega)
  · first | exact absurd h10 (by decide) | exact absurd (by decide) h10
theorem sp_X6_cloneS {p : Int32} (h : RI M 158 A) (hn : ¬ SnpA A p) : Spec D 14 yX6_clone cfX6_clone [.ref (ad 157), .int (p)] (wl D ad M) 0 0 (PI (-1) (wl D ad (upd2 M 157 4 (nI 0)))) := by
  refine Spec.of (by decide) rfl (Nat.le_of_ble_eq_true rfl) rfl ?_
  have hw := h.1
  refine E_aload0 (q := 1) dX6_clone_0 rfl ?_
  refine E_iconst (v := nI 0) (q := 2) dX6_clone_1 (by decide) rfl ?_
  refine P_X6_thrown (q := 5) fl_X6_43 dX6_clone_2 rfl ?_
  refine E_aload0 (q := 6) dX6_clone_5 rfl ?_
  refine E_iload1 (q := 7) dX6_clone_6 rfl ?_
  refine C_V1I (q := 10) lk_X6_70 (sp_X6_isSnpF h.fl hn) rc_X6 dX6_clone_7 (by decide) (Nat.le_of_ble_eq_true rfl) rfl ?_
  refine E_if_ne (tgt := 15) (q := 13) dX6_clone_10 (by decide) rfl (fun h10 => ?_) (fun h10 => ?_)
  · first | exact absurd h10 (by decide) | exact absurd (by decide) h10
  · skip
    refine E_iconst (v := -1) (q := 14) dX6_clone_13 (by decide) rfl ?_
    exact E_ireturn rfl rfl dX6_clone_14 (PI_of rfl rfl)
theorem sp_X6_cloneF {p : Int32} (h : RI M 158 A) (hp : SnpA A p) (hv : aV A = 6) : Spec D 14 yX6_clone cfX6_clone [.ref (ad 157), .int (p)] (wl D ad M) 0 0 (PI (-3) (wl D ad (upd2 M 157 4 (nI 0)))) := by
  refine Spec.of (by decide) rfl (Nat.le_of_ble_eq_true rfl) rfl ?_
  have hw := h.1
  refine E_aload0 (q := 1) dX6_clone_0 rfl ?_
  refine E_iconst (v := nI 0) (q := 2) dX6_clone_1 (by decide) rfl ?_
  refine P_X6_thrown (q := 5) fl_X6_43 dX6_clone_2 rfl ?_
  refine E_aload0 (q := 6) dX6_clone_5 rfl ?_
  refine E_iload1 (q := 7) dX6_clone_6 rfl ?_
  refine C_V1I (q := 10) lk_X6_70 (sp_X6_isSnpT h.fl hp) rc_X6 dX6_clone_7 (by decide) (Nat.le_of_ble_eq_true rfl) rfl ?_
  refine E_if_ne (tgt := 15) (q := 13) dX6_clone_10 (by decide) rfl (fun h10 => ?_) (fun h10 => ?_)
  · skip
    refine E_aload0 (q := 16) dX6_clone_15 rfl ?_
    refine G_X6_w (q := 19) (x := 158) (by repeat (first | exact hw | refine WX.w ?_ | refine WX.u (by decide) ?_)) fl_X6_16 dX6_clone_16 rfl ?_
    refine E_iconst (v := nI 3) (q := 20) dX6_clone_19 (by decide) rfl ?_
    refine E_ialdN (q := 21) hw.2 (by omega) (by decide) dX6_clone_20 rfl ?_
    refine V_int h.fl.2.1.1.2.2.2.1 ?_
    refine E_bipush (v := nI 6) (q := 23) dX6_clone_21 (by decide) rfl ?_
    refine E_icmp_neN (tgt := 29) (q := 26) dX6_clone_23 (by decide) rfl (by omega) (by omega) (fun h23 => ?_) (fun h23 => ?_)
    · skip
      exact absurd hv h23
    · skip
      refine E_bipush (v := -3) (q := 28) dX6_clone_26 (by decide) rfl ?_
      exact E_ireturn rfl rfl dX6_clone_28 (PI_of rfl rfl)
  · first | exact absurd h10 (by decide) | exact absurd (by decide) h10
theorem sp_X6_cloneN {s : Nat} (h : RI M 158 A) (hs16 : s < 16) (ht : th A s) (hv : aV A < 6) (hc : aC A ≤ popN (clo A s)) : Spec D 14 yX6_clone cfX6_clone [.ref (ad 157), .int (nI (s))] (wl D ad M) 0 0 (PI (-4) (wl D ad (upd2 M 157 4 (nI 0)))) := by
  refine Spec.of (by decide) rfl (Nat.le_of_ble_eq_true rfl) rfl ?_
  have hw := h.1
  have hcl := h.2.2.1.1.2.2.2.2
  have hpl := popN_le (clo A s)
  refine E_aload0 (q := 1) dX6_clone_0 rfl ?_
  refine E_iconst (v := nI 0) (q := 2) dX6_clone_1 (by decide) rfl ?_
  refine P_X6_thrown (q := 5) fl_X6_43 dX6_clone_2 rfl ?_
  refine E_aload0 (q := 6) dX6_clone_5 rfl ?_
  refine E_iload1 (q := 7) dX6_clone_6 rfl ?_
  refine C_V1I (q := 10) lk_X6_70 (sp_X6_isSnpT h.fl ((SnpA_nI (by omega)).mpr ⟨hs16, ht⟩)) rc_X6 dX6_clone_7 (by decide) (Nat.le_of_ble_eq_true rfl) rfl ?_
  refine E_if_ne (tgt := 15) (q := 13) dX6_clone_10 (by decide) rfl (fun h10 => ?_) (fun h10 => ?_)
  · skip
    refine E_aload0 (q := 16) dX6_clone_15 rfl ?_
    refine G_X6_w (q := 19) (x := 158) (by repeat (first | exact hw | refine WX.w ?_ | refine WX.u (by decide) ?_)) fl_X6_16 dX6_clone_16 rfl ?_
    refine E_iconst (v := nI 3) (q := 20) dX6_clone_19 (by decide) rfl ?_
    refine E_ialdN (q := 21) hw.2 (by omega) (by decide) dX6_clone_20 rfl ?_
    refine V_int h.fl.2.1.1.2.2.2.1 ?_
    refine E_bipush (v := nI 6) (q := 23) dX6_clone_21 (by decide) rfl ?_
    refine E_icmp_neN (tgt := 29) (q := 26) dX6_clone_23 (by decide) rfl (by omega) (by omega) (fun h23 => ?_) (fun h23 => ?_)
    · skip
      refine E_aload0 (q := 30) dX6_clone_29 rfl ?_
      refine E_iload1 (q := 31) dX6_clone_30 rfl ?_
      refine C_V1I (q := 34) lk_X6_132 (sp_X6_clones h.fl hs16) rc_X6 dX6_clone_31 (by decide) (Nat.le_of_ble_eq_true rfl) rfl ?_
      refine C_S1I (q := 37) lk_X6_121 (sp_X6_bits (bset_lt32 (by decide))) dX6_clone_34 (by decide) (Nat.le_of_ble_eq_true rfl) rfl ?_
      refine E_aload0 (q := 38) dX6_clone_37 rfl ?_
      refine G_X6_w (q := 41) (x := 158) (by repeat (first | exact hw | refine WX.w ?_ | refine WX.u (by decide) ?_)) fl_X6_16 dX6_clone_38 rfl ?_
      refine E_iconst (v := nI 1) (q := 42) dX6_clone_41 (by decide) rfl ?_
      refine E_ialdN (q := 43) hw.2 (by omega) (by decide) dX6_clone_42 rfl ?_
      refine V_int h.fl.2.1.1.2.1 ?_
      refine E_icmp_ltN (tgt := 49) (q := 46) dX6_clone_43 (by decide) rfl (by omega) (by omega) (fun h43 => ?_) (fun h43 => ?_)
      · skip
        exact absurd h43 (by omega)
      · skip
        refine E_bipush (v := -4) (q := 48) dX6_clone_46 (by decide) rfl ?_
        exact E_ireturn rfl rfl dX6_clone_48 (PI_of rfl rfl)
    · skip
      exact absurd h23 (by omega)
  · first | exact absurd h10 (by decide) | exact absurd (by decide) h10
theorem sp_X6_clone {s : Nat} {k : Nat} (h : RI M 158 A) (hk : M 157 2 = nI k) (hk8 : k ≤ 8) (hs16 : s < 16) (ht : th A s) (hv : aV A < 6) (hc : popN (clo A s) < aC A) : Spec D 14 yX6_clone cfX6_clone [.ref (ad 157), .int (nI (s))] (wl D ad M) 0 0 (PX (fun x w => x = nI (aV A) ∧ RW D ad (tM M k) 158 (mkVol A (s + 1) 0) w)) := by
  refine Spec.of (by decide) rfl (Nat.le_of_ble_eq_true rfl) rfl ?_
  have hw := h.1
  have hk1 : upd2 M 157 4 (nI 0) 157 2 = nI k := by rw [upd2_ne (by decide)]; exact hk
  have h2 : RI (tM M k) 158 A := h.fl.rem
  have hr := h2.1.all
  have hs := h2.1.2
  have hq : RI (row2 (tM M k) 158 (tM M k 158)) 158 A := RI.row h2.1 h2.2.1 h2.2.2
  have hcl := h.2.2.1.1.2.2.2.2
  have hpl := popN_le (clo A s)
  refine E_aload0 (q := 1) dX6_clone_0 rfl ?_
  refine E_iconst (v := nI 0) (q := 2) dX6_clone_1 (by decide) rfl ?_
  refine P_X6_thrown (q := 5) fl_X6_43 dX6_clone_2 rfl ?_
  refine E_aload0 (q := 6) dX6_clone_5 rfl ?_
  refine E_iload1 (q := 7) dX6_clone_6 rfl ?_
  refine C_V1I (q := 10) lk_X6_70 (sp_X6_isSnpT h.fl ((SnpA_nI (by omega)).mpr ⟨hs16, ht⟩)) rc_X6 dX6_clone_7 (by decide) (Nat.le_of_ble_eq_true rfl) rfl ?_
  refine E_if_ne (tgt := 15) (q := 13) dX6_clone_10 (by decide) rfl (fun h10 => ?_) (fun h10 => ?_)
  · skip
    refine E_aload0 (q := 16) dX6_clone_15 rfl ?_
    refine G_X6_w (q := 19) (x := 158) (by repeat (first | exact hw | refine WX.w ?_ | refine WX.u (by decide) ?_)) fl_X6_16 dX6_clone_16 rfl ?_
    refine E_iconst (v := nI 3) (q := 20) dX6_clone_19 (by decide) rfl ?_
    refine E_ialdN (q := 21) hw.2 (by omega) (by decide) dX6_clone_20 rfl ?_
    refine V_int h.fl.2.1.1.2.2.2.1 ?_
    refine E_bipush (v := nI 6) (q := 23) dX6_clone_21 (by decide) rfl ?_
    refine E_icmp_neN (tgt := 29) (q := 26) dX6_clone_23 (by decide) rfl (by omega) (by omega) (fun h23 => ?_) (fun h23 => ?_)
    · skip
      refine E_aload0 (q := 30) dX6_clone_29 rfl ?_
      refine E_iload1 (q := 31) dX6_clone_30 rfl ?_
      refine C_V1I (q := 34) lk_X6_132 (sp_X6_clones h.fl hs16) rc_X6 dX6_clone_31 (by decide) (Nat.le_of_ble_eq_true rfl) rfl ?_
      refine C_S1I (q := 37) lk_X6_121 (sp_X6_bits (bset_lt32 (by decide))) dX6_clone_34 (by decide) (Nat.le_of_ble_eq_true rfl) rfl ?_
      refine E_aload0 (q := 38) dX6_clone_37 rfl ?_
      refine G_X6_w (q := 41) (x := 158) (by repeat (first | exact hw | refine WX.w ?_ | refine WX.u (by decide) ?_)) fl_X6_16 dX6_clone_38 rfl ?_
      refine E_iconst (v := nI 1) (q := 42) dX6_clone_41 (by decide) rfl ?_
      refine E_ialdN (q := 43) hw.2 (by omega) (by decide) dX6_clone_42 rfl ?_
      refine V_int h.fl.2.1.1.2.1 ?_
      refine E_icmp_ltN (tgt := 49) (q := 46) dX6_clone_43 (by decide) rfl (by omega) (by omega) (fun h43 => ?_) (fun h43 => ?_)
      · skip
        refine E_aload0 (q := 50) dX6_clone_49 rfl ?_
        refine C_V0V (q := 53) lk_X6_183 (sp_X6_remember hk1 hk8) rc_X6 dX6_clone_50 (by decide) (Nat.le_of_ble_eq_true rfl) rfl ?_
        refine V_ws (show _ = wl D ad (row2 (tM M k) 158 (tM M k 158)) from congrArg (wl D ad) row2_self.symm) ?_
        refine E_aload0 (q := 54) dX6_clone_53 rfl ?_
        refine E_iload1 (q := 55) dX6_clone_54 rfl ?_
        refine E_iconst (v := nI 0) (q := 56) dX6_clone_55 (by decide) rfl ?_
        refine C_V2X (q := 59) lk_X6_186 (sp_X6_makeVolS (f := tM M k 158) (nm := 0) h2.1 h2.2.1 h2.2.2 hv hs16) rc_X6 dX6_clone_56 (by decide) (Nat.le_of_ble_eq_true rfl) rfl ?_
        refine kkRX ?_
        intro f1 hf1
        exact E_ireturn rfl rfl dX6_clone_59 ⟨_, rfl, rfl, f1, hf1, rfl⟩
      · skip
        exact absurd h43 (by omega)
    · skip
      exact absurd h23 (by omega)
  · first | exact absurd h10 (by decide) | exact absurd (by decide) h10
theorem sp_X6_destroyS {p : Int32} (h : RI M 158 A) (hn : ¬ SnpA A p) : Spec D 14 yX6_destroy cfX6_destroy [.ref (ad 157), .int (p)] (wl D ad M) 0 0 (PI (-1) (wl D ad (upd2 M 157 4 (nI 0)))) := by
  refine Spec.of (by decide) rfl (Nat.le_of_ble_eq_true rfl) rfl ?_
  have hw := h.1
  refine E_aload0 (q := 1) dX6_destroy_0 rfl ?_
  refine E_iconst (v := nI 0) (q := 2) dX6_destroy_1 (by decide) rfl ?_
  refine P_X6_thrown (q := 5) fl_X6_43 dX6_destroy_2 rfl ?_
  refine E_aload0 (q := 6) dX6_destroy_5 rfl ?_
  refine E_iload1 (q := 7) dX6_destroy_6 rfl ?_
  refine C_V1I (q := 10) lk_X6_70 (sp_X6_isSnpF h.fl hn) rc_X6 dX6_destroy_7 (by decide) (Nat.le_of_ble_eq_true rfl) rfl ?_
  refine E_if_ne (tgt := 15) (q := 13) dX6_destroy_10 (by decide) rfl (fun h10 => ?_) (fun h10 => ?_)
  · first | exact absurd h10 (by decide) | exact absurd (by decide) h10
  · skip
    refine E_iconst (v := -1) (q := 14) dX6_destroy_13 (by decide) rfl ?_
    exact E_ireturn rfl rfl dX6_destroy_14 (PI_of rfl rfl)
theorem sp_X6_destroyN {s : Nat} (h : RI M 158 A) (hs16 : s < 16) (ht : th A s) (hy : whyN A s ≠ 0) : Spec D 14 yX6_destroy cfX6_destroy [.ref (ad 157), .int (nI (s))] (wl D ad M) 0 0 (PI (-4) (wl D ad (upd2 M 157 4 (nI 0)))) := by
  refine Spec.of (by decide) rfl (Nat.le_of_ble_eq_true rfl) rfl ?_
  have hw := h.1
  have hwl : whyN A s < 2 ^ 31 := why_lt s
  refine E_aload0 (q := 1) dX6_destroy_0 rfl ?_
  refine E_iconst (v := nI 0) (q := 2) dX6_destroy_1 (by decide) rfl ?_
  refine P_X6_thrown (q := 5) fl_X6_43 dX6_destroy_2 rfl ?_
  refine E_aload0 (q := 6) dX6_destroy_5 rfl ?_
  refine E_iload1 (q := 7) dX6_destroy_6 rfl ?_
  refine C_V1I (q := 10) lk_X6_70 (sp_X6_isSnpT h.fl ((SnpA_nI (by omega)).mpr ⟨hs16, ht⟩)) rc_X6 dX6_destroy_7 (by decide) (Nat.le_of_ble_eq_true rfl) rfl ?_
  refine E_if_ne (tgt := 15) (q := 13) dX6_destroy_10 (by decide) rfl (fun h10 => ?_) (fun h10 => ?_)
  · skip
    refine E_aload0 (q := 16) dX6_destroy_15 rfl ?_
    refine E_iload1 (q := 17) dX6_destroy_16 rfl ?_
    refine C_V1I (q := 20) lk_X6_159 (sp_X6_why h.fl hs16 ht) rc_X6 dX6_destroy_17 (by decide) (Nat.le_of_ble_eq_true rfl) rfl ?_
    refine E_if_eq (tgt := 26) (q := 23) dX6_destroy_20 (by decide) rfl (fun h20 => ?_) (fun h20 => ?_)
    · skip
      exact absurd ((nI_z hwl).mp h20) hy
    · skip
      refine E_bipush (v := -4) (q := 25) dX6_destroy_23 (by decide) rfl ?_
      exact E_ireturn rfl rfl dX6_destroy_25 (PI_of rfl rfl)
  · first | exact absurd h10 (by decide) | exact absurd (by decide) h10
theorem sp_X6_destroy {s : Nat} {k : Nat} (h : RI M 158 A) (hk : M 157 2 = nI k) (hk8 : k ≤ 8) (hs16 : s < 16) (ht : th A s) (hy : whyN A s = 0) : Spec D 14 yX6_destroy cfX6_destroy [.ref (ad 157), .int (nI (s))] (wl D ad M) 0 0 (PX (fun x w => x = nI (gone A (remA A (2 ^ s))) ∧ RW D ad (tM M k) 158 (remA A (2 ^ s)) w)) := by
  refine Spec.of (by decide) rfl (Nat.le_of_ble_eq_true rfl) rfl ?_
  have hw := h.1
  have hk1 : upd2 M 157 4 (nI 0) 157 2 = nI k := by rw [upd2_ne (by decide)]; exact hk
  have h2 : RI (tM M k) 158 A := h.fl.rem
  have hr := h2.1.all
  have hs := h2.1.2
  have hq : RI (row2 (tM M k) 158 (tM M k 158)) 158 A := RI.row h2.1 h2.2.1 h2.2.2
  have hle := rem_le (A := A) (2 ^ s)
  have hA1 : WF (remA A (2 ^ s)) := remA_WF h.2.2 (mayGo_snp (Nat.pow_lt_pow_right (by decide) hs16) (fun t _ hb => by rw [pow_bit] at hb; subst hb; exact hy))
  refine E_aload0 (q := 1) dX6_destroy_0 rfl ?_
  refine E_iconst (v := nI 0) (q := 2) dX6_destroy_1 (by decide) rfl ?_
  refine P_X6_thrown (q := 5) fl_X6_43 dX6_destroy_2 rfl ?_
  refine E_aload0 (q := 6) dX6_destroy_5 rfl ?_
  refine E_iload1 (q := 7) dX6_destroy_6 rfl ?_
  refine C_V1I (q := 10) lk_X6_70 (sp_X6_isSnpT h.fl ((SnpA_nI (by omega)).mpr ⟨hs16, ht⟩)) rc_X6 dX6_destroy_7 (by decide) (Nat.le_of_ble_eq_true rfl) rfl ?_
  refine E_if_ne (tgt := 15) (q := 13) dX6_destroy_10 (by decide) rfl (fun h10 => ?_) (fun h10 => ?_)
  · skip
    refine E_aload0 (q := 16) dX6_destroy_15 rfl ?_
    refine E_iload1 (q := 17) dX6_destroy_16 rfl ?_
    refine C_V1I (q := 20) lk_X6_159 (sp_X6_why h.fl hs16 ht) rc_X6 dX6_destroy_17 (by decide) (Nat.le_of_ble_eq_true rfl) rfl ?_
    rw [hy]
    refine E_if_eq (tgt := 26) (q := 23) dX6_destroy_20 (by decide) rfl (fun h20 => ?_) (fun h20 => ?_)
    · skip
      refine E_aload0 (q := 27) dX6_destroy_26 rfl ?_
      refine C_V0V (q := 30) lk_X6_183 (sp_X6_remember hk1 hk8) rc_X6 dX6_destroy_27 (by decide) (Nat.le_of_ble_eq_true rfl) rfl ?_
      refine V_ws (show _ = wl D ad (row2 (tM M k) 158 (tM M k 158)) from congrArg (wl D ad) row2_self.symm) ?_
      refine E_aload0 (q := 31) dX6_destroy_30 rfl ?_
      refine E_iconst (v := nI 1) (q := 32) dX6_destroy_31 (by decide) rfl ?_
      refine C_V1I (q := 35) lk_X6_113 (sp_X6_allU hq) rc_X6 dX6_destroy_32 (by decide) (Nat.le_of_ble_eq_true rfl) rfl ?_
      refine E_istore2 (q := 36) dX6_destroy_35 rfl rfl ?_
      refine E_aload0 (q := 37) dX6_destroy_36 rfl ?_
      refine E_iload1 (q := 38) dX6_destroy_37 rfl ?_
      refine C_V1Y (q := 41) lk_X6_195 (sp_X6_remove (f := tM M k 158) h2.1 h2.2.1 h2.2.2 hs16 ht) rc_X6 dX6_destroy_38 (by decide) (Nat.le_of_ble_eq_true rfl) rfl ?_
      refine kkRW ?_
      intro f1 hf1
      refine E_iload2 (q := 42) dX6_destroy_41 rfl ?_
      refine E_aload0 (q := 43) dX6_destroy_42 rfl ?_
      refine E_iconst (v := nI 1) (q := 44) dX6_destroy_43 (by decide) rfl ?_
      refine C_V1I (q := 47) lk_X6_113 (sp_X6_allU (RI.row h2.1 hf1 hA1)) rc_X6 dX6_destroy_44 (by decide) (Nat.le_of_ble_eq_true rfl) rfl ?_
      refine E_isubN (q := 48) dX6_destroy_47 (by omega) rfl ?_
      exact E_ireturn rfl rfl dX6_destroy_48 ⟨_, rfl, rfl, f1, hf1, rfl⟩
    · first | exact absurd h20 (by decide) | exact absurd (by decide) h20
  · first | exact absurd h10 (by decide) | exact absurd (by decide) h10
theorem sp_X6_destroySet0 (h : RI M 158 A) : Spec D 14 yX6_destroySet cfX6_destroySet [.ref (ad 157), .int (nI (0))] (wl D ad M) 0 0 (PI (-2) (wl D ad (upd2 M 157 4 (nI 0)))) := by
  refine Spec.of (by decide) rfl (Nat.le_of_ble_eq_true rfl) rfl ?_
  have hw := h.1
  refine E_aload0 (q := 1) dX6_destroySet_0 rfl ?_
  refine E_iconst (v := nI 0) (q := 2) dX6_destroySet_1 (by decide) rfl ?_
  refine P_X6_thrown (q := 5) fl_X6_43 dX6_destroySet_2 rfl ?_
  refine E_iload1 (q := 6) dX6_destroySet_5 rfl ?_
  refine E_if_ne (tgt := 12) (q := 9) dX6_destroySet_6 (by decide) rfl (fun h6 => ?_) (fun h6 => ?_)
  · first | exact absurd h6 (by decide) | exact absurd (by decide) h6
  · skip
    refine E_bipush (v := -2) (q := 11) dX6_destroySet_9 (by decide) rfl ?_
    exact E_ireturn rfl rfl dX6_destroySet_11 (PI_of rfl rfl)
theorem sp_X6_destroySetS {q : Int32} (h : RI M 158 A) (h0 : q ≠ 0) (hq : ¬ q &&& (nI (snps A) ^^^ (-1)) = 0) : Spec D 14 yX6_destroySet cfX6_destroySet [.ref (ad 157), .int (q)] (wl D ad M) 0 0 (PI (-1) (wl D ad (upd2 M 157 4 (nI 0)))) := by
  refine Spec.of (by decide) rfl (Nat.le_of_ble_eq_true rfl) rfl ?_
  have hw := h.1
  refine E_aload0 (q := 1) dX6_destroySet_0 rfl ?_
  refine E_iconst (v := nI 0) (q := 2) dX6_destroySet_1 (by decide) rfl ?_
  refine P_X6_thrown (q := 5) fl_X6_43 dX6_destroySet_2 rfl ?_
  refine E_iload1 (q := 6) dX6_destroySet_5 rfl ?_
  refine E_if_ne (tgt := 12) (q := 9) dX6_destroySet_6 (by decide) rfl (fun h6 => ?_) (fun h6 => ?_)
  · skip
    refine E_iload1 (q := 13) dX6_destroySet_12 rfl ?_
    refine E_aload0 (q := 14) dX6_destroySet_13 rfl ?_
    refine C_V0I (q := 17) lk_X6_117 (sp_X6_snapshots h.fl) rc_X6 dX6_destroySet_14 (by decide) (Nat.le_of_ble_eq_true rfl) rfl ?_
    refine E_iconst (v := -1) (q := 18) dX6_destroySet_17 (by decide) rfl ?_
    refine E_ixor (q := 19) dX6_destroySet_18 rfl ?_
    refine E_iand (q := 20) dX6_destroySet_19 rfl ?_
    refine E_if_eq (tgt := 25) (q := 23) dX6_destroySet_20 (by decide) rfl (fun h20 => ?_) (fun h20 => ?_)
    · skip
      exact absurd h20 hq
    · skip
      refine E_iconst (v := -1) (q := 24) dX6_destroySet_23 (by decide) rfl ?_
      exact E_ireturn rfl rfl dX6_destroySet_24 (PI_of rfl rfl)
  · skip
    exact absurd h6 h0
theorem sp_X6_destroySetN {m : Nat} (h : RI M 158 A) (h0 : m ≠ 0) (hm : m < 2 ^ 16) (hqm : nI m &&& (nI (snps A) ^^^ (-1)) = 0) (hth : ∀ s, m.testBit s = true → s < 16 ∧ th A s) (hy : ¬ ∀ s, s < 16 → m.testBit s = true → whyN A s = 0) : Spec D 14 yX6_destroySet cfX6_destroySet [.ref (ad 157), .int (nI (m))] (wl D ad M) 0 0 (PI (-4) (wl D ad (upd2 M 157 4 (nI 0)))) := by
  refine Spec.of (by decide) rfl (Nat.le_of_ble_eq_true rfl) rfl ?_
  have hw := h.1
  refine E_aload0 (q := 1) dX6_destroySet_0 rfl ?_
  refine E_iconst (v := nI 0) (q := 2) dX6_destroySet_1 (by decide) rfl ?_
  refine P_X6_thrown (q := 5) fl_X6_43 dX6_destroySet_2 rfl ?_
  refine E_iload1 (q := 6) dX6_destroySet_5 rfl ?_
  refine E_if_ne (tgt := 12) (q := 9) dX6_destroySet_6 (by decide) rfl (fun h6 => ?_) (fun h6 => ?_)
  · skip
    refine E_iload1 (q := 13) dX6_destroySet_12 rfl ?_
    refine E_aload0 (q := 14) dX6_destroySet_13 rfl ?_
    refine C_V0I (q := 17) lk_X6_117 (sp_X6_snapshots h.fl) rc_X6 dX6_destroySet_14 (by decide) (Nat.le_of_ble_eq_true rfl) rfl ?_
    refine E_iconst (v := -1) (q := 18) dX6_destroySet_17 (by decide) rfl ?_
    refine E_ixor (q := 19) dX6_destroySet_18 rfl ?_
    refine E_iand (q := 20) dX6_destroySet_19 rfl ?_
    refine E_if_eq (tgt := 25) (q := 23) dX6_destroySet_20 (by decide) rfl (fun h20 => ?_) (fun h20 => ?_)
    · skip
      refine E_aload0 (q := 26) dX6_destroySet_25 rfl ?_
      refine E_iload1 (q := 27) dX6_destroySet_26 rfl ?_
      refine C_V1I (q := 30) lk_X6_199 (sp_X6_canRemove h.fl (by omega) (fun s _ hb => (hth s hb).2)) rc_X6 dX6_destroySet_27 (by decide) (Nat.le_of_ble_eq_true rfl) rfl ?_
      refine E_if_ne (tgt := 36) (q := 33) dX6_destroySet_30 (by decide) rfl (fun h30 => ?_) (fun h30 => ?_)
      · skip
        exact absurd (zI_n h30) hy
      · skip
        refine E_bipush (v := -4) (q := 35) dX6_destroySet_33 (by decide) rfl ?_
        exact E_ireturn rfl rfl dX6_destroySet_35 (PI_of rfl rfl)
    · skip
      exact absurd hqm h20
  · skip
    exact absurd ((nI_z (by omega)).mp h6) h0
theorem sp_X6_destroySet {m : Nat} {k : Nat} (h : RI M 158 A) (hk : M 157 2 = nI k) (hk8 : k ≤ 8) (h0 : m ≠ 0) (hm : m < 2 ^ 16) (hqm : nI m &&& (nI (snps A) ^^^ (-1)) = 0) (hth : ∀ s, m.testBit s = true → s < 16 ∧ th A s) (hy : ∀ s, s < 16 → m.testBit s = true → whyN A s = 0) : Spec D 14 yX6_destroySet cfX6_destroySet [.ref (ad 157), .int (nI (m))] (wl D ad M) 0 0 (PX (fun x w => x = nI (gone A (remA A m)) ∧ RW D ad (tM M k) 158 (remA A m) w)) := by
  refine Spec.of (by decide) rfl (Nat.le_of_ble_eq_true rfl) rfl ?_
  have hw := h.1
  have hk1 : upd2 M 157 4 (nI 0) 157 2 = nI k := by rw [upd2_ne (by decide)]; exact hk
  have h2 : RI (tM M k) 158 A := h.fl.rem
  have hr := h2.1.all
  have hs := h2.1.2
  have hq : RI (row2 (tM M k) 158 (tM M k 158)) 158 A := RI.row h2.1 h2.2.1 h2.2.2
  have hq1 : RI (row2 (tM M k) 158 (tM M k 158)) 158 A := RI.row h2.1 h2.2.1 h2.2.2
  have hle := rem_le (A := A) m
  have hA1 : WF (remA A m) := remA_WF h.2.2 (mayGo_snp hm hy)
  refine E_aload0 (q := 1) dX6_destroySet_0 rfl ?_
  refine E_iconst (v := nI 0) (q := 2) dX6_destroySet_1 (by decide) rfl ?_
  refine P_X6_thrown (q := 5) fl_X6_43 dX6_destroySet_2 rfl ?_
  refine E_iload1 (q := 6) dX6_destroySet_5 rfl ?_
  refine E_if_ne (tgt := 12) (q := 9) dX6_destroySet_6 (by decide) rfl (fun h6 => ?_) (fun h6 => ?_)
  · skip
    refine E_iload1 (q := 13) dX6_destroySet_12 rfl ?_
    refine E_aload0 (q := 14) dX6_destroySet_13 rfl ?_
    refine C_V0I (q := 17) lk_X6_117 (sp_X6_snapshots h.fl) rc_X6 dX6_destroySet_14 (by decide) (Nat.le_of_ble_eq_true rfl) rfl ?_
    refine E_iconst (v := -1) (q := 18) dX6_destroySet_17 (by decide) rfl ?_
    refine E_ixor (q := 19) dX6_destroySet_18 rfl ?_
    refine E_iand (q := 20) dX6_destroySet_19 rfl ?_
    refine E_if_eq (tgt := 25) (q := 23) dX6_destroySet_20 (by decide) rfl (fun h20 => ?_) (fun h20 => ?_)
    · skip
      refine E_aload0 (q := 26) dX6_destroySet_25 rfl ?_
      refine E_iload1 (q := 27) dX6_destroySet_26 rfl ?_
      refine C_V1I (q := 30) lk_X6_199 (sp_X6_canRemove h.fl (by omega) (fun s _ hb => (hth s hb).2)) rc_X6 dX6_destroySet_27 (by decide) (Nat.le_of_ble_eq_true rfl) rfl ?_
      refine E_if_ne (tgt := 36) (q := 33) dX6_destroySet_30 (by decide) rfl (fun h30 => ?_) (fun h30 => ?_)
      · skip
        refine E_aload0 (q := 37) dX6_destroySet_36 rfl ?_
        refine C_V0V (q := 40) lk_X6_183 (sp_X6_remember hk1 hk8) rc_X6 dX6_destroySet_37 (by decide) (Nat.le_of_ble_eq_true rfl) rfl ?_
        refine V_ws (show _ = wl D ad (row2 (tM M k) 158 (tM M k 158)) from congrArg (wl D ad) row2_self.symm) ?_
        refine E_aload0 (q := 41) dX6_destroySet_40 rfl ?_
        refine E_iconst (v := nI 1) (q := 42) dX6_destroySet_41 (by decide) rfl ?_
        refine C_V1I (q := 45) lk_X6_113 (sp_X6_allU hq1) rc_X6 dX6_destroySet_42 (by decide) (Nat.le_of_ble_eq_true rfl) rfl ?_
        refine E_istore2 (q := 46) dX6_destroySet_45 rfl rfl ?_
        refine E_aload0 (q := 47) dX6_destroySet_46 rfl ?_
        refine E_iload1 (q := 48) dX6_destroySet_47 rfl ?_
        refine C_V1Y (q := 51) lk_X6_202 (sp_X6_removeAll (f := tM M k 158) h2.1 h2.2.1 h2.2.2 hm (fun s hb => (hth s hb).2) hy) rc_X6 dX6_destroySet_48 (by decide) (Nat.le_of_ble_eq_true rfl) rfl ?_
        refine kkRW ?_
        intro f1 hf1
        refine E_iload2 (q := 52) dX6_destroySet_51 rfl ?_
        refine E_aload0 (q := 53) dX6_destroySet_52 rfl ?_
        refine E_iconst (v := nI 1) (q := 54) dX6_destroySet_53 (by decide) rfl ?_
        refine C_V1I (q := 57) lk_X6_113 (sp_X6_allU (RI.row h2.1 hf1 hA1)) rc_X6 dX6_destroySet_54 (by decide) (Nat.le_of_ble_eq_true rfl) rfl ?_
        refine E_isubN (q := 58) dX6_destroySet_57 (by omega) rfl ?_
        exact E_ireturn rfl rfl dX6_destroySet_58 ⟨_, rfl, rfl, f1, hf1, rfl⟩
      · skip
        exact absurd hy (zI_0 h30)
    · skip
      exact absurd hqm h20
  · skip
    exact absurd ((nI_z (by omega)).mp h6) h0
theorem sp_X6_destroyVolumeV {p : Int32} (h : RI M 158 A) (hn : ¬ VolA A p) : Spec D 14 yX6_destroyVolume cfX6_destroyVolume [.ref (ad 157), .int (p)] (wl D ad M) 0 0 (PI (-1) (wl D ad (upd2 M 157 4 (nI 0)))) := by
  refine Spec.of (by decide) rfl (Nat.le_of_ble_eq_true rfl) rfl ?_
  have hw := h.1
  refine E_aload0 (q := 1) dX6_destroyVolume_0 rfl ?_
  refine E_iconst (v := nI 0) (q := 2) dX6_destroyVolume_1 (by decide) rfl ?_
  refine P_X6_thrown (q := 5) fl_X6_43 dX6_destroyVolume_2 rfl ?_
  refine E_aload0 (q := 6) dX6_destroyVolume_5 rfl ?_
  refine E_iload1 (q := 7) dX6_destroyVolume_6 rfl ?_
  refine C_V1I (q := 10) lk_X6_74 (sp_X6_isVolF h.fl hn) rc_X6 dX6_destroyVolume_7 (by decide) (Nat.le_of_ble_eq_true rfl) rfl ?_
  refine E_if_ne (tgt := 15) (q := 13) dX6_destroyVolume_10 (by decide) rfl (fun h10 => ?_) (fun h10 => ?_)
  · first | exact absurd h10 (by decide) | exact absurd (by decide) h10
  · skip
    refine E_iconst (v := -1) (q := 14) dX6_destroyVolume_13 (by decide) rfl ?_
    exact E_ireturn rfl rfl dX6_destroyVolume_14 (PI_of rfl rfl)
theorem sp_X6_destroyVolumeN {v : Nat} (h : RI M 158 A) (hv : v < 6) (ht : th A (16 + v)) (hy : ¬ ∀ s, s < 16 → (rowM A v).testBit s = true → whyN A s = 0) : Spec D 14 yX6_destroyVolume cfX6_destroyVolume [.ref (ad 157), .int (nI (v))] (wl D ad M) 0 0 (PI (-4) (wl D ad (upd2 M 157 4 (nI 0)))) := by
  refine Spec.of (by decide) rfl (Nat.le_of_ble_eq_true rfl) rfl ?_
  have hw := h.1
  refine E_aload0 (q := 1) dX6_destroyVolume_0 rfl ?_
  refine E_iconst (v := nI 0) (q := 2) dX6_destroyVolume_1 (by decide) rfl ?_
  refine P_X6_thrown (q := 5) fl_X6_43 dX6_destroyVolume_2 rfl ?_
  refine E_aload0 (q := 6) dX6_destroyVolume_5 rfl ?_
  refine E_iload1 (q := 7) dX6_destroyVolume_6 rfl ?_
  refine C_V1I (q := 10) lk_X6_74 (sp_X6_isVolT h.fl ((VolA_nI (by omega)).mpr ⟨hv, ht⟩)) rc_X6 dX6_destroyVolume_7 (by decide) (Nat.le_of_ble_eq_true rfl) rfl ?_
  refine E_if_ne (tgt := 15) (q := 13) dX6_destroyVolume_10 (by decide) rfl (fun h10 => ?_) (fun h10 => ?_)
  · skip
    refine E_aload0 (q := 16) dX6_destroyVolume_15 rfl ?_
    refine E_aload0 (q := 17) dX6_destroyVolume_16 rfl ?_
    refine E_iload1 (q := 18) dX6_destroyVolume_17 rfl ?_
    refine E_iconst (v := nI 0) (q := 19) dX6_destroyVolume_18 (by decide) rfl ?_
    refine C_V2I (q := 22) lk_X6_150 (sp_X6_listOf h.fl hv ht (Nat.zero_le _)) rc_X6 dX6_destroyVolume_19 (by decide) (Nat.le_of_ble_eq_true rfl) rfl ?_
    refine V_int (congrArg nI (mkR_all A v)) ?_
    refine C_V1I (q := 25) lk_X6_199 (sp_X6_canRemove h.fl (bset_lt32 (by decide)) (fun s _ hb => (rowM_bit.mp hb).2.1)) rc_X6 dX6_destroyVolume_22 (by decide) (Nat.le_of_ble_eq_true rfl) rfl ?_
    refine E_if_ne (tgt := 31) (q := 28) dX6_destroyVolume_25 (by decide) rfl (fun h25 => ?_) (fun h25 => ?_)
    · skip
      exact absurd (zI_n h25) hy
    · skip
      refine E_bipush (v := -4) (q := 30) dX6_destroyVolume_28 (by decide) rfl ?_
      exact E_ireturn rfl rfl dX6_destroyVolume_30 (PI_of rfl rfl)
  · first | exact absurd h10 (by decide) | exact absurd (by decide) h10
theorem sp_X6_destroyVolume {v : Nat} {k : Nat} (h : RI M 158 A) (hk : M 157 2 = nI k) (hk8 : k ≤ 8) (hv : v < 6) (ht : th A (16 + v)) (hy : ∀ s, s < 16 → (rowM A v).testBit s = true → whyN A s = 0) : Spec D 14 yX6_destroyVolume cfX6_destroyVolume [.ref (ad 157), .int (nI (v))] (wl D ad M) 0 0 (PX (fun x w => x = nI (gone A (remA A (volS A v))) ∧ RW D ad (tM M k) 158 (remA A (volS A v)) w)) := by
  refine Spec.of (by decide) rfl (Nat.le_of_ble_eq_true rfl) rfl ?_
  have hw := h.1
  have hk1 : upd2 M 157 4 (nI 0) 157 2 = nI k := by rw [upd2_ne (by decide)]; exact hk
  have h2 : RI (tM M k) 158 A := h.fl.rem
  have hr := h2.1.all
  have hs := h2.1.2
  have hq : RI (row2 (tM M k) 158 (tM M k 158)) 158 A := RI.row h2.1 h2.2.1 h2.2.2
  have hle := rem_le (A := A) (volS A v)
  have hA1 : WF (remA A (volS A v)) := remA_WF h.2.2 (mayGo_vol h.2.2 hy hv)
  have hlay : ∀ f0, RowIs f0 (remA A (rowM A v)) → V D cfX6_destroyVolume (rmOf 14 0 0) (QM D (PX (fun x w => x = nI (gone A (remA A (volS A v))) ∧ RW D ad (tM M k) 158 (remA A (volS A v)) w)) 0 0) 0 0 64 [some (.ref (ad 157)), some (.int (nI (v))), some (.int (nI (fsum siz A.2))), some (.int (nI (0)))] [] (wl D ad (row2 (tM M k) 158 (upd f0 (5 + 21 * v + 0) (nI 0)))) := by
    intro f0 hf0
    have hm : V D cfX6_destroyVolume (rmOf 14 0 0) (QM D (PX (fun x w => x = nI (gone A (remA A (volS A v))) ∧ RW D ad (tM M k) 158 (remA A (volS A v)) w)) 0 0) 0 0 64 [some (.ref (ad 157)), some (.int (nI (v))), some (.int (nI (fsum siz A.2))), some (.int (nI (0)))] [] (wl D ad (row2 (tM M k) 158 (layF (upd f0 (5 + 21 * v + 0) (nI 0)) (16 + v) (fun _ => nI 0) (fun _ => nI 0) 0))) := by
      have hf1 := RowIs.remV h.2.2 hv ht hf0
      refine upto0 (n := 12) (P := fun i => V D cfX6_destroyVolume (rmOf 14 0 0) (QM D (PX (fun x w => x = nI (gone A (remA A (volS A v))) ∧ RW D ad (tM M k) 158 (remA A (volS A v)) w)) 0 0) 0 0 64 [some (.ref (ad 157)), some (.int (nI (v))), some (.int (nI (fsum siz A.2))), some (.int (nI (i)))] [] (wl D ad (row2 (tM M k) 158 (layF (upd f0 (5 + 21 * v + 0) (nI 0)) (16 + v) (fun _ => nI 0) (fun _ => nI 0) i)))) ?_ ?_
      · skip
        refine E_iload3 (q := 65) dX6_destroyVolume_64 rfl ?_
        refine E_bipush (v := nI 12) (q := 67) dX6_destroyVolume_65 (by decide) rfl ?_
        refine E_icmp_geN (tgt := 87) (q := 70) dX6_destroyVolume_67 (by decide) rfl (by omega) (by omega) (fun h67 => ?_) (fun h67 => ?_)
        · skip
          refine E_iload2 (q := 88) dX6_destroyVolume_87 rfl ?_
          refine E_aload0 (q := 89) dX6_destroyVolume_88 rfl ?_
          refine E_iconst (v := nI 1) (q := 90) dX6_destroyVolume_89 (by decide) rfl ?_
          refine C_V1I (q := 93) lk_X6_113 (sp_X6_allU (RI.row h2.1 hf1 hA1)) rc_X6 dX6_destroyVolume_90 (by decide) (Nat.le_of_ble_eq_true rfl) rfl ?_
          refine E_isubN (q := 94) dX6_destroyVolume_93 (by omega) rfl ?_
          exact E_ireturn rfl rfl dX6_destroyVolume_94 ⟨_, rfl, rfl, _, hf1, rfl⟩
        · skip
          exact absurd h67 (by omega)
      · intro i hi ih
        refine E_iload3 (q := 65) dX6_destroyVolume_64 rfl ?_
        refine E_bipush (v := nI 12) (q := 67) dX6_destroyVolume_65 (by decide) rfl ?_
        refine E_icmp_geN (tgt := 87) (q := 70) dX6_destroyVolume_67 (by decide) rfl (by omega) (by omega) (fun h67 => ?_) (fun h67 => ?_)
        · skip
          exact absurd h67 (by omega)
        · skip
          refine E_aload0 (q := 71) dX6_destroyVolume_70 rfl ?_
          refine E_bipush (v := nI 16) (q := 73) dX6_destroyVolume_71 (by decide) rfl ?_
          refine E_iload1 (q := 74) dX6_destroyVolume_73 rfl ?_
          refine E_iaddN (q := 75) dX6_destroyVolume_74 rfl ?_
          refine E_iload3 (q := 76) dX6_destroyVolume_75 rfl ?_
          refine E_iconst (v := nI 0) (q := 77) dX6_destroyVolume_76 (by decide) rfl ?_
          refine E_iconst (v := nI 0) (q := 78) dX6_destroyVolume_77 (by decide) rfl ?_
          refine C_V4V (q := 81) lk_X6_83 (sp_X6_layR (M := tM M k) h2.1 (by omega) hi) rc_X6 dX6_destroyVolume_78 (by decide) (Nat.le_of_ble_eq_true rfl) rfl ?_
          refine V_ws (congrArg (fun g => wl D ad (row2 (tM M k) 158 g)) (layF_s (bs := fun _ => nI 0) (us := fun _ => nI 0) (by omega) hi)) ?_
          refine E_iinc3 (q := 84) dX6_destroyVolume_81 (nI_inc _) rfl rfl ?_
          refine E_goto (q := 64) dX6_destroyVolume_84 (by decide) ?_
          exact ih
    rw [layF_0] at hm
    exact hm
  refine E_aload0 (q := 1) dX6_destroyVolume_0 rfl ?_
  refine E_iconst (v := nI 0) (q := 2) dX6_destroyVolume_1 (by decide) rfl ?_
  refine P_X6_thrown (q := 5) fl_X6_43 dX6_destroyVolume_2 rfl ?_
  refine E_aload0 (q := 6) dX6_destroyVolume_5 rfl ?_
  refine E_iload1 (q := 7) dX6_destroyVolume_6 rfl ?_
  refine C_V1I (q := 10) lk_X6_74 (sp_X6_isVolT h.fl ((VolA_nI (by omega)).mpr ⟨hv, ht⟩)) rc_X6 dX6_destroyVolume_7 (by decide) (Nat.le_of_ble_eq_true rfl) rfl ?_
  refine E_if_ne (tgt := 15) (q := 13) dX6_destroyVolume_10 (by decide) rfl (fun h10 => ?_) (fun h10 => ?_)
  · skip
    refine E_aload0 (q := 16) dX6_destroyVolume_15 rfl ?_
    refine E_aload0 (q := 17) dX6_destroyVolume_16 rfl ?_
    refine E_iload1 (q := 18) dX6_destroyVolume_17 rfl ?_
    refine E_iconst (v := nI 0) (q := 19) dX6_destroyVolume_18 (by decide) rfl ?_
    refine C_V2I (q := 22) lk_X6_150 (sp_X6_listOf h.fl hv ht (Nat.zero_le _)) rc_X6 dX6_destroyVolume_19 (by decide) (Nat.le_of_ble_eq_true rfl) rfl ?_
    refine V_int (congrArg nI (mkR_all A v)) ?_
    refine C_V1I (q := 25) lk_X6_199 (sp_X6_canRemove h.fl (bset_lt32 (by decide)) (fun s _ hb => (rowM_bit.mp hb).2.1)) rc_X6 dX6_destroyVolume_22 (by decide) (Nat.le_of_ble_eq_true rfl) rfl ?_
    refine E_if_ne (tgt := 31) (q := 28) dX6_destroyVolume_25 (by decide) rfl (fun h25 => ?_) (fun h25 => ?_)
    · skip
      refine E_aload0 (q := 32) dX6_destroyVolume_31 rfl ?_
      refine C_V0V (q := 35) lk_X6_183 (sp_X6_remember hk1 hk8) rc_X6 dX6_destroyVolume_32 (by decide) (Nat.le_of_ble_eq_true rfl) rfl ?_
      refine V_ws (show _ = wl D ad (row2 (tM M k) 158 (tM M k 158)) from congrArg (wl D ad) row2_self.symm) ?_
      refine E_aload0 (q := 36) dX6_destroyVolume_35 rfl ?_
      refine E_iconst (v := nI 1) (q := 37) dX6_destroyVolume_36 (by decide) rfl ?_
      refine C_V1I (q := 40) lk_X6_113 (sp_X6_allU hq) rc_X6 dX6_destroyVolume_37 (by decide) (Nat.le_of_ble_eq_true rfl) rfl ?_
      refine E_istore2 (q := 41) dX6_destroyVolume_40 rfl rfl ?_
      refine E_aload0 (q := 42) dX6_destroyVolume_41 rfl ?_
      refine E_aload0 (q := 43) dX6_destroyVolume_42 rfl ?_
      refine E_iload1 (q := 44) dX6_destroyVolume_43 rfl ?_
      refine E_iconst (v := nI 0) (q := 45) dX6_destroyVolume_44 (by decide) rfl ?_
      refine C_V2I (q := 48) lk_X6_150 (sp_X6_listOf hq hv ht (Nat.zero_le _)) rc_X6 dX6_destroyVolume_45 (by decide) (Nat.le_of_ble_eq_true rfl) rfl ?_
      refine V_int (congrArg nI (mkR_all A v)) ?_
      refine C_V1Y (q := 51) lk_X6_202 (sp_X6_removeAll (f := tM M k 158) h2.1 h2.2.1 h2.2.2 rowM_lt (fun s hb => (rowM_bit.mp hb).2.1) hy) rc_X6 dX6_destroyVolume_48 (by decide) (Nat.le_of_ble_eq_true rfl) rfl ?_
      refine kkRW ?_
      intro f0 hf0
      refine E_aload0 (q := 52) dX6_destroyVolume_51 rfl ?_
      refine G_X6_w (q := 55) (x := 158) (hr _) fl_X6_16 dX6_destroyVolume_52 rfl ?_
      refine E_iload1 (q := 56) dX6_destroyVolume_55 rfl ?_
      refine E_iconst (v := nI 0) (q := 57) dX6_destroyVolume_56 (by decide) rfl ?_
      refine C_S2I (q := 60) lk_X6_53 (sp_X6_ofVolume) dX6_destroyVolume_57 (by decide) (Nat.le_of_ble_eq_true rfl) rfl ?_
      refine E_iconst (v := nI 0) (q := 61) dX6_destroyVolume_60 (by decide) rfl ?_
      refine E_iastN (q := 62) hs (by omega) (by decide) dX6_destroyVolume_61 rfl ?_
      refine V_ws (congrArg (wl D ad) row2_upd) ?_
      refine E_iconst (v := nI 0) (q := 63) dX6_destroyVolume_62 (by decide) rfl ?_
      refine E_istore3 (q := 64) dX6_destroyVolume_63 rfl rfl ?_
      exact hlay f0 hf0
    · skip
      exact absurd hy (zI_0 h25)
  · first | exact absurd h10 (by decide) | exact absurd (by decide) h10
theorem sp_X6_rollBackS {p : Int32} (h : RI M 158 A) (hn : ¬ SnpA A p) : Spec D 14 yX6_rollBack cfX6_rollBack [.ref (ad 157), .int (p)] (wl D ad M) 0 0 (PI (-1) (wl D ad (upd2 M 157 4 (nI 0)))) := by
  refine Spec.of (by decide) rfl (Nat.le_of_ble_eq_true rfl) rfl ?_
  have hw := h.1
  refine E_aload0 (q := 1) dX6_rollBack_0 rfl ?_
  refine E_iconst (v := nI 0) (q := 2) dX6_rollBack_1 (by decide) rfl ?_
  refine P_X6_thrown (q := 5) fl_X6_43 dX6_rollBack_2 rfl ?_
  refine E_aload0 (q := 6) dX6_rollBack_5 rfl ?_
  refine E_iload1 (q := 7) dX6_rollBack_6 rfl ?_
  refine C_V1I (q := 10) lk_X6_70 (sp_X6_isSnpF h.fl hn) rc_X6 dX6_rollBack_7 (by decide) (Nat.le_of_ble_eq_true rfl) rfl ?_
  refine E_if_ne (tgt := 15) (q := 13) dX6_rollBack_10 (by decide) rfl (fun h10 => ?_) (fun h10 => ?_)
  · first | exact absurd h10 (by decide) | exact absurd (by decide) h10
  · skip
    refine E_iconst (v := -1) (q := 14) dX6_rollBack_13 (by decide) rfl ?_
    exact E_ireturn rfl rfl dX6_rollBack_14 (PI_of rfl rfl)
theorem sp_X6_rollBackN {s : Nat} (h : RI M 158 A) (hs16 : s < 16) (ht : th A s) (hy : ¬ ∀ t, t < 16 → (rowB A s).testBit t = true → whyN A t = 0) : Spec D 14 yX6_rollBack cfX6_rollBack [.ref (ad 157), .int (nI (s))] (wl D ad M) 0 0 (PI (-4) (wl D ad (upd2 M 157 4 (nI 0)))) := by
  refine Spec.of (by decide) rfl (Nat.le_of_ble_eq_true rfl) rfl ?_
  have hw := h.1
  have hv := h.2.2.hv6 hs16 ht
  have hpl : plc A s + 1 ≤ (rowL A (home A s)).length := plc_lt16 hs16 ht
  refine E_aload0 (q := 1) dX6_rollBack_0 rfl ?_
  refine E_iconst (v := nI 0) (q := 2) dX6_rollBack_1 (by decide) rfl ?_
  refine P_X6_thrown (q := 5) fl_X6_43 dX6_rollBack_2 rfl ?_
  refine E_aload0 (q := 6) dX6_rollBack_5 rfl ?_
  refine E_iload1 (q := 7) dX6_rollBack_6 rfl ?_
  refine C_V1I (q := 10) lk_X6_70 (sp_X6_isSnpT h.fl ((SnpA_nI (by omega)).mpr ⟨hs16, ht⟩)) rc_X6 dX6_rollBack_7 (by decide) (Nat.le_of_ble_eq_true rfl) rfl ?_
  refine E_if_ne (tgt := 15) (q := 13) dX6_rollBack_10 (by decide) rfl (fun h10 => ?_) (fun h10 => ?_)
  · skip
    refine E_aload0 (q := 16) dX6_rollBack_15 rfl ?_
    refine E_iload1 (q := 17) dX6_rollBack_16 rfl ?_
    refine E_iconst (v := nI 1) (q := 18) dX6_rollBack_17 (by decide) rfl ?_
    refine C_V2I (q := 21) lk_X6_67 (sp_X6_snpV h.fl hs16 ht) rc_X6 dX6_rollBack_18 (by decide) (Nat.le_of_ble_eq_true rfl) rfl ?_
    refine E_istore2 (q := 22) dX6_rollBack_21 rfl rfl ?_
    refine E_aload0 (q := 23) dX6_rollBack_22 rfl ?_
    refine E_iload2 (q := 24) dX6_rollBack_23 rfl ?_
    refine E_aload0 (q := 25) dX6_rollBack_24 rfl ?_
    refine E_iload1 (q := 26) dX6_rollBack_25 rfl ?_
    refine C_V1I (q := 29) lk_X6_104 (sp_X6_placeOf h.fl.1 h.fl.2.1 h.2.2.1 hs16 ht) rc_X6 dX6_rollBack_26 (by decide) (Nat.le_of_ble_eq_true rfl) rfl ?_
    refine E_iconst (v := nI 1) (q := 30) dX6_rollBack_29 (by decide) rfl ?_
    refine E_iaddN (q := 31) dX6_rollBack_30 rfl ?_
    refine C_V2I (q := 34) lk_X6_150 (sp_X6_listOf h.fl hv.1 hv.2 hpl) rc_X6 dX6_rollBack_31 (by decide) (Nat.le_of_ble_eq_true rfl) rfl ?_
    refine V_int (congrArg nI (mkR_behind hs16 ht)) ?_
    refine E_istore3 (q := 35) dX6_rollBack_34 rfl rfl ?_
    refine E_aload0 (q := 36) dX6_rollBack_35 rfl ?_
    refine E_iload3 (q := 37) dX6_rollBack_36 rfl ?_
    refine C_V1I (q := 40) lk_X6_199 (sp_X6_canRemove h.fl (bset_lt32 (by decide)) (fun t _ hb => (rowB_bit.mp hb).2.1)) rc_X6 dX6_rollBack_37 (by decide) (Nat.le_of_ble_eq_true rfl) rfl ?_
    refine E_if_ne (tgt := 46) (q := 43) dX6_rollBack_40 (by decide) rfl (fun h40 => ?_) (fun h40 => ?_)
    · skip
      exact absurd (zI_n h40) hy
    · skip
      refine E_bipush (v := -4) (q := 45) dX6_rollBack_43 (by decide) rfl ?_
      exact E_ireturn rfl rfl dX6_rollBack_45 (PI_of rfl rfl)
  · first | exact absurd h10 (by decide) | exact absurd (by decide) h10
theorem sp_X6_rollBack {s : Nat} {k : Nat} (h : RI M 158 A) (hk : M 157 2 = nI k) (hk8 : k ≤ 8) (hs16 : s < 16) (ht : th A s) (hy : ∀ t, t < 16 → (rowB A s).testBit t = true → whyN A t = 0) : Spec D 14 yX6_rollBack cfX6_rollBack [.ref (ad 157), .int (nI (s))] (wl D ad M) 0 0 (PX (fun x w => x = nI (gone A (rolA A s)) ∧ RW D ad (tM M k) 158 (rolA A s) w)) := by
  refine Spec.of (by decide) rfl (Nat.le_of_ble_eq_true rfl) rfl ?_
  have hw := h.1
  have hk1 : upd2 M 157 4 (nI 0) 157 2 = nI k := by rw [upd2_ne (by decide)]; exact hk
  have h2 : RI (tM M k) 158 A := h.fl.rem
  have hr := h2.1.all
  have hs := h2.1.2
  have hq : RI (row2 (tM M k) 158 (tM M k 158)) 158 A := RI.row h2.1 h2.2.1 h2.2.2
  have hv := h.2.2.hv6 hs16 ht
  have hpl : plc A s + 1 ≤ (rowL A (home A s)).length := plc_lt16 hs16 ht
  have hle := rol_le (A := A) s
  have hA1 := rolA_WF h.2.2 hs16 ht hy
  refine E_aload0 (q := 1) dX6_rollBack_0 rfl ?_
  refine E_iconst (v := nI 0) (q := 2) dX6_rollBack_1 (by decide) rfl ?_
  refine P_X6_thrown (q := 5) fl_X6_43 dX6_rollBack_2 rfl ?_
  refine E_aload0 (q := 6) dX6_rollBack_5 rfl ?_
  refine E_iload1 (q := 7) dX6_rollBack_6 rfl ?_
  refine C_V1I (q := 10) lk_X6_70 (sp_X6_isSnpT h.fl ((SnpA_nI (by omega)).mpr ⟨hs16, ht⟩)) rc_X6 dX6_rollBack_7 (by decide) (Nat.le_of_ble_eq_true rfl) rfl ?_
  refine E_if_ne (tgt := 15) (q := 13) dX6_rollBack_10 (by decide) rfl (fun h10 => ?_) (fun h10 => ?_)
  · skip
    refine E_aload0 (q := 16) dX6_rollBack_15 rfl ?_
    refine E_iload1 (q := 17) dX6_rollBack_16 rfl ?_
    refine E_iconst (v := nI 1) (q := 18) dX6_rollBack_17 (by decide) rfl ?_
    refine C_V2I (q := 21) lk_X6_67 (sp_X6_snpV h.fl hs16 ht) rc_X6 dX6_rollBack_18 (by decide) (Nat.le_of_ble_eq_true rfl) rfl ?_
    refine E_istore2 (q := 22) dX6_rollBack_21 rfl rfl ?_
    refine E_aload0 (q := 23) dX6_rollBack_22 rfl ?_
    refine E_iload2 (q := 24) dX6_rollBack_23 rfl ?_
    refine E_aload0 (q := 25) dX6_rollBack_24 rfl ?_
    refine E_iload1 (q := 26) dX6_rollBack_25 rfl ?_
    refine C_V1I (q := 29) lk_X6_104 (sp_X6_placeOf h.fl.1 h.fl.2.1 h.2.2.1 hs16 ht) rc_X6 dX6_rollBack_26 (by decide) (Nat.le_of_ble_eq_true rfl) rfl ?_
    refine E_iconst (v := nI 1) (q := 30) dX6_rollBack_29 (by decide) rfl ?_
    refine E_iaddN (q := 31) dX6_rollBack_30 rfl ?_
    refine C_V2I (q := 34) lk_X6_150 (sp_X6_listOf h.fl hv.1 hv.2 hpl) rc_X6 dX6_rollBack_31 (by decide) (Nat.le_of_ble_eq_true rfl) rfl ?_
    refine V_int (congrArg nI (mkR_behind hs16 ht)) ?_
    refine E_istore3 (q := 35) dX6_rollBack_34 rfl rfl ?_
    refine E_aload0 (q := 36) dX6_rollBack_35 rfl ?_
    refine E_iload3 (q := 37) dX6_rollBack_36 rfl ?_
    refine C_V1I (q := 40) lk_X6_199 (sp_X6_canRemove h.fl (bset_lt32 (by decide)) (fun t _ hb => (rowB_bit.mp hb).2.1)) rc_X6 dX6_rollBack_37 (by decide) (Nat.le_of_ble_eq_true rfl) rfl ?_
    refine E_if_ne (tgt := 46) (q := 43) dX6_rollBack_40 (by decide) rfl (fun h40 => ?_) (fun h40 => ?_)
    · skip
      refine E_aload0 (q := 47) dX6_rollBack_46 rfl ?_
      refine C_V0V (q := 50) lk_X6_183 (sp_X6_remember hk1 hk8) rc_X6 dX6_rollBack_47 (by decide) (Nat.le_of_ble_eq_true rfl) rfl ?_
      refine V_ws (show _ = wl D ad (row2 (tM M k) 158 (tM M k 158)) from congrArg (wl D ad) row2_self.symm) ?_
      refine E_aload0 (q := 51) dX6_rollBack_50 rfl ?_
      refine E_iconst (v := nI 1) (q := 52) dX6_rollBack_51 (by decide) rfl ?_
      refine C_V1I (q := 55) lk_X6_113 (sp_X6_allU hq) rc_X6 dX6_rollBack_52 (by decide) (Nat.le_of_ble_eq_true rfl) rfl ?_
      refine E_istore4 (q := 57) dX6_rollBack_55 rfl rfl ?_
      refine E_aload0 (q := 58) dX6_rollBack_57 rfl ?_
      refine E_iload3 (q := 59) dX6_rollBack_58 rfl ?_
      refine C_V1Y (q := 62) lk_X6_202 (sp_X6_removeAll (f := tM M k 158) h2.1 h2.2.1 h2.2.2 rowB_lt (fun t hb => (rowB_bit.mp hb).2.1) hy) rc_X6 dX6_rollBack_59 (by decide) (Nat.le_of_ble_eq_true rfl) rfl ?_
      refine kkRW ?_
      intro f0 hf0
      refine E_aload0 (q := 63) dX6_rollBack_62 rfl ?_
      refine E_bipush (v := nI 16) (q := 65) dX6_rollBack_63 (by decide) rfl ?_
      refine E_iload2 (q := 66) dX6_rollBack_65 rfl ?_
      refine E_iaddN (q := 67) dX6_rollBack_66 rfl ?_
      refine E_iload1 (q := 68) dX6_rollBack_67 rfl ?_
      refine C_V2V (q := 71) lk_X6_179 (sp_X6_layAll (M := tM M k) h2.1 (by omega) (by omega) (by omega)) rc_X6 dX6_rollBack_68 (by decide) (Nat.le_of_ble_eq_true rfl) rfl ?_
      have hf1 := RowIs.rol h.2.2 hs16 ht hf0
      refine E_iload4 (q := 73) dX6_rollBack_71 rfl ?_
      refine E_aload0 (q := 74) dX6_rollBack_73 rfl ?_
      refine E_iconst (v := nI 1) (q := 75) dX6_rollBack_74 (by decide) rfl ?_
      refine C_V1I (q := 78) lk_X6_113 (sp_X6_allU (RI.row h2.1 hf1 hA1)) rc_X6 dX6_rollBack_75 (by decide) (Nat.le_of_ble_eq_true rfl) rfl ?_
      refine E_isubN (q := 79) dX6_rollBack_78 (by omega) rfl ?_
      exact E_ireturn rfl rfl dX6_rollBack_79 ⟨_, rfl, rfl, _, hf1, rfl⟩
    · skip
      exact absurd hy (zI_0 h40)
  · first | exact absurd h10 (by decide) | exact absurd (by decide) h10
theorem sp_X6_sets {j k : Nat} {v : Int32} (h : RI M 158 A) (hk : M 157 2 = nI k) (hk8 : k ≤ 8) (hj : j < 739) : Spec D 5 yX6_sets cfX6_sets [.ref (ad 157), .int (nI (j)), .int (v)] (wl D ad M) 0 0 (PI (M 158 j) (wl D ad (row2 (remM M k) 158 (upd (M 158) j v)))) := by
  refine Spec.of (by decide) rfl (Nat.le_of_ble_eq_true rfl) rfl ?_
  have hr := (h.rem (k := k)).1.all
  have hs := (h.rem (k := k)).1.2
  refine E_aload0 (q := 1) dX6_sets_0 rfl ?_
  refine C_V0V (q := 4) lk_X6_183 (sp_X6_remember hk hk8) rc_X6 dX6_sets_1 (by decide) (Nat.le_of_ble_eq_true rfl) rfl ?_
  refine V_ws (congrArg (wl D ad) (row2_self (k := 158)).symm) ?_
  refine E_aload0 (q := 5) dX6_sets_4 rfl ?_
  refine G_X6_w (q := 8) (x := 158) (hr _) fl_X6_16 dX6_sets_5 rfl ?_
  refine E_iload1 (q := 9) dX6_sets_8 rfl ?_
  refine E_ialdN (q := 10) hs (by omega) (by decide) dX6_sets_9 rfl ?_
  refine V_int (congrFun row2_same _) ?_
  refine V_int (congrFun remM_158 j) ?_
  refine E_istore3 (q := 11) dX6_sets_10 rfl rfl ?_
  refine E_aload0 (q := 12) dX6_sets_11 rfl ?_
  refine G_X6_w (q := 15) (x := 158) (hr _) fl_X6_16 dX6_sets_12 rfl ?_
  refine E_iload1 (q := 16) dX6_sets_15 rfl ?_
  refine E_iload2 (q := 17) dX6_sets_16 rfl ?_
  refine E_iastN (q := 18) hs (by omega) (by decide) dX6_sets_17 rfl ?_
  refine V_ws (congrArg (wl D ad) row2_upd) ?_
  refine E_iload3 (q := 19) dX6_sets_18 rfl ?_
  exact E_ireturn rfl rfl dX6_sets_19 (PI_of rfl (congrArg (fun g => wl D ad (row2 (remM M k) 158 (upd g j v))) remM_158))
theorem sp_X6_setQuotaV {p q : Int32} (h : RI M 158 A) (hn : ¬ VolA A p) : Spec D 14 yX6_setQuota cfX6_setQuota [.ref (ad 157), .int (p), .int (q)] (wl D ad M) 0 0 (PI (-1) (wl D ad (upd2 M 157 4 (nI 0)))) := by
  refine Spec.of (by decide) rfl (Nat.le_of_ble_eq_true rfl) rfl ?_
  have hw := h.1
  refine E_aload0 (q := 1) dX6_setQuota_0 rfl ?_
  refine E_iconst (v := nI 0) (q := 2) dX6_setQuota_1 (by decide) rfl ?_
  refine P_X6_thrown (q := 5) fl_X6_43 dX6_setQuota_2 rfl ?_
  refine E_aload0 (q := 6) dX6_setQuota_5 rfl ?_
  refine E_iload1 (q := 7) dX6_setQuota_6 rfl ?_
  refine C_V1I (q := 10) lk_X6_74 (sp_X6_isVolF h.fl hn) rc_X6 dX6_setQuota_7 (by decide) (Nat.le_of_ble_eq_true rfl) rfl ?_
  refine E_if_ne (tgt := 15) (q := 13) dX6_setQuota_10 (by decide) rfl (fun h10 => ?_) (fun h10 => ?_)
  · first | exact absurd h10 (by decide) | exact absurd (by decide) h10
  · skip
    refine E_iconst (v := -1) (q := 14) dX6_setQuota_13 (by decide) rfl ?_
    exact E_ireturn rfl rfl dX6_setQuota_14 (PI_of rfl rfl)
theorem sp_X6_setQuotaB {p q : Int32} (h : RI M 158 A) (hp : VolA A p) (hn : ¬ (nI 0 ≤ q ∧ q ≤ nI 999)) : Spec D 14 yX6_setQuota cfX6_setQuota [.ref (ad 157), .int (p), .int (q)] (wl D ad M) 0 0 (PI (-2) (wl D ad (upd2 M 157 4 (nI 0)))) := by
  refine Spec.of (by decide) rfl (Nat.le_of_ble_eq_true rfl) rfl ?_
  have hw := h.1
  refine E_aload0 (q := 1) dX6_setQuota_0 rfl ?_
  refine E_iconst (v := nI 0) (q := 2) dX6_setQuota_1 (by decide) rfl ?_
  refine P_X6_thrown (q := 5) fl_X6_43 dX6_setQuota_2 rfl ?_
  refine E_aload0 (q := 6) dX6_setQuota_5 rfl ?_
  refine E_iload1 (q := 7) dX6_setQuota_6 rfl ?_
  refine C_V1I (q := 10) lk_X6_74 (sp_X6_isVolT h.fl hp) rc_X6 dX6_setQuota_7 (by decide) (Nat.le_of_ble_eq_true rfl) rfl ?_
  refine E_if_ne (tgt := 15) (q := 13) dX6_setQuota_10 (by decide) rfl (fun h10 => ?_) (fun h10 => ?_)
  · skip
    refine E_iload2 (q := 16) dX6_setQuota_15 rfl ?_
    refine E_iconst (v := nI 0) (q := 17) dX6_setQuota_16 (by decide) rfl ?_
    refine E_sipush (v := nI 999) (q := 20) dX6_setQuota_17 (by decide) rfl ?_
    refine C_S3I (q := 23) lk_X6_60 (sp_X6_inRange) dX6_setQuota_20 (by decide) (Nat.le_of_ble_eq_true rfl) rfl ?_
    refine E_if_eq (tgt := 39) (q := 26) dX6_setQuota_23 (by decide) rfl (fun h23 => ?_) (fun h23 => ?_)
    · skip
      refine E_bipush (v := -2) (q := 41) dX6_setQuota_39 (by decide) rfl ?_
      exact E_ireturn rfl rfl dX6_setQuota_41 (PI_of rfl rfl)
    · skip
      exact absurd (zI_n h23) hn
  · first | exact absurd h10 (by decide) | exact absurd (by decide) h10
theorem sp_X6_setQuota {v u k : Nat} (h : RI M 158 A) (hk : M 157 2 = nI k) (hk8 : k ≤ 8) (hv : v < 6) (ht : th A (16 + v)) (hu : u ≤ 999) : Spec D 14 yX6_setQuota cfX6_setQuota [.ref (ad 157), .int (nI (v)), .int (nI (u))] (wl D ad M) 0 0 (PX (fun x w => x = nI (quo A v) ∧ RW D ad (tM M k) 158 (quoA A v u) w)) := by
  refine Spec.of (by decide) rfl (Nat.le_of_ble_eq_true rfl) rfl ?_
  have hw := h.1
  have hk1 : upd2 M 157 4 (nI 0) 157 2 = nI k := by rw [upd2_ne (by decide)]; exact hk
  have hf1 := RowIs.quoR (q := u) h.2.1 hv
  refine E_aload0 (q := 1) dX6_setQuota_0 rfl ?_
  refine E_iconst (v := nI 0) (q := 2) dX6_setQuota_1 (by decide) rfl ?_
  refine P_X6_thrown (q := 5) fl_X6_43 dX6_setQuota_2 rfl ?_
  refine E_aload0 (q := 6) dX6_setQuota_5 rfl ?_
  refine E_iload1 (q := 7) dX6_setQuota_6 rfl ?_
  refine C_V1I (q := 10) lk_X6_74 (sp_X6_isVolT h.fl ((VolA_nI (by omega)).mpr ⟨hv, ht⟩)) rc_X6 dX6_setQuota_7 (by decide) (Nat.le_of_ble_eq_true rfl) rfl ?_
  refine E_if_ne (tgt := 15) (q := 13) dX6_setQuota_10 (by decide) rfl (fun h10 => ?_) (fun h10 => ?_)
  · skip
    refine E_iload2 (q := 16) dX6_setQuota_15 rfl ?_
    refine E_iconst (v := nI 0) (q := 17) dX6_setQuota_16 (by decide) rfl ?_
    refine E_sipush (v := nI 999) (q := 20) dX6_setQuota_17 (by decide) rfl ?_
    refine C_S3I (q := 23) lk_X6_60 (sp_X6_inRange) dX6_setQuota_20 (by decide) (Nat.le_of_ble_eq_true rfl) rfl ?_
    refine E_if_eq (tgt := 39) (q := 26) dX6_setQuota_23 (by decide) rfl (fun h23 => ?_) (fun h23 => ?_)
    · skip
      exact absurd ⟨nI_le (Nat.zero_le _) (by omega), nI_le hu (by decide)⟩ (zI_0 h23)
    · skip
      refine E_aload0 (q := 27) dX6_setQuota_26 rfl ?_
      refine E_iload1 (q := 28) dX6_setQuota_27 rfl ?_
      refine E_iconst (v := nI 2) (q := 29) dX6_setQuota_28 (by decide) rfl ?_
      refine C_S2I (q := 32) lk_X6_53 (sp_X6_ofVolume) dX6_setQuota_29 (by decide) (Nat.le_of_ble_eq_true rfl) rfl ?_
      refine E_iload2 (q := 33) dX6_setQuota_32 rfl ?_
      refine C_V2I (q := 36) lk_X6_205 (sp_X6_sets h.fl hk1 hk8 (by omega)) rc_X6 dX6_setQuota_33 (by decide) (Nat.le_of_ble_eq_true rfl) rfl ?_
      refine E_goto (q := 41) dX6_setQuota_36 (by decide) ?_
      exact E_ireturn rfl rfl dX6_setQuota_41 ⟨_, rfl, (h.fl.2.1.2.2.2.1 v hv ht).2.1, _, hf1, by rw [upd2_row (by decide)]; rfl⟩
  · first | exact absurd h10 (by decide) | exact absurd (by decide) h10
theorem sp_X6_setSettingX {p q : Int32} (h : RI M 158 A) (h0 : p ≠ 0) (h1 : p ≠ nI 1) : Spec D 14 yX6_setSetting cfX6_setSetting [.ref (ad 157), .int (p), .int (q)] (wl D ad M) 0 0 (PI (-2) (wl D ad (upd2 M 157 4 (nI 0)))) := by
  refine Spec.of (by decide) rfl (Nat.le_of_ble_eq_true rfl) rfl ?_
  have hw := h.1
  refine E_aload0 (q := 1) dX6_setSetting_0 rfl ?_
  refine E_iconst (v := nI 0) (q := 2) dX6_setSetting_1 (by decide) rfl ?_
  refine P_X6_thrown (q := 5) fl_X6_43 dX6_setSetting_2 rfl ?_
  refine E_iload1 (q := 6) dX6_setSetting_5 rfl ?_
  refine E_if_ne (tgt := 20) (q := 9) dX6_setSetting_6 (by decide) rfl (fun h6 => ?_) (fun h6 => ?_)
  · skip
    refine E_iload1 (q := 21) dX6_setSetting_20 rfl ?_
    refine E_iconst (v := nI 1) (q := 22) dX6_setSetting_21 (by decide) rfl ?_
    refine E_icmp_ne (tgt := 38) (q := 25) dX6_setSetting_22 (by decide) rfl (fun h22 => ?_) (fun h22 => ?_)
    · skip
      refine E_iconst (v := nI 0) (q := 39) dX6_setSetting_38 (by decide) rfl ?_
      refine E_istore3 (q := 40) dX6_setSetting_39 rfl rfl ?_
      refine E_iload3 (q := 41) dX6_setSetting_40 rfl ?_
      refine E_if_eq (tgt := 53) (q := 44) dX6_setSetting_41 (by decide) rfl (fun h41 => ?_) (fun h41 => ?_)
      · skip
        refine E_bipush (v := -2) (q := 55) dX6_setSetting_53 (by decide) rfl ?_
        exact E_ireturn rfl rfl dX6_setSetting_55 (PI_of rfl rfl)
      · first | exact absurd h41 (by decide) | exact absurd (by decide) h41
    · skip
      exact absurd h22 h1
  · skip
    exact absurd h6 h0
theorem sp_X6_setSetting0B {q : Int32} (h : RI M 158 A) (hn : ¬ (nI 1 ≤ q ∧ q ≤ nI 999)) : Spec D 14 yX6_setSetting cfX6_setSetting [.ref (ad 157), .int (nI (0)), .int (q)] (wl D ad M) 0 0 (PI (-2) (wl D ad (upd2 M 157 4 (nI 0)))) := by
  refine Spec.of (by decide) rfl (Nat.le_of_ble_eq_true rfl) rfl ?_
  have hw := h.1
  refine E_aload0 (q := 1) dX6_setSetting_0 rfl ?_
  refine E_iconst (v := nI 0) (q := 2) dX6_setSetting_1 (by decide) rfl ?_
  refine P_X6_thrown (q := 5) fl_X6_43 dX6_setSetting_2 rfl ?_
  refine E_iload1 (q := 6) dX6_setSetting_5 rfl ?_
  refine E_if_ne (tgt := 20) (q := 9) dX6_setSetting_6 (by decide) rfl (fun h6 => ?_) (fun h6 => ?_)
  · first | exact absurd h6 (by decide) | exact absurd (by decide) h6
  · skip
    refine E_iload2 (q := 10) dX6_setSetting_9 rfl ?_
    refine E_iconst (v := nI 1) (q := 11) dX6_setSetting_10 (by decide) rfl ?_
    refine E_sipush (v := nI 999) (q := 14) dX6_setSetting_11 (by decide) rfl ?_
    refine C_S3I (q := 17) lk_X6_60 (sp_X6_inRange) dX6_setSetting_14 (by decide) (Nat.le_of_ble_eq_true rfl) rfl ?_
    refine V_int (zI_f hn).symm ?_
    refine E_goto (q := 39) dX6_setSetting_17 (by decide) ?_
    refine E_istore3 (q := 40) dX6_setSetting_39 rfl rfl ?_
    refine E_iload3 (q := 41) dX6_setSetting_40 rfl ?_
    refine E_if_eq (tgt := 53) (q := 44) dX6_setSetting_41 (by decide) rfl (fun h41 => ?_) (fun h41 => ?_)
    · skip
      refine E_bipush (v := -2) (q := 55) dX6_setSetting_53 (by decide) rfl ?_
      exact E_ireturn rfl rfl dX6_setSetting_55 (PI_of rfl rfl)
    · first | exact absurd h41 (by decide) | exact absurd (by decide) h41
theorem sp_X6_setSetting0 {u k : Nat} (h : RI M 158 A) (hk : M 157 2 = nI k) (hk8 : k ≤ 8) (hu : 1 ≤ u ∧ u ≤ 999) : Spec D 14 yX6_setSetting cfX6_setSetting [.ref (ad 157), .int (nI (0)), .int (nI (u))] (wl D ad M) 0 0 (PX (fun x w => x = nI (aP A) ∧ RW D ad (tM M k) 158 (setA A 0 u) w)) := by
  refine Spec.of (by decide) rfl (Nat.le_of_ble_eq_true rfl) rfl ?_
  have hw := h.1
  have hk1 : upd2 M 157 4 (nI 0) 157 2 = nI k := by rw [upd2_ne (by decide)]; exact hk
  have hf1 := RowIs.setR (k := 0) (x := u) h.2.1 (by decide)
  refine E_aload0 (q := 1) dX6_setSetting_0 rfl ?_
  refine E_iconst (v := nI 0) (q := 2) dX6_setSetting_1 (by decide) rfl ?_
  refine P_X6_thrown (q := 5) fl_X6_43 dX6_setSetting_2 rfl ?_
  refine E_iload1 (q := 6) dX6_setSetting_5 rfl ?_
  refine E_if_ne (tgt := 20) (q := 9) dX6_setSetting_6 (by decide) rfl (fun h6 => ?_) (fun h6 => ?_)
  · first | exact absurd h6 (by decide) | exact absurd (by decide) h6
  · skip
    refine E_iload2 (q := 10) dX6_setSetting_9 rfl ?_
    refine E_iconst (v := nI 1) (q := 11) dX6_setSetting_10 (by decide) rfl ?_
    refine E_sipush (v := nI 999) (q := 14) dX6_setSetting_11 (by decide) rfl ?_
    refine C_S3I (q := 17) lk_X6_60 (sp_X6_inRange) dX6_setSetting_14 (by decide) (Nat.le_of_ble_eq_true rfl) rfl ?_
    refine V_int (zI_t ⟨nI_le hu.1 (by omega), nI_le hu.2 (by decide)⟩).symm ?_
    refine E_goto (q := 39) dX6_setSetting_17 (by decide) ?_
    refine E_istore3 (q := 40) dX6_setSetting_39 rfl rfl ?_
    refine E_iload3 (q := 41) dX6_setSetting_40 rfl ?_
    refine E_if_eq (tgt := 53) (q := 44) dX6_setSetting_41 (by decide) rfl (fun h41 => ?_) (fun h41 => ?_)
    · first | exact absurd h41 (by decide) | exact absurd (by decide) h41
    · skip
      refine E_aload0 (q := 45) dX6_setSetting_44 rfl ?_
      refine E_iload1 (q := 46) dX6_setSetting_45 rfl ?_
      refine E_iload2 (q := 47) dX6_setSetting_46 rfl ?_
      refine C_V2I (q := 50) lk_X6_205 (sp_X6_sets h.fl hk1 hk8 (by omega)) rc_X6 dX6_setSetting_47 (by decide) (Nat.le_of_ble_eq_true rfl) rfl ?_
      refine E_goto (q := 55) dX6_setSetting_50 (by decide) ?_
      exact E_ireturn rfl rfl dX6_setSetting_55 ⟨_, rfl, h.fl.2.1.1.1, _, hf1, by rw [upd2_row (by decide)]; rfl⟩
theorem sp_X6_setSetting1B {q : Int32} (h : RI M 158 A) (hn : ¬ (nI 0 ≤ q ∧ q ≤ nI 5)) : Spec D 14 yX6_setSetting cfX6_setSetting [.ref (ad 157), .int (nI (1)), .int (q)] (wl D ad M) 0 0 (PI (-2) (wl D ad (upd2 M 157 4 (nI 0)))) := by
  refine Spec.of (by decide) rfl (Nat.le_of_ble_eq_true rfl) rfl ?_
  have hw := h.1
  refine E_aload0 (q := 1) dX6_setSetting_0 rfl ?_
  refine E_iconst (v := nI 0) (q := 2) dX6_setSetting_1 (by decide) rfl ?_
  refine P_X6_thrown (q := 5) fl_X6_43 dX6_setSetting_2 rfl ?_
  refine E_iload1 (q := 6) dX6_setSetting_5 rfl ?_
  refine E_if_ne (tgt := 20) (q := 9) dX6_setSetting_6 (by decide) rfl (fun h6 => ?_) (fun h6 => ?_)
  · skip
    refine E_iload1 (q := 21) dX6_setSetting_20 rfl ?_
    refine E_iconst (v := nI 1) (q := 22) dX6_setSetting_21 (by decide) rfl ?_
    refine E_icmp_neN (tgt := 38) (q := 25) dX6_setSetting_22 (by decide) rfl (by omega) (by omega) (fun h22 => ?_) (fun h22 => ?_)
    · first | exact absurd h22 (by decide) | exact absurd (by decide) h22
    · skip
      refine E_iload2 (q := 26) dX6_setSetting_25 rfl ?_
      refine E_iconst (v := nI 0) (q := 27) dX6_setSetting_26 (by decide) rfl ?_
      refine E_iconst (v := nI 5) (q := 28) dX6_setSetting_27 (by decide) rfl ?_
      refine C_S3I (q := 31) lk_X6_60 (sp_X6_inRange) dX6_setSetting_28 (by decide) (Nat.le_of_ble_eq_true rfl) rfl ?_
      refine V_int (zI_f hn).symm ?_
      refine E_if_eq (tgt := 38) (q := 34) dX6_setSetting_31 (by decide) rfl (fun h31 => ?_) (fun h31 => ?_)
      · skip
        refine E_iconst (v := nI 0) (q := 39) dX6_setSetting_38 (by decide) rfl ?_
        refine E_istore3 (q := 40) dX6_setSetting_39 rfl rfl ?_
        refine E_iload3 (q := 41) dX6_setSetting_40 rfl ?_
        refine E_if_eq (tgt := 53) (q := 44) dX6_setSetting_41 (by decide) rfl (fun h41 => ?_) (fun h41 => ?_)
        · skip
          refine E_bipush (v := -2) (q := 55) dX6_setSetting_53 (by decide) rfl ?_
          exact E_ireturn rfl rfl dX6_setSetting_55 (PI_of rfl rfl)
        · first | exact absurd h41 (by decide) | exact absurd (by decide) h41
      · first | exact absurd h31 (by decide) | exact absurd (by decide) h31
  · first | exact absurd h6 (by decide) | exact absurd (by decide) h6
theorem sp_X6_setSetting1 {u k : Nat} (h : RI M 158 A) (hk : M 157 2 = nI k) (hk8 : k ≤ 8) (hu : 0 ≤ u ∧ u ≤ 5) : Spec D 14 yX6_setSetting cfX6_setSetting [.ref (ad 157), .int (nI (1)), .int (nI (u))] (wl D ad M) 0 0 (PX (fun x w => x = nI (aC A) ∧ RW D ad (tM M k) 158 (setA A 1 u) w)) := by
  refine Spec.of (by decide) rfl (Nat.le_of_ble_eq_true rfl) rfl ?_
  have hw := h.1
  have hk1 : upd2 M 157 4 (nI 0) 157 2 = nI k := by rw [upd2_ne (by decide)]; exact hk
  have hf1 := RowIs.setR (k := 1) (x := u) h.2.1 (by decide)
  refine E_aload0 (q := 1) dX6_setSetting_0 rfl ?_
  refine E_iconst (v := nI 0) (q := 2) dX6_setSetting_1 (by decide) rfl ?_
  refine P_X6_thrown (q := 5) fl_X6_43 dX6_setSetting_2 rfl ?_
  refine E_iload1 (q := 6) dX6_setSetting_5 rfl ?_
  refine E_if_ne (tgt := 20) (q := 9) dX6_setSetting_6 (by decide) rfl (fun h6 => ?_) (fun h6 => ?_)
  · skip
    refine E_iload1 (q := 21) dX6_setSetting_20 rfl ?_
    refine E_iconst (v := nI 1) (q := 22) dX6_setSetting_21 (by decide) rfl ?_
    refine E_icmp_neN (tgt := 38) (q := 25) dX6_setSetting_22 (by decide) rfl (by omega) (by omega) (fun h22 => ?_) (fun h22 => ?_)
    · first | exact absurd h22 (by decide) | exact absurd (by decide) h22
    · skip
      refine E_iload2 (q := 26) dX6_setSetting_25 rfl ?_
      refine E_iconst (v := nI 0) (q := 27) dX6_setSetting_26 (by decide) rfl ?_
      refine E_iconst (v := nI 5) (q := 28) dX6_setSetting_27 (by decide) rfl ?_
      refine C_S3I (q := 31) lk_X6_60 (sp_X6_inRange) dX6_setSetting_28 (by decide) (Nat.le_of_ble_eq_true rfl) rfl ?_
      refine V_int (zI_t ⟨nI_le hu.1 (by omega), nI_le hu.2 (by decide)⟩).symm ?_
      refine E_if_eq (tgt := 38) (q := 34) dX6_setSetting_31 (by decide) rfl (fun h31 => ?_) (fun h31 => ?_)
      · first | exact absurd h31 (by decide) | exact absurd (by decide) h31
      · skip
        refine E_iconst (v := nI 1) (q := 35) dX6_setSetting_34 (by decide) rfl ?_
        refine E_goto (q := 39) dX6_setSetting_35 (by decide) ?_
        refine E_istore3 (q := 40) dX6_setSetting_39 rfl rfl ?_
        refine E_iload3 (q := 41) dX6_setSetting_40 rfl ?_
        refine E_if_eq (tgt := 53) (q := 44) dX6_setSetting_41 (by decide) rfl (fun h41 => ?_) (fun h41 => ?_)
        · first | exact absurd h41 (by decide) | exact absurd (by decide) h41
        · skip
          refine E_aload0 (q := 45) dX6_setSetting_44 rfl ?_
          refine E_iload1 (q := 46) dX6_setSetting_45 rfl ?_
          refine E_iload2 (q := 47) dX6_setSetting_46 rfl ?_
          refine C_V2I (q := 50) lk_X6_205 (sp_X6_sets h.fl hk1 hk8 (by omega)) rc_X6 dX6_setSetting_47 (by decide) (Nat.le_of_ble_eq_true rfl) rfl ?_
          refine E_goto (q := 55) dX6_setSetting_50 (by decide) ?_
          exact E_ireturn rfl rfl dX6_setSetting_55 ⟨_, rfl, h.fl.2.1.1.2.1, _, hf1, by rw [upd2_row (by decide)]; rfl⟩
  · first | exact absurd h6 (by decide) | exact absurd (by decide) h6
theorem sp_X6_holdS {p q : Int32} (h : RI M 158 A) (hn : ¬ SnpA A p) : Spec D 14 yX6_hold cfX6_hold [.ref (ad 157), .int (p), .int (q)] (wl D ad M) 0 0 (PI (-1) (wl D ad (upd2 M 157 4 (nI 0)))) := by
  refine Spec.of (by decide) rfl (Nat.le_of_ble_eq_true rfl) rfl ?_
  have hw := h.1
  refine E_aload0 (q := 1) dX6_hold_0 rfl ?_
  refine E_iconst (v := nI 0) (q := 2) dX6_hold_1 (by decide) rfl ?_
  refine P_X6_thrown (q := 5) fl_X6_43 dX6_hold_2 rfl ?_
  refine E_aload0 (q := 6) dX6_hold_5 rfl ?_
  refine E_iload1 (q := 7) dX6_hold_6 rfl ?_
  refine C_V1I (q := 10) lk_X6_70 (sp_X6_isSnpF h.fl hn) rc_X6 dX6_hold_7 (by decide) (Nat.le_of_ble_eq_true rfl) rfl ?_
  refine E_if_ne (tgt := 15) (q := 13) dX6_hold_10 (by decide) rfl (fun h10 => ?_) (fun h10 => ?_)
  · first | exact absurd h10 (by decide) | exact absurd (by decide) h10
  · skip
    refine E_iconst (v := -1) (q := 14) dX6_hold_13 (by decide) rfl ?_
    exact E_ireturn rfl rfl dX6_hold_14 (PI_of rfl rfl)
theorem sp_X6_hold0N {s : Nat} (h : RI M 158 A) (hs16 : s < 16) (ht : th A s) (hb : A.1 4 s = 0) : Spec D 14 yX6_hold cfX6_hold [.ref (ad 157), .int (nI (s)), .int (nI (0))] (wl D ad M) 0 0 (PI (-4) (wl D ad (upd2 M 157 4 (nI 0)))) := by
  refine Spec.of (by decide) rfl (Nat.le_of_ble_eq_true rfl) rfl ?_
  have hw := h.1
  refine E_aload0 (q := 1) dX6_hold_0 rfl ?_
  refine E_iconst (v := nI 0) (q := 2) dX6_hold_1 (by decide) rfl ?_
  refine P_X6_thrown (q := 5) fl_X6_43 dX6_hold_2 rfl ?_
  refine E_aload0 (q := 6) dX6_hold_5 rfl ?_
  refine E_iload1 (q := 7) dX6_hold_6 rfl ?_
  refine C_V1I (q := 10) lk_X6_70 (sp_X6_isSnpT h.fl ((SnpA_nI (by omega)).mpr ⟨hs16, ht⟩)) rc_X6 dX6_hold_7 (by decide) (Nat.le_of_ble_eq_true rfl) rfl ?_
  refine E_if_ne (tgt := 15) (q := 13) dX6_hold_10 (by decide) rfl (fun h10 => ?_) (fun h10 => ?_)
  · skip
    refine E_aload0 (q := 16) dX6_hold_15 rfl ?_
    refine E_iload1 (q := 17) dX6_hold_16 rfl ?_
    refine E_iconst (v := nI 3) (q := 18) dX6_hold_17 (by decide) rfl ?_
    refine C_V2I (q := 21) lk_X6_67 (sp_X6_snpH h.fl hs16 ht) rc_X6 dX6_hold_18 (by decide) (Nat.le_of_ble_eq_true rfl) rfl ?_
    rw [hb]
    refine E_iconst (v := nI 1) (q := 22) dX6_hold_21 (by decide) rfl ?_
    refine E_icmp_neN (tgt := 29) (q := 25) dX6_hold_22 (by decide) rfl (by omega) (by omega) (fun h22 => ?_) (fun h22 => ?_)
    · skip
      refine E_iconst (v := nI 0) (q := 30) dX6_hold_29 (by decide) rfl ?_
      refine E_iload2 (q := 31) dX6_hold_30 rfl ?_
      refine E_icmp_neN (tgt := 37) (q := 34) dX6_hold_31 (by decide) rfl (by omega) (by omega) (fun h31 => ?_) (fun h31 => ?_)
      · first | exact absurd h31 (by decide) | exact absurd (by decide) h31
      · skip
        refine E_bipush (v := -4) (q := 36) dX6_hold_34 (by decide) rfl ?_
        exact E_ireturn rfl rfl dX6_hold_36 (PI_of rfl rfl)
    · first | exact absurd h22 (by decide) | exact absurd (by decide) h22
  · first | exact absurd h10 (by decide) | exact absurd (by decide) h10
theorem sp_X6_hold0 {s : Nat} {k : Nat} (h : RI M 158 A) (hk : M 157 2 = nI k) (hk8 : k ≤ 8) (hs16 : s < 16) (ht : th A s) (hb : A.1 4 s = 1) : Spec D 14 yX6_hold cfX6_hold [.ref (ad 157), .int (nI (s)), .int (nI (0))] (wl D ad M) 0 0 (PX (fun x w => x = nI (popN (bset (fun t => hld (hldA A s 0) t) 16)) ∧ RW D ad (tM M k) 158 (hldA A s 0) w)) := by
  refine Spec.of (by decide) rfl (Nat.le_of_ble_eq_true rfl) rfl ?_
  have hw := h.1
  have hk1 : upd2 M 157 4 (nI 0) 157 2 = nI k := by rw [upd2_ne (by decide)]; exact hk
  have h2 : RI (tM M k) 158 A := h.fl.rem
  have hr := h2.1.all
  have hs := h2.1.2
  have hq : RI (row2 (tM M k) 158 (tM M k 158)) 158 A := RI.row h2.1 h2.2.1 h2.2.2
  have hA1 : WF (hldA A s 0) := hldA_WF h.2.2 ht (by decide)
  have hf1 := RowIs.hldR (b := 0) h2.2.1 hs16
  have hI := RI.row h2.1 hf1 hA1
  have hmain : V D cfX6_hold (rmOf 14 0 0) (QM D (PX (fun x w => x = nI (popN (bset (fun t => hld (hldA A s 0) t) 16)) ∧ RW D ad (tM M k) 158 (hldA A s 0) w)) 0 0) 0 0 65 [some (.ref (ad 157)), some (.int (nI (s))), some (.int (nI (0))), some (.int (nI (0))), some (.int (nI (0)))] [] (wl D ad (row2 (tM M k) 158 (upd (tM M k 158) (131 + 5 * s + 3) (nI 0)))) := by
    refine upto0 (n := 16) (P := fun i => V D cfX6_hold (rmOf 14 0 0) (QM D (PX (fun x w => x = nI (popN (bset (fun t => hld (hldA A s 0) t) 16)) ∧ RW D ad (tM M k) 158 (hldA A s 0) w)) 0 0) 0 0 65 [some (.ref (ad 157)), some (.int (nI (s))), some (.int (nI (0))), some (.int (nI (nsum (fun t => if dB (hld (hldA A s 0) t) = true then 1 else 0) i))), some (.int (nI (i)))] [] (wl D ad (row2 (tM M k) 158 (upd (tM M k 158) (131 + 5 * s + 3) (nI 0))))) ?_ ?_
    · skip
      refine E_iload4 (q := 67) dX6_hold_65 rfl ?_
      refine E_bipush (v := nI 16) (q := 69) dX6_hold_67 (by decide) rfl ?_
      refine E_icmp_geN (tgt := 106) (q := 72) dX6_hold_69 (by decide) rfl (by omega) (by omega) (fun h69 => ?_) (fun h69 => ?_)
      · skip
        refine E_iload3 (q := 107) dX6_hold_106 rfl ?_
        exact E_ireturn rfl rfl dX6_hold_107 ⟨_, rfl, congrArg nI (popN_bset _ (by decide)).symm, _, hf1, rfl⟩
      · skip
        exact absurd h69 (by omega)
    · intro i hi ih
      rw [nsum_s] at ih
      have h4 := hA1.1.2.2.1 i hi
      have h5 := hA1.1.2.2.2.2.2 i hi
      refine E_iload4 (q := 67) dX6_hold_65 rfl ?_
      refine E_bipush (v := nI 16) (q := 69) dX6_hold_67 (by decide) rfl ?_
      refine E_icmp_geN (tgt := 106) (q := 72) dX6_hold_69 (by decide) rfl (by omega) (by omega) (fun h69 => ?_) (fun h69 => ?_)
      · skip
        exact absurd h69 (by omega)
      · skip
        refine E_iload3 (q := 73) dX6_hold_72 rfl ?_
        refine E_aload0 (q := 74) dX6_hold_73 rfl ?_
        refine E_iload4 (q := 76) dX6_hold_74 rfl ?_
        refine C_V1I (q := 79) lk_X6_70 (sp_X6_isSnpN hI.1 hI.2.1 hI.2.2.1 hi) rc_X6 dX6_hold_76 (by decide) (Nat.le_of_ble_eq_true rfl) rfl ?_
        refine E_if_eq (tgt := 97) (q := 82) dX6_hold_79 (by decide) rfl (fun h79 => ?_) (fun h79 => ?_)
        · skip
          refine E_iconst (v := nI 0) (q := 98) dX6_hold_97 (by decide) rfl ?_
          refine E_iaddN (q := 99) dX6_hold_98 rfl ?_
          refine E_istore3 (q := 100) dX6_hold_99 rfl rfl ?_
          refine E_iinc4 (q := 103) dX6_hold_100 (nI_inc _) rfl rfl ?_
          refine E_goto (q := 65) dX6_hold_103 (by decide) ?_
          rw [if_neg (by rw [dB_f (fun z => zI_0 h79 (h5 z))]; simp)] at ih
          exact ih
        · skip
          refine E_aload0 (q := 83) dX6_hold_82 rfl ?_
          refine E_iload4 (q := 85) dX6_hold_83 rfl ?_
          refine E_iconst (v := nI 3) (q := 86) dX6_hold_85 (by decide) rfl ?_
          refine C_V2I (q := 89) lk_X6_67 (sp_X6_snpH hI hi (zI_n h79)) rc_X6 dX6_hold_86 (by decide) (Nat.le_of_ble_eq_true rfl) rfl ?_
          refine E_iconst (v := nI 1) (q := 90) dX6_hold_89 (by decide) rfl ?_
          refine E_icmp_neN (tgt := 97) (q := 93) dX6_hold_90 (by decide) rfl (by omega) (by omega) (fun h90 => ?_) (fun h90 => ?_)
          · skip
            refine E_iconst (v := nI 0) (q := 98) dX6_hold_97 (by decide) rfl ?_
            refine E_iaddN (q := 99) dX6_hold_98 rfl ?_
            refine E_istore3 (q := 100) dX6_hold_99 rfl rfl ?_
            refine E_iinc4 (q := 103) dX6_hold_100 (nI_inc _) rfl rfl ?_
            refine E_goto (q := 65) dX6_hold_103 (by decide) ?_
            rw [if_neg (by rw [dB_f (show ¬ hld _ i from h90)]; simp)] at ih
            exact ih
          · skip
            refine E_iconst (v := nI 1) (q := 94) dX6_hold_93 (by decide) rfl ?_
            refine E_goto (q := 98) dX6_hold_94 (by decide) ?_
            refine E_iaddN (q := 99) dX6_hold_98 rfl ?_
            refine E_istore3 (q := 100) dX6_hold_99 rfl rfl ?_
            refine E_iinc4 (q := 103) dX6_hold_100 (nI_inc _) rfl rfl ?_
            refine E_goto (q := 65) dX6_hold_103 (by decide) ?_
            rw [if_pos (dB_t (show hld (hldA A s 0) i from h90))] at ih
            exact ih
  refine E_aload0 (q := 1) dX6_hold_0 rfl ?_
  refine E_iconst (v := nI 0) (q := 2) dX6_hold_1 (by decide) rfl ?_
  refine P_X6_thrown (q := 5) fl_X6_43 dX6_hold_2 rfl ?_
  refine E_aload0 (q := 6) dX6_hold_5 rfl ?_
  refine E_iload1 (q := 7) dX6_hold_6 rfl ?_
  refine C_V1I (q := 10) lk_X6_70 (sp_X6_isSnpT h.fl ((SnpA_nI (by omega)).mpr ⟨hs16, ht⟩)) rc_X6 dX6_hold_7 (by decide) (Nat.le_of_ble_eq_true rfl) rfl ?_
  refine E_if_ne (tgt := 15) (q := 13) dX6_hold_10 (by decide) rfl (fun h10 => ?_) (fun h10 => ?_)
  · skip
    refine E_aload0 (q := 16) dX6_hold_15 rfl ?_
    refine E_iload1 (q := 17) dX6_hold_16 rfl ?_
    refine E_iconst (v := nI 3) (q := 18) dX6_hold_17 (by decide) rfl ?_
    refine C_V2I (q := 21) lk_X6_67 (sp_X6_snpH h.fl hs16 ht) rc_X6 dX6_hold_18 (by decide) (Nat.le_of_ble_eq_true rfl) rfl ?_
    rw [hb]
    refine E_iconst (v := nI 1) (q := 22) dX6_hold_21 (by decide) rfl ?_
    refine E_icmp_neN (tgt := 29) (q := 25) dX6_hold_22 (by decide) rfl (by omega) (by omega) (fun h22 => ?_) (fun h22 => ?_)
    · first | exact absurd h22 (by decide) | exact absurd (by decide) h22
    · skip
      refine E_iconst (v := nI 1) (q := 26) dX6_hold_25 (by decide) rfl ?_
      refine E_goto (q := 30) dX6_hold_26 (by decide) ?_
      refine E_iload2 (q := 31) dX6_hold_30 rfl ?_
      refine E_icmp_neN (tgt := 37) (q := 34) dX6_hold_31 (by decide) rfl (by omega) (by omega) (fun h31 => ?_) (fun h31 => ?_)
      · skip
        refine E_aload0 (q := 38) dX6_hold_37 rfl ?_
        refine C_V0V (q := 41) lk_X6_183 (sp_X6_remember hk1 hk8) rc_X6 dX6_hold_38 (by decide) (Nat.le_of_ble_eq_true rfl) rfl ?_
        refine V_ws (show _ = wl D ad (row2 (tM M k) 158 (tM M k 158)) from congrArg (wl D ad) row2_self.symm) ?_
        refine E_aload0 (q := 42) dX6_hold_41 rfl ?_
        refine G_X6_w (q := 45) (x := 158) (hr _) fl_X6_16 dX6_hold_42 rfl ?_
        refine E_iload1 (q := 46) dX6_hold_45 rfl ?_
        refine E_iconst (v := nI 3) (q := 47) dX6_hold_46 (by decide) rfl ?_
        refine C_S2I (q := 50) lk_X6_57 (sp_X6_ofSnapshot) dX6_hold_47 (by decide) (Nat.le_of_ble_eq_true rfl) rfl ?_
        refine E_iload2 (q := 51) dX6_hold_50 rfl ?_
        refine E_if_eq (tgt := 58) (q := 54) dX6_hold_51 (by decide) rfl (fun h51 => ?_) (fun h51 => ?_)
        · skip
          refine E_iconst (v := nI 0) (q := 59) dX6_hold_58 (by decide) rfl ?_
          refine E_iastN (q := 60) hs (by omega) (by decide) dX6_hold_59 rfl ?_
          refine V_ws (congrArg (wl D ad) row2_upd) ?_
          refine E_iconst (v := nI 0) (q := 61) dX6_hold_60 (by decide) rfl ?_
          refine E_istore3 (q := 62) dX6_hold_61 rfl rfl ?_
          refine E_iconst (v := nI 0) (q := 63) dX6_hold_62 (by decide) rfl ?_
          refine E_istore4 (q := 65) dX6_hold_63 rfl rfl ?_
          exact hmain
        · first | exact absurd h51 (by decide) | exact absurd (by decide) h51
      · first | exact absurd h31 (by decide) | exact absurd (by decide) h31
  · first | exact absurd h10 (by decide) | exact absurd (by decide) h10
theorem sp_X6_hold1N {s : Nat} (h : RI M 158 A) (hs16 : s < 16) (ht : th A s) (hb : A.1 4 s = 1) : Spec D 14 yX6_hold cfX6_hold [.ref (ad 157), .int (nI (s)), .int (nI (1))] (wl D ad M) 0 0 (PI (-4) (wl D ad (upd2 M 157 4 (nI 0)))) := by
  refine Spec.of (by decide) rfl (Nat.le_of_ble_eq_true rfl) rfl ?_
  have hw := h.1
  refine E_aload0 (q := 1) dX6_hold_0 rfl ?_
  refine E_iconst (v := nI 0) (q := 2) dX6_hold_1 (by decide) rfl ?_
  refine P_X6_thrown (q := 5) fl_X6_43 dX6_hold_2 rfl ?_
  refine E_aload0 (q := 6) dX6_hold_5 rfl ?_
  refine E_iload1 (q := 7) dX6_hold_6 rfl ?_
  refine C_V1I (q := 10) lk_X6_70 (sp_X6_isSnpT h.fl ((SnpA_nI (by omega)).mpr ⟨hs16, ht⟩)) rc_X6 dX6_hold_7 (by decide) (Nat.le_of_ble_eq_true rfl) rfl ?_
  refine E_if_ne (tgt := 15) (q := 13) dX6_hold_10 (by decide) rfl (fun h10 => ?_) (fun h10 => ?_)
  · skip
    refine E_aload0 (q := 16) dX6_hold_15 rfl ?_
    refine E_iload1 (q := 17) dX6_hold_16 rfl ?_
    refine E_iconst (v := nI 3) (q := 18) dX6_hold_17 (by decide) rfl ?_
    refine C_V2I (q := 21) lk_X6_67 (sp_X6_snpH h.fl hs16 ht) rc_X6 dX6_hold_18 (by decide) (Nat.le_of_ble_eq_true rfl) rfl ?_
    rw [hb]
    refine E_iconst (v := nI 1) (q := 22) dX6_hold_21 (by decide) rfl ?_
    refine E_icmp_neN (tgt := 29) (q := 25) dX6_hold_22 (by decide) rfl (by omega) (by omega) (fun h22 => ?_) (fun h22 => ?_)
    · first | exact absurd h22 (by decide) | exact absurd (by decide) h22
    · skip
      refine E_iconst (v := nI 1) (q := 26) dX6_hold_25 (by decide) rfl ?_
      refine E_goto (q := 30) dX6_hold_26 (by decide) ?_
      refine E_iload2 (q := 31) dX6_hold_30 rfl ?_
      refine E_icmp_neN (tgt := 37) (q := 34) dX6_hold_31 (by decide) rfl (by omega) (by omega) (fun h31 => ?_) (fun h31 => ?_)
      · first | exact absurd h31 (by decide) | exact absurd (by decide) h31
      · skip
        refine E_bipush (v := -4) (q := 36) dX6_hold_34 (by decide) rfl ?_
        exact E_ireturn rfl rfl dX6_hold_36 (PI_of rfl rfl)
  · first | exact absurd h10 (by decide) | exact absurd (by decide) h10
theorem sp_X6_hold1 {s : Nat} {k : Nat} (h : RI M 158 A) (hk : M 157 2 = nI k) (hk8 : k ≤ 8) (hs16 : s < 16) (ht : th A s) (hb : A.1 4 s = 0) : Spec D 14 yX6_hold cfX6_hold [.ref (ad 157), .int (nI (s)), .int (nI (1))] (wl D ad M) 0 0 (PX (fun x w => x = nI (popN (bset (fun t => hld (hldA A s 1) t) 16)) ∧ RW D ad (tM M k) 158 (hldA A s 1) w)) := by
  refine Spec.of (by decide) rfl (Nat.le_of_ble_eq_true rfl) rfl ?_
  have hw := h.1
  have hk1 : upd2 M 157 4 (nI 0) 157 2 = nI k := by rw [upd2_ne (by decide)]; exact hk
  have h2 : RI (tM M k) 158 A := h.fl.rem
  have hr := h2.1.all
  have hs := h2.1.2
  have hq : RI (row2 (tM M k) 158 (tM M k 158)) 158 A := RI.row h2.1 h2.2.1 h2.2.2
  have hA1 : WF (hldA A s 1) := hldA_WF h.2.2 ht (by decide)
  have hf1 := RowIs.hldR (b := 1) h2.2.1 hs16
  have hI := RI.row h2.1 hf1 hA1
  have hmain : V D cfX6_hold (rmOf 14 0 0) (QM D (PX (fun x w => x = nI (popN (bset (fun t => hld (hldA A s 1) t) 16)) ∧ RW D ad (tM M k) 158 (hldA A s 1) w)) 0 0) 0 0 65 [some (.ref (ad 157)), some (.int (nI (s))), some (.int (nI (1))), some (.int (nI (0))), some (.int (nI (0)))] [] (wl D ad (row2 (tM M k) 158 (upd (tM M k 158) (131 + 5 * s + 3) (nI 1)))) := by
    refine upto0 (n := 16) (P := fun i => V D cfX6_hold (rmOf 14 0 0) (QM D (PX (fun x w => x = nI (popN (bset (fun t => hld (hldA A s 1) t) 16)) ∧ RW D ad (tM M k) 158 (hldA A s 1) w)) 0 0) 0 0 65 [some (.ref (ad 157)), some (.int (nI (s))), some (.int (nI (1))), some (.int (nI (nsum (fun t => if dB (hld (hldA A s 1) t) = true then 1 else 0) i))), some (.int (nI (i)))] [] (wl D ad (row2 (tM M k) 158 (upd (tM M k 158) (131 + 5 * s + 3) (nI 1))))) ?_ ?_
    · skip
      refine E_iload4 (q := 67) dX6_hold_65 rfl ?_
      refine E_bipush (v := nI 16) (q := 69) dX6_hold_67 (by decide) rfl ?_
      refine E_icmp_geN (tgt := 106) (q := 72) dX6_hold_69 (by decide) rfl (by omega) (by omega) (fun h69 => ?_) (fun h69 => ?_)
      · skip
        refine E_iload3 (q := 107) dX6_hold_106 rfl ?_
        exact E_ireturn rfl rfl dX6_hold_107 ⟨_, rfl, congrArg nI (popN_bset _ (by decide)).symm, _, hf1, rfl⟩
      · skip
        exact absurd h69 (by omega)
    · intro i hi ih
      rw [nsum_s] at ih
      have h4 := hA1.1.2.2.1 i hi
      have h5 := hA1.1.2.2.2.2.2 i hi
      refine E_iload4 (q := 67) dX6_hold_65 rfl ?_
      refine E_bipush (v := nI 16) (q := 69) dX6_hold_67 (by decide) rfl ?_
      refine E_icmp_geN (tgt := 106) (q := 72) dX6_hold_69 (by decide) rfl (by omega) (by omega) (fun h69 => ?_) (fun h69 => ?_)
      · skip
        exact absurd h69 (by omega)
      · skip
        refine E_iload3 (q := 73) dX6_hold_72 rfl ?_
        refine E_aload0 (q := 74) dX6_hold_73 rfl ?_
        refine E_iload4 (q := 76) dX6_hold_74 rfl ?_
        refine C_V1I (q := 79) lk_X6_70 (sp_X6_isSnpN hI.1 hI.2.1 hI.2.2.1 hi) rc_X6 dX6_hold_76 (by decide) (Nat.le_of_ble_eq_true rfl) rfl ?_
        refine E_if_eq (tgt := 97) (q := 82) dX6_hold_79 (by decide) rfl (fun h79 => ?_) (fun h79 => ?_)
        · skip
          refine E_iconst (v := nI 0) (q := 98) dX6_hold_97 (by decide) rfl ?_
          refine E_iaddN (q := 99) dX6_hold_98 rfl ?_
          refine E_istore3 (q := 100) dX6_hold_99 rfl rfl ?_
          refine E_iinc4 (q := 103) dX6_hold_100 (nI_inc _) rfl rfl ?_
          refine E_goto (q := 65) dX6_hold_103 (by decide) ?_
          rw [if_neg (by rw [dB_f (fun z => zI_0 h79 (h5 z))]; simp)] at ih
          exact ih
        · skip
          refine E_aload0 (q := 83) dX6_hold_82 rfl ?_
          refine E_iload4 (q := 85) dX6_hold_83 rfl ?_
          refine E_iconst (v := nI 3) (q := 86) dX6_hold_85 (by decide) rfl ?_
          refine C_V2I (q := 89) lk_X6_67 (sp_X6_snpH hI hi (zI_n h79)) rc_X6 dX6_hold_86 (by decide) (Nat.le_of_ble_eq_true rfl) rfl ?_
          refine E_iconst (v := nI 1) (q := 90) dX6_hold_89 (by decide) rfl ?_
          refine E_icmp_neN (tgt := 97) (q := 93) dX6_hold_90 (by decide) rfl (by omega) (by omega) (fun h90 => ?_) (fun h90 => ?_)
          · skip
            refine E_iconst (v := nI 0) (q := 98) dX6_hold_97 (by decide) rfl ?_
            refine E_iaddN (q := 99) dX6_hold_98 rfl ?_
            refine E_istore3 (q := 100) dX6_hold_99 rfl rfl ?_
            refine E_iinc4 (q := 103) dX6_hold_100 (nI_inc _) rfl rfl ?_
            refine E_goto (q := 65) dX6_hold_103 (by decide) ?_
            rw [if_neg (by rw [dB_f (show ¬ hld _ i from h90)]; simp)] at ih
            exact ih
          · skip
            refine E_iconst (v := nI 1) (q := 94) dX6_hold_93 (by decide) rfl ?_
            refine E_goto (q := 98) dX6_hold_94 (by decide) ?_
            refine E_iaddN (q := 99) dX6_hold_98 rfl ?_
            refine E_istore3 (q := 100) dX6_hold_99 rfl rfl ?_
            refine E_iinc4 (q := 103) dX6_hold_100 (nI_inc _) rfl rfl ?_
            refine E_goto (q := 65) dX6_hold_103 (by decide) ?_
            rw [if_pos (dB_t (show hld (hldA A s 1) i from h90))] at ih
            exact ih
  refine E_aload0 (q := 1) dX6_hold_0 rfl ?_
  refine E_iconst (v := nI 0) (q := 2) dX6_hold_1 (by decide) rfl ?_
  refine P_X6_thrown (q := 5) fl_X6_43 dX6_hold_2 rfl ?_
  refine E_aload0 (q := 6) dX6_hold_5 rfl ?_
  refine E_iload1 (q := 7) dX6_hold_6 rfl ?_
  refine C_V1I (q := 10) lk_X6_70 (sp_X6_isSnpT h.fl ((SnpA_nI (by omega)).mpr ⟨hs16, ht⟩)) rc_X6 dX6_hold_7 (by decide) (Nat.le_of_ble_eq_true rfl) rfl ?_
  refine E_if_ne (tgt := 15) (q := 13) dX6_hold_10 (by decide) rfl (fun h10 => ?_) (fun h10 => ?_)
  · skip
    refine E_aload0 (q := 16) dX6_hold_15 rfl ?_
    refine E_iload1 (q := 17) dX6_hold_16 rfl ?_
    refine E_iconst (v := nI 3) (q := 18) dX6_hold_17 (by decide) rfl ?_
    refine C_V2I (q := 21) lk_X6_67 (sp_X6_snpH h.fl hs16 ht) rc_X6 dX6_hold_18 (by decide) (Nat.le_of_ble_eq_true rfl) rfl ?_
    rw [hb]
    refine E_iconst (v := nI 1) (q := 22) dX6_hold_21 (by decide) rfl ?_
    refine E_icmp_neN (tgt := 29) (q := 25) dX6_hold_22 (by decide) rfl (by omega) (by omega) (fun h22 => ?_) (fun h22 => ?_)
    · skip
      refine E_iconst (v := nI 0) (q := 30) dX6_hold_29 (by decide) rfl ?_
      refine E_iload2 (q := 31) dX6_hold_30 rfl ?_
      refine E_icmp_neN (tgt := 37) (q := 34) dX6_hold_31 (by decide) rfl (by omega) (by omega) (fun h31 => ?_) (fun h31 => ?_)
      · skip
        refine E_aload0 (q := 38) dX6_hold_37 rfl ?_
        refine C_V0V (q := 41) lk_X6_183 (sp_X6_remember hk1 hk8) rc_X6 dX6_hold_38 (by decide) (Nat.le_of_ble_eq_true rfl) rfl ?_
        refine V_ws (show _ = wl D ad (row2 (tM M k) 158 (tM M k 158)) from congrArg (wl D ad) row2_self.symm) ?_
        refine E_aload0 (q := 42) dX6_hold_41 rfl ?_
        refine G_X6_w (q := 45) (x := 158) (hr _) fl_X6_16 dX6_hold_42 rfl ?_
        refine E_iload1 (q := 46) dX6_hold_45 rfl ?_
        refine E_iconst (v := nI 3) (q := 47) dX6_hold_46 (by decide) rfl ?_
        refine C_S2I (q := 50) lk_X6_57 (sp_X6_ofSnapshot) dX6_hold_47 (by decide) (Nat.le_of_ble_eq_true rfl) rfl ?_
        refine E_iload2 (q := 51) dX6_hold_50 rfl ?_
        refine E_if_eq (tgt := 58) (q := 54) dX6_hold_51 (by decide) rfl (fun h51 => ?_) (fun h51 => ?_)
        · first | exact absurd h51 (by decide) | exact absurd (by decide) h51
        · skip
          refine E_iconst (v := nI 1) (q := 55) dX6_hold_54 (by decide) rfl ?_
          refine E_goto (q := 59) dX6_hold_55 (by decide) ?_
          refine E_iastN (q := 60) hs (by omega) (by decide) dX6_hold_59 rfl ?_
          refine V_ws (congrArg (wl D ad) row2_upd) ?_
          refine E_iconst (v := nI 0) (q := 61) dX6_hold_60 (by decide) rfl ?_
          refine E_istore3 (q := 62) dX6_hold_61 rfl rfl ?_
          refine E_iconst (v := nI 0) (q := 63) dX6_hold_62 (by decide) rfl ?_
          refine E_istore4 (q := 65) dX6_hold_63 rfl rfl ?_
          exact hmain
      · first | exact absurd h31 (by decide) | exact absurd (by decide) h31
    · first | exact absurd h22 (by decide) | exact absurd (by decide) h22
  · first | exact absurd h10 (by decide) | exact absurd (by decide) h10
theorem sp_X6_undo0 (hk : M 157 2 = nI 0) : Spec D 14 yX6_undo cfX6_undo [.ref (ad 157)] (wl D ad M) 0 0 (PI (-1) (wl D ad (upd2 M 157 4 (nI 0)))) := by
  refine Spec.of (by decide) rfl (Nat.le_of_ble_eq_true rfl) rfl ?_
  refine E_aload0 (q := 1) dX6_undo_0 rfl ?_
  refine E_iconst (v := nI 0) (q := 2) dX6_undo_1 (by decide) rfl ?_
  refine P_X6_thrown (q := 5) fl_X6_43 dX6_undo_2 rfl ?_
  refine E_aload0 (q := 6) dX6_undo_5 rfl ?_
  refine G_X6_historySize (q := 9) fl_X6_46 dX6_undo_6 rfl ?_
  refine V_int (show _ = nI 0 by rw [upd2_ne (by decide), hk]) ?_
  refine E_if_ne (tgt := 14) (q := 12) dX6_undo_9 (by decide) rfl (fun h9 => ?_) (fun h9 => ?_)
  · first | exact absurd h9 (by decide) | exact absurd (by decide) h9
  · skip
    refine E_iconst (v := -1) (q := 13) dX6_undo_12 (by decide) rfl ?_
    exact E_ireturn rfl rfl dX6_undo_13 (PI_of rfl rfl)
theorem sp_X6_undo {k : Nat} (hk : M 157 2 = nI (k + 1)) (hk8 : k < 8) : Spec D 14 yX6_undo cfX6_undo [.ref (ad 157)] (wl D ad M) 0 0 (PI (nI k) (wl D ad (row2 (upd2 (upd2 M 157 4 (nI 0)) 157 2 (nI k)) 158 (cpF (M 159) (k * 739) (M 158) 0 739)))) := by
  refine Spec.of (by decide) rfl (Nat.le_of_ble_eq_true rfl) rfl ?_
  refine E_aload0 (q := 1) dX6_undo_0 rfl ?_
  refine E_iconst (v := nI 0) (q := 2) dX6_undo_1 (by decide) rfl ?_
  refine P_X6_thrown (q := 5) fl_X6_43 dX6_undo_2 rfl ?_
  refine E_aload0 (q := 6) dX6_undo_5 rfl ?_
  refine G_X6_historySize (q := 9) fl_X6_46 dX6_undo_6 rfl ?_
  refine V_int (show _ = nI (k + 1) by rw [upd2_ne (by decide), hk]) ?_
  refine E_if_ne (tgt := 14) (q := 12) dX6_undo_9 (by decide) rfl (fun h9 => ?_) (fun h9 => ?_)
  · skip
    refine E_aload0 (q := 15) dX6_undo_14 rfl ?_
    refine E_dup (q := 16) dX6_undo_15 rfl rfl ?_
    refine G_X6_historySize (q := 19) fl_X6_46 dX6_undo_16 rfl ?_
    refine V_int (show _ = nI (k + 1) by rw [upd2_ne (by decide), hk]) ?_
    refine E_iconst (v := nI 1) (q := 20) dX6_undo_19 (by decide) rfl ?_
    refine E_isubN (q := 21) dX6_undo_20 (by omega) rfl ?_
    refine P_X6_historySize (q := 24) fl_X6_46 dX6_undo_21 rfl ?_
    refine E_aload0 (q := 25) dX6_undo_24 rfl ?_
    refine G_X6_history (q := 28) fl_X6_13 dX6_undo_25 rfl ?_
    refine E_aload0 (q := 29) dX6_undo_28 rfl ?_
    refine G_X6_historySize (q := 32) fl_X6_46 dX6_undo_29 rfl ?_
    refine V_int (show _ = nI k from upd2_same) ?_
    refine E_sipush (v := nI 739) (q := 35) dX6_undo_32 (by decide) rfl ?_
    refine E_imulN (q := 36) dX6_undo_35 rfl ?_
    refine E_aload0 (q := 37) dX6_undo_36 rfl ?_
    refine G_X6_real (q := 40) fl_X6_7 dX6_undo_37 rfl ?_
    refine E_iconst (v := nI 0) (q := 41) dX6_undo_40 (by decide) rfl ?_
    refine C_S4V (q := 44) lk_X6_49 (sp_X6_copy sk_159 sk_158 (by decide) (by omega) (by decide) (by decide)) dX6_undo_41 (by decide) (Nat.le_of_ble_eq_true rfl) rfl ?_
    refine E_aload0 (q := 45) dX6_undo_44 rfl ?_
    refine G_X6_historySize (q := 48) fl_X6_46 dX6_undo_45 rfl ?_
    refine V_int (show _ = nI k by rw [row2_ne (by decide)]; exact upd2_same) ?_
    exact E_ireturn rfl rfl dX6_undo_48 (PI_of rfl (by rw [upd2_row (by decide), upd2_row (by decide), upd2_row (by decide), upd2_row (by decide)]; rfl))
  · skip
    exact absurd ((nI_z (by omega)).mp h9) (by omega)
end MODEL
