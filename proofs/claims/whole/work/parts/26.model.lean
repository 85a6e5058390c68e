
/-! THE REFERENCE: writing, common, sharing -/
def PD (d : UInt64) (w : va_W) : Option Value → va_W → Prop := fun v w' => v = some (.double d) ∧ w' = w
theorem ddiv_ok {x y : Int32} (hy : y ≠ 0) : vf_n64 (FP.ddiv (FP.i2d x) (FP.i2d y)) := Jvm.Free.Fl.ddiv_out (UInt64.le_of_lt (Jvm.Free.Fl.i2d_fin x)) (Jvm.Free.Fl.i2d_fin y) (Jvm.Free.Fl.i2d_nz hy)
section MODEL
variable {D : va_G} {ad : Nat → Nat} {M : Mem} {wx : Nat} {ws : va_W} {A : AS}
theorem sp_X6_freedByB {q : Int32} (h : RI M wx A) (hq : ¬ q &&& (nI (snps A) ^^^ (-1)) = 0) : Spec D 12 yX6_freedBy cfX6_freedBy [.ref (ad 157), .int (q)] (wl D ad M) 0 0 (PI (-1) (wl D ad (upd2 M 157 4 (nI 0)))) := by
  refine Spec.of (by decide) rfl (Nat.le_of_ble_eq_true rfl) rfl ?_
  refine E_aload0 (q := 1) dX6_freedBy_0 rfl ?_
  refine E_iconst (v := nI 0) (q := 2) dX6_freedBy_1 (by decide) rfl ?_
  refine P_X6_thrown (q := 5) fl_X6_43 dX6_freedBy_2 rfl ?_
  refine E_iload1 (q := 6) dX6_freedBy_5 rfl ?_
  refine E_aload0 (q := 7) dX6_freedBy_6 rfl ?_
  refine C_V0I (q := 10) lk_X6_117 (sp_X6_snapshots h.fl) rc_X6 dX6_freedBy_7 (by decide) (Nat.le_of_ble_eq_true rfl) rfl ?_
  refine E_iconst (v := -1) (q := 11) dX6_freedBy_10 (by decide) rfl ?_
  refine E_ixor (q := 12) dX6_freedBy_11 rfl ?_
  refine E_iand (q := 13) dX6_freedBy_12 rfl ?_
  refine E_if_eq (tgt := 20) (q := 16) dX6_freedBy_13 (by decide) rfl (fun h13 => ?_) (fun h13 => ?_)
  · skip
    exact absurd h13 hq
  · skip
    refine E_iconst (v := -1) (q := 17) dX6_freedBy_16 (by decide) rfl ?_
    refine E_goto (q := 25) dX6_freedBy_17 (by decide) ?_
    exact E_ireturn rfl rfl dX6_freedBy_25 (PI_of rfl rfl)
theorem sp_X6_freedBy {m : Nat} (h : RI M wx A) (hm : m < 2 ^ 31) (hq : nI m &&& (nI (snps A) ^^^ (-1)) = 0) : Spec D 12 yX6_freedBy cfX6_freedBy [.ref (ad 157), .int (nI (m))] (wl D ad M) 0 0 (PI (nI (fsum (hbF m) A.2)) (wl D ad (upd2 M 157 4 (nI 0)))) := by
  refine Spec.of (by decide) rfl (Nat.le_of_ble_eq_true rfl) rfl ?_
  refine E_aload0 (q := 1) dX6_freedBy_0 rfl ?_
  refine E_iconst (v := nI 0) (q := 2) dX6_freedBy_1 (by decide) rfl ?_
  refine P_X6_thrown (q := 5) fl_X6_43 dX6_freedBy_2 rfl ?_
  refine E_iload1 (q := 6) dX6_freedBy_5 rfl ?_
  refine E_aload0 (q := 7) dX6_freedBy_6 rfl ?_
  refine C_V0I (q := 10) lk_X6_117 (sp_X6_snapshots h.fl) rc_X6 dX6_freedBy_7 (by decide) (Nat.le_of_ble_eq_true rfl) rfl ?_
  refine E_iconst (v := -1) (q := 11) dX6_freedBy_10 (by decide) rfl ?_
  refine E_ixor (q := 12) dX6_freedBy_11 rfl ?_
  refine E_iand (q := 13) dX6_freedBy_12 rfl ?_
  refine E_if_eq (tgt := 20) (q := 16) dX6_freedBy_13 (by decide) rfl (fun h13 => ?_) (fun h13 => ?_)
  · skip
    refine E_aload0 (q := 21) dX6_freedBy_20 rfl ?_
    refine E_iload1 (q := 22) dX6_freedBy_21 rfl ?_
    refine C_V1I (q := 25) lk_X6_147 (sp_X6_heldBy h.fl hm) rc_X6 dX6_freedBy_22 (by decide) (Nat.le_of_ble_eq_true rfl) rfl ?_
    exact E_ireturn rfl rfl dX6_freedBy_25 (PI_of rfl rfl)
  · skip
    exact absurd hq h13
theorem snps_mask {q : Int32} (hq : q &&& (nI (snps A) ^^^ (-1)) = 0) : ∃ m, q = nI m ∧ m < 2 ^ 16 ∧ ∀ s, m.testBit s = true → s < 16 ∧ th A s := by
  have hs : snps A < 2 ^ 16 := bset_lt _ _
  refine ⟨q.toBitVec.toNat, nI_self q, ?_, ?_⟩ <;>
  · rw [nI_self q, nI_andn] at hq
    have hl : q.toBitVec.toNat < 2 ^ 32 := q.toBitVec.isLt
    have h0 : andn q.toBitVec.toNat (snps A) = 0 := nI_inj (Nat.lt_of_le_of_lt andn_le hl) (by decide) hq
    have hb : ∀ s, q.toBitVec.toNat.testBit s = true → s < 16 ∧ th A s := fun s hsb => (bset_bit _ _ _).mp ((andn_0 hl).mp h0 s hsb)
    first
    | exact hb
    | exact Nat.lt_pow_two_of_testBit _ (fun i hi => by
        cases hc : q.toBitVec.toNat.testBit i with
        | false => rfl
        | true => have := (hb i hc).1; omega)
theorem sp_X6_mostExclusive (h : RI M wx A) : Spec D 12 yX6_mostExclusive cfX6_mostExclusive [.ref (ad 157)] (wl D ad M) 0 0 (PI ((mxE A 16).1) (wl D ad (upd2 M 157 4 (nI 0)))) := by
  refine Spec.of (by decide) rfl (Nat.le_of_ble_eq_true rfl) rfl ?_
  have hle : ∀ i, (mxE A i).2 ≤ 2376 := fun i => by
    induction i with
    | zero => exact Nat.zero_le _
    | succ i ih =>
      rw [mxE]
      split
      · exact ih
      · exact hb_le h.2.2.2.2 _
  have hmain : V D cfX6_mostExclusive (rmOf 12 0 0) (QM D (PI ((mxE A 16).1) (wl D ad (upd2 M 157 4 (nI 0)))) 0 0) 0 0 11 [some (.ref (ad 157)), some (.int ((mxE A 0).1)), some (.int (nI ((mxE A 0).2))), some (.int (nI (0))), none] [] (wl D ad (upd2 M 157 4 (nI 0))) := by
    refine upto0 (n := 16) (P := fun k => V D cfX6_mostExclusive (rmOf 12 0 0) (QM D (PI ((mxE A 16).1) (wl D ad (upd2 M 157 4 (nI 0)))) 0 0) 0 0 11 [some (.ref (ad 157)), some (.int ((mxE A k).1)), some (.int (nI ((mxE A k).2))), some (.int (nI (k))), none] [] (wl D ad (upd2 M 157 4 (nI 0)))) ?_ ?_
    · skip
      refine E_iload3 (q := 12) dX6_mostExclusive_11 rfl ?_
      refine E_bipush (v := nI 16) (q := 14) dX6_mostExclusive_12 (by decide) rfl ?_
      refine E_icmp_geN (tgt := 58) (q := 17) dX6_mostExclusive_14 (by decide) rfl (by omega) (by omega) (fun h14 => ?_) (fun h14 => ?_)
      · skip
        refine E_iload1 (q := 59) dX6_mostExclusive_58 rfl ?_
        exact E_ireturn rfl rfl dX6_mostExclusive_59 (PI_of rfl rfl)
      · skip
        exact absurd h14 (by omega)
    · intro k hk ih
      have hl := hle k
      have hb := hb_le h.2.2.2.2 (2 ^ k)
      have hs : mxE A (k + 1) = if fsum (hbF (2 ^ k)) A.2 ≤ (mxE A k).2 then mxE A k else (nI k, fsum (hbF (2 ^ k)) A.2) := rfl
      by_cases ht : th A k
      · skip
        refine E_iload3 (q := 12) dX6_mostExclusive_11 rfl ?_
        refine E_bipush (v := nI 16) (q := 14) dX6_mostExclusive_12 (by decide) rfl ?_
        refine E_icmp_geN (tgt := 58) (q := 17) dX6_mostExclusive_14 (by decide) rfl (by omega) (by omega) (fun h14 => ?_) (fun h14 => ?_)
        · skip
          exact absurd h14 (by omega)
        · skip
          refine E_aload0 (q := 18) dX6_mostExclusive_17 rfl ?_
          refine E_iload3 (q := 19) dX6_mostExclusive_18 rfl ?_
          refine C_V1I (q := 22) lk_X6_70 (sp_X6_isSnpN h.fl.1 h.fl.2.1 h.2.2.1 (by omega)) rc_X6 dX6_mostExclusive_19 (by decide) (Nat.le_of_ble_eq_true rfl) rfl ?_
          refine E_if_eq (tgt := 35) (q := 25) dX6_mostExclusive_22 (by decide) rfl (fun h22 => ?_) (fun h22 => ?_)
          · skip
            exact absurd ht (zI_0 h22)
          · skip
            refine E_aload0 (q := 26) dX6_mostExclusive_25 rfl ?_
            refine E_iconst (v := nI 1) (q := 27) dX6_mostExclusive_26 (by decide) rfl ?_
            refine E_iload3 (q := 28) dX6_mostExclusive_27 rfl ?_
            refine E_ishl (q := 29) dX6_mostExclusive_28 rfl ?_
            refine V_int (one_shl (by omega)) ?_
            refine C_V1I (q := 32) lk_X6_147 (sp_X6_heldBy h.fl (Nat.pow_lt_pow_right (by decide) (by omega))) rc_X6 dX6_mostExclusive_29 (by decide) (Nat.le_of_ble_eq_true rfl) rfl ?_
            refine E_goto (q := 36) dX6_mostExclusive_32 (by decide) ?_
            refine E_istore4 (q := 38) dX6_mostExclusive_36 rfl rfl ?_
            refine E_iload4 (q := 40) dX6_mostExclusive_38 rfl ?_
            refine E_iload2 (q := 41) dX6_mostExclusive_40 rfl ?_
            refine E_icmp_gtN (tgt := 47) (q := 44) dX6_mostExclusive_41 (by decide) rfl (by omega) (by omega) (fun h41 => ?_) (fun h41 => ?_)
            · skip
              refine E_iload3 (q := 48) dX6_mostExclusive_47 rfl ?_
              refine E_istore1 (q := 49) dX6_mostExclusive_48 rfl rfl ?_
              refine E_iload4 (q := 51) dX6_mostExclusive_49 rfl ?_
              refine E_istore2 (q := 52) dX6_mostExclusive_51 rfl rfl ?_
              refine E_iinc3 (q := 55) dX6_mostExclusive_52 (nI_inc _) rfl rfl ?_
              refine E_goto (q := 11) dX6_mostExclusive_55 (by decide) ?_
              rw [hs, if_neg (by omega)] at ih
              exact V_sub (by repeat (first | exact subL_nil | refine subL_s ?_ | refine subL_n ?_)) ih
            · skip
              refine E_goto (q := 52) dX6_mostExclusive_44 (by decide) ?_
              refine E_iinc3 (q := 55) dX6_mostExclusive_52 (nI_inc _) rfl rfl ?_
              refine E_goto (q := 11) dX6_mostExclusive_55 (by decide) ?_
              rw [hs, if_pos (by omega)] at ih
              exact V_sub (by repeat (first | exact subL_nil | refine subL_s ?_ | refine subL_n ?_)) ih
      · have hz := hb_th h.2.2.2.2 ht
        refine E_iload3 (q := 12) dX6_mostExclusive_11 rfl ?_
        refine E_bipush (v := nI 16) (q := 14) dX6_mostExclusive_12 (by decide) rfl ?_
        refine E_icmp_geN (tgt := 58) (q := 17) dX6_mostExclusive_14 (by decide) rfl (by omega) (by omega) (fun h14 => ?_) (fun h14 => ?_)
        · skip
          exact absurd h14 (by omega)
        · skip
          refine E_aload0 (q := 18) dX6_mostExclusive_17 rfl ?_
          refine E_iload3 (q := 19) dX6_mostExclusive_18 rfl ?_
          refine C_V1I (q := 22) lk_X6_70 (sp_X6_isSnpN h.fl.1 h.fl.2.1 h.2.2.1 (by omega)) rc_X6 dX6_mostExclusive_19 (by decide) (Nat.le_of_ble_eq_true rfl) rfl ?_
          refine E_if_eq (tgt := 35) (q := 25) dX6_mostExclusive_22 (by decide) rfl (fun h22 => ?_) (fun h22 => ?_)
          · skip
            refine E_iconst (v := nI 0) (q := 36) dX6_mostExclusive_35 (by decide) rfl ?_
            refine E_istore4 (q := 38) dX6_mostExclusive_36 rfl rfl ?_
            refine E_iload4 (q := 40) dX6_mostExclusive_38 rfl ?_
            refine E_iload2 (q := 41) dX6_mostExclusive_40 rfl ?_
            refine E_icmp_gtN (tgt := 47) (q := 44) dX6_mostExclusive_41 (by decide) rfl (by omega) (by omega) (fun h41 => ?_) (fun h41 => ?_)
            · skip
              exact absurd h41 (by omega)
            · skip
              refine E_goto (q := 52) dX6_mostExclusive_44 (by decide) ?_
              refine E_iinc3 (q := 55) dX6_mostExclusive_52 (nI_inc _) rfl rfl ?_
              refine E_goto (q := 11) dX6_mostExclusive_55 (by decide) ?_
              rw [hs, if_pos (by omega)] at ih
              exact V_sub (by repeat (first | exact subL_nil | refine subL_s ?_ | refine subL_n ?_)) ih
          · skip
            exact absurd (zI_n h22) ht
  refine E_aload0 (q := 1) dX6_mostExclusive_0 rfl ?_
  refine E_iconst (v := nI 0) (q := 2) dX6_mostExclusive_1 (by decide) rfl ?_
  refine P_X6_thrown (q := 5) fl_X6_43 dX6_mostExclusive_2 rfl ?_
  refine E_iconst (v := -1) (q := 6) dX6_mostExclusive_5 (by decide) rfl ?_
  refine E_istore1 (q := 7) dX6_mostExclusive_6 rfl rfl ?_
  refine E_iconst (v := nI 0) (q := 8) dX6_mostExclusive_7 (by decide) rfl ?_
  refine E_istore2 (q := 9) dX6_mostExclusive_8 rfl rfl ?_
  refine E_iconst (v := nI 0) (q := 10) dX6_mostExclusive_9 (by decide) rfl ?_
  refine E_istore3 (q := 11) dX6_mostExclusive_10 rfl rfl ?_
  exact hmain
theorem sp_X6_writing {v a z : Nat} (h : RI M wx A) (hv : v < 6) (ht : th A (16 + v)) (ha : a < 12) (hz : 1 ≤ z ∧ z ≤ 9) : Spec D 8 yX6_writing cfX6_writing [.ref (ad 157), .int (nI (v)), .int (nI (a)), .int (nI (z))] (wl D ad M) 0 0 (PI (wrI A v a z) (wl D ad M)) := by
  refine Spec.of (by decide) rfl (Nat.le_of_ble_eq_true rfl) rfl ?_
  have hw := h.1
  have h1 := aln_le h.2.2.2.2 (16 + v) a
  have h2 := sz_le h.2.2.2.2
  have h3 := sumA_le h.2.2.2.2 (16 + v)
  have h4 := uAt_sum (A := A) (w := 16 + v) ha
  have h5 := h.2.2.1.1.2.2.2.1
  have h6 := (h.2.2.1.2.2.2.1 v hv ht).2.2.1
  refine E_bipush (v := nI 16) (q := 2) dX6_writing_0 (by decide) rfl ?_
  refine E_iload1 (q := 3) dX6_writing_2 rfl ?_
  refine E_iaddN (q := 4) dX6_writing_3 rfl ?_
  refine E_istore4 (q := 6) dX6_writing_4 rfl rfl ?_
  refine E_aload0 (q := 7) dX6_writing_6 rfl ?_
  refine E_iconst (v := nI 1) (q := 8) dX6_writing_7 (by decide) rfl ?_
  refine C_V1I (q := 11) lk_X6_113 (sp_X6_allU h) rc_X6 dX6_writing_8 (by decide) (Nat.le_of_ble_eq_true rfl) rfl ?_
  refine E_aload0 (q := 12) dX6_writing_11 rfl ?_
  refine E_iload1 (q := 13) dX6_writing_12 rfl ?_
  refine E_iload2 (q := 14) dX6_writing_13 rfl ?_
  refine C_V2I (q := 17) lk_X6_153 (sp_X6_goesWith h hv ha) rc_X6 dX6_writing_14 (by decide) (Nat.le_of_ble_eq_true rfl) rfl ?_
  refine E_isubN (q := 18) dX6_writing_17 (by omega) rfl ?_
  refine E_iload3 (q := 19) dX6_writing_18 rfl ?_
  refine E_iaddN (q := 20) dX6_writing_19 rfl ?_
  refine E_aload0 (q := 21) dX6_writing_20 rfl ?_
  refine G_X6_w (q := 24) (x := wx) (by repeat (first | exact hw | refine WX.w ?_ | refine WX.u (by decide) ?_)) fl_X6_16 dX6_writing_21 rfl ?_
  refine E_iconst (v := nI 0) (q := 25) dX6_writing_24 (by decide) rfl ?_
  refine E_ialdN (q := 26) hw.2 (by omega) (by decide) dX6_writing_25 rfl ?_
  refine V_int h.2.1.1.1 ?_
  refine E_icmp_leN (tgt := 32) (q := 29) dX6_writing_26 (by decide) rfl (by omega) (by omega) (fun h26 => ?_) (fun h26 => ?_)
  · skip
    refine E_aload0 (q := 33) dX6_writing_32 rfl ?_
    refine E_iload1 (q := 34) dX6_writing_33 rfl ?_
    refine E_iconst (v := nI 2) (q := 35) dX6_writing_34 (by decide) rfl ?_
    refine C_V2I (q := 38) lk_X6_64 (sp_X6_volQ h hv ht) rc_X6 dX6_writing_35 (by decide) (Nat.le_of_ble_eq_true rfl) rfl ?_
    refine E_istore5 (q := 40) dX6_writing_38 rfl rfl ?_
    refine E_iload5 (q := 42) dX6_writing_40 rfl ?_
    refine E_if_le (tgt := 71) (q := 45) dX6_writing_42 (by decide) rfl (fun h42 => ?_) (fun h42 => ?_)
    · skip
      refine E_iconst (v := nI 0) (q := 72) dX6_writing_71 (by decide) rfl ?_
      exact E_ireturn rfl rfl dX6_writing_72 (PI_of (by rw [wrI, if_neg (by omega), if_neg (fun q => by have := (nI_leI (a := quo A v) (b := 0) (by omega) (by decide)).mp h42; omega)]) rfl)
    · skip
      refine E_aload0 (q := 46) dX6_writing_45 rfl ?_
      refine E_iload4 (q := 48) dX6_writing_46 rfl ?_
      refine C_V1I (q := 51) lk_X6_144 (sp_X6_sum h (by omega)) rc_X6 dX6_writing_48 (by decide) (Nat.le_of_ble_eq_true rfl) rfl ?_
      refine E_aload0 (q := 52) dX6_writing_51 rfl ?_
      refine E_iload4 (q := 54) dX6_writing_52 rfl ?_
      refine E_iload2 (q := 55) dX6_writing_54 rfl ?_
      refine C_V2I (q := 58) lk_X6_80 (sp_X6_unitsA h (by omega) (by omega)) rc_X6 dX6_writing_55 (by decide) (Nat.le_of_ble_eq_true rfl) rfl ?_
      refine E_isubN (q := 59) dX6_writing_58 (by omega) rfl ?_
      refine E_iload3 (q := 60) dX6_writing_59 rfl ?_
      refine E_iaddN (q := 61) dX6_writing_60 rfl ?_
      refine E_iload5 (q := 63) dX6_writing_61 rfl ?_
      refine E_icmp_leN (tgt := 71) (q := 66) dX6_writing_63 (by decide) rfl (by omega) (by omega) (fun h63 => ?_) (fun h63 => ?_)
      · skip
        refine E_iconst (v := nI 0) (q := 72) dX6_writing_71 (by decide) rfl ?_
        exact E_ireturn rfl rfl dX6_writing_72 (PI_of (by rw [wrI, if_neg (by omega), if_neg (by omega)]) rfl)
      · skip
        refine E_bipush (v := -5) (q := 68) dX6_writing_66 (by decide) rfl ?_
        refine E_goto (q := 72) dX6_writing_68 (by decide) ?_
        exact E_ireturn rfl rfl dX6_writing_72 (PI_of (by rw [wrI, if_neg (by omega), if_pos ⟨Nat.pos_of_ne_zero (fun q => h42 (by rw [q]; decide)), by omega⟩]) rfl)
  · skip
    refine E_bipush (v := -3) (q := 31) dX6_writing_29 (by decide) rfl ?_
    exact E_ireturn rfl rfl dX6_writing_31 (PI_of (by rw [wrI, if_pos (by omega)]) rfl)
theorem sp_X6_refusalV {p q r : Int32} (h : RI M wx A) (hn : ¬ VolA A p) : Spec D 9 yX6_refusal cfX6_refusal [.ref (ad 157), .int (p), .int (q), .int (r)] (wl D ad M) 0 0 (PI (-1) (wl D ad M)) := by
  refine Spec.of (by decide) rfl (Nat.le_of_ble_eq_true rfl) rfl ?_
  refine E_aload0 (q := 1) dX6_refusal_0 rfl ?_
  refine E_iload1 (q := 2) dX6_refusal_1 rfl ?_
  refine C_V1I (q := 5) lk_X6_74 (sp_X6_isVolF h hn) rc_X6 dX6_refusal_2 (by decide) (Nat.le_of_ble_eq_true rfl) rfl ?_
  refine E_if_ne (tgt := 10) (q := 8) dX6_refusal_5 (by decide) rfl (fun h5 => ?_) (fun h5 => ?_)
  · first | exact absurd h5 (by decide) | exact absurd (by decide) h5
  · skip
    refine E_iconst (v := -1) (q := 9) dX6_refusal_8 (by decide) rfl ?_
    exact E_ireturn rfl rfl dX6_refusal_9 (PI_of rfl rfl)
/-- a size -/
def SizP (r : Int32) : Prop := nI 1 ≤ r ∧ r ≤ nI 9
theorem sp_X6_refusalB {p q r : Int32} (h : RI M wx A) (hp : VolA A p) (hn : ¬ (AdrP q ∧ SizP r)) : Spec D 9 yX6_refusal cfX6_refusal [.ref (ad 157), .int (p), .int (q), .int (r)] (wl D ad M) 0 0 (PI (-2) (wl D ad M)) := by
  refine Spec.of (by decide) rfl (Nat.le_of_ble_eq_true rfl) rfl ?_
  by_cases hq : AdrP q
  · have hr : ¬ SizP r := fun z => hn ⟨hq, z⟩
    refine E_aload0 (q := 1) dX6_refusal_0 rfl ?_
    refine E_iload1 (q := 2) dX6_refusal_1 rfl ?_
    refine C_V1I (q := 5) lk_X6_74 (sp_X6_isVolT h hp) rc_X6 dX6_refusal_2 (by decide) (Nat.le_of_ble_eq_true rfl) rfl ?_
    refine E_if_ne (tgt := 10) (q := 8) dX6_refusal_5 (by decide) rfl (fun h5 => ?_) (fun h5 => ?_)
    · skip
      refine E_iload2 (q := 11) dX6_refusal_10 rfl ?_
      refine C_S1I (q := 14) lk_X6_141 (sp_X6_isAdrT hq) dX6_refusal_11 (by decide) (Nat.le_of_ble_eq_true rfl) rfl ?_
      refine E_if_eq (tgt := 37) (q := 17) dX6_refusal_14 (by decide) rfl (fun h14 => ?_) (fun h14 => ?_)
      · first | exact absurd h14 (by decide) | exact absurd (by decide) h14
      · skip
        refine E_iload3 (q := 18) dX6_refusal_17 rfl ?_
        refine E_iconst (v := nI 1) (q := 19) dX6_refusal_18 (by decide) rfl ?_
        refine E_bipush (v := nI 9) (q := 21) dX6_refusal_19 (by decide) rfl ?_
        refine C_S3I (q := 24) lk_X6_60 (sp_X6_inRange) dX6_refusal_21 (by decide) (Nat.le_of_ble_eq_true rfl) rfl ?_
        refine E_if_eq (tgt := 37) (q := 27) dX6_refusal_24 (by decide) rfl (fun h24 => ?_) (fun h24 => ?_)
        · skip
          refine E_bipush (v := -2) (q := 39) dX6_refusal_37 (by decide) rfl ?_
          exact E_ireturn rfl rfl dX6_refusal_39 (PI_of rfl rfl)
        · skip
          exact absurd (zI_n h24) hr
    · first | exact absurd h5 (by decide) | exact absurd (by decide) h5
  · skip
    refine E_aload0 (q := 1) dX6_refusal_0 rfl ?_
    refine E_iload1 (q := 2) dX6_refusal_1 rfl ?_
    refine C_V1I (q := 5) lk_X6_74 (sp_X6_isVolT h hp) rc_X6 dX6_refusal_2 (by decide) (Nat.le_of_ble_eq_true rfl) rfl ?_
    refine E_if_ne (tgt := 10) (q := 8) dX6_refusal_5 (by decide) rfl (fun h5 => ?_) (fun h5 => ?_)
    · skip
      refine E_iload2 (q := 11) dX6_refusal_10 rfl ?_
      refine C_S1I (q := 14) lk_X6_141 (sp_X6_isAdrF hq) dX6_refusal_11 (by decide) (Nat.le_of_ble_eq_true rfl) rfl ?_
      refine E_if_eq (tgt := 37) (q := 17) dX6_refusal_14 (by decide) rfl (fun h14 => ?_) (fun h14 => ?_)
      · skip
        refine E_bipush (v := -2) (q := 39) dX6_refusal_37 (by decide) rfl ?_
        exact E_ireturn rfl rfl dX6_refusal_39 (PI_of rfl rfl)
      · first | exact absurd h14 (by decide) | exact absurd (by decide) h14
    · first | exact absurd h5 (by decide) | exact absurd (by decide) h5
theorem SizP_nI {r : Int32} (h : SizP r) : ∃ z, 1 ≤ z ∧ z ≤ 9 ∧ r = nI z := by
  obtain ⟨z, hz, e⟩ := (rng (n := 9) (by decide)).mp ⟨Int32.le_trans (show nI 0 ≤ nI 1 by decide) h.1, h.2⟩
  refine ⟨z, ?_, hz, e⟩
  have := h.1
  rw [e] at this
  exact (nI_leI (by decide) (by omega)).mp this
theorem sp_X6_refusal {v a z : Nat} (h : RI M wx A) (hv : v < 6) (ht : th A (16 + v)) (ha : a < 12) (hz : 1 ≤ z ∧ z ≤ 9) : Spec D 9 yX6_refusal cfX6_refusal [.ref (ad 157), .int (nI (v)), .int (nI (a)), .int (nI (z))] (wl D ad M) 0 0 (PI (wrI A v a z) (wl D ad M)) := by
  refine Spec.of (by decide) rfl (Nat.le_of_ble_eq_true rfl) rfl ?_
  refine E_aload0 (q := 1) dX6_refusal_0 rfl ?_
  refine E_iload1 (q := 2) dX6_refusal_1 rfl ?_
  refine C_V1I (q := 5) lk_X6_74 (sp_X6_isVolT h ((VolA_nI (by omega)).mpr ⟨hv, ht⟩)) rc_X6 dX6_refusal_2 (by decide) (Nat.le_of_ble_eq_true rfl) rfl ?_
  refine E_if_ne (tgt := 10) (q := 8) dX6_refusal_5 (by decide) rfl (fun h5 => ?_) (fun h5 => ?_)
  · skip
    refine E_iload2 (q := 11) dX6_refusal_10 rfl ?_
    refine C_S1I (q := 14) lk_X6_141 (sp_X6_isAdrT ⟨a, ha, rfl⟩) dX6_refusal_11 (by decide) (Nat.le_of_ble_eq_true rfl) rfl ?_
    refine E_if_eq (tgt := 37) (q := 17) dX6_refusal_14 (by decide) rfl (fun h14 => ?_) (fun h14 => ?_)
    · first | exact absurd h14 (by decide) | exact absurd (by decide) h14
    · skip
      refine E_iload3 (q := 18) dX6_refusal_17 rfl ?_
      refine E_iconst (v := nI 1) (q := 19) dX6_refusal_18 (by decide) rfl ?_
      refine E_bipush (v := nI 9) (q := 21) dX6_refusal_19 (by decide) rfl ?_
      refine C_S3I (q := 24) lk_X6_60 (sp_X6_inRange) dX6_refusal_21 (by decide) (Nat.le_of_ble_eq_true rfl) rfl ?_
      refine E_if_eq (tgt := 37) (q := 27) dX6_refusal_24 (by decide) rfl (fun h24 => ?_) (fun h24 => ?_)
      · skip
        exact absurd ⟨nI_le hz.1 (by omega), nI_le hz.2 (by decide)⟩ (zI_0 h24)
      · skip
        refine E_aload0 (q := 28) dX6_refusal_27 rfl ?_
        refine E_iload1 (q := 29) dX6_refusal_28 rfl ?_
        refine E_iload2 (q := 30) dX6_refusal_29 rfl ?_
        refine E_iload3 (q := 31) dX6_refusal_30 rfl ?_
        refine C_V3I (q := 34) lk_X6_172 (sp_X6_writing h hv ht ha hz) rc_X6 dX6_refusal_31 (by decide) (Nat.le_of_ble_eq_true rfl) rfl ?_
        refine E_goto (q := 39) dX6_refusal_34 (by decide) ?_
        exact E_ireturn rfl rfl dX6_refusal_39 (PI_of rfl rfl)
  · first | exact absurd h5 (by decide) | exact absurd (by decide) h5
theorem sp_X6_wouldWriteV {p q r : Int32} (h : RI M wx A) (hn : ¬ VolA A p) : Spec D 12 yX6_wouldWrite cfX6_wouldWrite [.ref (ad 157), .int (p), .int (q), .int (r)] (wl D ad M) 0 0 (PI (-1) (wl D ad (upd2 M 157 4 (nI 0)))) := by
  refine Spec.of (by decide) rfl (Nat.le_of_ble_eq_true rfl) rfl ?_
  refine E_aload0 (q := 1) dX6_wouldWrite_0 rfl ?_
  refine E_iconst (v := nI 0) (q := 2) dX6_wouldWrite_1 (by decide) rfl ?_
  refine P_X6_thrown (q := 5) fl_X6_43 dX6_wouldWrite_2 rfl ?_
  refine E_aload0 (q := 6) dX6_wouldWrite_5 rfl ?_
  refine E_iload1 (q := 7) dX6_wouldWrite_6 rfl ?_
  refine E_iload2 (q := 8) dX6_wouldWrite_7 rfl ?_
  refine E_iload3 (q := 9) dX6_wouldWrite_8 rfl ?_
  refine C_V3I (q := 12) lk_X6_176 (sp_X6_refusalV h.fl hn) rc_X6 dX6_wouldWrite_9 (by decide) (Nat.le_of_ble_eq_true rfl) rfl ?_
  refine E_istore4 (q := 14) dX6_wouldWrite_12 rfl rfl ?_
  refine E_iload4 (q := 16) dX6_wouldWrite_14 rfl ?_
  refine E_if_eq (tgt := 24) (q := 19) dX6_wouldWrite_16 (by decide) rfl (fun h16 => ?_) (fun h16 => ?_)
  · first | exact absurd h16 (by decide) | exact absurd (by decide) h16
  · skip
    refine E_iload4 (q := 21) dX6_wouldWrite_19 rfl ?_
    refine E_goto (q := 32) dX6_wouldWrite_21 (by decide) ?_
    exact E_ireturn rfl rfl dX6_wouldWrite_32 (PI_of rfl rfl)
theorem sp_X6_wouldWriteB {p q r : Int32} (h : RI M wx A) (hp : VolA A p) (hn : ¬ (AdrP q ∧ SizP r)) : Spec D 12 yX6_wouldWrite cfX6_wouldWrite [.ref (ad 157), .int (p), .int (q), .int (r)] (wl D ad M) 0 0 (PI (-2) (wl D ad (upd2 M 157 4 (nI 0)))) := by
  refine Spec.of (by decide) rfl (Nat.le_of_ble_eq_true rfl) rfl ?_
  refine E_aload0 (q := 1) dX6_wouldWrite_0 rfl ?_
  refine E_iconst (v := nI 0) (q := 2) dX6_wouldWrite_1 (by decide) rfl ?_
  refine P_X6_thrown (q := 5) fl_X6_43 dX6_wouldWrite_2 rfl ?_
  refine E_aload0 (q := 6) dX6_wouldWrite_5 rfl ?_
  refine E_iload1 (q := 7) dX6_wouldWrite_6 rfl ?_
  refine E_iload2 (q := 8) dX6_wouldWrite_7 rfl ?_
  refine E_iload3 (q := 9) dX6_wouldWrite_8 rfl ?_
  refine C_V3I (q := 12) lk_X6_176 (sp_X6_refusalB h.fl hp hn) rc_X6 dX6_wouldWrite_9 (by decide) (Nat.le_of_ble_eq_true rfl) rfl ?_
  refine E_istore4 (q := 14) dX6_wouldWrite_12 rfl rfl ?_
  refine E_iload4 (q := 16) dX6_wouldWrite_14 rfl ?_
  refine E_if_eq (tgt := 24) (q := 19) dX6_wouldWrite_16 (by decide) rfl (fun h16 => ?_) (fun h16 => ?_)
  · first | exact absurd h16 (by decide) | exact absurd (by decide) h16
  · skip
    refine E_iload4 (q := 21) dX6_wouldWrite_19 rfl ?_
    refine E_goto (q := 32) dX6_wouldWrite_21 (by decide) ?_
    exact E_ireturn rfl rfl dX6_wouldWrite_32 (PI_of rfl rfl)
noncomputable def wwI (A : AS) (v a z : Nat) : Int32 := if wrI A v a z = 0 then nI (aT A + 1) else wrI A v a z
theorem sp_X6_wouldWrite {v a z : Nat} (h : RI M wx A) (hv : v < 6) (ht : th A (16 + v)) (ha : a < 12) (hz : 1 ≤ z ∧ z ≤ 9) : Spec D 12 yX6_wouldWrite cfX6_wouldWrite [.ref (ad 157), .int (nI (v)), .int (nI (a)), .int (nI (z))] (wl D ad M) 0 0 (PI (wwI A v a z) (wl D ad (upd2 M 157 4 (nI 0)))) := by
  refine Spec.of (by decide) rfl (Nat.le_of_ble_eq_true rfl) rfl ?_
  have hw := h.1
  refine E_aload0 (q := 1) dX6_wouldWrite_0 rfl ?_
  refine E_iconst (v := nI 0) (q := 2) dX6_wouldWrite_1 (by decide) rfl ?_
  refine P_X6_thrown (q := 5) fl_X6_43 dX6_wouldWrite_2 rfl ?_
  refine E_aload0 (q := 6) dX6_wouldWrite_5 rfl ?_
  refine E_iload1 (q := 7) dX6_wouldWrite_6 rfl ?_
  refine E_iload2 (q := 8) dX6_wouldWrite_7 rfl ?_
  refine E_iload3 (q := 9) dX6_wouldWrite_8 rfl ?_
  refine C_V3I (q := 12) lk_X6_176 (sp_X6_refusal h.fl hv ht ha hz) rc_X6 dX6_wouldWrite_9 (by decide) (Nat.le_of_ble_eq_true rfl) rfl ?_
  refine E_istore4 (q := 14) dX6_wouldWrite_12 rfl rfl ?_
  refine E_iload4 (q := 16) dX6_wouldWrite_14 rfl ?_
  refine E_if_eq (tgt := 24) (q := 19) dX6_wouldWrite_16 (by decide) rfl (fun h16 => ?_) (fun h16 => ?_)
  · skip
    refine E_aload0 (q := 25) dX6_wouldWrite_24 rfl ?_
    refine G_X6_w (q := 28) (x := wx) (by repeat (first | exact hw | refine WX.w ?_ | refine WX.u (by decide) ?_)) fl_X6_16 dX6_wouldWrite_25 rfl ?_
    refine E_iconst (v := nI 2) (q := 29) dX6_wouldWrite_28 (by decide) rfl ?_
    refine E_ialdN (q := 30) hw.2 (by omega) (by decide) dX6_wouldWrite_29 rfl ?_
    refine V_int h.fl.2.1.1.2.2.1 ?_
    refine E_iconst (v := nI 1) (q := 31) dX6_wouldWrite_30 (by decide) rfl ?_
    refine E_iaddN (q := 32) dX6_wouldWrite_31 rfl ?_
    exact E_ireturn rfl rfl dX6_wouldWrite_32 (PI_of (by rw [wwI, if_pos h16]) rfl)
  · skip
    refine E_iload4 (q := 21) dX6_wouldWrite_19 rfl ?_
    refine E_goto (q := 32) dX6_wouldWrite_21 (by decide) ?_
    exact E_ireturn rfl rfl dX6_wouldWrite_32 (PI_of (by rw [wwI, if_neg h16]) rfl)
theorem sp_X6_common {a b : Nat} (h : RI M wx A) (ha : a < 22) (hta : th A a) (hb : b < 22) (htb : th A b) : Spec D 12 yX6_common cfX6_common [.ref (ad 157), .int (nI (a)), .int (nI (b))] (wl D ad M) 0 0 (PI (comV A a b) (wl D ad (upd2 M 157 4 (nI 0)))) := by
  refine Spec.of (by decide) rfl (Nat.le_of_ble_eq_true rfl) rfl ?_
  have hX : ∀ w, w < 22 → th A w → ∀ p, ahd A w = p + 1 → p < w ∧ p < 22 ∧ th A p := fun w hw ht p hp => by
    have := WFT.lt h.2.2.1 h.2.2.2.1 hw ht
    have := this.2 p hp
    exact ⟨by omega, by omega, this.2⟩
  have hmain : ∀ u, u < 22 → th A u → (lin A u).find? (fun v => decide (v ∈ lin A b)) = (lin A a).find? (fun v => decide (v ∈ lin A b)) → V D cfX6_common (rmOf 12 0 0) (QM D (PI (comV A a b) (wl D ad (upd2 M 157 4 (nI 0)))) 0 0) 0 0 32 [some (.ref (ad 157)), some (.int (nI (a))), some (.int (nI (b))), some (.int (nI (u))), none] [] (wl D ad (upd2 M 157 4 (nI 0))) := by
    intro u
    induction u using Nat.strongRecOn with
    | ind u ih =>
      intro hu htu hf
      rw [lin_cons h.2.2.1 h.2.2.2.1 hu htu, List.find?_cons] at hf
      by_cases hub : u ∈ lin A b
      · rw [decide_eq_true hub] at hf
        have hval : comV A a b = nI u := by unfold comV; rw [← hf]
        have hin : ∀ x, x < 22 → th A x → u ∈ lin A x → V D cfX6_common (rmOf 12 0 0) (QM D (PI (comV A a b) (wl D ad (upd2 M 157 4 (nI 0)))) 0 0) 0 0 39 [some (.ref (ad 157)), some (.int (nI (a))), some (.int (nI (b))), some (.int (nI (u))), some (.int (nI (x)))] [] (wl D ad (upd2 M 157 4 (nI 0))) := by
          intro x
          induction x using Nat.strongRecOn with
          | ind x ihx =>
            intro hx htx hux
            rw [lin_cons h.2.2.1 h.2.2.2.1 hx htx] at hux
            by_cases e : u = x
            · skip
              refine E_iload4 (q := 41) dX6_common_39 rfl ?_
              refine E_if_lt (tgt := 63) (q := 44) dX6_common_41 (by decide) rfl (fun h41 => ?_) (fun h41 => ?_)
              · skip
                exact absurd h41 (nI_pos (by omega))
              · skip
                refine E_iload3 (q := 45) dX6_common_44 rfl ?_
                refine E_iload4 (q := 47) dX6_common_45 rfl ?_
                refine E_icmp_neN (tgt := 52) (q := 50) dX6_common_47 (by decide) rfl (by omega) (by omega) (fun h47 => ?_) (fun h47 => ?_)
                · skip
                  exact absurd e h47
                · skip
                  refine E_iload3 (q := 51) dX6_common_50 rfl ?_
                  exact E_ireturn rfl rfl dX6_common_51 (PI_of hval.symm rfl)
            · have hux2 : u ∈ linO A (ahd A x) := by
                rcases List.mem_cons.mp hux with q | q
                · exact absurd q e
                · exact q
              cases hz : ahd A x with
              | zero => rw [hz] at hux2; cases hux2
              | succ p =>
                rw [hz] at hux2
                have hp := hX x hx htx p hz
                refine E_iload4 (q := 41) dX6_common_39 rfl ?_
                refine E_if_lt (tgt := 63) (q := 44) dX6_common_41 (by decide) rfl (fun h41 => ?_) (fun h41 => ?_)
                · skip
                  exact absurd h41 (nI_pos (by omega))
                · skip
                  refine E_iload3 (q := 45) dX6_common_44 rfl ?_
                  refine E_iload4 (q := 47) dX6_common_45 rfl ?_
                  refine E_icmp_neN (tgt := 52) (q := 50) dX6_common_47 (by decide) rfl (by omega) (by omega) (fun h47 => ?_) (fun h47 => ?_)
                  · skip
                    refine E_aload0 (q := 53) dX6_common_52 rfl ?_
                    refine E_iload4 (q := 55) dX6_common_53 rfl ?_
                    refine C_V1I (q := 58) lk_X6_110 (sp_X6_beforeOf h.fl.1 h.fl.2.1 h.2.2.1 hx htx) rc_X6 dX6_common_55 (by decide) (Nat.le_of_ble_eq_true rfl) rfl ?_
                    rw [hz, oI_s]
                    refine E_istore4 (q := 60) dX6_common_58 rfl rfl ?_
                    refine E_goto (q := 39) dX6_common_60 (by decide) ?_
                    exact ihx p hp.1 hp.2.1 hp.2.2 hux2
                  · skip
                    exact absurd h47 e
        refine E_iload3 (q := 33) dX6_common_32 rfl ?_
        refine E_if_lt (tgt := 72) (q := 36) dX6_common_33 (by decide) rfl (fun h33 => ?_) (fun h33 => ?_)
        · skip
          exact absurd h33 (nI_pos (by omega))
        · skip
          refine E_iload2 (q := 37) dX6_common_36 rfl ?_
          refine E_istore4 (q := 39) dX6_common_37 rfl rfl ?_
          exact hin b hb htb hub
      · rw [decide_eq_false hub] at hf
        have hout : ∀ (y : Int32), V D cfX6_common (rmOf 12 0 0) (QM D (PI (comV A a b) (wl D ad (upd2 M 157 4 (nI 0)))) 0 0) 0 0 63 [some (.ref (ad 157)), some (.int (nI (a))), some (.int (nI (b))), some (.int (nI (u))), some (.int (y))] [] (wl D ad (upd2 M 157 4 (nI 0))) := by
          intro y
          cases hz : ahd A u with
          | zero =>
            rw [hz] at hf
            have hval : comV A a b = -1 := by unfold comV; rw [← hf]; rfl
            refine E_aload0 (q := 64) dX6_common_63 rfl ?_
            refine E_iload3 (q := 65) dX6_common_64 rfl ?_
            refine C_V1I (q := 68) lk_X6_110 (sp_X6_beforeOf h.fl.1 h.fl.2.1 h.2.2.1 hu htu) rc_X6 dX6_common_65 (by decide) (Nat.le_of_ble_eq_true rfl) rfl ?_
            rw [hz, oI_0]
            refine E_istore3 (q := 69) dX6_common_68 rfl rfl ?_
            refine E_goto (q := 32) dX6_common_69 (by decide) ?_
            refine E_iload3 (q := 33) dX6_common_32 rfl ?_
            refine E_if_lt (tgt := 72) (q := 36) dX6_common_33 (by decide) rfl (fun h33 => ?_) (fun h33 => ?_)
            · skip
              refine E_iconst (v := -1) (q := 73) dX6_common_72 (by decide) rfl ?_
              exact E_ireturn rfl rfl dX6_common_73 (PI_of hval.symm rfl)
            · skip
              exact absurd (by decide) h33
          | succ p =>
            have hp := hX u hu htu p hz
            rw [hz] at hf
            refine E_aload0 (q := 64) dX6_common_63 rfl ?_
            refine E_iload3 (q := 65) dX6_common_64 rfl ?_
            refine C_V1I (q := 68) lk_X6_110 (sp_X6_beforeOf h.fl.1 h.fl.2.1 h.2.2.1 hu htu) rc_X6 dX6_common_65 (by decide) (Nat.le_of_ble_eq_true rfl) rfl ?_
            rw [hz, oI_s]
            refine E_istore3 (q := 69) dX6_common_68 rfl rfl ?_
            refine E_goto (q := 32) dX6_common_69 (by decide) ?_
            exact V_sub (by repeat (first | exact subL_nil | refine subL_s ?_ | refine subL_n ?_)) (ih p hp.1 hp.2.1 hp.2.2 hf)
        have hneg : V D cfX6_common (rmOf 12 0 0) (QM D (PI (comV A a b) (wl D ad (upd2 M 157 4 (nI 0)))) 0 0) 0 0 39 [some (.ref (ad 157)), some (.int (nI (a))), some (.int (nI (b))), some (.int (nI (u))), some (.int (-1))] [] (wl D ad (upd2 M 157 4 (nI 0))) := by
          refine E_iload4 (q := 41) dX6_common_39 rfl ?_
          refine E_if_lt (tgt := 63) (q := 44) dX6_common_41 (by decide) rfl (fun h41 => ?_) (fun h41 => ?_)
          · skip
            exact hout _
          · skip
            exact absurd (by decide) h41
        have hin : ∀ x, x < 22 → th A x → u ∉ lin A x → V D cfX6_common (rmOf 12 0 0) (QM D (PI (comV A a b) (wl D ad (upd2 M 157 4 (nI 0)))) 0 0) 0 0 39 [some (.ref (ad 157)), some (.int (nI (a))), some (.int (nI (b))), some (.int (nI (u))), some (.int (nI (x)))] [] (wl D ad (upd2 M 157 4 (nI 0))) := by
          intro x
          induction x using Nat.strongRecOn with
          | ind x ihx =>
            intro hx htx hux
            rw [lin_cons h.2.2.1 h.2.2.2.1 hx htx] at hux
            have e : u ≠ x := fun q => hux (List.mem_cons.mpr (Or.inl q))
            have hux2 : u ∉ linO A (ahd A x) := fun q => hux (List.mem_cons.mpr (Or.inr q))
            cases hz : ahd A x with
            | zero =>
              refine E_iload4 (q := 41) dX6_common_39 rfl ?_
              refine E_if_lt (tgt := 63) (q := 44) dX6_common_41 (by decide) rfl (fun h41 => ?_) (fun h41 => ?_)
              · skip
                exact absurd h41 (nI_pos (by omega))
              · skip
                refine E_iload3 (q := 45) dX6_common_44 rfl ?_
                refine E_iload4 (q := 47) dX6_common_45 rfl ?_
                refine E_icmp_neN (tgt := 52) (q := 50) dX6_common_47 (by decide) rfl (by omega) (by omega) (fun h47 => ?_) (fun h47 => ?_)
                · skip
                  refine E_aload0 (q := 53) dX6_common_52 rfl ?_
                  refine E_iload4 (q := 55) dX6_common_53 rfl ?_
                  refine C_V1I (q := 58) lk_X6_110 (sp_X6_beforeOf h.fl.1 h.fl.2.1 h.2.2.1 hx htx) rc_X6 dX6_common_55 (by decide) (Nat.le_of_ble_eq_true rfl) rfl ?_
                  rw [hz, oI_0]
                  refine E_istore4 (q := 60) dX6_common_58 rfl rfl ?_
                  refine E_goto (q := 39) dX6_common_60 (by decide) ?_
                  exact hneg
                · skip
                  exact absurd h47 e
            | succ p =>
              rw [hz] at hux2
              have hp := hX x hx htx p hz
              refine E_iload4 (q := 41) dX6_common_39 rfl ?_
              refine E_if_lt (tgt := 63) (q := 44) dX6_common_41 (by decide) rfl (fun h41 => ?_) (fun h41 => ?_)
              · skip
                exact absurd h41 (nI_pos (by omega))
              · skip
                refine E_iload3 (q := 45) dX6_common_44 rfl ?_
                refine E_iload4 (q := 47) dX6_common_45 rfl ?_
                refine E_icmp_neN (tgt := 52) (q := 50) dX6_common_47 (by decide) rfl (by omega) (by omega) (fun h47 => ?_) (fun h47 => ?_)
                · skip
                  refine E_aload0 (q := 53) dX6_common_52 rfl ?_
                  refine E_iload4 (q := 55) dX6_common_53 rfl ?_
                  refine C_V1I (q := 58) lk_X6_110 (sp_X6_beforeOf h.fl.1 h.fl.2.1 h.2.2.1 hx htx) rc_X6 dX6_common_55 (by decide) (Nat.le_of_ble_eq_true rfl) rfl ?_
                  rw [hz, oI_s]
                  refine E_istore4 (q := 60) dX6_common_58 rfl rfl ?_
                  refine E_goto (q := 39) dX6_common_60 (by decide) ?_
                  exact ihx p hp.1 hp.2.1 hp.2.2 hux2
                · skip
                  exact absurd h47 e
        refine E_iload3 (q := 33) dX6_common_32 rfl ?_
        refine E_if_lt (tgt := 72) (q := 36) dX6_common_33 (by decide) rfl (fun h33 => ?_) (fun h33 => ?_)
        · skip
          exact absurd h33 (nI_pos (by omega))
        · skip
          refine E_iload2 (q := 37) dX6_common_36 rfl ?_
          refine E_istore4 (q := 39) dX6_common_37 rfl rfl ?_
          exact hin b hb htb hub
  refine E_aload0 (q := 1) dX6_common_0 rfl ?_
  refine E_aload0 (q := 2) dX6_common_1 rfl ?_
  refine E_iload1 (q := 3) dX6_common_2 rfl ?_
  refine C_V1I (q := 6) lk_X6_87 (sp_X6_isVerT h ((VerA_nI (by omega)).mpr ⟨ha, hta⟩)) rc_X6 dX6_common_3 (by decide) (Nat.le_of_ble_eq_true rfl) rfl ?_
  refine E_if_eq (tgt := 21) (q := 9) dX6_common_6 (by decide) rfl (fun h6 => ?_) (fun h6 => ?_)
  · first | exact absurd h6 (by decide) | exact absurd (by decide) h6
  · skip
    refine E_aload0 (q := 10) dX6_common_9 rfl ?_
    refine E_iload2 (q := 11) dX6_common_10 rfl ?_
    refine C_V1I (q := 14) lk_X6_87 (sp_X6_isVerT h ((VerA_nI (by omega)).mpr ⟨hb, htb⟩)) rc_X6 dX6_common_11 (by decide) (Nat.le_of_ble_eq_true rfl) rfl ?_
    refine E_if_eq (tgt := 21) (q := 17) dX6_common_14 (by decide) rfl (fun h14 => ?_) (fun h14 => ?_)
    · first | exact absurd h14 (by decide) | exact absurd (by decide) h14
    · skip
      refine E_iconst (v := nI 1) (q := 18) dX6_common_17 (by decide) rfl ?_
      refine E_goto (q := 22) dX6_common_18 (by decide) ?_
      refine C_V1I (q := 25) lk_X6_128 (sp_X6_failsT) rc_X6 dX6_common_22 (by decide) (Nat.le_of_ble_eq_true rfl) rfl ?_
      refine E_if_eq (tgt := 30) (q := 28) dX6_common_25 (by decide) rfl (fun h25 => ?_) (fun h25 => ?_)
      · skip
        refine E_iload1 (q := 31) dX6_common_30 rfl ?_
        refine E_istore3 (q := 32) dX6_common_31 rfl rfl ?_
        exact hmain a ha hta rfl
      · first | exact absurd h25 (by decide) | exact absurd (by decide) h25
theorem sp_X6_sharing (h : RI M wx A) : Spec D 12 yX6_sharing cfX6_sharing [.ref (ad 157)] (wl D ad M) 0 0 (PD (shrV A) (wl D ad (upd2 M 157 4 (nI 0)))) := by
  refine Spec.of (by decide) rfl (Nat.le_of_ble_eq_true rfl) rfl ?_
  have hs := sz_le h.2.2.2.2
  have hmain : V D cfX6_sharing (rmOf 12 0 0) (QM D (PD (shrV A) (wl D ad (upd2 M 157 4 (nI 0)))) 0 0) 0 0 9 [some (.ref (ad 157)), some (.int (nI (0))), some (.int (nI (0)))] [] (wl D ad (upd2 M 157 4 (nI 0))) := by
    refine upto0 (n := 22) (P := fun k => V D cfX6_sharing (rmOf 12 0 0) (QM D (PD (shrV A) (wl D ad (upd2 M 157 4 (nI 0)))) 0 0) 0 0 9 [some (.ref (ad 157)), some (.int (nI (nsum (fun v => if dB (th A v) = true then sumA A v else 0) k))), some (.int (nI (k)))] [] (wl D ad (upd2 M 157 4 (nI 0)))) ?_ ?_
    · skip
      refine E_iload2 (q := 10) dX6_sharing_9 rfl ?_
      refine E_bipush (v := nI 22) (q := 12) dX6_sharing_10 (by decide) rfl ?_
      refine E_icmp_geN (tgt := 41) (q := 15) dX6_sharing_12 (by decide) rfl (by omega) (by omega) (fun h12 => ?_) (fun h12 => ?_)
      · skip
        refine E_aload0 (q := 42) dX6_sharing_41 rfl ?_
        refine E_iconst (v := nI 1) (q := 43) dX6_sharing_42 (by decide) rfl ?_
        refine C_V1I (q := 46) lk_X6_113 (sp_X6_allU h.fl) rc_X6 dX6_sharing_43 (by decide) (Nat.le_of_ble_eq_true rfl) rfl ?_
        refine E_istore2 (q := 47) dX6_sharing_46 rfl rfl ?_
        refine E_iload2 (q := 48) dX6_sharing_47 rfl ?_
        refine E_if_ne (tgt := 55) (q := 51) dX6_sharing_48 (by decide) rfl (fun h48 => ?_) (fun h48 => ?_)
        · skip
          refine E_iload1 (q := 56) dX6_sharing_55 rfl ?_
          refine E_i2d (q := 57) dX6_sharing_56 rfl ?_
          refine E_iload2 (q := 58) dX6_sharing_57 rfl ?_
          refine E_i2d (q := 59) dX6_sharing_58 rfl ?_
          refine E_ddiv (q := 60) dX6_sharing_59 (ddiv_ok h48) rfl ?_
          exact E_dreturn rfl rfl dX6_sharing_60 ⟨by rw [shrV, if_neg (fun z => h48 (by rw [z]; rfl))], rfl⟩
        · skip
          refine E_dconst0 (q := 52) dX6_sharing_51 rfl ?_
          refine E_goto (q := 60) dX6_sharing_52 (by decide) ?_
          exact E_dreturn rfl rfl dX6_sharing_60 ⟨by rw [shrV, if_pos ((nI_z (by omega)).mp h48)], rfl⟩
      · skip
        exact absurd h12 (by omega)
    · intro k hk ih
      rw [nsum_s] at ih
      refine E_iload2 (q := 10) dX6_sharing_9 rfl ?_
      refine E_bipush (v := nI 22) (q := 12) dX6_sharing_10 (by decide) rfl ?_
      refine E_icmp_geN (tgt := 41) (q := 15) dX6_sharing_12 (by decide) rfl (by omega) (by omega) (fun h12 => ?_) (fun h12 => ?_)
      · skip
        exact absurd h12 (by omega)
      · skip
        refine E_iload1 (q := 16) dX6_sharing_15 rfl ?_
        refine E_aload0 (q := 17) dX6_sharing_16 rfl ?_
        refine E_iload2 (q := 18) dX6_sharing_17 rfl ?_
        refine C_V1I (q := 21) lk_X6_87 (sp_X6_isVerN h.fl.1 h.fl.2.1 h.2.2.1 (by omega)) rc_X6 dX6_sharing_18 (by decide) (Nat.le_of_ble_eq_true rfl) rfl ?_
        refine E_if_eq (tgt := 32) (q := 24) dX6_sharing_21 (by decide) rfl (fun h21 => ?_) (fun h21 => ?_)
        · skip
          refine E_iconst (v := nI 0) (q := 33) dX6_sharing_32 (by decide) rfl ?_
          refine E_iaddN (q := 34) dX6_sharing_33 rfl ?_
          refine E_istore1 (q := 35) dX6_sharing_34 rfl rfl ?_
          refine E_iinc2 (q := 38) dX6_sharing_35 (nI_inc _) rfl rfl ?_
          refine E_goto (q := 9) dX6_sharing_38 (by decide) ?_
          rw [if_neg (by rw [dB_f (zI_0 h21)]; simp)] at ih
          exact ih
        · skip
          refine E_aload0 (q := 25) dX6_sharing_24 rfl ?_
          refine E_iload2 (q := 26) dX6_sharing_25 rfl ?_
          refine C_V1I (q := 29) lk_X6_144 (sp_X6_sum h.fl (by omega)) rc_X6 dX6_sharing_26 (by decide) (Nat.le_of_ble_eq_true rfl) rfl ?_
          refine E_goto (q := 33) dX6_sharing_29 (by decide) ?_
          refine E_iaddN (q := 34) dX6_sharing_33 rfl ?_
          refine E_istore1 (q := 35) dX6_sharing_34 rfl rfl ?_
          refine E_iinc2 (q := 38) dX6_sharing_35 (nI_inc _) rfl rfl ?_
          refine E_goto (q := 9) dX6_sharing_38 (by decide) ?_
          rw [if_pos (dB_t (zI_n h21))] at ih
          exact ih
  refine E_aload0 (q := 1) dX6_sharing_0 rfl ?_
  refine E_iconst (v := nI 0) (q := 2) dX6_sharing_1 (by decide) rfl ?_
  refine P_X6_thrown (q := 5) fl_X6_43 dX6_sharing_2 rfl ?_
  refine E_iconst (v := nI 0) (q := 6) dX6_sharing_5 (by decide) rfl ?_
  refine E_istore1 (q := 7) dX6_sharing_6 rfl rfl ?_
  refine E_iconst (v := nI 0) (q := 8) dX6_sharing_7 (by decide) rfl ?_
  refine E_istore2 (q := 9) dX6_sharing_8 rfl rfl ?_
  exact hmain
end MODEL
