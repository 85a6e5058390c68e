
/-! THE CODE OF StringBuilder: more room -/
section SBM
variable {D : va_G} {ad : Nat → Nat} {M : Mem} {ws : va_W} {T : List Nat} {cap mn a g p : Nat}
section ALI
variable {F : Cfg} {rm : Room} {Qf : QF} {k n pc q idx : Nat} {locs : List (Option Value)} {st : List Value}
theorem G_J5_value (hf : FL F.1 idx 1 0) (hd : decode F.2.1 pc = .ok (.getfield idx, 3)) (hq : pc + 3 = q) (kk : V D F rm Qf k n q locs (.ref (ad 156) :: st) (wl D ad M)) : V D F rm Qf k n pc locs (.ref (ad 155) :: st) (wl D ad M) := G_J4_value hf hd hq kk
theorem G_J5_coder (hf : FL F.1 idx 1 1) (hd : decode F.2.1 pc = .ok (.getfield idx, 3)) (hq : pc + 3 = q) (kk : V D F rm Qf k n q locs (.int (M 155 1) :: st) (wl D ad M)) : V D F rm Qf k n pc locs (.ref (ad 155) :: st) (wl D ad M) := G_J4_coder hf hd hq kk
theorem G_J5_count (hf : FL F.1 idx 1 3) (hd : decode F.2.1 pc = .ok (.getfield idx, 3)) (hq : pc + 3 = q) (kk : V D F rm Qf k n q locs (.int (M 155 3) :: st) (wl D ad M)) : V D F rm Qf k n pc locs (.ref (ad 155) :: st) (wl D ad M) := G_J4_count hf hd hq kk
theorem P_J5_count {v : Int32} (hf : FL F.1 idx 1 3) (hd : decode F.2.1 pc = .ok (.putfield idx, 3)) (hq : pc + 3 = q) (kk : V D F rm Qf k n q locs st (wl D ad (upd2 M 155 3 v))) : V D F rm Qf k n pc locs (.int v :: .ref (ad 155) :: st) (wl D ad M) := P_J4_count hf hd hq kk
end ALI
theorem shl0 (x : Int32) : x <<< (nI 0 &&& 31) = x := by
  apply Int32.toBitVec_inj.mp
  show x.toBitVec <<< _ = _
  simp [nI]
theorem shr0 (x : Int32) : x >>> (nI 0 &&& 31) = x := by
  apply Int32.toBitVec_inj.mp
  show x.toBitVec.sshiftRight' _ = _
  simp [nI]
theorem sp_J8_newLength_cabcc (hs : a + (if g < p then p else g) ≤ 200000) (h0 : 0 < a) : Spec D 2 yJ8_newLength_cabcc cfJ8_newLength_cabcc [.int (nI (a)), .int (nI (g)), .int (nI (p))] ws 0 0 (PI (nI (a + (if g < p then p else g))) ws) := by
  refine Spec.of (by decide) rfl (Nat.le_of_ble_eq_true rfl) rfl ?_
  have hm : (if nI g < nI p then nI p else nI g) = nI (if g < p then p else g) := by
    have hg : g ≤ 200000 := by split at hs <;> omega
    have hp : p ≤ 200000 := by split at hs <;> omega
    by_cases c : g < p
    · rw [if_pos c, if_pos ((nI_ltI (by omega) (by omega)).mpr c)]
    · rw [if_neg c, if_neg (fun z => c ((nI_ltI (by omega) (by omega)).mp z))]
  refine E_iload0 (q := 1) dJ8_newLength_cabcc_0 rfl ?_
  refine E_iload1 (q := 2) dJ8_newLength_cabcc_1 rfl ?_
  refine E_iload2 (q := 3) dJ8_newLength_cabcc_2 rfl ?_
  refine E_jmax (q := 6) lk_J8_194.2.1 dJ8_newLength_cabcc_3 (by decide) (Nat.le_of_ble_eq_true rfl) rfl ?_
  refine V_int hm ?_
  refine E_iaddN (q := 7) dJ8_newLength_cabcc_6 rfl ?_
  refine E_istore3 (q := 8) dJ8_newLength_cabcc_7 rfl rfl ?_
  refine E_iconst (v := nI 0) (q := 9) dJ8_newLength_cabcc_8 (by decide) rfl ?_
  refine E_iload3 (q := 10) dJ8_newLength_cabcc_9 rfl ?_
  refine E_icmp_geN (tgt := 21) (q := 13) dJ8_newLength_cabcc_10 (by decide) rfl (by omega) (by omega) (fun h10 => ?_) (fun h10 => ?_)
  · skip
    exact absurd h10 (by omega)
  · skip
    refine E_iload3 (q := 14) dJ8_newLength_cabcc_13 rfl ?_
    refine E_ldc (q := 16) dJ8_newLength_cabcc_14 cn_J8_200 rfl ?_
    refine V_int (show _ = nI 2147483639 by decide) ?_
    refine E_icmp_gtN (tgt := 21) (q := 19) dJ8_newLength_cabcc_16 (by decide) rfl (by omega) (by omega) (fun h16 => ?_) (fun h16 => ?_)
    · skip
      exact absurd h16 (by omega)
    · skip
      refine E_iload3 (q := 20) dJ8_newLength_cabcc_19 rfl ?_
      exact E_ireturn rfl rfl dJ8_newLength_cabcc_20 (PI_of rfl rfl)
theorem sp_J5_newCapacity_0f7a4 (hc : M 155 1 = nI 0) (hl : M 156 100000 = nI cap) (h0 : 0 < cap) (h1 : cap < mn) (h2 : mn ≤ 2 * cap + 2) (h3 : cap ≤ 10000) : Spec D 3 yJ5_newCapacity_0f7a4 cfJ5_newCapacity_0f7a4 [.ref (ad 155), .int (nI (mn))] (wl D ad M) 0 0 (PI (nI (2 * cap + 2)) (wl D ad M)) := by
  refine Spec.of (by decide) rfl (Nat.le_of_ble_eq_true rfl) rfl ?_
  have hmx : (if mn - cap < cap + 2 then cap + 2 else mn - cap) = cap + 2 := by split <;> omega
  have hsp := sp_J8_newLength_cabcc (D := D) (ws := wl D ad M) (a := cap) (g := mn - cap) (p := cap + 2) (by rw [hmx]; omega) h0
  rw [hmx] at hsp
  refine E_aload0 (q := 1) dJ5_newCapacity_0f7a4_0 rfl ?_
  refine G_J5_value (q := 4) fl_J5_15 dJ5_newCapacity_0f7a4_1 rfl ?_
  refine E_alenB hl (by omega) (q := 5) dJ5_newCapacity_0f7a4_4 rfl ?_
  refine E_istore2 (q := 6) dJ5_newCapacity_0f7a4_5 rfl rfl ?_
  refine E_iload1 (q := 7) dJ5_newCapacity_0f7a4_6 rfl ?_
  refine E_aload0 (q := 8) dJ5_newCapacity_0f7a4_7 rfl ?_
  refine G_J5_coder (q := 11) fl_J5_22 dJ5_newCapacity_0f7a4_8 rfl ?_
  refine V_int hc ?_
  refine E_ishl (q := 12) dJ5_newCapacity_0f7a4_11 rfl ?_
  refine V_int (shl0 _) ?_
  refine E_istore3 (q := 13) dJ5_newCapacity_0f7a4_12 rfl rfl ?_
  refine E_iload3 (q := 14) dJ5_newCapacity_0f7a4_13 rfl ?_
  refine E_iload2 (q := 15) dJ5_newCapacity_0f7a4_14 rfl ?_
  refine E_isubN (q := 16) dJ5_newCapacity_0f7a4_15 (by omega) rfl ?_
  refine E_istore4 (q := 18) dJ5_newCapacity_0f7a4_16 rfl rfl ?_
  refine E_iload2 (q := 19) dJ5_newCapacity_0f7a4_18 rfl ?_
  refine E_iload4 (q := 21) dJ5_newCapacity_0f7a4_19 rfl ?_
  refine E_iload2 (q := 22) dJ5_newCapacity_0f7a4_21 rfl ?_
  refine E_iconst (v := nI 2) (q := 23) dJ5_newCapacity_0f7a4_22 (by decide) rfl ?_
  refine E_aload0 (q := 24) dJ5_newCapacity_0f7a4_23 rfl ?_
  refine G_J5_coder (q := 27) fl_J5_22 dJ5_newCapacity_0f7a4_24 rfl ?_
  refine V_int hc ?_
  refine E_ishl (q := 28) dJ5_newCapacity_0f7a4_27 rfl ?_
  refine V_int (shl0 _) ?_
  refine E_iaddN (q := 29) dJ5_newCapacity_0f7a4_28 rfl ?_
  refine C_S3I (q := 32) lk_J5_114 (hsp) dJ5_newCapacity_0f7a4_29 (by decide) (Nat.le_of_ble_eq_true rfl) rfl ?_
  refine E_istore5 (q := 34) dJ5_newCapacity_0f7a4_32 rfl rfl ?_
  refine E_iload5 (q := 36) dJ5_newCapacity_0f7a4_34 rfl ?_
  refine E_ldc (q := 38) dJ5_newCapacity_0f7a4_36 cn_J5_39 rfl ?_
  refine V_int (show _ = nI 2147483647 by decide) ?_
  refine E_icmp_neN (tgt := 51) (q := 41) dJ5_newCapacity_0f7a4_38 (by decide) rfl (by omega) (by omega) (fun h38 => ?_) (fun h38 => ?_)
  · skip
    refine E_iload5 (q := 53) dJ5_newCapacity_0f7a4_51 rfl ?_
    refine E_aload0 (q := 54) dJ5_newCapacity_0f7a4_53 rfl ?_
    refine G_J5_coder (q := 57) fl_J5_22 dJ5_newCapacity_0f7a4_54 rfl ?_
    refine V_int hc ?_
    refine E_ishr (q := 58) dJ5_newCapacity_0f7a4_57 rfl ?_
    refine V_int (shr0 _) ?_
    exact E_ireturn rfl rfl dJ5_newCapacity_0f7a4_58 (PI_of (congrArg nI (by omega)) rfl)
  · skip
    exact absurd h38 (by omega)
def CpQ (D : va_G) (ad : Nat → Nat) (M : Mem) (cap L : Nat) : Option Value → va_W → Prop := fun v w => ∃ (q0 : Nat) (f : Nat → Int32), v = some (.ref q0) ∧ w = wlX D ad M q0 L f ∧ f 100000 = nI L ∧ (∀ j, j < cap → f j = M 156 j) ∧ ∀ j, j < L → fits .byte (.int (f j)) = true
theorem sp_copyOf {L : Nat} (hl : M 156 100000 = nI cap) (h1 : cap < L) (h2 : L ≤ 100000) (hf : ∀ i, i < cap → fits .byte (.int (M 156 i)) = true) : Spec D 2 yJ7_copyOf_9075b cfJ7_copyOf_9075b [.ref (ad 156), .int (nI L)] (wl D ad M) 1 L (CpQ D ad M cap L) := by
  refine Spec.of (by decide) rfl (Nat.le_of_ble_eq_true rfl) rfl ?_
  have hm : (if nI L < nI cap then nI L else nI cap) = nI cap := if_neg (fun z => by have := (nI_ltI (by omega) (by omega)).mp z; omega)
  refine E_iload1 (q := 1) dJ7_copyOf_9075b_0 rfl ?_
  refine E_aload0 (q := 2) dJ7_copyOf_9075b_1 rfl ?_
  refine E_alenB hl (by omega) (q := 3) dJ7_copyOf_9075b_2 rfl ?_
  refine E_icmp_neN (tgt := 14) (q := 6) dJ7_copyOf_9075b_3 (by decide) rfl (by omega) (by omega) (fun h3 => ?_) (fun h3 => ?_)
  · skip
    refine E_iload1 (q := 15) dJ7_copyOf_9075b_14 rfl ?_
    refine E_newB h2 (by omega) (by omega) (q := 17) dJ7_copyOf_9075b_15 rfl ?_
    intro q0
    refine E_astore2 (q := 18) dJ7_copyOf_9075b_17 rfl rfl ?_
    refine E_aload0 (q := 19) dJ7_copyOf_9075b_18 rfl ?_
    refine E_iconst (v := nI 0) (q := 20) dJ7_copyOf_9075b_19 (by decide) rfl ?_
    refine E_aload2 (q := 21) dJ7_copyOf_9075b_20 rfl ?_
    refine E_iconst (v := nI 0) (q := 22) dJ7_copyOf_9075b_21 (by decide) rfl ?_
    refine E_aload0 (q := 23) dJ7_copyOf_9075b_22 rfl ?_
    refine E_alenX hl (by omega) (q := 24) dJ7_copyOf_9075b_23 rfl ?_
    refine E_iload1 (q := 25) dJ7_copyOf_9075b_24 rfl ?_
    refine E_jmin (q := 28) lk_J7_304.2.1 dJ7_copyOf_9075b_25 (by decide) (Nat.le_of_ble_eq_true rfl) rfl ?_
    refine V_int hm ?_
    refine E_acopyX (q := 31) ac_J7 (by decide) hl (Nat.le_refl cap) (by omega) (by omega) hf (Nat.le_of_ble_eq_true rfl) dJ7_copyOf_9075b_28 rfl ?_
    refine E_aload2 (q := 32) dJ7_copyOf_9075b_31 rfl ?_
    refine E_areturn rfl rfl (Or.inr ⟨_, rfl⟩) dJ7_copyOf_9075b_32 ⟨q0, _, rfl, rfl, ?_, fun j hj => ?_, fun j hj => ?_⟩
    · show (if 0 ≤ 100000 ∧ 100000 < 0 + cap then _ else _) = _
      rw [if_neg (by omega)]
      exact if_pos rfl
    · show (if 0 ≤ j ∧ j < 0 + cap then M 156 (0 + (j - 0)) else _) = _
      rw [if_pos (by omega), Nat.zero_add, Nat.sub_zero]
    · show fits .byte (.int (if 0 ≤ j ∧ j < 0 + cap then M 156 (0 + (j - 0)) else _)) = true
      by_cases c : j < cap
      · rw [if_pos (by omega), Nat.zero_add, Nat.sub_zero]; exact hf j c
      · rw [if_neg (by omega)]
        show fits .byte (.int (if j = 100000 then nI L else 0)) = true
        rw [if_neg (by omega)]; rfl
  · skip
    exact absurd h3 (by omega)
theorem nI_sub_le {a b : Nat} (h : a ≤ b) (hb : b < 2 ^ 31) : nI a - nI b ≤ 0 := by
  refine Int32.le_iff_toInt_le.mpr ?_
  rw [Int32.toInt_sub, nI_toInt (by omega), nI_toInt hb, ti_small (by omega) (by omega)]
  show (a : Int) - b ≤ 0
  omega
theorem sp_J5_ens0 (hc : M 155 1 = nI 0) (hl : M 156 100000 = nI cap) (h1 : mn ≤ cap) (h3 : cap ≤ 10000) : Spec D 4 yJ5_ensureCapacityInternal_d00df cfJ5_ensureCapacityInternal_d00df [.ref (ad 155), .int (nI (mn))] (wl D ad M) 0 0 (PV (wl D ad M)) := by
  refine Spec.of (by decide) rfl (Nat.le_of_ble_eq_true rfl) rfl ?_
  refine E_aload0 (q := 1) dJ5_ensureCapacityInternal_d00df_0 rfl ?_
  refine G_J5_value (q := 4) fl_J5_15 dJ5_ensureCapacityInternal_d00df_1 rfl ?_
  refine E_alenB hl (by omega) (q := 5) dJ5_ensureCapacityInternal_d00df_4 rfl ?_
  refine E_aload0 (q := 6) dJ5_ensureCapacityInternal_d00df_5 rfl ?_
  refine G_J5_coder (q := 9) fl_J5_22 dJ5_ensureCapacityInternal_d00df_6 rfl ?_
  refine V_int hc ?_
  refine E_ishr (q := 10) dJ5_ensureCapacityInternal_d00df_9 rfl ?_
  refine V_int (shr0 _) ?_
  refine E_istore2 (q := 11) dJ5_ensureCapacityInternal_d00df_10 rfl rfl ?_
  refine E_iload1 (q := 12) dJ5_ensureCapacityInternal_d00df_11 rfl ?_
  refine E_iload2 (q := 13) dJ5_ensureCapacityInternal_d00df_12 rfl ?_
  refine E_isub (q := 14) dJ5_ensureCapacityInternal_d00df_13 rfl ?_
  refine E_if_le (tgt := 38) (q := 17) dJ5_ensureCapacityInternal_d00df_14 (by decide) rfl (fun h14 => ?_) (fun h14 => ?_)
  · skip
    exact E_vreturn rfl rfl dJ5_ensureCapacityInternal_d00df_38 (PV_of rfl)
  · skip
    exact absurd (nI_sub_le h1 (by omega)) h14
def EnQ (D : va_G) (ad : Nat → Nat) (M : Mem) (cap L : Nat) : va_W → Prop := fun w => ∃ (q0 : Nat) (f : Nat → Int32), w = wl D (adN ad q0) (row2 M 156 f) ∧ f 100000 = nI L ∧ (∀ j, j < cap → f j = M 156 j) ∧ ∀ j, j < L → fits .byte (.int (f j)) = true
theorem sp_ens1 (hw : (M 157 3).toNatClampNeg ≠ 156) (hc : M 155 1 = nI 0) (hl : M 156 100000 = nI cap) (h0 : 0 < cap) (h1 : cap < mn) (h2 : mn ≤ 2 * cap + 2) (h3 : cap ≤ 10000) (hf : ∀ i, i < cap → fits .byte (.int (M 156 i)) = true) : Spec D 4 yJ5_ensureCapacityInternal_d00df cfJ5_ensureCapacityInternal_d00df [.ref (ad 155), .int (nI mn)] (wl D ad M) 1 (2 * cap + 2) (PY (EnQ D ad M cap (2 * cap + 2))) := by
  refine Spec.of (by decide) rfl (Nat.le_of_ble_eq_true rfl) rfl ?_
  refine E_aload0 (q := 1) dJ5_ensureCapacityInternal_d00df_0 rfl ?_
  refine G_J5_value (q := 4) fl_J5_15 dJ5_ensureCapacityInternal_d00df_1 rfl ?_
  refine E_alenB hl (by omega) (q := 5) dJ5_ensureCapacityInternal_d00df_4 rfl ?_
  refine E_aload0 (q := 6) dJ5_ensureCapacityInternal_d00df_5 rfl ?_
  refine G_J5_coder (q := 9) fl_J5_22 dJ5_ensureCapacityInternal_d00df_6 rfl ?_
  refine V_int hc ?_
  refine E_ishr (q := 10) dJ5_ensureCapacityInternal_d00df_9 rfl ?_
  refine V_int (shr0 _) ?_
  refine E_istore2 (q := 11) dJ5_ensureCapacityInternal_d00df_10 rfl rfl ?_
  refine E_iload1 (q := 12) dJ5_ensureCapacityInternal_d00df_11 rfl ?_
  refine E_iload2 (q := 13) dJ5_ensureCapacityInternal_d00df_12 rfl ?_
  refine E_isubN (q := 14) dJ5_ensureCapacityInternal_d00df_13 (by omega) rfl ?_
  refine E_if_le (tgt := 38) (q := 17) dJ5_ensureCapacityInternal_d00df_14 (by decide) rfl (fun h14 => ?_) (fun h14 => ?_)
  · skip
    exact absurd ((nI_leI (b := 0) (by omega) (by decide)).mp h14) (by omega)
  · skip
    refine E_aload0 (q := 18) dJ5_ensureCapacityInternal_d00df_17 rfl ?_
    refine E_aload0 (q := 19) dJ5_ensureCapacityInternal_d00df_18 rfl ?_
    refine G_J5_value (q := 22) fl_J5_15 dJ5_ensureCapacityInternal_d00df_19 rfl ?_
    refine E_aload0 (q := 23) dJ5_ensureCapacityInternal_d00df_22 rfl ?_
    refine E_iload1 (q := 24) dJ5_ensureCapacityInternal_d00df_23 rfl ?_
    refine E_callP (ar := [.int (nI mn)]) (q := 27) ⟨lb_J5_newCapacity_0f7a4, ml_J5_104, im_J5_newCapacity_0f7a4, pm_cap, rfl⟩ (sp_J5_newCapacity_0f7a4 hc hl h0 h1 h2 h3) rc_J4 (by decide) (by omega) (by omega) (Nat.le_of_ble_eq_true rfl) dJ5_ensureCapacityInternal_d00df_24 rfl rfl ?_
    rintro v w ⟨hv0, hw0⟩
    rw [hv0, hw0]
    refine E_aload0 (q := 28) dJ5_ensureCapacityInternal_d00df_27 rfl ?_
    refine G_J5_coder (q := 31) fl_J5_22 dJ5_ensureCapacityInternal_d00df_28 rfl ?_
    refine V_int hc ?_
    refine E_ishl (q := 32) dJ5_ensureCapacityInternal_d00df_31 rfl ?_
    refine V_int (shl0 _) ?_
    refine E_callS (ar := [.ref (ad 156), .int (nI (2 * cap + 2))]) (q := 35) lk_J5_108 (sp_copyOf hl (by omega) (by omega) hf) (by decide) (by omega) (by omega) (Nat.le_of_ble_eq_true rfl) dJ5_ensureCapacityInternal_d00df_32 rfl rfl ?_
    rintro v w ⟨q0, f, hv1, hw1, f1, f2, f3⟩
    rw [hv1, hw1]
    refine E_putNew hw f1 (by omega) fl_J5_15 (q := 38) dJ5_ensureCapacityInternal_d00df_35 rfl ?_
    exact E_vreturn rfl rfl dJ5_ensureCapacityInternal_d00df_38 ⟨rfl, q0, f, rfl, f1, f2, f3⟩
end SBM
