
/-! THE CODE OF StringBuilder: its own methods -/
section SBM
variable {D : va_G} {ad : Nat → Nat} {M : Mem} {ws : va_W} {T : List Nat} {cap mn c : Nat}
theorem up_AC : LkU RJ4 50 yJ5_append_3fe6f cfJ5_append_3fe6f 1 := ⟨lb_J5_append_3fe6f, ml_J4_50, im_J5_append_3fe6f, by decide, rfl, rfl⟩
theorem up_AI : LkU RJ4 53 yJ5_append_c97b9 cfJ5_append_c97b9 1 := ⟨lb_J5_append_c97b9, ml_J4_53, im_J5_append_c97b9, by decide, rfl, rfl⟩
theorem up_SL : LkU RJ4 333 yJ5_setLength_d00df cfJ5_setLength_d00df 1 := ⟨lb_J5_setLength_d00df, ml_J4_333, im_J5_setLength_d00df, by decide, rfl, rfl⟩
theorem up_LN : LkU RJ4 343 yJ5_length_8abf5 cfJ5_length_8abf5 0 := ⟨lb_J5_length_8abf5, ml_J4_343, im_J5_length_8abf5, by decide, rfl, rfl⟩
theorem up_CA : LkU RJ4 329 yJ5_charAt_5068e cfJ5_charAt_5068e 1 := ⟨lb_J5_charAt_5068e, ml_J4_329, im_J5_charAt_5068e, by decide, rfl, rfl⟩
theorem sp_J4_appendC (h : SbC M cap T) (hc : c < 128) (h3 : cap ≤ 4000) : Spec D 7 yJ4_append_cf468 cfJ4_append_cf468 [.ref (ad 155), .int (nI c)] (wl D ad M) (gC cap (T.length + 1)) (gS cap (T.length + 1)) (ApQ D ad M (gN cap (T.length + 1)) (T ++ [c])) := by
  refine Spec.of (by decide) rfl (Nat.le_of_ble_eq_true rfl) rfl ?_
  refine E_aload0 (q := 1) dJ4_append_cf468_0 rfl ?_
  refine E_iload1 (q := 2) dJ4_append_cf468_1 rfl ?_
  refine E_callU (ar := [.int (nI c)]) (q := 5) up_AC (sp_J5_appendC h hc h3) rc_J4 (by decide) (by omega) (by omega) (Nat.le_of_ble_eq_true rfl) dJ4_append_cf468_2 rfl rfl ?_
  rintro v w ⟨ad', M', hv, hw, h1, h2⟩
  rw [hv, hw]
  refine E_pop (q := 6) dJ4_append_cf468_5 rfl rfl ?_
  refine E_aload0 (q := 7) dJ4_append_cf468_6 rfl ?_
  exact E_areturn rfl rfl (Or.inl ⟨_, rfl⟩) dJ4_append_cf468_7 ⟨ad', M', rfl, rfl, h1, h2⟩
theorem sp_J5_length_8abf5 (h : SbC M cap T) : Spec D 1 yJ5_length_8abf5 cfJ5_length_8abf5 [.ref (ad 155)] (wl D ad M) 0 0 (PI (nI T.length) (wl D ad M)) := by
  refine Spec.of (by decide) rfl (Nat.le_of_ble_eq_true rfl) rfl ?_
  refine E_aload0 (q := 1) dJ5_length_8abf5_0 rfl ?_
  refine G_J5_count (q := 4) fl_J5_79 dJ5_length_8abf5_1 rfl ?_
  refine V_int h.1.2.1 ?_
  exact E_ireturn rfl rfl dJ5_length_8abf5_4 (PI_of rfl rfl)
theorem sp_J4_length_8abf5 (h : SbC M cap T) : Spec D 2 yJ4_length_8abf5 cfJ4_length_8abf5 [.ref (ad 155)] (wl D ad M) 0 0 (PI (nI T.length) (wl D ad M)) := by
  refine Spec.of (by decide) rfl (Nat.le_of_ble_eq_true rfl) rfl ?_
  refine E_aload0 (q := 1) dJ4_length_8abf5_0 rfl ?_
  refine E_callU (ar := []) (q := 4) up_LN (sp_J5_length_8abf5 h) rc_J4 (by decide) (by omega) (by omega) (Nat.le_of_ble_eq_true rfl) dJ4_length_8abf5_1 rfl rfl ?_
  rintro v w ⟨hv, hw⟩
  rw [hv, hw]
  exact E_ireturn rfl rfl dJ4_length_8abf5_4 (PI_of rfl rfl)
theorem let255 : ∀ c, c < 128 → nI c &&& nI 255 = nI c ∧ ((nI c).toUInt32 % 65536).toInt32 = nI c := by decide +kernel
theorem sp_J5_charAt {i : Nat} (h : SbC M cap T) (hi : T[i]? = some c) : Spec D 4 yJ5_charAt_5068e cfJ5_charAt_5068e [.ref (ad 155), .int (nI i)] (wl D ad M) 0 0 (PI (nI c) (wl D ad M)) := by
  refine Spec.of (by decide) rfl (Nat.le_of_ble_eq_true rfl) rfl ?_
  obtain ⟨⟨a1, a2, a3, a4⟩, ⟨b1, b2, b3⟩, c1, c2⟩ := h
  have hil := (List.getElem?_eq_some_iff.mp hi).1
  obtain ⟨c3, c4⟩ := c1 i c hi
  have hm : (if nI cap < nI T.length then nI cap else nI T.length) = nI T.length := by
    by_cases z : cap = T.length
    · rw [z]; exact ite_self _
    · exact if_neg (fun q => by have := (nI_ltI (by omega) (by omega)).mp q; omega)
  refine E_aload0 (q := 1) dJ5_charAt_5068e_0 rfl ?_
  refine G_J5_coder (q := 4) fl_J5_22 dJ5_charAt_5068e_1 rfl ?_
  refine V_int a1 ?_
  refine E_istore2 (q := 5) dJ5_charAt_5068e_4 rfl rfl ?_
  refine E_aload0 (q := 6) dJ5_charAt_5068e_5 rfl ?_
  refine G_J5_value (q := 9) fl_J5_15 dJ5_charAt_5068e_6 rfl ?_
  refine E_astore3 (q := 10) dJ5_charAt_5068e_9 rfl rfl ?_
  refine E_aload0 (q := 11) dJ5_charAt_5068e_10 rfl ?_
  refine G_J5_count (q := 14) fl_J5_79 dJ5_charAt_5068e_11 rfl ?_
  refine V_int a2 ?_
  refine E_aload3 (q := 15) dJ5_charAt_5068e_14 rfl ?_
  refine E_alenB a3 (by omega) (q := 16) dJ5_charAt_5068e_15 rfl ?_
  refine E_iload2 (q := 17) dJ5_charAt_5068e_16 rfl ?_
  refine E_ishr (q := 18) dJ5_charAt_5068e_17 rfl ?_
  refine V_int (shr0 _) ?_
  refine E_jmin (q := 21) lk_J5_138.2.1 dJ5_charAt_5068e_18 (by decide) (Nat.le_of_ble_eq_true rfl) rfl ?_
  refine V_int hm ?_
  refine E_istore4 (q := 23) dJ5_charAt_5068e_21 rfl rfl ?_
  refine E_iload1 (q := 24) dJ5_charAt_5068e_23 rfl ?_
  refine E_iload4 (q := 26) dJ5_charAt_5068e_24 rfl ?_
  refine C_S2V (q := 29) lk_J5_144 (sp_J0_checkIndex_df160 hil (by omega)) dJ5_charAt_5068e_26 (by decide) (Nat.le_of_ble_eq_true rfl) rfl ?_
  refine E_iload2 (q := 30) dJ5_charAt_5068e_29 rfl ?_
  refine E_if_ne (tgt := 42) (q := 33) dJ5_charAt_5068e_30 (by decide) rfl (fun h30 => ?_) (fun h30 => ?_)
  · first | exact absurd h30 (by decide) | exact absurd (by decide) h30
  · skip
    refine E_aload3 (q := 34) dJ5_charAt_5068e_33 rfl ?_
    refine E_iload1 (q := 35) dJ5_charAt_5068e_34 rfl ?_
    refine E_baldB a3 (by omega) (by omega) (q := 36) dJ5_charAt_5068e_35 rfl ?_
    refine V_int c3 ?_
    refine E_sipush (v := nI 255) (q := 39) dJ5_charAt_5068e_36 (by decide) rfl ?_
    refine E_iand (q := 40) dJ5_charAt_5068e_39 rfl ?_
    refine V_int (let255 c c4).1 ?_
    refine E_i2c (q := 41) dJ5_charAt_5068e_40 rfl ?_
    refine V_int (let255 c c4).2 ?_
    exact E_zreturn rfl rfl (pk_charN (by omega)).1 dJ5_charAt_5068e_41 (PI_of rfl rfl)
theorem sp_J4_charAt {i : Nat} (h : SbC M cap T) (hi : T[i]? = some c) : Spec D 5 yJ4_charAt_5068e cfJ4_charAt_5068e [.ref (ad 155), .int (nI i)] (wl D ad M) 0 0 (PI (nI c) (wl D ad M)) := by
  refine Spec.of (by decide) rfl (Nat.le_of_ble_eq_true rfl) rfl ?_
  have c4 := (h.2.2.1 i c hi).2
  refine E_aload0 (q := 1) dJ4_charAt_5068e_0 rfl ?_
  refine E_iload1 (q := 2) dJ4_charAt_5068e_1 rfl ?_
  refine E_callU (ar := [.int (nI i)]) (q := 5) up_CA (sp_J5_charAt h hi) rc_J4 (by decide) (by omega) (by omega) (Nat.le_of_ble_eq_true rfl) dJ4_charAt_5068e_2 rfl rfl ?_
  rintro v w ⟨hv, hw⟩
  rw [hv, hw]
  exact E_zreturn rfl rfl (pk_charN (by omega)).1 dJ4_charAt_5068e_5 (PI_of rfl rfl)
section ALI
variable {F : Cfg} {rm : Room} {Qf : QF} {k n pc q idx : Nat} {locs : List (Option Value)} {st : List Value}
theorem P_J5_maybeLatin1 (hf : FL F.1 idx 1 2) (hd : decode F.2.1 pc = .ok (.putfield idx, 3)) (hq : pc + 3 = q) (kk : V D F rm Qf k n q locs st (wl D ad (upd2 M 155 2 (nI 1)))) : V D F rm Qf k n pc locs (.int (nI 1) :: .ref (ad 155) :: st) (wl D ad M) := by
  refine E_putG cl_J4 hf sk_155 rfl fp_J4_2 rfl rfl (fun b h => upd2_row h) ?_ hd hq kk
  refine mapIdx_set (j := 2) (f := 0) rfl (by simp [fldV, upd2_same]) (fun i g hi hg => ?_)
  match g with
  | 0 => exact congrArg Value.int (upd2_ne (fun z => hi z.2))
  | 1 => exact absurd hg (by match i with | 0 => simp | 1 => simp | 2 => simp | 3 => simp | i + 4 => simp)
  | 2 => exact absurd hg (by match i with | 0 => simp | 1 => simp | 2 => simp | 3 => simp | i + 4 => simp)
  | r + 3 => rfl
end ALI
def SlQ (D : va_G) (ad : Nat → Nat) (M : Mem) (cap : Nat) : va_W → Prop := fun w => ∃ M', w = wl D ad M' ∧ (SbC M' cap [] ∧ FrB ad M ad M')
theorem SbC.clear {x : Int32} (h : SbC M cap T) : SbC (upd2 (upd2 M 155 2 x) 155 3 (nI 0)) cap [] ∧ FrB ad M ad (upd2 (upd2 M 155 2 x) 155 3 (nI 0)) := by
  obtain ⟨⟨a1, a2, a3, a4⟩, ⟨b1, b2, b3⟩, c1, c2⟩ := h
  refine ⟨⟨⟨by rw [upd2_ne (by omega), upd2_ne (by omega)]; exact a1, upd2_same, by rw [upd2_row (by decide), upd2_row (by decide)]; exact a3, by rw [upd2_row (by decide), upd2_row (by decide)]; exact a4⟩, ⟨b1, b2, Nat.zero_le _⟩, fun i c hi => by simp at hi, fun i hi => by rw [upd2_row (by decide), upd2_row (by decide)]; exact c2 i hi⟩, fun _ _ => rfl, fun d d1 d2 => by rw [upd2_row d1, upd2_row d1]⟩
theorem SbC.clear0 (h : SbC M cap T) : SbC (upd2 M 155 3 (nI 0)) cap [] ∧ FrB ad M ad (upd2 M 155 3 (nI 0)) := by
  obtain ⟨⟨a1, a2, a3, a4⟩, ⟨b1, b2, b3⟩, c1, c2⟩ := h
  refine ⟨⟨⟨by rw [upd2_ne (by omega)]; exact a1, upd2_same, by rw [upd2_row (by decide)]; exact a3, by rw [upd2_row (by decide)]; exact a4⟩, ⟨b1, b2, Nat.zero_le _⟩, fun i c hi => by simp at hi, fun i hi => by rw [upd2_row (by decide)]; exact c2 i hi⟩, fun _ _ => rfl, fun d d1 d2 => by rw [upd2_row d1]⟩
theorem sp_J5_setLength_d00df (h : SbC M cap T) : Spec D 6 yJ5_setLength_d00df cfJ5_setLength_d00df [.ref (ad 155), .int (nI (0))] (wl D ad M) 0 0 (PY (SlQ D ad M cap)) := by
  refine Spec.of (by decide) rfl (Nat.le_of_ble_eq_true rfl) rfl ?_
  have hT := h.2.1
  have q1 := h.clear (x := nI 1) (ad := ad)
  have q2 := h.clear0 (ad := ad)
  refine E_iload1 (q := 1) dJ5_setLength_d00df_0 rfl ?_
  refine E_if_ge (tgt := 13) (q := 4) dJ5_setLength_d00df_1 (by decide) rfl (fun h1 => ?_) (fun h1 => ?_)
  · skip
    refine E_aload0 (q := 14) dJ5_setLength_d00df_13 rfl ?_
    refine E_iload1 (q := 15) dJ5_setLength_d00df_14 rfl ?_
    refine E_callP (ar := [.int (nI 0)]) (q := 18) lkEns (sp_J5_ens0 h.1.1 h.1.2.2.1 (by omega) h.2.1.2.1) rc_J4 (by decide) (by omega) (by omega) (Nat.le_of_ble_eq_true rfl) dJ5_setLength_d00df_15 rfl rfl ?_
    rintro v w ⟨hv, hw⟩
    rw [hv, hw]
    refine E_aload0 (q := 19) dJ5_setLength_d00df_18 rfl ?_
    refine G_J5_count (q := 22) fl_J5_79 dJ5_setLength_d00df_19 rfl ?_
    refine V_int h.1.2.1 ?_
    refine E_iload1 (q := 23) dJ5_setLength_d00df_22 rfl ?_
    refine E_icmp_geN (tgt := 63) (q := 26) dJ5_setLength_d00df_23 (by decide) rfl (by omega) (by omega) (fun h23 => ?_) (fun h23 => ?_)
    · skip
      refine E_aload0 (q := 64) dJ5_setLength_d00df_63 rfl ?_
      refine G_J5_count (q := 67) fl_J5_79 dJ5_setLength_d00df_64 rfl ?_
      refine V_int h.1.2.1 ?_
      refine E_iload1 (q := 68) dJ5_setLength_d00df_67 rfl ?_
      refine E_icmp_leN (tgt := 76) (q := 71) dJ5_setLength_d00df_68 (by decide) rfl (by omega) (by omega) (fun h68 => ?_) (fun h68 => ?_)
      · skip
        refine E_aload0 (q := 77) dJ5_setLength_d00df_76 rfl ?_
        refine E_iload1 (q := 78) dJ5_setLength_d00df_77 rfl ?_
        refine P_J5_count (q := 81) fl_J5_79 dJ5_setLength_d00df_78 rfl ?_
        exact E_vreturn rfl rfl dJ5_setLength_d00df_81 ⟨rfl, _, rfl, q2⟩
      · skip
        refine E_aload0 (q := 72) dJ5_setLength_d00df_71 rfl ?_
        refine E_iconst (v := nI 1) (q := 73) dJ5_setLength_d00df_72 (by decide) rfl ?_
        refine P_J5_maybeLatin1 (q := 76) fl_J5_73 dJ5_setLength_d00df_73 rfl ?_
        refine E_aload0 (q := 77) dJ5_setLength_d00df_76 rfl ?_
        refine E_iload1 (q := 78) dJ5_setLength_d00df_77 rfl ?_
        refine P_J5_count (q := 81) fl_J5_79 dJ5_setLength_d00df_78 rfl ?_
        exact E_vreturn rfl rfl dJ5_setLength_d00df_81 ⟨rfl, _, rfl, q1⟩
    · skip
      exact absurd h23 (by omega)
  · first | exact absurd h1 (by decide) | exact absurd (by decide) h1
theorem sp_J4_setLength_d00df (h : SbC M cap T) : Spec D 7 yJ4_setLength_d00df cfJ4_setLength_d00df [.ref (ad 155), .int (nI (0))] (wl D ad M) 0 0 (PY (SlQ D ad M cap)) := by
  refine Spec.of (by decide) rfl (Nat.le_of_ble_eq_true rfl) rfl ?_
  refine E_aload0 (q := 1) dJ4_setLength_d00df_0 rfl ?_
  refine E_iload1 (q := 2) dJ4_setLength_d00df_1 rfl ?_
  refine E_callU (ar := [.int (nI 0)]) (q := 5) up_SL (sp_J5_setLength_d00df h) rc_J4 (by decide) (by omega) (by omega) (Nat.le_of_ble_eq_true rfl) dJ4_setLength_d00df_2 rfl rfl ?_
  rintro v w ⟨hv, hp⟩
  rw [hv]
  exact E_vreturn rfl rfl dJ4_setLength_d00df_5 ⟨rfl, hp⟩
end SBM
