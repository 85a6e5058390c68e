
/-! THE CODE OF StringBuilder: a letter more -/
section SBM
variable {D : va_G} {ad : Nat → Nat} {M : Mem} {ws : va_W} {T : List Nat} {cap mn c : Nat}
def SbC (M : Mem) (cap : Nat) (T : List Nat) : Prop := (M 155 1 = nI 0 ∧ M 155 3 = nI T.length ∧ M 156 100000 = nI cap ∧ (M 157 3).toNatClampNeg ≠ 156) ∧ (8 ≤ cap ∧ cap ≤ 10000 ∧ T.length ≤ cap) ∧ (∀ i c, T[i]? = some c → M 156 i = nI c ∧ c < 128) ∧ ∀ i, i < cap → fits .byte (.int (M 156 i)) = true
def gC (cap m : Nat) : Nat := if m ≤ cap then 0 else 1
def gS (cap m : Nat) : Nat := if m ≤ cap then 0 else 2 * cap + 2
def gN (cap m : Nat) : Nat := if m ≤ cap then cap else 2 * cap + 2
def FrB (ad : Nat → Nat) (M : Mem) (ad' : Nat → Nat) (M' : Mem) : Prop := (∀ r, r ≠ 156 → ad' r = ad r) ∧ ∀ c, c ≠ 155 → c ≠ 156 → M' c = M c
theorem FrB.rf : FrB ad M ad M := ⟨fun _ _ => rfl, fun _ _ _ => rfl⟩
theorem FrB.tr {ad1 ad2 : Nat → Nat} {M1 M2 : Mem} (h : FrB ad M ad1 M1) (h2 : FrB ad1 M1 ad2 M2) : FrB ad M ad2 M2 := ⟨fun r hr => (h2.1 r hr).trans (h.1 r hr), fun c a d => (h2.2 c a d).trans (h.2 c a d)⟩
def E2Q (D : va_G) (ad : Nat → Nat) (M : Mem) (cap L : Nat) : Option Value → va_W → Prop := fun v w => ∃ (ad' : Nat → Nat) (M' : Mem), v = none ∧ w = wl D ad' M' ∧ (∀ r, r ≠ 156 → ad' r = ad r) ∧ (∀ c, c ≠ 156 → M' c = M c) ∧ M' 156 100000 = nI L ∧ (∀ j, j < cap → M' 156 j = M 156 j) ∧ ∀ j, j < L → fits .byte (.int (M' 156 j)) = true
theorem sp_ens (h : SbC M cap T) (h2 : mn ≤ 2 * cap + 2) : Spec D 4 yJ5_ensureCapacityInternal_d00df cfJ5_ensureCapacityInternal_d00df [.ref (ad 155), .int (nI mn)] (wl D ad M) (gC cap mn) (gS cap mn) (E2Q D ad M cap (gN cap mn)) := by
  obtain ⟨⟨a1, a2, a3, a4⟩, ⟨b1, b2, b3⟩, c1, c2⟩ := h
  by_cases c : mn ≤ cap
  · unfold gC gS gN
    rw [if_pos c, if_pos c, if_pos c]
    refine Spec.mono (sp_J5_ens0 a1 a3 c b2) ?_
    rintro v w ⟨hv, hw⟩
    exact ⟨ad, M, hv, hw, fun _ _ => rfl, fun _ _ => rfl, a3, fun _ _ => rfl, c2⟩
  · unfold gC gS gN
    rw [if_neg c, if_neg c, if_neg c]
    refine Spec.mono (sp_ens1 a4 a1 a3 (by omega) (by omega) h2 b2 c2) ?_
    rintro v w ⟨hv, q0, f, hw, f1, f2, f3⟩
    refine ⟨adN ad q0, row2 M 156 f, hv, hw, fun r hr => if_neg hr, fun d hd => row2_ne hd, ?_, fun j hj => ?_, fun j hj => ?_⟩
    · rw [row2_same]; exact f1
    · rw [row2_same]; exact f2 j hj
    · rw [row2_same]; exact f3 j hj
theorem cs_J5 : Cond.fieldLink RJ5 18 "java/lang/String" "COMPACT_STRINGS" "Z" ∈ lw_good := gdi 318 (by decide +kernel) rfl
theorem sp_J5_isLatin1_aae02 (h : M 155 1 = nI 0) : Spec D 1 yJ5_isLatin1_aae02 cfJ5_isLatin1_aae02 [.ref (ad 155)] (wl D ad M) 0 0 (PI (nI 1) (wl D ad M)) := by
  refine Spec.of (by decide) rfl (Nat.le_of_ble_eq_true rfl) rfl ?_
  refine E_getsCS (q := 3) cs_J5 dJ5_isLatin1_aae02_0 rfl ?_
  refine E_if_eq (tgt := 17) (q := 6) dJ5_isLatin1_aae02_3 (by decide) rfl (fun h3 => ?_) (fun h3 => ?_)
  · first | exact absurd h3 (by decide) | exact absurd (by decide) h3
  · skip
    refine E_aload0 (q := 7) dJ5_isLatin1_aae02_6 rfl ?_
    refine G_J5_coder (q := 10) fl_J5_22 dJ5_isLatin1_aae02_7 rfl ?_
    refine V_int h ?_
    refine E_if_ne (tgt := 17) (q := 13) dJ5_isLatin1_aae02_10 (by decide) rfl (fun h10 => ?_) (fun h10 => ?_)
    · first | exact absurd h10 (by decide) | exact absurd (by decide) h10
    · skip
      refine E_iconst (v := nI 1) (q := 14) dJ5_isLatin1_aae02_13 (by decide) rfl ?_
      refine E_goto (q := 18) dJ5_isLatin1_aae02_14 (by decide) ?_
      exact E_zreturn rfl rfl rfl dJ5_isLatin1_aae02_18 (PI_of rfl rfl)
theorem sp_J1_canEncode_fc78d (hc : c < 128) : Spec D 1 yJ1_canEncode_fc78d cfJ1_canEncode_fc78d [.int (nI (c))] ws 0 0 (PI (nI 1) ws) := by
  refine Spec.of (by decide) rfl (Nat.le_of_ble_eq_true rfl) rfl ?_
  refine E_iload0 (q := 1) dJ1_canEncode_fc78d_0 rfl ?_
  refine E_sipush (v := nI 255) (q := 4) dJ1_canEncode_fc78d_1 (by decide) rfl ?_
  refine E_icmp_gtN (tgt := 11) (q := 7) dJ1_canEncode_fc78d_4 (by decide) rfl (by omega) (by omega) (fun h4 => ?_) (fun h4 => ?_)
  · skip
    exact absurd h4 (by omega)
  · skip
    refine E_iconst (v := nI 1) (q := 8) dJ1_canEncode_fc78d_7 (by decide) rfl ?_
    refine E_goto (q := 12) dJ1_canEncode_fc78d_8 (by decide) ?_
    exact E_zreturn rfl rfl rfl dJ1_canEncode_fc78d_12 (PI_of rfl rfl)
theorem byte128 : ∀ c, c < 128 → (nI c).toInt8.toInt32 = nI c ∧ vp_nar .byte (nI c) = nI c ∧ fits .byte (.int (nI c)) = true := by decide +kernel
theorem lkLat : LkC RJ5 83 yJ5_isLatin1_aae02 cfJ5_isLatin1_aae02 0 RJ4 := ⟨lb_J5_isLatin1_aae02, ml_J5_83, im_J5_isLatin1_aae02, se_lat⟩
theorem lkEns : LkP RJ5 100 yJ5_ensureCapacityInternal_d00df cfJ5_ensureCapacityInternal_d00df 1 := ⟨lb_J5_ensureCapacityInternal_d00df, ml_J5_100, im_J5_ensureCapacityInternal_d00df, pm_ens, rfl⟩
def ApQ (D : va_G) (ad : Nat → Nat) (M : Mem) (cap : Nat) (T : List Nat) : Option Value → va_W → Prop := fun v w => ∃ (ad' : Nat → Nat) (M' : Mem), v = some (.ref (ad 155)) ∧ w = wl D ad' M' ∧ SbC M' cap T ∧ FrB ad M ad' M'
theorem SbC.put {L : Nat} {ad' : Nat → Nat} {M' : Mem} (h : SbC M cap T) (hc : c < 128) (hL : T.length + 1 ≤ L) (hL2 : cap ≤ L) (hL3 : L ≤ 10000) (e0 : ∀ r, r ≠ 156 → ad' r = ad r) (e1 : ∀ c, c ≠ 156 → M' c = M c) (e2 : M' 156 100000 = nI L) (e3 : ∀ j, j < cap → M' 156 j = M 156 j) (e4 : ∀ j, j < L → fits .byte (.int (M' 156 j)) = true) :
    SbC (upd2 (upd2 M' 155 3 (nI (T.length + 1))) 156 T.length (nI c)) L (T ++ [c]) ∧ FrB ad M ad' (upd2 (upd2 M' 155 3 (nI (T.length + 1))) 156 T.length (nI c)) := by
  obtain ⟨⟨a1, a2, a3, a4⟩, ⟨b1, b2, b3⟩, c1, c2⟩ := h
  refine ⟨⟨⟨?_, ?_, ?_, ?_⟩, ⟨by omega, hL3, by rw [List.length_append]; exact hL⟩, fun i d hi => ?_, fun i hi => ?_⟩, e0, fun d d1 d2 => by rw [upd2_row d2, upd2_row d1, e1 d d2]⟩
  · rw [upd2_row (by decide), upd2_ne (by omega), e1 155 (by decide)]; exact a1
  · rw [upd2_row (by decide), upd2_same, List.length_append]; rfl
  · rw [upd2_ne (by omega), upd2_row (by decide)]; exact e2
  · rw [upd2_row (by decide), upd2_row (by decide), e1 157 (by decide)]; exact a4
  · by_cases e : i < T.length
    · rw [List.getElem?_append_left e] at hi
      rw [upd2_ne (by omega), upd2_row (by decide), e3 i (by omega)]; exact c1 i d hi
    · have hil := (List.getElem?_eq_some_iff.mp hi).1
      rw [List.length_append] at hil
      have hie : i = T.length := by have : [c].length = 1 := rfl; omega
      subst hie
      rw [List.getElem?_append_right (Nat.le_refl _), Nat.sub_self] at hi
      have : c = d := by simpa using hi
      rw [← this, upd2_same]; exact ⟨rfl, hc⟩
  · by_cases e : i = T.length
    · subst e; rw [upd2_same]; exact (byte128 c hc).2.2
    · rw [upd2_ne (by omega), upd2_row (by decide)]; exact e4 i hi
theorem sp_J5_appendC (h : SbC M cap T) (hc : c < 128) (h3 : cap ≤ 4000) : Spec D 6 yJ5_append_3fe6f cfJ5_append_3fe6f [.ref (ad 155), .int (nI c)] (wl D ad M) (gC cap (T.length + 1)) (gS cap (T.length + 1)) (ApQ D ad M (gN cap (T.length + 1)) (T ++ [c])) := by
  refine Spec.of (by decide) rfl (Nat.le_of_ble_eq_true rfl) rfl ?_
  have hgN : T.length + 1 ≤ gN cap (T.length + 1) ∧ cap ≤ gN cap (T.length + 1) ∧ gN cap (T.length + 1) ≤ 10000 := by
    have := h.2.1
    unfold gN
    split <;> omega
  have hT := h.2.1
  refine E_aload0 (q := 1) dJ5_append_3fe6f_0 rfl ?_
  refine E_aload0 (q := 2) dJ5_append_3fe6f_1 rfl ?_
  refine G_J5_count (q := 5) fl_J5_79 dJ5_append_3fe6f_2 rfl ?_
  refine V_int h.1.2.1 ?_
  refine E_iconst (v := nI 1) (q := 6) dJ5_append_3fe6f_5 (by decide) rfl ?_
  refine E_iaddN (q := 7) dJ5_append_3fe6f_6 rfl ?_
  refine E_callP (ar := [.int (nI (T.length + 1))]) (q := 10) lkEns (sp_ens h (by omega)) rc_J4 (by decide) (by omega) (by omega) (Nat.le_of_ble_eq_true rfl) dJ5_append_3fe6f_7 rfl rfl ?_
  rintro v w ⟨ad', M', hv, hw, e0, e1, e2, e3, e4⟩
  rw [hv, hw, ← e0 155 (by decide)]
  have a1 : M' 155 1 = nI 0 := by rw [e1 155 (by decide)]; exact h.1.1
  have a2 : M' 155 3 = nI T.length := by rw [e1 155 (by decide)]; exact h.1.2.1
  refine E_aload0 (q := 11) dJ5_append_3fe6f_10 rfl ?_
  refine E_callC (ar := []) (q := 14) lkLat (sp_J5_isLatin1_aae02 a1) rc_J4 (by decide) (by omega) (by omega) (Nat.le_of_ble_eq_true rfl) dJ5_append_3fe6f_11 rfl rfl ?_
  rintro v w ⟨hv, hw⟩
  rw [hv, hw]
  refine E_if_eq (tgt := 45) (q := 17) dJ5_append_3fe6f_14 (by decide) rfl (fun h14 => ?_) (fun h14 => ?_)
  · first | exact absurd h14 (by decide) | exact absurd (by decide) h14
  · skip
    refine E_iload1 (q := 18) dJ5_append_3fe6f_17 rfl ?_
    refine C_S1I (q := 21) lk_J5_191 (sp_J1_canEncode_fc78d hc) dJ5_append_3fe6f_18 (by decide) (Nat.le_of_ble_eq_true rfl) rfl ?_
    refine E_if_eq (tgt := 45) (q := 24) dJ5_append_3fe6f_21 (by decide) rfl (fun h21 => ?_) (fun h21 => ?_)
    · first | exact absurd h21 (by decide) | exact absurd (by decide) h21
    · skip
      refine E_aload0 (q := 25) dJ5_append_3fe6f_24 rfl ?_
      refine G_J5_value (q := 28) fl_J5_15 dJ5_append_3fe6f_25 rfl ?_
      refine E_aload0 (q := 29) dJ5_append_3fe6f_28 rfl ?_
      refine E_dup (q := 30) dJ5_append_3fe6f_29 rfl rfl ?_
      refine G_J5_count (q := 33) fl_J5_79 dJ5_append_3fe6f_30 rfl ?_
      refine V_int a2 ?_
      refine E_dup_x1 (q := 34) dJ5_append_3fe6f_33 rfl rfl rfl ?_
      refine E_iconst (v := nI 1) (q := 35) dJ5_append_3fe6f_34 (by decide) rfl ?_
      refine E_iaddN (q := 36) dJ5_append_3fe6f_35 rfl ?_
      refine P_J5_count (q := 39) fl_J5_79 dJ5_append_3fe6f_36 rfl ?_
      refine E_iload1 (q := 40) dJ5_append_3fe6f_39 rfl ?_
      refine E_i2b (q := 41) dJ5_append_3fe6f_40 rfl ?_
      refine V_int (byte128 c hc).1 ?_
      refine E_bastB (q := 42) (i := T.length) (cap := gN cap (T.length + 1)) (by rw [upd2_row (by decide)]; exact e2) (by omega) (by omega) dJ5_append_3fe6f_41 rfl ?_
      rw [(byte128 c hc).2.1]
      refine E_goto (q := 75) dJ5_append_3fe6f_42 (by decide) ?_
      refine E_aload0 (q := 76) dJ5_append_3fe6f_75 rfl ?_
      refine E_areturn rfl rfl (Or.inl ⟨_, rfl⟩) dJ5_append_3fe6f_76 ⟨ad', _, by rw [e0 155 (by decide)], rfl, ?_⟩
      exact h.put hc hgN.1 hgN.2.1 hgN.2.2 e0 e1 e2 e3 e4
end SBM
