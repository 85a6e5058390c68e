
/-! THE CODE OF StringBuilder: a number more -/
section SBM
variable {D : va_G} {ad : Nat → Nat} {M : Mem} {ws : va_W} {T : List Nat} {cap mn c v : Nat}
theorem numT_l : (numT v).length = sb_dg v := by unfold numT; rw [List.length_map, List.length_range]
theorem SbC.num {L : Nat} {ad' : Nat → Nat} {M' M3 : Mem} (h : SbC M cap T) (hL : T.length + sb_dg v ≤ L) (hL2 : cap ≤ L) (hL3 : L ≤ 10000) (e0 : ∀ r, r ≠ 156 → ad' r = ad r) (e1 : ∀ c, c ≠ 156 → M' c = M c) (e2 : M' 156 100000 = nI L) (e3 : ∀ j, j < cap → M' 156 j = M 156 j) (g : GcP M' M3 L v (T.length + sb_dg v)) :
    SbC (upd2 M3 155 3 (nI (T.length + sb_dg v))) L (T ++ numT v) ∧ FrB ad M ad' (upd2 M3 155 3 (nI (T.length + sb_dg v))) := by
  obtain ⟨⟨a1, a2, a3, a4⟩, ⟨b1, b2, b3⟩, c1, c2⟩ := h
  obtain ⟨g1, g2, g3, g4⟩ := g
  have hlen : (T ++ numT v).length = T.length + sb_dg v := by rw [List.length_append, numT_l]
  refine ⟨⟨⟨?_, by rw [upd2_same, hlen], ?_, ?_⟩, ⟨by omega, hL3, by rw [hlen]; exact hL⟩, fun i d hi => ?_, fun i hi => ?_⟩, e0, fun d d1 d2 => by rw [upd2_row d1, g1 d d2, e1 d d2]⟩
  · rw [upd2_ne (by omega), g1 155 (by decide), e1 155 (by decide)]; exact a1
  · rw [upd2_row (by decide), g2 _ (Or.inr (by omega))]; exact e2
  · rw [upd2_row (by decide), g1 157 (by decide), e1 157 (by decide)]; exact a4
  · rw [upd2_row (by decide)]
    by_cases e : i < T.length
    · rw [List.getElem?_append_left e] at hi
      rw [g2 i (Or.inl (by omega)), e3 i (by omega)]; exact c1 i d hi
    · have hil := (List.getElem?_eq_some_iff.mp hi).1
      rw [hlen] at hil
      rw [List.getElem?_append_right (by omega)] at hi
      unfold numT at hi
      rw [List.getElem?_map, List.getElem?_range (by omega)] at hi
      have hd : 48 + v / 10 ^ (sb_dg v - 1 - (i - T.length)) % 10 = d := by simpa [sb_dec] using hi
      have hg := g3 (sb_dg v - 1 - (i - T.length)) (by omega)
      rw [show T.length + sb_dg v - 1 - (sb_dg v - 1 - (i - T.length)) = i by omega, hd] at hg
      exact ⟨hg, by omega⟩
  · rw [upd2_row (by decide)]; exact g4 i hi
theorem sp_J5_appendI (h : SbC M cap T) (hv : v < 2 ^ 24) (h3 : cap ≤ 4000) : Spec D 6 yJ5_append_c97b9 cfJ5_append_c97b9 [.ref (ad 155), .int (nI v)] (wl D ad M) (gC cap (T.length + sb_dg v)) (gS cap (T.length + sb_dg v)) (ApQ D ad M (gN cap (T.length + sb_dg v)) (T ++ numT v)) := by
  refine Spec.of (by decide) rfl (Nat.le_of_ble_eq_true rfl) rfl ?_
  have hd8 := dg8 hv
  have hd1 := (sb_dg_in v).1
  have hT := h.2.1
  have hgN : T.length + sb_dg v ≤ gN cap (T.length + sb_dg v) ∧ cap ≤ gN cap (T.length + sb_dg v) ∧ gN cap (T.length + sb_dg v) ≤ 10000 := by
    unfold gN
    split <;> omega
  refine E_aload0 (q := 1) dJ5_append_c97b9_0 rfl ?_
  refine G_J5_count (q := 4) fl_J5_79 dJ5_append_c97b9_1 rfl ?_
  refine V_int h.1.2.1 ?_
  refine E_istore2 (q := 5) dJ5_append_c97b9_4 rfl rfl ?_
  refine E_iload2 (q := 6) dJ5_append_c97b9_5 rfl ?_
  refine E_iload1 (q := 7) dJ5_append_c97b9_6 rfl ?_
  refine C_S1I (q := 10) lk_J5_245 (sp_J6_stringSize_0f7a4 hv) dJ5_append_c97b9_7 (by decide) (Nat.le_of_ble_eq_true rfl) rfl ?_
  refine E_iaddN (q := 11) dJ5_append_c97b9_10 rfl ?_
  refine E_istore3 (q := 12) dJ5_append_c97b9_11 rfl rfl ?_
  refine E_aload0 (q := 13) dJ5_append_c97b9_12 rfl ?_
  refine E_iload3 (q := 14) dJ5_append_c97b9_13 rfl ?_
  refine E_callP (ar := [.int (nI (T.length + sb_dg v))]) (q := 17) lkEns (sp_ens h (by omega)) rc_J4 (by decide) (by omega) (by omega) (Nat.le_of_ble_eq_true rfl) dJ5_append_c97b9_14 rfl rfl ?_
  rintro v' w ⟨ad', M', hv', hw, e0, e1, e2, e3, e4⟩
  rw [hv', hw, ← e0 155 (by decide)]
  have a1 : M' 155 1 = nI 0 := by rw [e1 155 (by decide)]; exact h.1.1
  refine E_aload0 (q := 18) dJ5_append_c97b9_17 rfl ?_
  refine E_callC (ar := []) (q := 21) lkLat (sp_J5_isLatin1_aae02 a1) rc_J4 (by decide) (by omega) (by omega) (Nat.le_of_ble_eq_true rfl) dJ5_append_c97b9_18 rfl rfl ?_
  rintro v' w ⟨hv', hw⟩
  rw [hv', hw]
  refine E_if_eq (tgt := 37) (q := 24) dJ5_append_c97b9_21 (by decide) rfl (fun h21 => ?_) (fun h21 => ?_)
  · first | exact absurd h21 (by decide) | exact absurd (by decide) h21
  · skip
    refine E_iload1 (q := 25) dJ5_append_c97b9_24 rfl ?_
    refine E_iload3 (q := 26) dJ5_append_c97b9_25 rfl ?_
    refine E_aload0 (q := 27) dJ5_append_c97b9_26 rfl ?_
    refine G_J5_value (q := 30) fl_J5_15 dJ5_append_c97b9_27 rfl ?_
    refine C_S3X (q := 33) lk_J5_248 (sp_J6_getChars_ba4f3 hv (by omega) hgN.1 hgN.2.2 e2 e4) dJ5_append_c97b9_30 (by decide) (Nat.le_of_ble_eq_true rfl) rfl ?_
    refine kkEI ?_
    rintro M3 hg
    refine E_pop (q := 34) dJ5_append_c97b9_33 rfl rfl ?_
    refine E_goto (q := 48) dJ5_append_c97b9_34 (by decide) ?_
    refine E_aload0 (q := 49) dJ5_append_c97b9_48 rfl ?_
    refine E_iload3 (q := 50) dJ5_append_c97b9_49 rfl ?_
    refine P_J5_count (q := 53) fl_J5_79 dJ5_append_c97b9_50 rfl ?_
    refine E_aload0 (q := 54) dJ5_append_c97b9_53 rfl ?_
    refine E_areturn rfl rfl (Or.inl ⟨_, rfl⟩) dJ5_append_c97b9_54 ⟨ad', _, by rw [e0 155 (by decide)], rfl, ?_⟩
    exact h.num hgN.1 hgN.2.1 hgN.2.2 e0 e1 e2 e3 hg
theorem sp_J4_appendI (h : SbC M cap T) (hv : v < 2 ^ 24) (h3 : cap ≤ 4000) : Spec D 7 yJ4_append_bf812 cfJ4_append_bf812 [.ref (ad 155), .int (nI v)] (wl D ad M) (gC cap (T.length + sb_dg v)) (gS cap (T.length + sb_dg v)) (ApQ D ad M (gN cap (T.length + sb_dg v)) (T ++ numT v)) := by
  refine Spec.of (by decide) rfl (Nat.le_of_ble_eq_true rfl) rfl ?_
  refine E_aload0 (q := 1) dJ4_append_bf812_0 rfl ?_
  refine E_iload1 (q := 2) dJ4_append_bf812_1 rfl ?_
  refine E_callU (ar := [.int (nI v)]) (q := 5) up_AI (sp_J5_appendI h hv h3) rc_J4 (by decide) (by omega) (by omega) (Nat.le_of_ble_eq_true rfl) dJ4_append_bf812_2 rfl rfl ?_
  rintro v' w ⟨ad', M', hv', hw, h1, h2⟩
  rw [hv', hw]
  refine E_pop (q := 6) dJ4_append_bf812_5 rfl rfl ?_
  refine E_aload0 (q := 7) dJ4_append_bf812_6 rfl ?_
  exact E_areturn rfl rfl (Or.inl ⟨_, rfl⟩) dJ4_append_bf812_7 ⟨ad', M', rfl, rfl, h1, h2⟩
end SBM
