

/-! THE REFERENCE remembers and undoes -/
section ROWS
variable {A : AS} {f g : Nat → Int32}
theorem RowIs.congr (h : RowIs g A) (e : ∀ j, j < 739 → f j = g j) : RowIs f A := by
  obtain ⟨⟨c0, c1, c2, c3, c4⟩, r1, r2, r3, r4, r5⟩ := h
  refine ⟨⟨(e 0 (by omega)).trans c0, (e 1 (by omega)).trans c1, (e 2 (by omega)).trans c2, (e 3 (by omega)).trans c3, (e 4 (by omega)).trans c4⟩, fun v hv => (e _ (by omega)).trans (r1 v hv), fun s hs => (e _ (by omega)).trans (r2 s hs), fun v hv ht => ?_, fun s hs ht => ?_, fun w a hw ha => ⟨(e _ (by omega)).trans (r5 w a hw ha).1, (e _ (by omega)).trans (r5 w a hw ha).2⟩⟩
  · obtain ⟨d1, d2, d3, d4, d5⟩ := r3 v hv ht
    refine ⟨(e _ (by omega)).trans d1, (e _ (by omega)).trans d2, (e _ (by omega)).trans d3, (e _ (by omega)).trans d4, fun k s hk => ?_⟩
    have := (List.getElem?_eq_some_iff.mp hk).1
    have := rowL_len A v
    exact (e _ (by omega)).trans (d5 k s hk)
  · obtain ⟨d1, d2, d3, d4⟩ := r4 s hs ht
    exact ⟨(e _ (by omega)).trans d1, (e _ (by omega)).trans d2, (e _ (by omega)).trans d3, (e _ (by omega)).trans d4⟩
/-- r from a on laid into g from q on, n places -/
def cpF (r : Nat → Int32) (a : Nat) (g : Nat → Int32) (q n : Nat) : Nat → Int32 := fun j => if q ≤ j ∧ j < q + n then r (a + (j - q)) else g j
theorem cpF_0 {r : Nat → Int32} {a q : Nat} : cpF r a g q 0 = g := funext fun j => if_neg (by omega)
theorem cpF_s {r : Nat → Int32} {a q i : Nat} : upd (cpF r a g q i) (q + i) (r (a + i)) = cpF r a g q (i + 1) := funext fun j => by
  unfold upd cpF
  by_cases e : j = q + i
  · subst e; rw [if_pos rfl, if_pos (by omega), Nat.add_sub_cancel_left]
  · rw [if_neg e]
    by_cases e2 : q ≤ j ∧ j < q + i
    · rw [if_pos e2, if_pos (by omega)]
    · rw [if_neg e2, if_neg (by omega)]
/-- the history moved down by one -/
def dnF (g : Nat → Int32) (i : Nat) : Nat → Int32 := fun j => if j + 739 < i then g (j + 739) else g j
theorem dnF_0 : dnF g 739 = g := funext fun j => if_neg (by omega)
theorem dnF_s {i : Nat} (hi : 739 ≤ i) : upd (dnF g i) (i - 739) (g i) = dnF g (i + 1) := funext fun j => by
  unfold upd dnF
  by_cases e : j = i - 739
  · have e3 : j + 739 = i := by omega
    rw [if_pos e, if_pos (by omega), e3]
  · rw [if_neg e]
    by_cases e2 : j + 739 < i
    · rw [if_pos e2, if_pos (by omega)]
    · rw [if_neg e2, if_neg (by omega)]
theorem dnF_ge {i j : Nat} (h : i ≤ j + 739) : dnF g i j = g j := if_neg (by omega)
def remH (g r : Nat → Int32) (k : Nat) : Nat → Int32 := if k = 8 then cpF r 0 (dnF g 5912) 5173 739 else cpF r 0 g (k * 739) 739
/-- what remember makes of the memory -/
def remM (M : Mem) (k : Nat) : Mem := upd2 (row2 M 159 (remH (M 159) (M 158) k)) 157 2 (nI ((if k = 8 then 7 else k) + 1))
def begF : Nat → Int32 := fun j => if j = 0 then nI 200 else if j = 1 then nI 3 else nI 0
theorem begF_of {j : Nat} (hj : j < 739) : upd (upd (cpF (fun _ => nI 0) 0 g 0 739) 0 (nI 200)) 1 (nI 3) j = begF j := by
  unfold upd cpF begF
  by_cases e0 : j = 1
  · subst e0; rfl
  · rw [if_neg e0]
    by_cases e1 : j = 0
    · rw [if_pos e1, if_pos e1]
    · rw [if_neg e1, if_neg e1, if_neg e0, if_pos (by omega)]
theorem beg_RowIs (h : ∀ j, j < 739 → f j = begF j) : RowIs f newA := by
  refine RowIs.congr (g := begF) ?_ h
  refine ⟨⟨rfl, rfl, rfl, rfl, rfl⟩, fun v hv => ?_, fun s hs => ?_, fun v _ hv => ?_, fun s _ hs => ?_, fun w a hw ha => ?_⟩
  · unfold begF; rw [if_neg (by omega), if_neg (by omega)]; rfl
  · unfold begF; rw [if_neg (by omega), if_neg (by omega)]; rfl
  · simp [th, newA] at hv
  · simp [th, newA] at hs
  · unfold begF; rw [if_neg (by omega), if_neg (by omega), if_neg (by omega), if_neg (by omega)]; exact ⟨rfl, rfl⟩
/-- the remembered pools, the oldest first -/
def HistR (M : Mem) (H : List AS) : Prop := M 157 2 = nI H.length ∧ H.length ≤ 8 ∧ ∀ i B, H[i]? = some B → RowIs (fun j => M 159 (739 * i + j)) B
def hpush (H : List AS) (A : AS) : List AS := (if H.length = 8 then H.tail else H) ++ [A]
theorem remM_hist {M : Mem} {H : List AS} (h : HistR M H) (hR : RowIs (M 158) A) : HistR (remM M H.length) (hpush H A) := by
  obtain ⟨h1, h2, h3⟩ := h
  unfold hpush
  by_cases e : H.length = 8
  · rw [if_pos e]
    have hl : (H.tail ++ [A]).length = 8 := by rw [List.length_append, List.length_tail, e]; rfl
    refine ⟨?_, by omega, fun i B hB => ?_⟩
    · rw [hl]; unfold remM; rw [upd2_same, if_pos e]
    · have hrow : remM M H.length 159 = cpF (M 158) 0 (dnF (M 159) 5912) 5173 739 := by
        unfold remM remH
        rw [upd2_row (by decide), row2_same, if_pos e]
      rw [hrow]
      have hi := (List.getElem?_eq_some_iff.mp hB).1
      by_cases e7 : i < 7
      · rw [List.getElem?_append_left (by rw [List.length_tail]; omega), List.getElem?_tail] at hB
        refine (h3 (i + 1) B hB).congr fun j hj => ?_
        show cpF _ _ _ _ _ (739 * i + j) = M 159 (739 * (i + 1) + j)
        unfold cpF dnF
        rw [if_neg (by omega), if_pos (by omega), show 739 * i + j + 739 = 739 * (i + 1) + j by omega]
      · have hi7 : i = 7 := by omega
        subst hi7
        rw [List.getElem?_append_right (by rw [List.length_tail]; omega), List.length_tail, e] at hB
        have : A = B := by simpa using hB
        subst this
        refine hR.congr fun j hj => ?_
        show cpF _ _ _ _ _ (739 * 7 + j) = M 158 j
        unfold cpF
        rw [if_pos (by omega), show 0 + (739 * 7 + j - 5173) = j by omega]
  · rw [if_neg e]
    refine ⟨?_, by rw [List.length_append]; simp; omega, fun i B hB => ?_⟩
    · rw [List.length_append]; unfold remM; rw [upd2_same, if_neg e]; rfl
    · have hrow : remM M H.length 159 = cpF (M 158) 0 (M 159) (H.length * 739) 739 := by
        unfold remM remH
        rw [upd2_row (by decide), row2_same, if_neg e]
      rw [hrow]
      have hi := (List.getElem?_eq_some_iff.mp hB).1
      rw [List.length_append] at hi
      have hi1 : i < H.length + 1 := hi
      by_cases e7 : i < H.length
      · rw [List.getElem?_append_left e7] at hB
        refine (h3 i B hB).congr fun j hj => ?_
        show cpF _ _ _ _ _ (739 * i + j) = M 159 (739 * i + j)
        unfold cpF
        rw [if_neg (by omega)]
      · have hi7 : i = H.length := by omega
        subst hi7
        rw [List.getElem?_append_right (Nat.le_refl _), Nat.sub_self] at hB
        have : A = B := by simpa using hB
        subst this
        refine hR.congr fun j hj => ?_
        show cpF _ _ _ _ _ (739 * H.length + j) = M 158 j
        unfold cpF
        rw [if_pos (by omega), show 0 + (739 * H.length + j - H.length * 739) = j by omega]
theorem remM_158 {M : Mem} {k : Nat} : remM M k 158 = M 158 := by
  unfold remM; rw [upd2_row (by decide), row2_ne (by decide)]
theorem remM_ne {M : Mem} {k c : Nat} (h1 : c ≠ 157) (h2 : c ≠ 159) : remM M k c = M c := by
  unfold remM; rw [upd2_row h1, row2_ne h2]
theorem remM_157 {M : Mem} {k j : Nat} (h : j ≠ 2) : remM M k 157 j = M 157 j := by
  unfold remM; rw [upd2_ne (by omega), row2_ne (by decide)]
end ROWS
section MODEL
variable {D : va_G} {ad : Nat → Nat} {M : Mem} {wx : Nat} {ws : va_W} {A : AS} {f : Nat → Int32}
theorem sp_X6_copy {c1 c2 n1 n2 p q : Nat} (h1 : sk[c1]? = some (1, 0, [n1])) (h2 : sk[c2]? = some (1, 0, [n2])) (hne : c1 ≠ c2) (hp : p + 739 ≤ n1) (hq : q + 739 ≤ n2) (hn : n1 < 2 ^ 31 ∧ n2 < 2 ^ 31) : Spec D 1 yX6_copy cfX6_copy [.ref (ad (c1)), .int (nI (p)), .ref (ad (c2)), .int (nI (q))] (wl D ad M) 0 0 (PV (wl D ad (row2 M c2 (cpF (M c1) p (M c2) q 739)))) := by
  refine Spec.of (by decide) rfl (Nat.le_of_ble_eq_true rfl) rfl ?_
  have hmain : V D cfX6_copy (rmOf 1 0 0) (QM D (PV (wl D ad (row2 M c2 (cpF (M c1) p (M c2) q 739)))) 0 0) 0 0 3 [some (.ref (ad (c1))), some (.int (nI (p))), some (.ref (ad (c2))), some (.int (nI (q))), some (.int (nI (0)))] [] (wl D ad (row2 M c2 (cpF (M c1) p (M c2) q 0))) := by
    refine upto0 (n := 739) (P := fun i => V D cfX6_copy (rmOf 1 0 0) (QM D (PV (wl D ad (row2 M c2 (cpF (M c1) p (M c2) q 739)))) 0 0) 0 0 3 [some (.ref (ad (c1))), some (.int (nI (p))), some (.ref (ad (c2))), some (.int (nI (q))), some (.int (nI (i)))] [] (wl D ad (row2 M c2 (cpF (M c1) p (M c2) q i)))) ?_ ?_
    · skip
      refine E_iload4 (q := 5) dX6_copy_3 rfl ?_
      refine E_sipush (v := nI 739) (q := 8) dX6_copy_5 (by decide) rfl ?_
      refine E_icmp_geN (tgt := 29) (q := 11) dX6_copy_8 (by decide) rfl (by omega) (by omega) (fun h8 => ?_) (fun h8 => ?_)
      · skip
        exact E_vreturn rfl rfl dX6_copy_29 (PV_of rfl)
      · skip
        exact absurd h8 (by omega)
    · intro i hi ih
      refine E_iload4 (q := 5) dX6_copy_3 rfl ?_
      refine E_sipush (v := nI 739) (q := 8) dX6_copy_5 (by decide) rfl ?_
      refine E_icmp_geN (tgt := 29) (q := 11) dX6_copy_8 (by decide) rfl (by omega) (by omega) (fun h8 => ?_) (fun h8 => ?_)
      · skip
        exact absurd h8 (by omega)
      · skip
        refine E_aload2 (q := 12) dX6_copy_11 rfl ?_
        refine E_iload3 (q := 13) dX6_copy_12 rfl ?_
        refine E_iload4 (q := 15) dX6_copy_13 rfl ?_
        refine E_iaddN (q := 16) dX6_copy_15 rfl ?_
        refine E_aload0 (q := 17) dX6_copy_16 rfl ?_
        refine E_iload1 (q := 18) dX6_copy_17 rfl ?_
        refine E_iload4 (q := 20) dX6_copy_18 rfl ?_
        refine E_iaddN (q := 21) dX6_copy_20 rfl ?_
        refine E_ialdN (q := 22) h1 (by omega) (by omega) dX6_copy_21 rfl ?_
        refine V_int (show _ = M c1 (p + i) by rw [row2_ne hne]) ?_
        refine E_iastN (q := 23) h2 (by omega) (by omega) dX6_copy_22 rfl ?_
        refine V_ws (congrArg (wl D ad) row2_upd) ?_
        refine V_ws (congrArg (fun g => wl D ad (row2 M c2 g)) cpF_s) ?_
        refine E_iinc4 (q := 26) dX6_copy_23 (nI_inc _) rfl rfl ?_
        refine E_goto (q := 3) dX6_copy_26 (by decide) ?_
        exact ih
  rw [cpF_0, row2_self] at hmain
  refine E_iconst (v := nI 0) (q := 1) dX6_copy_0 (by decide) rfl ?_
  refine E_istore4 (q := 3) dX6_copy_1 rfl rfl ?_
  exact hmain
theorem remM_8 {g : Nat → Int32} : upd2 (row2 (upd2 (row2 M 159 (dnF (M 159) 5912)) 157 2 (nI 7)) 159 g) 157 2 (nI (7 + 1)) = upd2 (row2 M 159 g) 157 2 (nI (7 + 1)) := by
  funext a b
  unfold upd2 row2
  by_cases e : a = 157 ∧ b = 2
  · rw [if_pos e, if_pos e]
  · rw [if_neg e, if_neg e]
    by_cases e2 : a = 159
    · rw [if_pos e2, if_pos e2]
    · rw [if_neg e2, if_neg e2]
      show (if a = 157 ∧ b = 2 then _ else (if a = 159 then _ else M a) b) = M a b
      rw [if_neg e, if_neg e2]
theorem sp_X6_remember {k : Nat} (hk : M 157 2 = nI k) (hk8 : k ≤ 8) : Spec D 2 yX6_remember cfX6_remember [.ref (ad 157)] (wl D ad M) 0 0 (PV (wl D ad (remM M k))) := by
  refine Spec.of (by decide) rfl (Nat.le_of_ble_eq_true rfl) rfl ?_
  by_cases e8 : k = 8
  · have hk' : M 157 2 = nI 8 := e8 ▸ hk
    have hmain : V D cfX6_remember (rmOf 2 0 0) (QM D (PV (wl D ad (remM M k))) 0 0) 0 0 13 [some (.ref (ad 157)), some (.int (nI (739)))] [] (wl D ad (row2 M 159 (dnF (M 159) 739))) := by
      have hm : ∀ i, i ≤ 5912 → 739 ≤ i → V D cfX6_remember (rmOf 2 0 0) (QM D (PV (wl D ad (remM M k))) 0 0) 0 0 13 [some (.ref (ad 157)), some (.int (nI (i)))] [] (wl D ad (row2 M 159 (dnF (M 159) i))) := by
        refine upto (n := 5912) (P := fun i => 739 ≤ i → V D cfX6_remember (rmOf 2 0 0) (QM D (PV (wl D ad (remM M k))) 0 0) 0 0 13 [some (.ref (ad 157)), some (.int (nI (i)))] [] (wl D ad (row2 M 159 (dnF (M 159) i)))) ?_ ?_
        · intro _
          refine E_iload1 (q := 14) dX6_remember_13 rfl ?_
          refine E_sipush (v := nI 5912) (q := 17) dX6_remember_14 (by decide) rfl ?_
          refine E_icmp_geN (tgt := 42) (q := 20) dX6_remember_17 (by decide) rfl (by omega) (by omega) (fun h17 => ?_) (fun h17 => ?_)
          · skip
            refine E_aload0 (q := 43) dX6_remember_42 rfl ?_
            refine E_dup (q := 44) dX6_remember_43 rfl rfl ?_
            refine G_X6_historySize (q := 47) fl_X6_46 dX6_remember_44 rfl ?_
            refine V_int (show _ = nI 8 by rw [row2_ne (by decide), hk']) ?_
            refine E_iconst (v := nI 1) (q := 48) dX6_remember_47 (by decide) rfl ?_
            refine E_isubN (q := 49) dX6_remember_48 (by omega) rfl ?_
            refine P_X6_historySize (q := 52) fl_X6_46 dX6_remember_49 rfl ?_
            refine E_aload0 (q := 53) dX6_remember_52 rfl ?_
            refine G_X6_real (q := 56) fl_X6_7 dX6_remember_53 rfl ?_
            refine E_iconst (v := nI 0) (q := 57) dX6_remember_56 (by decide) rfl ?_
            refine E_aload0 (q := 58) dX6_remember_57 rfl ?_
            refine G_X6_history (q := 61) fl_X6_13 dX6_remember_58 rfl ?_
            refine E_aload0 (q := 62) dX6_remember_61 rfl ?_
            refine G_X6_historySize (q := 65) fl_X6_46 dX6_remember_62 rfl ?_
            refine V_int (show _ = nI 7 by rw [upd2_same]) ?_
            refine E_sipush (v := nI 739) (q := 68) dX6_remember_65 (by decide) rfl ?_
            refine E_imulN (q := 69) dX6_remember_68 rfl ?_
            refine C_S4V (q := 72) lk_X6_49 (sp_X6_copy sk_158 sk_159 (by decide) (by decide) (by omega) (by decide)) dX6_remember_69 (by decide) (Nat.le_of_ble_eq_true rfl) rfl ?_
            refine V_ws (show _ = wl D ad (row2 (upd2 (row2 M 159 (dnF (M 159) 5912)) 157 2 (nI 7)) 159 (cpF (M 158) 0 (dnF (M 159) 5912) 5173 739)) by rw [upd2_row (by decide), upd2_row (by decide), row2_ne (by decide), row2_same]) ?_
            refine E_aload0 (q := 73) dX6_remember_72 rfl ?_
            refine E_dup (q := 74) dX6_remember_73 rfl rfl ?_
            refine G_X6_historySize (q := 77) fl_X6_46 dX6_remember_74 rfl ?_
            refine V_int (show _ = nI 7 by rw [row2_ne (by decide), upd2_same]) ?_
            refine E_iconst (v := nI 1) (q := 78) dX6_remember_77 (by decide) rfl ?_
            refine E_iaddN (q := 79) dX6_remember_78 rfl ?_
            refine P_X6_historySize (q := 82) fl_X6_46 dX6_remember_79 rfl ?_
            exact E_vreturn rfl rfl dX6_remember_82 (PV_of (congrArg (wl D ad) (remM_8.trans (by unfold remM remH; rw [if_pos e8, if_pos e8]))))
          · skip
            exact absurd h17 (by omega)
        · intro i hi ih h7
          refine E_iload1 (q := 14) dX6_remember_13 rfl ?_
          refine E_sipush (v := nI 5912) (q := 17) dX6_remember_14 (by decide) rfl ?_
          refine E_icmp_geN (tgt := 42) (q := 20) dX6_remember_17 (by decide) rfl (by omega) (by omega) (fun h17 => ?_) (fun h17 => ?_)
          · skip
            exact absurd h17 (by omega)
          · skip
            refine E_aload0 (q := 21) dX6_remember_20 rfl ?_
            refine G_X6_history (q := 24) fl_X6_13 dX6_remember_21 rfl ?_
            refine E_iload1 (q := 25) dX6_remember_24 rfl ?_
            refine E_sipush (v := nI 739) (q := 28) dX6_remember_25 (by decide) rfl ?_
            refine E_isubN (q := 29) dX6_remember_28 (by omega) rfl ?_
            refine E_aload0 (q := 30) dX6_remember_29 rfl ?_
            refine G_X6_history (q := 33) fl_X6_13 dX6_remember_30 rfl ?_
            refine E_iload1 (q := 34) dX6_remember_33 rfl ?_
            refine E_ialdN (q := 35) sk_159 (by omega) (by decide) dX6_remember_34 rfl ?_
            refine V_int (show _ = M 159 i by rw [row2_same]; exact dnF_ge (by omega)) ?_
            refine E_iastN (q := 36) sk_159 (by omega) (by decide) dX6_remember_35 rfl ?_
            refine V_ws (congrArg (wl D ad) row2_upd) ?_
            refine V_ws (congrArg (fun g => wl D ad (row2 M 159 g)) (dnF_s h7)) ?_
            refine E_iinc1 (q := 39) dX6_remember_36 (nI_inc _) rfl rfl ?_
            refine E_goto (q := 13) dX6_remember_39 (by decide) ?_
            exact ih (by omega)
      exact hm 739 (by decide) (Nat.le_refl _)
    rw [dnF_0, row2_self] at hmain
    refine E_aload0 (q := 1) dX6_remember_0 rfl ?_
    refine G_X6_historySize (q := 4) fl_X6_46 dX6_remember_1 rfl ?_
    refine V_int hk' ?_
    refine E_bipush (v := nI 8) (q := 6) dX6_remember_4 (by decide) rfl ?_
    refine E_icmp_neN (tgt := 52) (q := 9) dX6_remember_6 (by decide) rfl (by omega) (by omega) (fun h6 => ?_) (fun h6 => ?_)
    · skip
      exact absurd rfl h6
    · skip
      refine E_sipush (v := nI 739) (q := 12) dX6_remember_9 (by decide) rfl ?_
      refine E_istore1 (q := 13) dX6_remember_12 rfl rfl ?_
      exact hmain
  · skip
    refine E_aload0 (q := 1) dX6_remember_0 rfl ?_
    refine G_X6_historySize (q := 4) fl_X6_46 dX6_remember_1 rfl ?_
    refine V_int hk ?_
    refine E_bipush (v := nI 8) (q := 6) dX6_remember_4 (by decide) rfl ?_
    refine E_icmp_neN (tgt := 52) (q := 9) dX6_remember_6 (by decide) rfl (by omega) (by omega) (fun h6 => ?_) (fun h6 => ?_)
    · skip
      refine E_aload0 (q := 53) dX6_remember_52 rfl ?_
      refine G_X6_real (q := 56) fl_X6_7 dX6_remember_53 rfl ?_
      refine E_iconst (v := nI 0) (q := 57) dX6_remember_56 (by decide) rfl ?_
      refine E_aload0 (q := 58) dX6_remember_57 rfl ?_
      refine G_X6_history (q := 61) fl_X6_13 dX6_remember_58 rfl ?_
      refine E_aload0 (q := 62) dX6_remember_61 rfl ?_
      refine G_X6_historySize (q := 65) fl_X6_46 dX6_remember_62 rfl ?_
      refine V_int hk ?_
      refine E_sipush (v := nI 739) (q := 68) dX6_remember_65 (by decide) rfl ?_
      refine E_imulN (q := 69) dX6_remember_68 rfl ?_
      refine C_S4V (q := 72) lk_X6_49 (sp_X6_copy sk_158 sk_159 (by decide) (by decide) (by omega) (by decide)) dX6_remember_69 (by decide) (Nat.le_of_ble_eq_true rfl) rfl ?_
      refine E_aload0 (q := 73) dX6_remember_72 rfl ?_
      refine E_dup (q := 74) dX6_remember_73 rfl rfl ?_
      refine G_X6_historySize (q := 77) fl_X6_46 dX6_remember_74 rfl ?_
      refine V_int (show _ = nI k by rw [row2_ne (by decide), hk]) ?_
      refine E_iconst (v := nI 1) (q := 78) dX6_remember_77 (by decide) rfl ?_
      refine E_iaddN (q := 79) dX6_remember_78 rfl ?_
      refine P_X6_historySize (q := 82) fl_X6_46 dX6_remember_79 rfl ?_
      exact E_vreturn rfl rfl dX6_remember_82 (PV_of (congrArg (wl D ad) (by unfold remM remH; rw [if_neg e8, if_neg e8])))
    · skip
      exact absurd h6 e8
theorem sp_X6_begin {c : Nat} (hc : sk[c]? = some (1, 0, [739])) : Spec D 1 yX6_begin cfX6_begin [.ref (ad (c))] (wl D ad M) 0 0 (PY (fun w => ∃ f, (∀ j, j < 739 → f j = begF j) ∧ w = wl D ad (row2 M c f))) := by
  refine Spec.of (by decide) rfl (Nat.le_of_ble_eq_true rfl) rfl ?_
  have hmain : V D cfX6_begin (rmOf 1 0 0) (QM D (PY (fun w => ∃ f, (∀ j, j < 739 → f j = begF j) ∧ w = wl D ad (row2 M c f))) 0 0) 0 0 2 [some (.ref (ad (c))), some (.int (nI (0)))] [] (wl D ad (row2 M c (cpF (fun _ => nI 0) 0 (M c) 0 0))) := by
    refine upto0 (n := 739) (P := fun i => V D cfX6_begin (rmOf 1 0 0) (QM D (PY (fun w => ∃ f, (∀ j, j < 739 → f j = begF j) ∧ w = wl D ad (row2 M c f))) 0 0) 0 0 2 [some (.ref (ad (c))), some (.int (nI (i)))] [] (wl D ad (row2 M c (cpF (fun _ => nI 0) 0 (M c) 0 i)))) ?_ ?_
    · skip
      refine E_iload1 (q := 3) dX6_begin_2 rfl ?_
      refine E_sipush (v := nI 739) (q := 6) dX6_begin_3 (by decide) rfl ?_
      refine E_icmp_geN (tgt := 19) (q := 9) dX6_begin_6 (by decide) rfl (by omega) (by omega) (fun h6 => ?_) (fun h6 => ?_)
      · skip
        refine E_aload0 (q := 20) dX6_begin_19 rfl ?_
        refine E_iconst (v := nI 0) (q := 21) dX6_begin_20 (by decide) rfl ?_
        refine E_sipush (v := nI 200) (q := 24) dX6_begin_21 (by decide) rfl ?_
        refine E_iastN (q := 25) hc (by omega) (by decide) dX6_begin_24 rfl ?_
        refine V_ws (congrArg (wl D ad) row2_upd) ?_
        refine E_aload0 (q := 26) dX6_begin_25 rfl ?_
        refine E_iconst (v := nI 1) (q := 27) dX6_begin_26 (by decide) rfl ?_
        refine E_iconst (v := nI 3) (q := 28) dX6_begin_27 (by decide) rfl ?_
        refine E_iastN (q := 29) hc (by omega) (by decide) dX6_begin_28 rfl ?_
        refine V_ws (congrArg (wl D ad) row2_upd) ?_
        exact E_vreturn rfl rfl dX6_begin_29 ⟨rfl, _, fun j hj => begF_of hj, rfl⟩
      · skip
        exact absurd h6 (by omega)
    · intro i hi ih
      refine E_iload1 (q := 3) dX6_begin_2 rfl ?_
      refine E_sipush (v := nI 739) (q := 6) dX6_begin_3 (by decide) rfl ?_
      refine E_icmp_geN (tgt := 19) (q := 9) dX6_begin_6 (by decide) rfl (by omega) (by omega) (fun h6 => ?_) (fun h6 => ?_)
      · skip
        exact absurd h6 (by omega)
      · skip
        refine E_aload0 (q := 10) dX6_begin_9 rfl ?_
        refine E_iload1 (q := 11) dX6_begin_10 rfl ?_
        refine E_iconst (v := nI 0) (q := 12) dX6_begin_11 (by decide) rfl ?_
        refine E_iastN (q := 13) hc (by omega) (by decide) dX6_begin_12 rfl ?_
        refine V_ws (congrArg (wl D ad) row2_upd) ?_
        refine V_ws (congrArg (fun g => wl D ad (row2 M c g)) (show _ = cpF (fun _ => nI 0) 0 (M c) 0 (i + 1) by rw [← cpF_s, Nat.zero_add])) ?_
        refine E_iinc1 (q := 16) dX6_begin_13 (nI_inc _) rfl rfl ?_
        refine E_goto (q := 2) dX6_begin_16 (by decide) ?_
        exact ih
  rw [cpF_0, row2_self] at hmain
  refine E_iconst (v := nI 0) (q := 1) dX6_begin_0 (by decide) rfl ?_
  refine E_istore1 (q := 2) dX6_begin_1 rfl rfl ?_
  exact hmain
end MODEL
