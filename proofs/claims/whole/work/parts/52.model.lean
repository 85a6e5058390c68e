
/-! THE REFERENCE: checks, numbers and names in a text -/
section MODEL
variable {D : va_G} {ad : Nat → Nat} {M : Mem} {ws : va_W} {A : AS} {b : Nat → Nat} {n s t e p q g wx : Nat}
theorem RI.cg {M1 : Mem} (h : RI M wx A) (e1 : M1 wx = M wx) (e2 : M1 157 3 = M 157 3) : RI M1 wx A := ⟨⟨by rw [e2]; exact h.1.1, h.1.2⟩, by rw [e1]; exact h.2.1, h.2.2⟩
def RdR (M : Mem) (b : Nat → Nat) (n s g : Nat) (A : AS) : Prop := (s ≤ n ∧ g < 4) ∧ TxR M b n ∧ LxR M b n s ∧ M 157 18 = nI 0 ∧ M 157 20 = nI g ∧ RI M 163 A
/-- all but the reader's own cells stays -/
def FrR (M M' : Mem) : Prop := (∀ c, c ≠ 157 → c ≠ 163 → M' c = M c) ∧ ∀ j, ¬ (12 ≤ j ∧ j ≤ 20) → j ≠ 1016 → M' 157 j = M 157 j
theorem FrR.rf : FrR M M := ⟨fun _ _ _ => rfl, fun _ _ _ => rfl⟩
theorem FrR.tr {M1 M2 : Mem} (h : FrR M M1) (h2 : FrR M1 M2) : FrR M M2 := ⟨fun c a d => (h2.1 c a d).trans (h.1 c a d), fun j a d => (h2.2 j a d).trans (h.2 j a d)⟩
theorem FrR.a {M1 : Mem} (h : FrA M M1) : FrR M M1 := ⟨fun c a _ => h.1 c a, fun j a d => h.2 j (by omega) d⟩
theorem FrR.u {j : Nat} {v : Int32} (hj : 12 ≤ j ∧ j ≤ 20) : FrR M (upd2 M 157 j v) := ⟨fun c a _ => upd2_row a, fun i a _ => upd2_ne (by omega)⟩
theorem FrR.w {M1 : Mem} (h : ∀ c, c ≠ 163 → M1 c = M c) : FrR M M1 := ⟨fun c _ a => h c a, fun j _ _ => by rw [h 157 (by decide)]⟩
def ft (M : Mem) (c : Int32) : Mem := upd2 M 157 18 c
theorem ft_18 {c : Int32} : ft M c 157 18 = c := upd2_same
theorem ft_ne {c : Int32} (hc : c ≠ 0) : ft M c 157 18 ≠ 0 := by rw [ft_18]; exact hc
theorem FrR.ft {c : Int32} : FrR M (ft M c) := FrR.u (by decide)
theorem RI.ft {c : Int32} (h : RI M wx A) : RI (ft M c) wx A := h.u (by decide)
theorem RdR.n0 (h : RdR M b n s g A) : ¬ ¬ M 157 18 = 0 := fun z => z (h.2.2.2.1)
theorem LxR.tx (h : TxR M b n) (_ : LxR M b n s) : n ≤ 1000 := h.2.1
theorem RdR.fr {M1 : Mem} {t : Nat} (h : RdR M b n s g A) (ht : t ≤ n) (hL : LxR M1 b n t) (hF : FrA M M1) : RdR M1 b n t g A := ⟨⟨ht, h.1.2⟩, h.2.1.fr hF, hL, by rw [hF.2 18 (by omega) (by omega)]; exact h.2.2.2.1, by rw [hF.2 20 (by omega) (by omega)]; exact h.2.2.2.2.1, h.2.2.2.2.2.cg (hF.1 163 (by decide)) (hF.2 3 (by omega) (by omega))⟩
def RAd (D : va_G) (ad : Nat → Nat) (M : Mem) (b : Nat → Nat) (n s g : Nat) (A : AS) : va_W → Prop := fun w => ∃ M', w = wl D ad M' ∧ RdR M' b n s g A ∧ FrR M M'
theorem sp_X6_advR (h : RdR M b n s g A) : Spec D 3 yX6_advance cfX6_advance [.ref (ad 157)] (wl D ad M) 0 0 (PY (RAd D ad M b n (nxt b n s) g A)) :=
  (sp_X6_advance h.2.1 h.2.2.2.1 h.2.2.1.1 (tokE_le h.1.1).2.1 rfl).mono fun v w hw => by
    obtain ⟨h1, M1, h2, h3, h4⟩ := hw
    exact ⟨h1, M1, h2, h.fr (nxt_n h.1.1) h3 h4, FrR.a h4⟩
theorem sp_X6_checkT {c : Int32} : Spec D 1 yX6_check cfX6_check [.ref (ad 157), .int (nI (1)), .int (c)] (wl D ad M) 0 0 (PV (wl D ad M)) := by
  refine Spec.of (by decide) rfl (Nat.le_of_ble_eq_true rfl) rfl ?_
  refine E_aload0 (q := 1) dX6_check_0 rfl ?_
  refine G_X6_fault (q := 4) fl_X6_220 dX6_check_1 rfl ?_
  refine E_if_ne (tgt := 16) (q := 7) dX6_check_4 (by decide) rfl (fun h4 => ?_) (fun h4 => ?_)
  · skip
    exact E_vreturn rfl rfl dX6_check_16 (PV_of rfl)
  · skip
    refine E_iload1 (q := 8) dX6_check_7 rfl ?_
    refine E_if_ne (tgt := 16) (q := 11) dX6_check_8 (by decide) rfl (fun h8 => ?_) (fun h8 => ?_)
    · skip
      exact E_vreturn rfl rfl dX6_check_16 (PV_of rfl)
    · first | exact absurd h8 (by decide) | exact absurd (by decide) h8
theorem sp_X6_checkX {c x : Int32} (hf : M 157 18 ≠ 0) : Spec D 1 yX6_check cfX6_check [.ref (ad 157), .int (x), .int (c)] (wl D ad M) 0 0 (PV (wl D ad M)) := by
  refine Spec.of (by decide) rfl (Nat.le_of_ble_eq_true rfl) rfl ?_
  refine E_aload0 (q := 1) dX6_check_0 rfl ?_
  refine G_X6_fault (q := 4) fl_X6_220 dX6_check_1 rfl ?_
  refine E_if_ne (tgt := 16) (q := 7) dX6_check_4 (by decide) rfl (fun h4 => ?_) (fun h4 => ?_)
  · skip
    exact E_vreturn rfl rfl dX6_check_16 (PV_of rfl)
  · skip
    exact absurd h4 hf
theorem sp_X6_checkF {c : Int32} (hf : M 157 18 = nI 0) : Spec D 1 yX6_check cfX6_check [.ref (ad 157), .int (nI (0)), .int (c)] (wl D ad M) 0 0 (PV (wl D ad (ft M c))) := by
  refine Spec.of (by decide) rfl (Nat.le_of_ble_eq_true rfl) rfl ?_
  refine E_aload0 (q := 1) dX6_check_0 rfl ?_
  refine G_X6_fault (q := 4) fl_X6_220 dX6_check_1 rfl ?_
  refine V_int hf ?_
  refine E_if_ne (tgt := 16) (q := 7) dX6_check_4 (by decide) rfl (fun h4 => ?_) (fun h4 => ?_)
  · first | exact absurd h4 (by decide) | exact absurd (by decide) h4
  · skip
    refine E_iload1 (q := 8) dX6_check_7 rfl ?_
    refine E_if_ne (tgt := 16) (q := 11) dX6_check_8 (by decide) rfl (fun h8 => ?_) (fun h8 => ?_)
    · first | exact absurd h8 (by decide) | exact absurd (by decide) h8
    · skip
      refine E_aload0 (q := 12) dX6_check_11 rfl ?_
      refine E_iload2 (q := 13) dX6_check_12 rfl ?_
      refine P_X6_fault (q := 16) fl_X6_220 dX6_check_13 rfl ?_
      exact E_vreturn rfl rfl dX6_check_16 (PV_of rfl)
theorem sp_X6_isWord {i : Nat} (h : RdR M b n s g A) (hi : i < 9) : Spec D 1 yX6_isWord cfX6_isWord [.ref (ad 157), .long (codeL.getD i 0)] (wl D ad M) 0 0 (PI (zI (isW b n s i)) (wl D ad M)) := by
  refine Spec.of (by decide) rfl (Nat.le_of_ble_eq_true rfl) rfl ?_
  have hk4 := knd_le (b := b) (n := n) (q := s)
  refine E_aload0 (q := 1) dX6_isWord_0 rfl ?_
  refine G_X6_fault (q := 4) fl_X6_220 dX6_isWord_1 rfl ?_
  refine V_int h.2.2.2.1 ?_
  refine E_if_ne (tgt := 28) (q := 7) dX6_isWord_4 (by decide) rfl (fun h4 => ?_) (fun h4 => ?_)
  · first | exact absurd h4 (by decide) | exact absurd (by decide) h4
  · skip
    refine E_aload0 (q := 8) dX6_isWord_7 rfl ?_
    refine G_X6_token (q := 11) fl_X6_239 dX6_isWord_8 rfl ?_
    refine V_int h.2.2.1.2.2.1 ?_
    refine E_iconst (v := nI 1) (q := 12) dX6_isWord_11 (by decide) rfl ?_
    refine E_icmp_neN (tgt := 28) (q := 15) dX6_isWord_12 (by decide) rfl (by omega) (by omega) (fun h12 => ?_) (fun h12 => ?_)
    · skip
      refine E_iconst (v := nI 0) (q := 29) dX6_isWord_28 (by decide) rfl ?_
      exact E_zreturn rfl rfl rfl dX6_isWord_29 (PI_of (zI_f (fun z => h12 z.1)) rfl)
    · skip
      refine E_aload0 (q := 16) dX6_isWord_15 rfl ?_
      refine G_X6_word (q := 19) fl_X6_229 dX6_isWord_16 rfl ?_
      refine V_long (h.2.2.1.2.2.2.2.1 h12).1 ?_
      refine E_lload1 (q := 20) dX6_isWord_19 rfl ?_
      refine E_lcmp (q := 21) dX6_isWord_20 rfl ?_
      refine E_if_ne (tgt := 28) (q := 24) dX6_isWord_21 (by decide) rfl (fun h21 => ?_) (fun h21 => ?_)
      · skip
        refine E_iconst (v := nI 0) (q := 29) dX6_isWord_28 (by decide) rfl ?_
        exact E_zreturn rfl rfl rfl dX6_isWord_29 (PI_of (zI_f (fun z => h21 (lcmp_eq.mpr ((isW_code hi h12).mpr z.2)))) rfl)
      · skip
        refine E_iconst (v := nI 1) (q := 25) dX6_isWord_24 (by decide) rfl ?_
        refine E_goto (q := 29) dX6_isWord_25 (by decide) ?_
        exact E_zreturn rfl rfl rfl dX6_isWord_29 (PI_of (zI_t ⟨h12, (isW_code hi h12).mp (lcmp_eq.mp h21)⟩) rfl)
theorem sp_X6_integerHereX {lo hi : Int32} (hf : M 157 18 ≠ 0) : Spec D 2 yX6_integerHere cfX6_integerHere [.ref (ad 157), .int (lo), .int (hi)] (wl D ad M) 0 0 (PI lo (wl D ad M)) := by
  refine Spec.of (by decide) rfl (Nat.le_of_ble_eq_true rfl) rfl ?_
  refine E_aload0 (q := 1) dX6_integerHere_0 rfl ?_
  refine E_aload0 (q := 2) dX6_integerHere_1 rfl ?_
  refine G_X6_token (q := 5) fl_X6_239 dX6_integerHere_2 rfl ?_
  refine E_iconst (v := nI 2) (q := 6) dX6_integerHere_5 (by decide) rfl ?_
  refine E_icmp_ne (tgt := 13) (q := 9) dX6_integerHere_6 (by decide) rfl (fun h6 => ?_) (fun h6 => ?_)
  · skip
    refine E_iconst (v := nI 0) (q := 14) dX6_integerHere_13 (by decide) rfl ?_
    refine E_bipush (v := -11) (q := 16) dX6_integerHere_14 (by decide) rfl ?_
    refine C_V2V (q := 19) lk_X6_247 (sp_X6_checkX hf) rc_X6 dX6_integerHere_16 (by decide) (Nat.le_of_ble_eq_true rfl) rfl ?_
    refine E_aload0 (q := 20) dX6_integerHere_19 rfl ?_
    refine E_aload0 (q := 21) dX6_integerHere_20 rfl ?_
    refine G_X6_integer (q := 24) fl_X6_236 dX6_integerHere_21 rfl ?_
    refine E_iload1 (q := 25) dX6_integerHere_24 rfl ?_
    refine E_iload2 (q := 26) dX6_integerHere_25 rfl ?_
    refine C_S3I (q := 29) lk_X6_60 (sp_X6_inRange) dX6_integerHere_26 (by decide) (Nat.le_of_ble_eq_true rfl) rfl ?_
    refine E_bipush (v := -12) (q := 31) dX6_integerHere_29 (by decide) rfl ?_
    refine C_V2V (q := 34) lk_X6_247 (sp_X6_checkX hf) rc_X6 dX6_integerHere_31 (by decide) (Nat.le_of_ble_eq_true rfl) rfl ?_
    refine E_aload0 (q := 35) dX6_integerHere_34 rfl ?_
    refine G_X6_fault (q := 38) fl_X6_220 dX6_integerHere_35 rfl ?_
    refine E_if_ne (tgt := 48) (q := 41) dX6_integerHere_38 (by decide) rfl (fun h38 => ?_) (fun h38 => ?_)
    · skip
      refine E_iload1 (q := 49) dX6_integerHere_48 rfl ?_
      exact E_ireturn rfl rfl dX6_integerHere_49 (PI_of rfl rfl)
    · skip
      exact absurd h38 hf
  · skip
    refine E_iconst (v := nI 1) (q := 10) dX6_integerHere_9 (by decide) rfl ?_
    refine E_goto (q := 14) dX6_integerHere_10 (by decide) ?_
    refine E_bipush (v := -11) (q := 16) dX6_integerHere_14 (by decide) rfl ?_
    refine C_V2V (q := 19) lk_X6_247 (sp_X6_checkX hf) rc_X6 dX6_integerHere_16 (by decide) (Nat.le_of_ble_eq_true rfl) rfl ?_
    refine E_aload0 (q := 20) dX6_integerHere_19 rfl ?_
    refine E_aload0 (q := 21) dX6_integerHere_20 rfl ?_
    refine G_X6_integer (q := 24) fl_X6_236 dX6_integerHere_21 rfl ?_
    refine E_iload1 (q := 25) dX6_integerHere_24 rfl ?_
    refine E_iload2 (q := 26) dX6_integerHere_25 rfl ?_
    refine C_S3I (q := 29) lk_X6_60 (sp_X6_inRange) dX6_integerHere_26 (by decide) (Nat.le_of_ble_eq_true rfl) rfl ?_
    refine E_bipush (v := -12) (q := 31) dX6_integerHere_29 (by decide) rfl ?_
    refine C_V2V (q := 34) lk_X6_247 (sp_X6_checkX hf) rc_X6 dX6_integerHere_31 (by decide) (Nat.le_of_ble_eq_true rfl) rfl ?_
    refine E_aload0 (q := 35) dX6_integerHere_34 rfl ?_
    refine G_X6_fault (q := 38) fl_X6_220 dX6_integerHere_35 rfl ?_
    refine E_if_ne (tgt := 48) (q := 41) dX6_integerHere_38 (by decide) rfl (fun h38 => ?_) (fun h38 => ?_)
    · skip
      refine E_iload1 (q := 49) dX6_integerHere_48 rfl ?_
      exact E_ireturn rfl rfl dX6_integerHere_49 (PI_of rfl rfl)
    · skip
      exact absurd h38 hf
theorem sp_X6_integerHereK {lo hi : Int32} (h : RdR M b n s g A) (hk : ¬ knd b n s = 2) : Spec D 2 yX6_integerHere cfX6_integerHere [.ref (ad 157), .int (lo), .int (hi)] (wl D ad M) 0 0 (PI lo (wl D ad (ft M (-11)))) := by
  refine Spec.of (by decide) rfl (Nat.le_of_ble_eq_true rfl) rfl ?_
  have hk4 := knd_le (b := b) (n := n) (q := s)
  refine E_aload0 (q := 1) dX6_integerHere_0 rfl ?_
  refine E_aload0 (q := 2) dX6_integerHere_1 rfl ?_
  refine G_X6_token (q := 5) fl_X6_239 dX6_integerHere_2 rfl ?_
  refine V_int h.2.2.1.2.2.1 ?_
  refine E_iconst (v := nI 2) (q := 6) dX6_integerHere_5 (by decide) rfl ?_
  refine E_icmp_neN (tgt := 13) (q := 9) dX6_integerHere_6 (by decide) rfl (by omega) (by omega) (fun h6 => ?_) (fun h6 => ?_)
  · skip
    refine E_iconst (v := nI 0) (q := 14) dX6_integerHere_13 (by decide) rfl ?_
    refine E_bipush (v := -11) (q := 16) dX6_integerHere_14 (by decide) rfl ?_
    refine C_V2V (q := 19) lk_X6_247 (sp_X6_checkF h.2.2.2.1) rc_X6 dX6_integerHere_16 (by decide) (Nat.le_of_ble_eq_true rfl) rfl ?_
    refine E_aload0 (q := 20) dX6_integerHere_19 rfl ?_
    refine E_aload0 (q := 21) dX6_integerHere_20 rfl ?_
    refine G_X6_integer (q := 24) fl_X6_236 dX6_integerHere_21 rfl ?_
    refine E_iload1 (q := 25) dX6_integerHere_24 rfl ?_
    refine E_iload2 (q := 26) dX6_integerHere_25 rfl ?_
    refine C_S3I (q := 29) lk_X6_60 (sp_X6_inRange) dX6_integerHere_26 (by decide) (Nat.le_of_ble_eq_true rfl) rfl ?_
    refine E_bipush (v := -12) (q := 31) dX6_integerHere_29 (by decide) rfl ?_
    refine C_V2V (q := 34) lk_X6_247 (sp_X6_checkX (ft_ne (by decide))) rc_X6 dX6_integerHere_31 (by decide) (Nat.le_of_ble_eq_true rfl) rfl ?_
    refine E_aload0 (q := 35) dX6_integerHere_34 rfl ?_
    refine G_X6_fault (q := 38) fl_X6_220 dX6_integerHere_35 rfl ?_
    refine V_int ft_18 ?_
    refine E_if_ne (tgt := 48) (q := 41) dX6_integerHere_38 (by decide) rfl (fun h38 => ?_) (fun h38 => ?_)
    · skip
      refine E_iload1 (q := 49) dX6_integerHere_48 rfl ?_
      exact E_ireturn rfl rfl dX6_integerHere_49 (PI_of rfl rfl)
    · first | exact absurd h38 (by decide) | exact absurd (by decide) h38
  · skip
    exact absurd h6 hk
theorem sp_X6_integerHereR {lo hi : Nat} (h : RdR M b n s g A) (hk : knd b n s = 2) (hlo : lo < 2 ^ 31) (hhi : hi < 2 ^ 31) (hr : ¬ (lo ≤ itv b n s ∧ itv b n s ≤ hi)) : Spec D 2 yX6_integerHere cfX6_integerHere [.ref (ad 157), .int (nI (lo)), .int (nI (hi))] (wl D ad M) 0 0 (PI (nI lo) (wl D ad (ft M (-12)))) := by
  refine Spec.of (by decide) rfl (Nat.le_of_ble_eq_true rfl) rfl ?_
  have hil : itv b n s ≤ 1000000 := itN_le _
  have hz : zI (nI lo ≤ nI (itv b n s) ∧ nI (itv b n s) ≤ nI hi) = nI 0 := (zI_f (fun z => hr ⟨(nI_leI hlo (by omega)).mp z.1, (nI_leI (by omega) hhi).mp z.2⟩)).symm
  refine E_aload0 (q := 1) dX6_integerHere_0 rfl ?_
  refine E_aload0 (q := 2) dX6_integerHere_1 rfl ?_
  refine G_X6_token (q := 5) fl_X6_239 dX6_integerHere_2 rfl ?_
  refine V_int (h.2.2.1.2.2.1.trans (congrArg nI hk)) ?_
  refine E_iconst (v := nI 2) (q := 6) dX6_integerHere_5 (by decide) rfl ?_
  refine E_icmp_neN (tgt := 13) (q := 9) dX6_integerHere_6 (by decide) rfl (by omega) (by omega) (fun h6 => ?_) (fun h6 => ?_)
  · first | exact absurd h6 (by decide) | exact absurd (by decide) h6
  · skip
    refine E_iconst (v := nI 1) (q := 10) dX6_integerHere_9 (by decide) rfl ?_
    refine E_goto (q := 14) dX6_integerHere_10 (by decide) ?_
    refine E_bipush (v := -11) (q := 16) dX6_integerHere_14 (by decide) rfl ?_
    refine C_V2V (q := 19) lk_X6_247 (sp_X6_checkT) rc_X6 dX6_integerHere_16 (by decide) (Nat.le_of_ble_eq_true rfl) rfl ?_
    refine E_aload0 (q := 20) dX6_integerHere_19 rfl ?_
    refine E_aload0 (q := 21) dX6_integerHere_20 rfl ?_
    refine G_X6_integer (q := 24) fl_X6_236 dX6_integerHere_21 rfl ?_
    refine V_int (h.2.2.1.2.2.2.1 hk) ?_
    refine E_iload1 (q := 25) dX6_integerHere_24 rfl ?_
    refine E_iload2 (q := 26) dX6_integerHere_25 rfl ?_
    refine C_S3I (q := 29) lk_X6_60 (sp_X6_inRange) dX6_integerHere_26 (by decide) (Nat.le_of_ble_eq_true rfl) rfl ?_
    refine V_int hz ?_
    refine E_bipush (v := -12) (q := 31) dX6_integerHere_29 (by decide) rfl ?_
    refine C_V2V (q := 34) lk_X6_247 (sp_X6_checkF h.2.2.2.1) rc_X6 dX6_integerHere_31 (by decide) (Nat.le_of_ble_eq_true rfl) rfl ?_
    refine E_aload0 (q := 35) dX6_integerHere_34 rfl ?_
    refine G_X6_fault (q := 38) fl_X6_220 dX6_integerHere_35 rfl ?_
    refine V_int ft_18 ?_
    refine E_if_ne (tgt := 48) (q := 41) dX6_integerHere_38 (by decide) rfl (fun h38 => ?_) (fun h38 => ?_)
    · skip
      refine E_iload1 (q := 49) dX6_integerHere_48 rfl ?_
      exact E_ireturn rfl rfl dX6_integerHere_49 (PI_of rfl rfl)
    · first | exact absurd h38 (by decide) | exact absurd (by decide) h38
theorem sp_X6_integerHere {lo hi : Nat} (h : RdR M b n s g A) (hk : knd b n s = 2) (hlo : lo < 2 ^ 31) (hhi : hi < 2 ^ 31) (hr : lo ≤ itv b n s ∧ itv b n s ≤ hi) : Spec D 2 yX6_integerHere cfX6_integerHere [.ref (ad 157), .int (nI (lo)), .int (nI (hi))] (wl D ad M) 0 0 (PI (nI (itv b n s)) (wl D ad M)) := by
  refine Spec.of (by decide) rfl (Nat.le_of_ble_eq_true rfl) rfl ?_
  have hil : itv b n s ≤ 1000000 := itN_le _
  have hz : zI (nI lo ≤ nI (itv b n s) ∧ nI (itv b n s) ≤ nI hi) = nI 1 := (zI_t ⟨(nI_leI hlo (by omega)).mpr hr.1, (nI_leI (by omega) hhi).mpr hr.2⟩).symm
  refine E_aload0 (q := 1) dX6_integerHere_0 rfl ?_
  refine E_aload0 (q := 2) dX6_integerHere_1 rfl ?_
  refine G_X6_token (q := 5) fl_X6_239 dX6_integerHere_2 rfl ?_
  refine V_int (h.2.2.1.2.2.1.trans (congrArg nI hk)) ?_
  refine E_iconst (v := nI 2) (q := 6) dX6_integerHere_5 (by decide) rfl ?_
  refine E_icmp_neN (tgt := 13) (q := 9) dX6_integerHere_6 (by decide) rfl (by omega) (by omega) (fun h6 => ?_) (fun h6 => ?_)
  · first | exact absurd h6 (by decide) | exact absurd (by decide) h6
  · skip
    refine E_iconst (v := nI 1) (q := 10) dX6_integerHere_9 (by decide) rfl ?_
    refine E_goto (q := 14) dX6_integerHere_10 (by decide) ?_
    refine E_bipush (v := -11) (q := 16) dX6_integerHere_14 (by decide) rfl ?_
    refine C_V2V (q := 19) lk_X6_247 (sp_X6_checkT) rc_X6 dX6_integerHere_16 (by decide) (Nat.le_of_ble_eq_true rfl) rfl ?_
    refine E_aload0 (q := 20) dX6_integerHere_19 rfl ?_
    refine E_aload0 (q := 21) dX6_integerHere_20 rfl ?_
    refine G_X6_integer (q := 24) fl_X6_236 dX6_integerHere_21 rfl ?_
    refine V_int (h.2.2.1.2.2.2.1 hk) ?_
    refine E_iload1 (q := 25) dX6_integerHere_24 rfl ?_
    refine E_iload2 (q := 26) dX6_integerHere_25 rfl ?_
    refine C_S3I (q := 29) lk_X6_60 (sp_X6_inRange) dX6_integerHere_26 (by decide) (Nat.le_of_ble_eq_true rfl) rfl ?_
    refine V_int hz ?_
    refine E_bipush (v := -12) (q := 31) dX6_integerHere_29 (by decide) rfl ?_
    refine C_V2V (q := 34) lk_X6_247 (sp_X6_checkT) rc_X6 dX6_integerHere_31 (by decide) (Nat.le_of_ble_eq_true rfl) rfl ?_
    refine E_aload0 (q := 35) dX6_integerHere_34 rfl ?_
    refine G_X6_fault (q := 38) fl_X6_220 dX6_integerHere_35 rfl ?_
    refine V_int h.2.2.2.1 ?_
    refine E_if_ne (tgt := 48) (q := 41) dX6_integerHere_38 (by decide) rfl (fun h38 => ?_) (fun h38 => ?_)
    · first | exact absurd h38 (by decide) | exact absurd (by decide) h38
    · skip
      refine E_aload0 (q := 42) dX6_integerHere_41 rfl ?_
      refine G_X6_integer (q := 45) fl_X6_236 dX6_integerHere_42 rfl ?_
      refine V_int (h.2.2.1.2.2.2.1 hk) ?_
      refine E_goto (q := 49) dX6_integerHere_45 (by decide) ?_
      exact E_ireturn rfl rfl dX6_integerHere_49 (PI_of rfl rfl)
theorem sp_X6_integerX {lo hi : Int32} (hf : M 157 18 ≠ 0) : Spec D 4 yX6_integer cfX6_integer [.ref (ad 157), .int (lo), .int (hi)] (wl D ad M) 0 0 (PI lo (wl D ad M)) := by
  refine Spec.of (by decide) rfl (Nat.le_of_ble_eq_true rfl) rfl ?_
  refine E_aload0 (q := 1) dX6_integer_0 rfl ?_
  refine E_iload1 (q := 2) dX6_integer_1 rfl ?_
  refine E_iload2 (q := 3) dX6_integer_2 rfl ?_
  refine C_V2I (q := 6) lk_X6_251 (sp_X6_integerHereX hf) rc_X6 dX6_integer_3 (by decide) (Nat.le_of_ble_eq_true rfl) rfl ?_
  refine E_istore3 (q := 7) dX6_integer_6 rfl rfl ?_
  refine E_aload0 (q := 8) dX6_integer_7 rfl ?_
  refine C_V0V (q := 11) lk_X6_254 (sp_X6_advanceX hf) rc_X6 dX6_integer_8 (by decide) (Nat.le_of_ble_eq_true rfl) rfl ?_
  refine E_iload3 (q := 12) dX6_integer_11 rfl ?_
  exact E_ireturn rfl rfl dX6_integer_12 (PI_of rfl rfl)
theorem sp_X6_integerK {lo hi : Int32} (h : RdR M b n s g A) (hk : ¬ knd b n s = 2) : Spec D 4 yX6_integer cfX6_integer [.ref (ad 157), .int (lo), .int (hi)] (wl D ad M) 0 0 (PI lo (wl D ad (ft M (-11)))) := by
  refine Spec.of (by decide) rfl (Nat.le_of_ble_eq_true rfl) rfl ?_
  refine E_aload0 (q := 1) dX6_integer_0 rfl ?_
  refine E_iload1 (q := 2) dX6_integer_1 rfl ?_
  refine E_iload2 (q := 3) dX6_integer_2 rfl ?_
  refine C_V2I (q := 6) lk_X6_251 (sp_X6_integerHereK h hk) rc_X6 dX6_integer_3 (by decide) (Nat.le_of_ble_eq_true rfl) rfl ?_
  refine E_istore3 (q := 7) dX6_integer_6 rfl rfl ?_
  refine E_aload0 (q := 8) dX6_integer_7 rfl ?_
  refine C_V0V (q := 11) lk_X6_254 (sp_X6_advanceX (ft_ne (by decide))) rc_X6 dX6_integer_8 (by decide) (Nat.le_of_ble_eq_true rfl) rfl ?_
  refine E_iload3 (q := 12) dX6_integer_11 rfl ?_
  exact E_ireturn rfl rfl dX6_integer_12 (PI_of rfl rfl)
theorem sp_X6_integerR {lo hi : Nat} (h : RdR M b n s g A) (hk : knd b n s = 2) (hlo : lo < 2 ^ 31) (hhi : hi < 2 ^ 31) (hr : ¬ (lo ≤ itv b n s ∧ itv b n s ≤ hi)) : Spec D 4 yX6_integer cfX6_integer [.ref (ad 157), .int (nI (lo)), .int (nI (hi))] (wl D ad M) 0 0 (PI (nI lo) (wl D ad (ft M (-12)))) := by
  refine Spec.of (by decide) rfl (Nat.le_of_ble_eq_true rfl) rfl ?_
  refine E_aload0 (q := 1) dX6_integer_0 rfl ?_
  refine E_iload1 (q := 2) dX6_integer_1 rfl ?_
  refine E_iload2 (q := 3) dX6_integer_2 rfl ?_
  refine C_V2I (q := 6) lk_X6_251 (sp_X6_integerHereR h hk hlo hhi hr) rc_X6 dX6_integer_3 (by decide) (Nat.le_of_ble_eq_true rfl) rfl ?_
  refine E_istore3 (q := 7) dX6_integer_6 rfl rfl ?_
  refine E_aload0 (q := 8) dX6_integer_7 rfl ?_
  refine C_V0V (q := 11) lk_X6_254 (sp_X6_advanceX (ft_ne (by decide))) rc_X6 dX6_integer_8 (by decide) (Nat.le_of_ble_eq_true rfl) rfl ?_
  refine E_iload3 (q := 12) dX6_integer_11 rfl ?_
  exact E_ireturn rfl rfl dX6_integer_12 (PI_of rfl rfl)
theorem sp_X6_integer {lo hi : Nat} (h : RdR M b n s g A) (hk : knd b n s = 2) (hlo : lo < 2 ^ 31) (hhi : hi < 2 ^ 31) (hr : lo ≤ itv b n s ∧ itv b n s ≤ hi) : Spec D 4 yX6_integer cfX6_integer [.ref (ad 157), .int (nI (lo)), .int (nI (hi))] (wl D ad M) 0 0 (PX (fun y w => y = nI (itv b n s) ∧ RAd D ad M b n (nxt b n s) g A w)) := by
  refine Spec.of (by decide) rfl (Nat.le_of_ble_eq_true rfl) rfl ?_
  refine E_aload0 (q := 1) dX6_integer_0 rfl ?_
  refine E_iload1 (q := 2) dX6_integer_1 rfl ?_
  refine E_iload2 (q := 3) dX6_integer_2 rfl ?_
  refine C_V2I (q := 6) lk_X6_251 (sp_X6_integerHere h hk hlo hhi hr) rc_X6 dX6_integer_3 (by decide) (Nat.le_of_ble_eq_true rfl) rfl ?_
  refine E_istore3 (q := 7) dX6_integer_6 rfl rfl ?_
  refine E_aload0 (q := 8) dX6_integer_7 rfl ?_
  refine C_V0Y (q := 11) lk_X6_254 (sp_X6_advR h) rc_X6 dX6_integer_8 (by decide) (Nat.le_of_ble_eq_true rfl) rfl ?_
  refine kkEW ?_
  rintro M1 ⟨h1, f1⟩
  refine E_iload3 (q := 12) dX6_integer_11 rfl ?_
  exact E_ireturn rfl rfl dX6_integer_12 ⟨_, rfl, rfl, M1, rfl, h1, f1⟩
theorem sp_X6_nameHereX (hf : M 157 18 ≠ 0) : Spec D 2 yX6_nameHere cfX6_nameHere [.ref (ad 157)] (wl D ad M) 0 0 (PV (wl D ad M)) := by
  refine Spec.of (by decide) rfl (Nat.le_of_ble_eq_true rfl) rfl ?_
  refine E_aload0 (q := 1) dX6_nameHere_0 rfl ?_
  refine E_aload0 (q := 2) dX6_nameHere_1 rfl ?_
  refine G_X6_token (q := 5) fl_X6_239 dX6_nameHere_2 rfl ?_
  refine E_iconst (v := nI 1) (q := 6) dX6_nameHere_5 (by decide) rfl ?_
  refine E_icmp_ne (tgt := 27) (q := 9) dX6_nameHere_6 (by decide) rfl (fun h6 => ?_) (fun h6 => ?_)
  · skip
    refine E_iconst (v := nI 0) (q := 28) dX6_nameHere_27 (by decide) rfl ?_
    refine E_bipush (v := -11) (q := 30) dX6_nameHere_28 (by decide) rfl ?_
    refine C_V2V (q := 33) lk_X6_247 (sp_X6_checkX hf) rc_X6 dX6_nameHere_30 (by decide) (Nat.le_of_ble_eq_true rfl) rfl ?_
    exact E_vreturn rfl rfl dX6_nameHere_33 (PV_of rfl)
  · skip
    refine E_aload0 (q := 10) dX6_nameHere_9 rfl ?_
    refine G_X6_at (q := 13) fl_X6_214 dX6_nameHere_10 rfl ?_
    refine E_aload0 (q := 14) dX6_nameHere_13 rfl ?_
    refine G_X6_start (q := 17) fl_X6_226 dX6_nameHere_14 rfl ?_
    refine E_isub (q := 18) dX6_nameHere_17 rfl ?_
    refine E_bipush (v := nI 6) (q := 20) dX6_nameHere_18 (by decide) rfl ?_
    refine E_icmp_gt (tgt := 27) (q := 23) dX6_nameHere_20 (by decide) rfl (fun h20 => ?_) (fun h20 => ?_)
    · skip
      refine E_iconst (v := nI 0) (q := 28) dX6_nameHere_27 (by decide) rfl ?_
      refine E_bipush (v := -11) (q := 30) dX6_nameHere_28 (by decide) rfl ?_
      refine C_V2V (q := 33) lk_X6_247 (sp_X6_checkX hf) rc_X6 dX6_nameHere_30 (by decide) (Nat.le_of_ble_eq_true rfl) rfl ?_
      exact E_vreturn rfl rfl dX6_nameHere_33 (PV_of rfl)
    · skip
      refine E_iconst (v := nI 1) (q := 24) dX6_nameHere_23 (by decide) rfl ?_
      refine E_goto (q := 28) dX6_nameHere_24 (by decide) ?_
      refine E_bipush (v := -11) (q := 30) dX6_nameHere_28 (by decide) rfl ?_
      refine C_V2V (q := 33) lk_X6_247 (sp_X6_checkX hf) rc_X6 dX6_nameHere_30 (by decide) (Nat.le_of_ble_eq_true rfl) rfl ?_
      exact E_vreturn rfl rfl dX6_nameHere_33 (PV_of rfl)
theorem sp_X6_nameHereN (h : RdR M b n s g A) (hc : ¬ isNm b n s) : Spec D 2 yX6_nameHere cfX6_nameHere [.ref (ad 157)] (wl D ad M) 0 0 (PV (wl D ad (ft M (-11)))) := by
  refine Spec.of (by decide) rfl (Nat.le_of_ble_eq_true rfl) rfl ?_
  have hk4 := knd_le (b := b) (n := n) (q := s)
  have hle := tokE_le (b := b) h.1.1
  have hn := h.2.1.2.1
  have hsn := h.1.1
  refine E_aload0 (q := 1) dX6_nameHere_0 rfl ?_
  refine E_aload0 (q := 2) dX6_nameHere_1 rfl ?_
  refine G_X6_token (q := 5) fl_X6_239 dX6_nameHere_2 rfl ?_
  refine V_int h.2.2.1.2.2.1 ?_
  refine E_iconst (v := nI 1) (q := 6) dX6_nameHere_5 (by decide) rfl ?_
  refine E_icmp_neN (tgt := 27) (q := 9) dX6_nameHere_6 (by decide) rfl (by omega) (by omega) (fun h6 => ?_) (fun h6 => ?_)
  · skip
    refine E_iconst (v := nI 0) (q := 28) dX6_nameHere_27 (by decide) rfl ?_
    refine E_bipush (v := -11) (q := 30) dX6_nameHere_28 (by decide) rfl ?_
    refine C_V2V (q := 33) lk_X6_247 (sp_X6_checkF h.2.2.2.1) rc_X6 dX6_nameHere_30 (by decide) (Nat.le_of_ble_eq_true rfl) rfl ?_
    exact E_vreturn rfl rfl dX6_nameHere_33 (PV_of rfl)
  · skip
    refine E_aload0 (q := 10) dX6_nameHere_9 rfl ?_
    refine G_X6_at (q := 13) fl_X6_214 dX6_nameHere_10 rfl ?_
    refine V_int h.2.2.1.1 ?_
    refine E_aload0 (q := 14) dX6_nameHere_13 rfl ?_
    refine G_X6_start (q := 17) fl_X6_226 dX6_nameHere_14 rfl ?_
    refine V_int h.2.2.1.2.1 ?_
    refine E_isubN (q := 18) dX6_nameHere_17 (by omega) rfl ?_
    refine E_bipush (v := nI 6) (q := 20) dX6_nameHere_18 (by decide) rfl ?_
    refine E_icmp_gtN (tgt := 27) (q := 23) dX6_nameHere_20 (by decide) rfl (by omega) (by omega) (fun h20 => ?_) (fun h20 => ?_)
    · skip
      refine E_iconst (v := nI 0) (q := 28) dX6_nameHere_27 (by decide) rfl ?_
      refine E_bipush (v := -11) (q := 30) dX6_nameHere_28 (by decide) rfl ?_
      refine C_V2V (q := 33) lk_X6_247 (sp_X6_checkF h.2.2.2.1) rc_X6 dX6_nameHere_30 (by decide) (Nat.le_of_ble_eq_true rfl) rfl ?_
      exact E_vreturn rfl rfl dX6_nameHere_33 (PV_of rfl)
    · skip
      exact absurd ⟨h6, by omega⟩ hc
theorem sp_X6_nameHereT (h : RdR M b n s g A) (hc : isNm b n s) : Spec D 2 yX6_nameHere cfX6_nameHere [.ref (ad 157)] (wl D ad M) 0 0 (PV (wl D ad M)) := by
  refine Spec.of (by decide) rfl (Nat.le_of_ble_eq_true rfl) rfl ?_
  have hk := hc.1
  have hl := hc.2
  have hle := tokE_le (b := b) h.1.1
  have hn := h.2.1.2.1
  have hsn := h.1.1
  refine E_aload0 (q := 1) dX6_nameHere_0 rfl ?_
  refine E_aload0 (q := 2) dX6_nameHere_1 rfl ?_
  refine G_X6_token (q := 5) fl_X6_239 dX6_nameHere_2 rfl ?_
  refine V_int h.2.2.1.2.2.1 ?_
  refine E_iconst (v := nI 1) (q := 6) dX6_nameHere_5 (by decide) rfl ?_
  refine E_icmp_neN (tgt := 27) (q := 9) dX6_nameHere_6 (by decide) rfl (by omega) (by omega) (fun h6 => ?_) (fun h6 => ?_)
  · skip
    exact absurd hk h6
  · skip
    refine E_aload0 (q := 10) dX6_nameHere_9 rfl ?_
    refine G_X6_at (q := 13) fl_X6_214 dX6_nameHere_10 rfl ?_
    refine V_int h.2.2.1.1 ?_
    refine E_aload0 (q := 14) dX6_nameHere_13 rfl ?_
    refine G_X6_start (q := 17) fl_X6_226 dX6_nameHere_14 rfl ?_
    refine V_int h.2.2.1.2.1 ?_
    refine E_isubN (q := 18) dX6_nameHere_17 (by omega) rfl ?_
    refine E_bipush (v := nI 6) (q := 20) dX6_nameHere_18 (by decide) rfl ?_
    refine E_icmp_gtN (tgt := 27) (q := 23) dX6_nameHere_20 (by decide) rfl (by omega) (by omega) (fun h20 => ?_) (fun h20 => ?_)
    · skip
      exact absurd h20 (by omega)
    · skip
      refine E_iconst (v := nI 1) (q := 24) dX6_nameHere_23 (by decide) rfl ?_
      refine E_goto (q := 28) dX6_nameHere_24 (by decide) ?_
      refine E_bipush (v := -11) (q := 30) dX6_nameHere_28 (by decide) rfl ?_
      refine C_V2V (q := 33) lk_X6_247 (sp_X6_checkT) rc_X6 dX6_nameHere_30 (by decide) (Nat.le_of_ble_eq_true rfl) rfl ?_
      exact E_vreturn rfl rfl dX6_nameHere_33 (PV_of rfl)
theorem fnd_lt {P : Nat → Prop} {m : Nat} (hm : m < 2 ^ 31) : fnd P m < 0 ↔ fnd P m = -1 := by
  rcases fnd_or P m with ⟨k, h1, -, -, h4⟩ | ⟨-, h⟩
  · rw [h4]
    exact ⟨fun z => absurd z (nI_pos (by omega)), fun z => absurd z (nI_nm1 (by omega))⟩
  · rw [h]; decide
theorem le_lt {x : Int32} : 0 ≤ x ↔ ¬ x < 0 := Int32.not_lt.symm
theorem sp_X6_newNameVX (hf : M 157 18 ≠ 0) (h : RI M 163 A) : Spec D 5 yX6_newName cfX6_newName [.ref (ad 157), .int (nI (0))] (wl D ad M) 0 0 (PX (fun _ w => w = (wl D ad M))) := by
  refine Spec.of (by decide) rfl (Nat.le_of_ble_eq_true rfl) rfl ?_
  refine E_aload0 (q := 1) dX6_newName_0 rfl ?_
  refine C_V0V (q := 4) lk_X6_257 (sp_X6_nameHereX hf) rc_X6 dX6_newName_1 (by decide) (Nat.le_of_ble_eq_true rfl) rfl ?_
  refine E_aload0 (q := 5) dX6_newName_4 rfl ?_
  refine E_aload0 (q := 6) dX6_newName_5 rfl ?_
  refine E_iload1 (q := 7) dX6_newName_6 rfl ?_
  refine E_aload0 (q := 8) dX6_newName_7 rfl ?_
  refine G_X6_letters (q := 11) fl_X6_233 dX6_newName_8 rfl ?_
  refine C_V2I (q := 14) lk_X6_124 (sp_X6_findV h) rc_X6 dX6_newName_11 (by decide) (Nat.le_of_ble_eq_true rfl) rfl ?_
  refine E_if_ge (tgt := 21) (q := 17) dX6_newName_14 (by decide) rfl (fun h14 => ?_) (fun h14 => ?_)
  · skip
    refine E_iconst (v := nI 0) (q := 22) dX6_newName_21 (by decide) rfl ?_
    refine E_bipush (v := -14) (q := 24) dX6_newName_22 (by decide) rfl ?_
    refine C_V2V (q := 27) lk_X6_247 (sp_X6_checkX hf) rc_X6 dX6_newName_24 (by decide) (Nat.le_of_ble_eq_true rfl) rfl ?_
    refine E_aload0 (q := 28) dX6_newName_27 rfl ?_
    refine G_X6_letters (q := 31) fl_X6_233 dX6_newName_28 rfl ?_
    refine E_istore2 (q := 32) dX6_newName_31 rfl rfl ?_
    refine E_aload0 (q := 33) dX6_newName_32 rfl ?_
    refine C_V0V (q := 36) lk_X6_254 (sp_X6_advanceX hf) rc_X6 dX6_newName_33 (by decide) (Nat.le_of_ble_eq_true rfl) rfl ?_
    refine E_iload2 (q := 37) dX6_newName_36 rfl ?_
    exact E_ireturn rfl rfl dX6_newName_37 ⟨_, rfl, rfl⟩
  · skip
    refine E_iconst (v := nI 1) (q := 18) dX6_newName_17 (by decide) rfl ?_
    refine E_goto (q := 22) dX6_newName_18 (by decide) ?_
    refine E_bipush (v := -14) (q := 24) dX6_newName_22 (by decide) rfl ?_
    refine C_V2V (q := 27) lk_X6_247 (sp_X6_checkX hf) rc_X6 dX6_newName_24 (by decide) (Nat.le_of_ble_eq_true rfl) rfl ?_
    refine E_aload0 (q := 28) dX6_newName_27 rfl ?_
    refine G_X6_letters (q := 31) fl_X6_233 dX6_newName_28 rfl ?_
    refine E_istore2 (q := 32) dX6_newName_31 rfl rfl ?_
    refine E_aload0 (q := 33) dX6_newName_32 rfl ?_
    refine C_V0V (q := 36) lk_X6_254 (sp_X6_advanceX hf) rc_X6 dX6_newName_33 (by decide) (Nat.le_of_ble_eq_true rfl) rfl ?_
    refine E_iload2 (q := 37) dX6_newName_36 rfl ?_
    exact E_ireturn rfl rfl dX6_newName_37 ⟨_, rfl, rfl⟩
theorem sp_X6_newNameVN (h : RdR M b n s g A) (hc : ¬ isNm b n s) : Spec D 5 yX6_newName cfX6_newName [.ref (ad 157), .int (nI (0))] (wl D ad M) 0 0 (PX (fun _ w => w = wl D ad (ft M (-11)))) := by
  refine Spec.of (by decide) rfl (Nat.le_of_ble_eq_true rfl) rfl ?_
  refine E_aload0 (q := 1) dX6_newName_0 rfl ?_
  refine C_V0V (q := 4) lk_X6_257 (sp_X6_nameHereN h hc) rc_X6 dX6_newName_1 (by decide) (Nat.le_of_ble_eq_true rfl) rfl ?_
  refine E_aload0 (q := 5) dX6_newName_4 rfl ?_
  refine E_aload0 (q := 6) dX6_newName_5 rfl ?_
  refine E_iload1 (q := 7) dX6_newName_6 rfl ?_
  refine E_aload0 (q := 8) dX6_newName_7 rfl ?_
  refine G_X6_letters (q := 11) fl_X6_233 dX6_newName_8 rfl ?_
  refine C_V2I (q := 14) lk_X6_124 (sp_X6_findV h.2.2.2.2.2.ft) rc_X6 dX6_newName_11 (by decide) (Nat.le_of_ble_eq_true rfl) rfl ?_
  refine E_if_ge (tgt := 21) (q := 17) dX6_newName_14 (by decide) rfl (fun h14 => ?_) (fun h14 => ?_)
  · skip
    refine E_iconst (v := nI 0) (q := 22) dX6_newName_21 (by decide) rfl ?_
    refine E_bipush (v := -14) (q := 24) dX6_newName_22 (by decide) rfl ?_
    refine C_V2V (q := 27) lk_X6_247 (sp_X6_checkX (ft_ne (by decide))) rc_X6 dX6_newName_24 (by decide) (Nat.le_of_ble_eq_true rfl) rfl ?_
    refine E_aload0 (q := 28) dX6_newName_27 rfl ?_
    refine G_X6_letters (q := 31) fl_X6_233 dX6_newName_28 rfl ?_
    refine E_istore2 (q := 32) dX6_newName_31 rfl rfl ?_
    refine E_aload0 (q := 33) dX6_newName_32 rfl ?_
    refine C_V0V (q := 36) lk_X6_254 (sp_X6_advanceX (ft_ne (by decide))) rc_X6 dX6_newName_33 (by decide) (Nat.le_of_ble_eq_true rfl) rfl ?_
    refine E_iload2 (q := 37) dX6_newName_36 rfl ?_
    exact E_ireturn rfl rfl dX6_newName_37 ⟨_, rfl, rfl⟩
  · skip
    refine E_iconst (v := nI 1) (q := 18) dX6_newName_17 (by decide) rfl ?_
    refine E_goto (q := 22) dX6_newName_18 (by decide) ?_
    refine E_bipush (v := -14) (q := 24) dX6_newName_22 (by decide) rfl ?_
    refine C_V2V (q := 27) lk_X6_247 (sp_X6_checkX (ft_ne (by decide))) rc_X6 dX6_newName_24 (by decide) (Nat.le_of_ble_eq_true rfl) rfl ?_
    refine E_aload0 (q := 28) dX6_newName_27 rfl ?_
    refine G_X6_letters (q := 31) fl_X6_233 dX6_newName_28 rfl ?_
    refine E_istore2 (q := 32) dX6_newName_31 rfl rfl ?_
    refine E_aload0 (q := 33) dX6_newName_32 rfl ?_
    refine C_V0V (q := 36) lk_X6_254 (sp_X6_advanceX (ft_ne (by decide))) rc_X6 dX6_newName_33 (by decide) (Nat.le_of_ble_eq_true rfl) rfl ?_
    refine E_iload2 (q := 37) dX6_newName_36 rfl ?_
    exact E_ireturn rfl rfl dX6_newName_37 ⟨_, rfl, rfl⟩
theorem sp_X6_newNameVF (h : RdR M b n s g A) (hc : isNm b n s) (hf : ¬ fV A (nmc b n s) = -1) : Spec D 5 yX6_newName cfX6_newName [.ref (ad 157), .int (nI (0))] (wl D ad M) 0 0 (PX (fun _ w => w = wl D ad (ft M (-14)))) := by
  refine Spec.of (by decide) rfl (Nat.le_of_ble_eq_true rfl) rfl ?_
  refine E_aload0 (q := 1) dX6_newName_0 rfl ?_
  refine C_V0V (q := 4) lk_X6_257 (sp_X6_nameHereT h hc) rc_X6 dX6_newName_1 (by decide) (Nat.le_of_ble_eq_true rfl) rfl ?_
  refine E_aload0 (q := 5) dX6_newName_4 rfl ?_
  refine E_aload0 (q := 6) dX6_newName_5 rfl ?_
  refine E_iload1 (q := 7) dX6_newName_6 rfl ?_
  refine E_aload0 (q := 8) dX6_newName_7 rfl ?_
  refine G_X6_letters (q := 11) fl_X6_233 dX6_newName_8 rfl ?_
  refine V_int (h.2.2.1.2.2.2.2.1 hc.1).2 ?_
  refine C_V2I (q := 14) lk_X6_124 (sp_X6_findV h.2.2.2.2.2) rc_X6 dX6_newName_11 (by decide) (Nat.le_of_ble_eq_true rfl) rfl ?_
  refine E_if_ge (tgt := 21) (q := 17) dX6_newName_14 (by decide) rfl (fun h14 => ?_) (fun h14 => ?_)
  · skip
    refine E_iconst (v := nI 0) (q := 22) dX6_newName_21 (by decide) rfl ?_
    refine E_bipush (v := -14) (q := 24) dX6_newName_22 (by decide) rfl ?_
    refine C_V2V (q := 27) lk_X6_247 (sp_X6_checkF h.2.2.2.1) rc_X6 dX6_newName_24 (by decide) (Nat.le_of_ble_eq_true rfl) rfl ?_
    refine E_aload0 (q := 28) dX6_newName_27 rfl ?_
    refine G_X6_letters (q := 31) fl_X6_233 dX6_newName_28 rfl ?_
    refine E_istore2 (q := 32) dX6_newName_31 rfl rfl ?_
    refine E_aload0 (q := 33) dX6_newName_32 rfl ?_
    refine C_V0V (q := 36) lk_X6_254 (sp_X6_advanceX (ft_ne (by decide))) rc_X6 dX6_newName_33 (by decide) (Nat.le_of_ble_eq_true rfl) rfl ?_
    refine E_iload2 (q := 37) dX6_newName_36 rfl ?_
    exact E_ireturn rfl rfl dX6_newName_37 ⟨_, rfl, rfl⟩
  · skip
    exact absurd ((fnd_lt (by decide)).mp (Int32.not_le.mp h14)) hf
theorem sp_X6_newNameV (h : RdR M b n s g A) (hc : isNm b n s) (hf : fV A (nmc b n s) = -1) : Spec D 5 yX6_newName cfX6_newName [.ref (ad 157), .int (nI (0))] (wl D ad M) 0 0 (PX (fun y w => y = nI (nmc b n s) ∧ RAd D ad M b n (nxt b n s) g A w)) := by
  refine Spec.of (by decide) rfl (Nat.le_of_ble_eq_true rfl) rfl ?_
  refine E_aload0 (q := 1) dX6_newName_0 rfl ?_
  refine C_V0V (q := 4) lk_X6_257 (sp_X6_nameHereT h hc) rc_X6 dX6_newName_1 (by decide) (Nat.le_of_ble_eq_true rfl) rfl ?_
  refine E_aload0 (q := 5) dX6_newName_4 rfl ?_
  refine E_aload0 (q := 6) dX6_newName_5 rfl ?_
  refine E_iload1 (q := 7) dX6_newName_6 rfl ?_
  refine E_aload0 (q := 8) dX6_newName_7 rfl ?_
  refine G_X6_letters (q := 11) fl_X6_233 dX6_newName_8 rfl ?_
  refine V_int (h.2.2.1.2.2.2.2.1 hc.1).2 ?_
  refine C_V2I (q := 14) lk_X6_124 (sp_X6_findV h.2.2.2.2.2) rc_X6 dX6_newName_11 (by decide) (Nat.le_of_ble_eq_true rfl) rfl ?_
  refine V_int hf ?_
  refine E_if_ge (tgt := 21) (q := 17) dX6_newName_14 (by decide) rfl (fun h14 => ?_) (fun h14 => ?_)
  · first | exact absurd h14 (by decide) | exact absurd (by decide) h14
  · skip
    refine E_iconst (v := nI 1) (q := 18) dX6_newName_17 (by decide) rfl ?_
    refine E_goto (q := 22) dX6_newName_18 (by decide) ?_
    refine E_bipush (v := -14) (q := 24) dX6_newName_22 (by decide) rfl ?_
    refine C_V2V (q := 27) lk_X6_247 (sp_X6_checkT) rc_X6 dX6_newName_24 (by decide) (Nat.le_of_ble_eq_true rfl) rfl ?_
    refine E_aload0 (q := 28) dX6_newName_27 rfl ?_
    refine G_X6_letters (q := 31) fl_X6_233 dX6_newName_28 rfl ?_
    refine V_int (h.2.2.1.2.2.2.2.1 hc.1).2 ?_
    refine E_istore2 (q := 32) dX6_newName_31 rfl rfl ?_
    refine E_aload0 (q := 33) dX6_newName_32 rfl ?_
    refine C_V0Y (q := 36) lk_X6_254 (sp_X6_advR h) rc_X6 dX6_newName_33 (by decide) (Nat.le_of_ble_eq_true rfl) rfl ?_
    refine kkEW ?_
    rintro M1 ⟨h1, f1⟩
    refine E_iload2 (q := 37) dX6_newName_36 rfl ?_
    exact E_ireturn rfl rfl dX6_newName_37 ⟨_, rfl, rfl, M1, rfl, h1, f1⟩
theorem sp_X6_thingHereVX (hf : M 157 18 ≠ 0) (h : RI M 163 A) : Spec D 5 yX6_thingHere cfX6_thingHere [.ref (ad 157), .int (nI (0))] (wl D ad M) 0 0 (PI (nI 0) (wl D ad M)) := by
  refine Spec.of (by decide) rfl (Nat.le_of_ble_eq_true rfl) rfl ?_
  refine E_aload0 (q := 1) dX6_thingHere_0 rfl ?_
  refine C_V0V (q := 4) lk_X6_257 (sp_X6_nameHereX hf) rc_X6 dX6_thingHere_1 (by decide) (Nat.le_of_ble_eq_true rfl) rfl ?_
  refine E_aload0 (q := 5) dX6_thingHere_4 rfl ?_
  refine E_iload1 (q := 6) dX6_thingHere_5 rfl ?_
  refine E_aload0 (q := 7) dX6_thingHere_6 rfl ?_
  refine G_X6_letters (q := 10) fl_X6_233 dX6_thingHere_7 rfl ?_
  refine C_V2I (q := 13) lk_X6_124 (sp_X6_findV h) rc_X6 dX6_thingHere_10 (by decide) (Nat.le_of_ble_eq_true rfl) rfl ?_
  refine E_istore2 (q := 14) dX6_thingHere_13 rfl rfl ?_
  refine E_aload0 (q := 15) dX6_thingHere_14 rfl ?_
  refine E_iload2 (q := 16) dX6_thingHere_15 rfl ?_
  refine E_if_lt (tgt := 23) (q := 19) dX6_thingHere_16 (by decide) rfl (fun h16 => ?_) (fun h16 => ?_)
  · skip
    refine E_iconst (v := nI 0) (q := 24) dX6_thingHere_23 (by decide) rfl ?_
    refine E_bipush (v := -13) (q := 26) dX6_thingHere_24 (by decide) rfl ?_
    refine C_V2V (q := 29) lk_X6_247 (sp_X6_checkX hf) rc_X6 dX6_thingHere_26 (by decide) (Nat.le_of_ble_eq_true rfl) rfl ?_
    refine E_aload0 (q := 30) dX6_thingHere_29 rfl ?_
    refine G_X6_fault (q := 33) fl_X6_220 dX6_thingHere_30 rfl ?_
    refine E_if_ne (tgt := 40) (q := 36) dX6_thingHere_33 (by decide) rfl (fun h33 => ?_) (fun h33 => ?_)
    · skip
      refine E_iconst (v := nI 0) (q := 41) dX6_thingHere_40 (by decide) rfl ?_
      exact E_ireturn rfl rfl dX6_thingHere_41 (PI_of rfl rfl)
    · skip
      exact absurd h33 hf
  · skip
    refine E_iconst (v := nI 1) (q := 20) dX6_thingHere_19 (by decide) rfl ?_
    refine E_goto (q := 24) dX6_thingHere_20 (by decide) ?_
    refine E_bipush (v := -13) (q := 26) dX6_thingHere_24 (by decide) rfl ?_
    refine C_V2V (q := 29) lk_X6_247 (sp_X6_checkX hf) rc_X6 dX6_thingHere_26 (by decide) (Nat.le_of_ble_eq_true rfl) rfl ?_
    refine E_aload0 (q := 30) dX6_thingHere_29 rfl ?_
    refine G_X6_fault (q := 33) fl_X6_220 dX6_thingHere_30 rfl ?_
    refine E_if_ne (tgt := 40) (q := 36) dX6_thingHere_33 (by decide) rfl (fun h33 => ?_) (fun h33 => ?_)
    · skip
      refine E_iconst (v := nI 0) (q := 41) dX6_thingHere_40 (by decide) rfl ?_
      exact E_ireturn rfl rfl dX6_thingHere_41 (PI_of rfl rfl)
    · skip
      exact absurd h33 hf
theorem sp_X6_thingHereVN (h : RdR M b n s g A) (hc : ¬ isNm b n s) : Spec D 5 yX6_thingHere cfX6_thingHere [.ref (ad 157), .int (nI (0))] (wl D ad M) 0 0 (PI (nI 0) (wl D ad (ft M (-11)))) := by
  refine Spec.of (by decide) rfl (Nat.le_of_ble_eq_true rfl) rfl ?_
  refine E_aload0 (q := 1) dX6_thingHere_0 rfl ?_
  refine C_V0V (q := 4) lk_X6_257 (sp_X6_nameHereN h hc) rc_X6 dX6_thingHere_1 (by decide) (Nat.le_of_ble_eq_true rfl) rfl ?_
  refine E_aload0 (q := 5) dX6_thingHere_4 rfl ?_
  refine E_iload1 (q := 6) dX6_thingHere_5 rfl ?_
  refine E_aload0 (q := 7) dX6_thingHere_6 rfl ?_
  refine G_X6_letters (q := 10) fl_X6_233 dX6_thingHere_7 rfl ?_
  refine C_V2I (q := 13) lk_X6_124 (sp_X6_findV h.2.2.2.2.2.ft) rc_X6 dX6_thingHere_10 (by decide) (Nat.le_of_ble_eq_true rfl) rfl ?_
  refine E_istore2 (q := 14) dX6_thingHere_13 rfl rfl ?_
  refine E_aload0 (q := 15) dX6_thingHere_14 rfl ?_
  refine E_iload2 (q := 16) dX6_thingHere_15 rfl ?_
  refine E_if_lt (tgt := 23) (q := 19) dX6_thingHere_16 (by decide) rfl (fun h16 => ?_) (fun h16 => ?_)
  · skip
    refine E_iconst (v := nI 0) (q := 24) dX6_thingHere_23 (by decide) rfl ?_
    refine E_bipush (v := -13) (q := 26) dX6_thingHere_24 (by decide) rfl ?_
    refine C_V2V (q := 29) lk_X6_247 (sp_X6_checkX (ft_ne (by decide))) rc_X6 dX6_thingHere_26 (by decide) (Nat.le_of_ble_eq_true rfl) rfl ?_
    refine E_aload0 (q := 30) dX6_thingHere_29 rfl ?_
    refine G_X6_fault (q := 33) fl_X6_220 dX6_thingHere_30 rfl ?_
    refine V_int ft_18 ?_
    refine E_if_ne (tgt := 40) (q := 36) dX6_thingHere_33 (by decide) rfl (fun h33 => ?_) (fun h33 => ?_)
    · skip
      refine E_iconst (v := nI 0) (q := 41) dX6_thingHere_40 (by decide) rfl ?_
      exact E_ireturn rfl rfl dX6_thingHere_41 (PI_of rfl rfl)
    · first | exact absurd h33 (by decide) | exact absurd (by decide) h33
  · skip
    refine E_iconst (v := nI 1) (q := 20) dX6_thingHere_19 (by decide) rfl ?_
    refine E_goto (q := 24) dX6_thingHere_20 (by decide) ?_
    refine E_bipush (v := -13) (q := 26) dX6_thingHere_24 (by decide) rfl ?_
    refine C_V2V (q := 29) lk_X6_247 (sp_X6_checkX (ft_ne (by decide))) rc_X6 dX6_thingHere_26 (by decide) (Nat.le_of_ble_eq_true rfl) rfl ?_
    refine E_aload0 (q := 30) dX6_thingHere_29 rfl ?_
    refine G_X6_fault (q := 33) fl_X6_220 dX6_thingHere_30 rfl ?_
    refine V_int ft_18 ?_
    refine E_if_ne (tgt := 40) (q := 36) dX6_thingHere_33 (by decide) rfl (fun h33 => ?_) (fun h33 => ?_)
    · skip
      refine E_iconst (v := nI 0) (q := 41) dX6_thingHere_40 (by decide) rfl ?_
      exact E_ireturn rfl rfl dX6_thingHere_41 (PI_of rfl rfl)
    · first | exact absurd h33 (by decide) | exact absurd (by decide) h33
theorem sp_X6_thingHereVF (h : RdR M b n s g A) (hc : isNm b n s) (hf : fV A (nmc b n s) = -1) : Spec D 5 yX6_thingHere cfX6_thingHere [.ref (ad 157), .int (nI (0))] (wl D ad M) 0 0 (PI (nI 0) (wl D ad (ft M (-13)))) := by
  refine Spec.of (by decide) rfl (Nat.le_of_ble_eq_true rfl) rfl ?_
  refine E_aload0 (q := 1) dX6_thingHere_0 rfl ?_
  refine C_V0V (q := 4) lk_X6_257 (sp_X6_nameHereT h hc) rc_X6 dX6_thingHere_1 (by decide) (Nat.le_of_ble_eq_true rfl) rfl ?_
  refine E_aload0 (q := 5) dX6_thingHere_4 rfl ?_
  refine E_iload1 (q := 6) dX6_thingHere_5 rfl ?_
  refine E_aload0 (q := 7) dX6_thingHere_6 rfl ?_
  refine G_X6_letters (q := 10) fl_X6_233 dX6_thingHere_7 rfl ?_
  refine V_int (h.2.2.1.2.2.2.2.1 hc.1).2 ?_
  refine C_V2I (q := 13) lk_X6_124 (sp_X6_findV h.2.2.2.2.2) rc_X6 dX6_thingHere_10 (by decide) (Nat.le_of_ble_eq_true rfl) rfl ?_
  refine V_int hf ?_
  refine E_istore2 (q := 14) dX6_thingHere_13 rfl rfl ?_
  refine E_aload0 (q := 15) dX6_thingHere_14 rfl ?_
  refine E_iload2 (q := 16) dX6_thingHere_15 rfl ?_
  refine E_if_lt (tgt := 23) (q := 19) dX6_thingHere_16 (by decide) rfl (fun h16 => ?_) (fun h16 => ?_)
  · skip
    refine E_iconst (v := nI 0) (q := 24) dX6_thingHere_23 (by decide) rfl ?_
    refine E_bipush (v := -13) (q := 26) dX6_thingHere_24 (by decide) rfl ?_
    refine C_V2V (q := 29) lk_X6_247 (sp_X6_checkF h.2.2.2.1) rc_X6 dX6_thingHere_26 (by decide) (Nat.le_of_ble_eq_true rfl) rfl ?_
    refine E_aload0 (q := 30) dX6_thingHere_29 rfl ?_
    refine G_X6_fault (q := 33) fl_X6_220 dX6_thingHere_30 rfl ?_
    refine V_int ft_18 ?_
    refine E_if_ne (tgt := 40) (q := 36) dX6_thingHere_33 (by decide) rfl (fun h33 => ?_) (fun h33 => ?_)
    · skip
      refine E_iconst (v := nI 0) (q := 41) dX6_thingHere_40 (by decide) rfl ?_
      exact E_ireturn rfl rfl dX6_thingHere_41 (PI_of rfl rfl)
    · first | exact absurd h33 (by decide) | exact absurd (by decide) h33
  · first | exact absurd h16 (by decide) | exact absurd (by decide) h16
theorem sp_X6_thingHereV {v : Nat} (h : RdR M b n s g A) (hc : isNm b n s) (hv : v < 6) (hf : fV A (nmc b n s) = nI v) : Spec D 5 yX6_thingHere cfX6_thingHere [.ref (ad 157), .int (nI (0))] (wl D ad M) 0 0 (PI (nI v) (wl D ad M)) := by
  refine Spec.of (by decide) rfl (Nat.le_of_ble_eq_true rfl) rfl ?_
  refine E_aload0 (q := 1) dX6_thingHere_0 rfl ?_
  refine C_V0V (q := 4) lk_X6_257 (sp_X6_nameHereT h hc) rc_X6 dX6_thingHere_1 (by decide) (Nat.le_of_ble_eq_true rfl) rfl ?_
  refine E_aload0 (q := 5) dX6_thingHere_4 rfl ?_
  refine E_iload1 (q := 6) dX6_thingHere_5 rfl ?_
  refine E_aload0 (q := 7) dX6_thingHere_6 rfl ?_
  refine G_X6_letters (q := 10) fl_X6_233 dX6_thingHere_7 rfl ?_
  refine V_int (h.2.2.1.2.2.2.2.1 hc.1).2 ?_
  refine C_V2I (q := 13) lk_X6_124 (sp_X6_findV h.2.2.2.2.2) rc_X6 dX6_thingHere_10 (by decide) (Nat.le_of_ble_eq_true rfl) rfl ?_
  refine V_int hf ?_
  refine E_istore2 (q := 14) dX6_thingHere_13 rfl rfl ?_
  refine E_aload0 (q := 15) dX6_thingHere_14 rfl ?_
  refine E_iload2 (q := 16) dX6_thingHere_15 rfl ?_
  refine E_if_lt (tgt := 23) (q := 19) dX6_thingHere_16 (by decide) rfl (fun h16 => ?_) (fun h16 => ?_)
  · skip
    exact absurd h16 (nI_pos (by omega))
  · skip
    refine E_iconst (v := nI 1) (q := 20) dX6_thingHere_19 (by decide) rfl ?_
    refine E_goto (q := 24) dX6_thingHere_20 (by decide) ?_
    refine E_bipush (v := -13) (q := 26) dX6_thingHere_24 (by decide) rfl ?_
    refine C_V2V (q := 29) lk_X6_247 (sp_X6_checkT) rc_X6 dX6_thingHere_26 (by decide) (Nat.le_of_ble_eq_true rfl) rfl ?_
    refine E_aload0 (q := 30) dX6_thingHere_29 rfl ?_
    refine G_X6_fault (q := 33) fl_X6_220 dX6_thingHere_30 rfl ?_
    refine V_int h.2.2.2.1 ?_
    refine E_if_ne (tgt := 40) (q := 36) dX6_thingHere_33 (by decide) rfl (fun h33 => ?_) (fun h33 => ?_)
    · first | exact absurd h33 (by decide) | exact absurd (by decide) h33
    · skip
      refine E_iload2 (q := 37) dX6_thingHere_36 rfl ?_
      refine E_goto (q := 41) dX6_thingHere_37 (by decide) ?_
      exact E_ireturn rfl rfl dX6_thingHere_41 (PI_of rfl rfl)
theorem sp_X6_newNameSX (hf : M 157 18 ≠ 0) (h : RI M 163 A) : Spec D 5 yX6_newName cfX6_newName [.ref (ad 157), .int (nI (1))] (wl D ad M) 0 0 (PX (fun _ w => w = (wl D ad M))) := by
  refine Spec.of (by decide) rfl (Nat.le_of_ble_eq_true rfl) rfl ?_
  refine E_aload0 (q := 1) dX6_newName_0 rfl ?_
  refine C_V0V (q := 4) lk_X6_257 (sp_X6_nameHereX hf) rc_X6 dX6_newName_1 (by decide) (Nat.le_of_ble_eq_true rfl) rfl ?_
  refine E_aload0 (q := 5) dX6_newName_4 rfl ?_
  refine E_aload0 (q := 6) dX6_newName_5 rfl ?_
  refine E_iload1 (q := 7) dX6_newName_6 rfl ?_
  refine E_aload0 (q := 8) dX6_newName_7 rfl ?_
  refine G_X6_letters (q := 11) fl_X6_233 dX6_newName_8 rfl ?_
  refine C_V2I (q := 14) lk_X6_124 (sp_X6_findS h) rc_X6 dX6_newName_11 (by decide) (Nat.le_of_ble_eq_true rfl) rfl ?_
  refine E_if_ge (tgt := 21) (q := 17) dX6_newName_14 (by decide) rfl (fun h14 => ?_) (fun h14 => ?_)
  · skip
    refine E_iconst (v := nI 0) (q := 22) dX6_newName_21 (by decide) rfl ?_
    refine E_bipush (v := -14) (q := 24) dX6_newName_22 (by decide) rfl ?_
    refine C_V2V (q := 27) lk_X6_247 (sp_X6_checkX hf) rc_X6 dX6_newName_24 (by decide) (Nat.le_of_ble_eq_true rfl) rfl ?_
    refine E_aload0 (q := 28) dX6_newName_27 rfl ?_
    refine G_X6_letters (q := 31) fl_X6_233 dX6_newName_28 rfl ?_
    refine E_istore2 (q := 32) dX6_newName_31 rfl rfl ?_
    refine E_aload0 (q := 33) dX6_newName_32 rfl ?_
    refine C_V0V (q := 36) lk_X6_254 (sp_X6_advanceX hf) rc_X6 dX6_newName_33 (by decide) (Nat.le_of_ble_eq_true rfl) rfl ?_
    refine E_iload2 (q := 37) dX6_newName_36 rfl ?_
    exact E_ireturn rfl rfl dX6_newName_37 ⟨_, rfl, rfl⟩
  · skip
    refine E_iconst (v := nI 1) (q := 18) dX6_newName_17 (by decide) rfl ?_
    refine E_goto (q := 22) dX6_newName_18 (by decide) ?_
    refine E_bipush (v := -14) (q := 24) dX6_newName_22 (by decide) rfl ?_
    refine C_V2V (q := 27) lk_X6_247 (sp_X6_checkX hf) rc_X6 dX6_newName_24 (by decide) (Nat.le_of_ble_eq_true rfl) rfl ?_
    refine E_aload0 (q := 28) dX6_newName_27 rfl ?_
    refine G_X6_letters (q := 31) fl_X6_233 dX6_newName_28 rfl ?_
    refine E_istore2 (q := 32) dX6_newName_31 rfl rfl ?_
    refine E_aload0 (q := 33) dX6_newName_32 rfl ?_
    refine C_V0V (q := 36) lk_X6_254 (sp_X6_advanceX hf) rc_X6 dX6_newName_33 (by decide) (Nat.le_of_ble_eq_true rfl) rfl ?_
    refine E_iload2 (q := 37) dX6_newName_36 rfl ?_
    exact E_ireturn rfl rfl dX6_newName_37 ⟨_, rfl, rfl⟩
theorem sp_X6_newNameSN (h : RdR M b n s g A) (hc : ¬ isNm b n s) : Spec D 5 yX6_newName cfX6_newName [.ref (ad 157), .int (nI (1))] (wl D ad M) 0 0 (PX (fun _ w => w = wl D ad (ft M (-11)))) := by
  refine Spec.of (by decide) rfl (Nat.le_of_ble_eq_true rfl) rfl ?_
  refine E_aload0 (q := 1) dX6_newName_0 rfl ?_
  refine C_V0V (q := 4) lk_X6_257 (sp_X6_nameHereN h hc) rc_X6 dX6_newName_1 (by decide) (Nat.le_of_ble_eq_true rfl) rfl ?_
  refine E_aload0 (q := 5) dX6_newName_4 rfl ?_
  refine E_aload0 (q := 6) dX6_newName_5 rfl ?_
  refine E_iload1 (q := 7) dX6_newName_6 rfl ?_
  refine E_aload0 (q := 8) dX6_newName_7 rfl ?_
  refine G_X6_letters (q := 11) fl_X6_233 dX6_newName_8 rfl ?_
  refine C_V2I (q := 14) lk_X6_124 (sp_X6_findS h.2.2.2.2.2.ft) rc_X6 dX6_newName_11 (by decide) (Nat.le_of_ble_eq_true rfl) rfl ?_
  refine E_if_ge (tgt := 21) (q := 17) dX6_newName_14 (by decide) rfl (fun h14 => ?_) (fun h14 => ?_)
  · skip
    refine E_iconst (v := nI 0) (q := 22) dX6_newName_21 (by decide) rfl ?_
    refine E_bipush (v := -14) (q := 24) dX6_newName_22 (by decide) rfl ?_
    refine C_V2V (q := 27) lk_X6_247 (sp_X6_checkX (ft_ne (by decide))) rc_X6 dX6_newName_24 (by decide) (Nat.le_of_ble_eq_true rfl) rfl ?_
    refine E_aload0 (q := 28) dX6_newName_27 rfl ?_
    refine G_X6_letters (q := 31) fl_X6_233 dX6_newName_28 rfl ?_
    refine E_istore2 (q := 32) dX6_newName_31 rfl rfl ?_
    refine E_aload0 (q := 33) dX6_newName_32 rfl ?_
    refine C_V0V (q := 36) lk_X6_254 (sp_X6_advanceX (ft_ne (by decide))) rc_X6 dX6_newName_33 (by decide) (Nat.le_of_ble_eq_true rfl) rfl ?_
    refine E_iload2 (q := 37) dX6_newName_36 rfl ?_
    exact E_ireturn rfl rfl dX6_newName_37 ⟨_, rfl, rfl⟩
  · skip
    refine E_iconst (v := nI 1) (q := 18) dX6_newName_17 (by decide) rfl ?_
    refine E_goto (q := 22) dX6_newName_18 (by decide) ?_
    refine E_bipush (v := -14) (q := 24) dX6_newName_22 (by decide) rfl ?_
    refine C_V2V (q := 27) lk_X6_247 (sp_X6_checkX (ft_ne (by decide))) rc_X6 dX6_newName_24 (by decide) (Nat.le_of_ble_eq_true rfl) rfl ?_
    refine E_aload0 (q := 28) dX6_newName_27 rfl ?_
    refine G_X6_letters (q := 31) fl_X6_233 dX6_newName_28 rfl ?_
    refine E_istore2 (q := 32) dX6_newName_31 rfl rfl ?_
    refine E_aload0 (q := 33) dX6_newName_32 rfl ?_
    refine C_V0V (q := 36) lk_X6_254 (sp_X6_advanceX (ft_ne (by decide))) rc_X6 dX6_newName_33 (by decide) (Nat.le_of_ble_eq_true rfl) rfl ?_
    refine E_iload2 (q := 37) dX6_newName_36 rfl ?_
    exact E_ireturn rfl rfl dX6_newName_37 ⟨_, rfl, rfl⟩
theorem sp_X6_newNameSF (h : RdR M b n s g A) (hc : isNm b n s) (hf : ¬ fS A (nmc b n s) = -1) : Spec D 5 yX6_newName cfX6_newName [.ref (ad 157), .int (nI (1))] (wl D ad M) 0 0 (PX (fun _ w => w = wl D ad (ft M (-14)))) := by
  refine Spec.of (by decide) rfl (Nat.le_of_ble_eq_true rfl) rfl ?_
  refine E_aload0 (q := 1) dX6_newName_0 rfl ?_
  refine C_V0V (q := 4) lk_X6_257 (sp_X6_nameHereT h hc) rc_X6 dX6_newName_1 (by decide) (Nat.le_of_ble_eq_true rfl) rfl ?_
  refine E_aload0 (q := 5) dX6_newName_4 rfl ?_
  refine E_aload0 (q := 6) dX6_newName_5 rfl ?_
  refine E_iload1 (q := 7) dX6_newName_6 rfl ?_
  refine E_aload0 (q := 8) dX6_newName_7 rfl ?_
  refine G_X6_letters (q := 11) fl_X6_233 dX6_newName_8 rfl ?_
  refine V_int (h.2.2.1.2.2.2.2.1 hc.1).2 ?_
  refine C_V2I (q := 14) lk_X6_124 (sp_X6_findS h.2.2.2.2.2) rc_X6 dX6_newName_11 (by decide) (Nat.le_of_ble_eq_true rfl) rfl ?_
  refine E_if_ge (tgt := 21) (q := 17) dX6_newName_14 (by decide) rfl (fun h14 => ?_) (fun h14 => ?_)
  · skip
    refine E_iconst (v := nI 0) (q := 22) dX6_newName_21 (by decide) rfl ?_
    refine E_bipush (v := -14) (q := 24) dX6_newName_22 (by decide) rfl ?_
    refine C_V2V (q := 27) lk_X6_247 (sp_X6_checkF h.2.2.2.1) rc_X6 dX6_newName_24 (by decide) (Nat.le_of_ble_eq_true rfl) rfl ?_
    refine E_aload0 (q := 28) dX6_newName_27 rfl ?_
    refine G_X6_letters (q := 31) fl_X6_233 dX6_newName_28 rfl ?_
    refine E_istore2 (q := 32) dX6_newName_31 rfl rfl ?_
    refine E_aload0 (q := 33) dX6_newName_32 rfl ?_
    refine C_V0V (q := 36) lk_X6_254 (sp_X6_advanceX (ft_ne (by decide))) rc_X6 dX6_newName_33 (by decide) (Nat.le_of_ble_eq_true rfl) rfl ?_
    refine E_iload2 (q := 37) dX6_newName_36 rfl ?_
    exact E_ireturn rfl rfl dX6_newName_37 ⟨_, rfl, rfl⟩
  · skip
    exact absurd ((fnd_lt (by decide)).mp (Int32.not_le.mp h14)) hf
theorem sp_X6_newNameS (h : RdR M b n s g A) (hc : isNm b n s) (hf : fS A (nmc b n s) = -1) : Spec D 5 yX6_newName cfX6_newName [.ref (ad 157), .int (nI (1))] (wl D ad M) 0 0 (PX (fun y w => y = nI (nmc b n s) ∧ RAd D ad M b n (nxt b n s) g A w)) := by
  refine Spec.of (by decide) rfl (Nat.le_of_ble_eq_true rfl) rfl ?_
  refine E_aload0 (q := 1) dX6_newName_0 rfl ?_
  refine C_V0V (q := 4) lk_X6_257 (sp_X6_nameHereT h hc) rc_X6 dX6_newName_1 (by decide) (Nat.le_of_ble_eq_true rfl) rfl ?_
  refine E_aload0 (q := 5) dX6_newName_4 rfl ?_
  refine E_aload0 (q := 6) dX6_newName_5 rfl ?_
  refine E_iload1 (q := 7) dX6_newName_6 rfl ?_
  refine E_aload0 (q := 8) dX6_newName_7 rfl ?_
  refine G_X6_letters (q := 11) fl_X6_233 dX6_newName_8 rfl ?_
  refine V_int (h.2.2.1.2.2.2.2.1 hc.1).2 ?_
  refine C_V2I (q := 14) lk_X6_124 (sp_X6_findS h.2.2.2.2.2) rc_X6 dX6_newName_11 (by decide) (Nat.le_of_ble_eq_true rfl) rfl ?_
  refine V_int hf ?_
  refine E_if_ge (tgt := 21) (q := 17) dX6_newName_14 (by decide) rfl (fun h14 => ?_) (fun h14 => ?_)
  · first | exact absurd h14 (by decide) | exact absurd (by decide) h14
  · skip
    refine E_iconst (v := nI 1) (q := 18) dX6_newName_17 (by decide) rfl ?_
    refine E_goto (q := 22) dX6_newName_18 (by decide) ?_
    refine E_bipush (v := -14) (q := 24) dX6_newName_22 (by decide) rfl ?_
    refine C_V2V (q := 27) lk_X6_247 (sp_X6_checkT) rc_X6 dX6_newName_24 (by decide) (Nat.le_of_ble_eq_true rfl) rfl ?_
    refine E_aload0 (q := 28) dX6_newName_27 rfl ?_
    refine G_X6_letters (q := 31) fl_X6_233 dX6_newName_28 rfl ?_
    refine V_int (h.2.2.1.2.2.2.2.1 hc.1).2 ?_
    refine E_istore2 (q := 32) dX6_newName_31 rfl rfl ?_
    refine E_aload0 (q := 33) dX6_newName_32 rfl ?_
    refine C_V0Y (q := 36) lk_X6_254 (sp_X6_advR h) rc_X6 dX6_newName_33 (by decide) (Nat.le_of_ble_eq_true rfl) rfl ?_
    refine kkEW ?_
    rintro M1 ⟨h1, f1⟩
    refine E_iload2 (q := 37) dX6_newName_36 rfl ?_
    exact E_ireturn rfl rfl dX6_newName_37 ⟨_, rfl, rfl, M1, rfl, h1, f1⟩
theorem sp_X6_thingHereSX (hf : M 157 18 ≠ 0) (h : RI M 163 A) : Spec D 5 yX6_thingHere cfX6_thingHere [.ref (ad 157), .int (nI (1))] (wl D ad M) 0 0 (PI (nI 0) (wl D ad M)) := by
  refine Spec.of (by decide) rfl (Nat.le_of_ble_eq_true rfl) rfl ?_
  refine E_aload0 (q := 1) dX6_thingHere_0 rfl ?_
  refine C_V0V (q := 4) lk_X6_257 (sp_X6_nameHereX hf) rc_X6 dX6_thingHere_1 (by decide) (Nat.le_of_ble_eq_true rfl) rfl ?_
  refine E_aload0 (q := 5) dX6_thingHere_4 rfl ?_
  refine E_iload1 (q := 6) dX6_thingHere_5 rfl ?_
  refine E_aload0 (q := 7) dX6_thingHere_6 rfl ?_
  refine G_X6_letters (q := 10) fl_X6_233 dX6_thingHere_7 rfl ?_
  refine C_V2I (q := 13) lk_X6_124 (sp_X6_findS h) rc_X6 dX6_thingHere_10 (by decide) (Nat.le_of_ble_eq_true rfl) rfl ?_
  refine E_istore2 (q := 14) dX6_thingHere_13 rfl rfl ?_
  refine E_aload0 (q := 15) dX6_thingHere_14 rfl ?_
  refine E_iload2 (q := 16) dX6_thingHere_15 rfl ?_
  refine E_if_lt (tgt := 23) (q := 19) dX6_thingHere_16 (by decide) rfl (fun h16 => ?_) (fun h16 => ?_)
  · skip
    refine E_iconst (v := nI 0) (q := 24) dX6_thingHere_23 (by decide) rfl ?_
    refine E_bipush (v := -13) (q := 26) dX6_thingHere_24 (by decide) rfl ?_
    refine C_V2V (q := 29) lk_X6_247 (sp_X6_checkX hf) rc_X6 dX6_thingHere_26 (by decide) (Nat.le_of_ble_eq_true rfl) rfl ?_
    refine E_aload0 (q := 30) dX6_thingHere_29 rfl ?_
    refine G_X6_fault (q := 33) fl_X6_220 dX6_thingHere_30 rfl ?_
    refine E_if_ne (tgt := 40) (q := 36) dX6_thingHere_33 (by decide) rfl (fun h33 => ?_) (fun h33 => ?_)
    · skip
      refine E_iconst (v := nI 0) (q := 41) dX6_thingHere_40 (by decide) rfl ?_
      exact E_ireturn rfl rfl dX6_thingHere_41 (PI_of rfl rfl)
    · skip
      exact absurd h33 hf
  · skip
    refine E_iconst (v := nI 1) (q := 20) dX6_thingHere_19 (by decide) rfl ?_
    refine E_goto (q := 24) dX6_thingHere_20 (by decide) ?_
    refine E_bipush (v := -13) (q := 26) dX6_thingHere_24 (by decide) rfl ?_
    refine C_V2V (q := 29) lk_X6_247 (sp_X6_checkX hf) rc_X6 dX6_thingHere_26 (by decide) (Nat.le_of_ble_eq_true rfl) rfl ?_
    refine E_aload0 (q := 30) dX6_thingHere_29 rfl ?_
    refine G_X6_fault (q := 33) fl_X6_220 dX6_thingHere_30 rfl ?_
    refine E_if_ne (tgt := 40) (q := 36) dX6_thingHere_33 (by decide) rfl (fun h33 => ?_) (fun h33 => ?_)
    · skip
      refine E_iconst (v := nI 0) (q := 41) dX6_thingHere_40 (by decide) rfl ?_
      exact E_ireturn rfl rfl dX6_thingHere_41 (PI_of rfl rfl)
    · skip
      exact absurd h33 hf
theorem sp_X6_thingHereSN (h : RdR M b n s g A) (hc : ¬ isNm b n s) : Spec D 5 yX6_thingHere cfX6_thingHere [.ref (ad 157), .int (nI (1))] (wl D ad M) 0 0 (PI (nI 0) (wl D ad (ft M (-11)))) := by
  refine Spec.of (by decide) rfl (Nat.le_of_ble_eq_true rfl) rfl ?_
  refine E_aload0 (q := 1) dX6_thingHere_0 rfl ?_
  refine C_V0V (q := 4) lk_X6_257 (sp_X6_nameHereN h hc) rc_X6 dX6_thingHere_1 (by decide) (Nat.le_of_ble_eq_true rfl) rfl ?_
  refine E_aload0 (q := 5) dX6_thingHere_4 rfl ?_
  refine E_iload1 (q := 6) dX6_thingHere_5 rfl ?_
  refine E_aload0 (q := 7) dX6_thingHere_6 rfl ?_
  refine G_X6_letters (q := 10) fl_X6_233 dX6_thingHere_7 rfl ?_
  refine C_V2I (q := 13) lk_X6_124 (sp_X6_findS h.2.2.2.2.2.ft) rc_X6 dX6_thingHere_10 (by decide) (Nat.le_of_ble_eq_true rfl) rfl ?_
  refine E_istore2 (q := 14) dX6_thingHere_13 rfl rfl ?_
  refine E_aload0 (q := 15) dX6_thingHere_14 rfl ?_
  refine E_iload2 (q := 16) dX6_thingHere_15 rfl ?_
  refine E_if_lt (tgt := 23) (q := 19) dX6_thingHere_16 (by decide) rfl (fun h16 => ?_) (fun h16 => ?_)
  · skip
    refine E_iconst (v := nI 0) (q := 24) dX6_thingHere_23 (by decide) rfl ?_
    refine E_bipush (v := -13) (q := 26) dX6_thingHere_24 (by decide) rfl ?_
    refine C_V2V (q := 29) lk_X6_247 (sp_X6_checkX (ft_ne (by decide))) rc_X6 dX6_thingHere_26 (by decide) (Nat.le_of_ble_eq_true rfl) rfl ?_
    refine E_aload0 (q := 30) dX6_thingHere_29 rfl ?_
    refine G_X6_fault (q := 33) fl_X6_220 dX6_thingHere_30 rfl ?_
    refine V_int ft_18 ?_
    refine E_if_ne (tgt := 40) (q := 36) dX6_thingHere_33 (by decide) rfl (fun h33 => ?_) (fun h33 => ?_)
    · skip
      refine E_iconst (v := nI 0) (q := 41) dX6_thingHere_40 (by decide) rfl ?_
      exact E_ireturn rfl rfl dX6_thingHere_41 (PI_of rfl rfl)
    · first | exact absurd h33 (by decide) | exact absurd (by decide) h33
  · skip
    refine E_iconst (v := nI 1) (q := 20) dX6_thingHere_19 (by decide) rfl ?_
    refine E_goto (q := 24) dX6_thingHere_20 (by decide) ?_
    refine E_bipush (v := -13) (q := 26) dX6_thingHere_24 (by decide) rfl ?_
    refine C_V2V (q := 29) lk_X6_247 (sp_X6_checkX (ft_ne (by decide))) rc_X6 dX6_thingHere_26 (by decide) (Nat.le_of_ble_eq_true rfl) rfl ?_
    refine E_aload0 (q := 30) dX6_thingHere_29 rfl ?_
    refine G_X6_fault (q := 33) fl_X6_220 dX6_thingHere_30 rfl ?_
    refine V_int ft_18 ?_
    refine E_if_ne (tgt := 40) (q := 36) dX6_thingHere_33 (by decide) rfl (fun h33 => ?_) (fun h33 => ?_)
    · skip
      refine E_iconst (v := nI 0) (q := 41) dX6_thingHere_40 (by decide) rfl ?_
      exact E_ireturn rfl rfl dX6_thingHere_41 (PI_of rfl rfl)
    · first | exact absurd h33 (by decide) | exact absurd (by decide) h33
theorem sp_X6_thingHereSF (h : RdR M b n s g A) (hc : isNm b n s) (hf : fS A (nmc b n s) = -1) : Spec D 5 yX6_thingHere cfX6_thingHere [.ref (ad 157), .int (nI (1))] (wl D ad M) 0 0 (PI (nI 0) (wl D ad (ft M (-13)))) := by
  refine Spec.of (by decide) rfl (Nat.le_of_ble_eq_true rfl) rfl ?_
  refine E_aload0 (q := 1) dX6_thingHere_0 rfl ?_
  refine C_V0V (q := 4) lk_X6_257 (sp_X6_nameHereT h hc) rc_X6 dX6_thingHere_1 (by decide) (Nat.le_of_ble_eq_true rfl) rfl ?_
  refine E_aload0 (q := 5) dX6_thingHere_4 rfl ?_
  refine E_iload1 (q := 6) dX6_thingHere_5 rfl ?_
  refine E_aload0 (q := 7) dX6_thingHere_6 rfl ?_
  refine G_X6_letters (q := 10) fl_X6_233 dX6_thingHere_7 rfl ?_
  refine V_int (h.2.2.1.2.2.2.2.1 hc.1).2 ?_
  refine C_V2I (q := 13) lk_X6_124 (sp_X6_findS h.2.2.2.2.2) rc_X6 dX6_thingHere_10 (by decide) (Nat.le_of_ble_eq_true rfl) rfl ?_
  refine V_int hf ?_
  refine E_istore2 (q := 14) dX6_thingHere_13 rfl rfl ?_
  refine E_aload0 (q := 15) dX6_thingHere_14 rfl ?_
  refine E_iload2 (q := 16) dX6_thingHere_15 rfl ?_
  refine E_if_lt (tgt := 23) (q := 19) dX6_thingHere_16 (by decide) rfl (fun h16 => ?_) (fun h16 => ?_)
  · skip
    refine E_iconst (v := nI 0) (q := 24) dX6_thingHere_23 (by decide) rfl ?_
    refine E_bipush (v := -13) (q := 26) dX6_thingHere_24 (by decide) rfl ?_
    refine C_V2V (q := 29) lk_X6_247 (sp_X6_checkF h.2.2.2.1) rc_X6 dX6_thingHere_26 (by decide) (Nat.le_of_ble_eq_true rfl) rfl ?_
    refine E_aload0 (q := 30) dX6_thingHere_29 rfl ?_
    refine G_X6_fault (q := 33) fl_X6_220 dX6_thingHere_30 rfl ?_
    refine V_int ft_18 ?_
    refine E_if_ne (tgt := 40) (q := 36) dX6_thingHere_33 (by decide) rfl (fun h33 => ?_) (fun h33 => ?_)
    · skip
      refine E_iconst (v := nI 0) (q := 41) dX6_thingHere_40 (by decide) rfl ?_
      exact E_ireturn rfl rfl dX6_thingHere_41 (PI_of rfl rfl)
    · first | exact absurd h33 (by decide) | exact absurd (by decide) h33
  · first | exact absurd h16 (by decide) | exact absurd (by decide) h16
theorem sp_X6_thingHereS {v : Nat} (h : RdR M b n s g A) (hc : isNm b n s) (hv : v < 16) (hf : fS A (nmc b n s) = nI v) : Spec D 5 yX6_thingHere cfX6_thingHere [.ref (ad 157), .int (nI (1))] (wl D ad M) 0 0 (PI (nI v) (wl D ad M)) := by
  refine Spec.of (by decide) rfl (Nat.le_of_ble_eq_true rfl) rfl ?_
  refine E_aload0 (q := 1) dX6_thingHere_0 rfl ?_
  refine C_V0V (q := 4) lk_X6_257 (sp_X6_nameHereT h hc) rc_X6 dX6_thingHere_1 (by decide) (Nat.le_of_ble_eq_true rfl) rfl ?_
  refine E_aload0 (q := 5) dX6_thingHere_4 rfl ?_
  refine E_iload1 (q := 6) dX6_thingHere_5 rfl ?_
  refine E_aload0 (q := 7) dX6_thingHere_6 rfl ?_
  refine G_X6_letters (q := 10) fl_X6_233 dX6_thingHere_7 rfl ?_
  refine V_int (h.2.2.1.2.2.2.2.1 hc.1).2 ?_
  refine C_V2I (q := 13) lk_X6_124 (sp_X6_findS h.2.2.2.2.2) rc_X6 dX6_thingHere_10 (by decide) (Nat.le_of_ble_eq_true rfl) rfl ?_
  refine V_int hf ?_
  refine E_istore2 (q := 14) dX6_thingHere_13 rfl rfl ?_
  refine E_aload0 (q := 15) dX6_thingHere_14 rfl ?_
  refine E_iload2 (q := 16) dX6_thingHere_15 rfl ?_
  refine E_if_lt (tgt := 23) (q := 19) dX6_thingHere_16 (by decide) rfl (fun h16 => ?_) (fun h16 => ?_)
  · skip
    exact absurd h16 (nI_pos (by omega))
  · skip
    refine E_iconst (v := nI 1) (q := 20) dX6_thingHere_19 (by decide) rfl ?_
    refine E_goto (q := 24) dX6_thingHere_20 (by decide) ?_
    refine E_bipush (v := -13) (q := 26) dX6_thingHere_24 (by decide) rfl ?_
    refine C_V2V (q := 29) lk_X6_247 (sp_X6_checkT) rc_X6 dX6_thingHere_26 (by decide) (Nat.le_of_ble_eq_true rfl) rfl ?_
    refine E_aload0 (q := 30) dX6_thingHere_29 rfl ?_
    refine G_X6_fault (q := 33) fl_X6_220 dX6_thingHere_30 rfl ?_
    refine V_int h.2.2.2.1 ?_
    refine E_if_ne (tgt := 40) (q := 36) dX6_thingHere_33 (by decide) rfl (fun h33 => ?_) (fun h33 => ?_)
    · first | exact absurd h33 (by decide) | exact absurd (by decide) h33
    · skip
      refine E_iload2 (q := 37) dX6_thingHere_36 rfl ?_
      refine E_goto (q := 41) dX6_thingHere_37 (by decide) ?_
      exact E_ireturn rfl rfl dX6_thingHere_41 (PI_of rfl rfl)
theorem sp_X6_thingX (hf : M 157 18 ≠ 0) (h : RI M 163 A) : Spec D 6 yX6_thing cfX6_thing [.ref (ad 157), .int (nI (0))] (wl D ad M) 0 0 (PI (nI 0) (wl D ad M)) := by
  refine Spec.of (by decide) rfl (Nat.le_of_ble_eq_true rfl) rfl ?_
  refine E_aload0 (q := 1) dX6_thing_0 rfl ?_
  refine E_iload1 (q := 2) dX6_thing_1 rfl ?_
  refine C_V1I (q := 5) lk_X6_260 (sp_X6_thingHereVX hf h) rc_X6 dX6_thing_2 (by decide) (Nat.le_of_ble_eq_true rfl) rfl ?_
  refine E_istore2 (q := 6) dX6_thing_5 rfl rfl ?_
  refine E_aload0 (q := 7) dX6_thing_6 rfl ?_
  refine C_V0V (q := 10) lk_X6_254 (sp_X6_advanceX hf) rc_X6 dX6_thing_7 (by decide) (Nat.le_of_ble_eq_true rfl) rfl ?_
  refine E_iload2 (q := 11) dX6_thing_10 rfl ?_
  exact E_ireturn rfl rfl dX6_thing_11 (PI_of rfl rfl)
theorem sp_X6_thingN (h : RdR M b n s g A) (hc : ¬ isNm b n s) : Spec D 6 yX6_thing cfX6_thing [.ref (ad 157), .int (nI (0))] (wl D ad M) 0 0 (PI (nI 0) (wl D ad (ft M (-11)))) := by
  refine Spec.of (by decide) rfl (Nat.le_of_ble_eq_true rfl) rfl ?_
  refine E_aload0 (q := 1) dX6_thing_0 rfl ?_
  refine E_iload1 (q := 2) dX6_thing_1 rfl ?_
  refine C_V1I (q := 5) lk_X6_260 (sp_X6_thingHereVN h hc) rc_X6 dX6_thing_2 (by decide) (Nat.le_of_ble_eq_true rfl) rfl ?_
  refine E_istore2 (q := 6) dX6_thing_5 rfl rfl ?_
  refine E_aload0 (q := 7) dX6_thing_6 rfl ?_
  refine C_V0V (q := 10) lk_X6_254 (sp_X6_advanceX (ft_ne (by decide))) rc_X6 dX6_thing_7 (by decide) (Nat.le_of_ble_eq_true rfl) rfl ?_
  refine E_iload2 (q := 11) dX6_thing_10 rfl ?_
  exact E_ireturn rfl rfl dX6_thing_11 (PI_of rfl rfl)
theorem sp_X6_thingF (h : RdR M b n s g A) (hc : isNm b n s) (hf : fV A (nmc b n s) = -1) : Spec D 6 yX6_thing cfX6_thing [.ref (ad 157), .int (nI (0))] (wl D ad M) 0 0 (PI (nI 0) (wl D ad (ft M (-13)))) := by
  refine Spec.of (by decide) rfl (Nat.le_of_ble_eq_true rfl) rfl ?_
  refine E_aload0 (q := 1) dX6_thing_0 rfl ?_
  refine E_iload1 (q := 2) dX6_thing_1 rfl ?_
  refine C_V1I (q := 5) lk_X6_260 (sp_X6_thingHereVF h hc hf) rc_X6 dX6_thing_2 (by decide) (Nat.le_of_ble_eq_true rfl) rfl ?_
  refine E_istore2 (q := 6) dX6_thing_5 rfl rfl ?_
  refine E_aload0 (q := 7) dX6_thing_6 rfl ?_
  refine C_V0V (q := 10) lk_X6_254 (sp_X6_advanceX (ft_ne (by decide))) rc_X6 dX6_thing_7 (by decide) (Nat.le_of_ble_eq_true rfl) rfl ?_
  refine E_iload2 (q := 11) dX6_thing_10 rfl ?_
  exact E_ireturn rfl rfl dX6_thing_11 (PI_of rfl rfl)
theorem sp_X6_thing {v : Nat} (h : RdR M b n s g A) (hc : isNm b n s) (hv : v < 6) (hf : fV A (nmc b n s) = nI v) : Spec D 6 yX6_thing cfX6_thing [.ref (ad 157), .int (nI (0))] (wl D ad M) 0 0 (PX (fun y w => y = nI v ∧ RAd D ad M b n (nxt b n s) g A w)) := by
  refine Spec.of (by decide) rfl (Nat.le_of_ble_eq_true rfl) rfl ?_
  refine E_aload0 (q := 1) dX6_thing_0 rfl ?_
  refine E_iload1 (q := 2) dX6_thing_1 rfl ?_
  refine C_V1I (q := 5) lk_X6_260 (sp_X6_thingHereV h hc hv hf) rc_X6 dX6_thing_2 (by decide) (Nat.le_of_ble_eq_true rfl) rfl ?_
  refine E_istore2 (q := 6) dX6_thing_5 rfl rfl ?_
  refine E_aload0 (q := 7) dX6_thing_6 rfl ?_
  refine C_V0Y (q := 10) lk_X6_254 (sp_X6_advR h) rc_X6 dX6_thing_7 (by decide) (Nat.le_of_ble_eq_true rfl) rfl ?_
  refine kkEW ?_
  rintro M1 ⟨h1, f1⟩
  refine E_iload2 (q := 11) dX6_thing_10 rfl ?_
  exact E_ireturn rfl rfl dX6_thing_11 ⟨_, rfl, rfl, M1, rfl, h1, f1⟩
/-- a row that has become another pool's -/
def RQ (D : va_G) (ad : Nat → Nat) (M : Mem) (wx : Nat) (B : AS) : va_W → Prop := fun w => ∃ M', w = wl D ad M' ∧ RI M' wx B ∧ ∀ c, c ≠ wx → M' c = M c
theorem RQ_of {B : AS} {w : va_W} (h : RI M wx A) (hB : WF B) (hw : RW D ad M wx B w) : RQ D ad M wx B w := by
  obtain ⟨f, h1, h2⟩ := hw
  exact ⟨row2 M wx f, h2, RI.row h.1 h1 hB, fun c hc => row2_ne hc⟩
theorem sp_X6_mkVN {nm : Nat} (h : RI M wx A) (hv : aV A < 6) (hn : nm < 2 ^ 30) : Spec D 3 yX6_makeVolume cfX6_makeVolume [.ref (ad 157), .int (-1), .int (nI nm)] (wl D ad M) 0 0 (PX (fun x w => x = nI (aV A) ∧ RQ D ad M wx (mkVol A 0 nm) w)) := by
  have h0 := sp_X6_makeVolN (D := D) (ad := ad) (nm := nm) h.1 h.2.1 h.2.2 hv
  rw [row2_self] at h0
  exact h0.mono fun v w hw => by
    obtain ⟨r, h1, h2, h3⟩ := hw
    exact ⟨r, h1, h2, RQ_of h (mkVol_WF h.2.2 hv hn (Or.inl rfl)) h3⟩
theorem sp_X6_mkVS {nm x : Nat} (h : RI M wx A) (hv : aV A < 6) (hn : nm < 2 ^ 30) (hx : x < 16) (hxt : th A x) : Spec D 3 yX6_makeVolume cfX6_makeVolume [.ref (ad 157), .int (nI x), .int (nI nm)] (wl D ad M) 0 0 (PX (fun y w => y = nI (aV A) ∧ RQ D ad M wx (mkVol A (x + 1) nm) w)) := by
  have h0 := sp_X6_makeVolS (D := D) (ad := ad) (nm := nm) h.1 h.2.1 h.2.2 hv hx
  rw [row2_self] at h0
  exact h0.mono fun v w hw => by
    obtain ⟨r, h1, h2, h3⟩ := hw
    exact ⟨r, h1, h2, RQ_of h (mkVol_WF h.2.2 hv hn (Or.inr ⟨x, rfl, hx, hxt⟩)) h3⟩
theorem sp_X6_mkSn {v nm : Nat} (h : RI M wx A) (hs : aS A < 16) (hn : nm < 2 ^ 30) (hv : v < 6) (hvt : th A (16 + v)) (hT : aT A + 1 < 2 ^ 24) : Spec D 3 yX6_makeSnapshot cfX6_makeSnapshot [.ref (ad 157), .int (nI v), .int (nI nm)] (wl D ad M) 0 0 (PX (fun y w => y = nI (aS A) ∧ RQ D ad M wx (mkSnp A v nm) w)) := by
  have h0 := sp_X6_makeSnapshot (D := D) (ad := ad) (nm := nm) h.1 h.2.1 h.2.2 hs hv hvt
  rw [row2_self] at h0
  exact h0.mono fun v w hw => by
    obtain ⟨r, h1, h2, h3⟩ := hw
    exact ⟨r, h1, h2, RQ_of h (mkSnp_WF h.2.2 hs hv hvt hn hT) h3⟩
theorem sp_X6_mkBl {v a z : Nat} (h : RI M wx A) (hv : v < 6) (hvt : th A (16 + v)) (ha : a < 12) (hz : 1 ≤ z ∧ z ≤ 9) (hT : aT A + 1 < 2 ^ 24) : Spec D 3 yX6_makeBlock cfX6_makeBlock [.ref (ad 157), .int (nI v), .int (nI a), .int (nI z)] (wl D ad M) 0 0 (PX (fun y w => y = nI (aT A + 1) ∧ RQ D ad M wx (mkBlk A v a z) w)) := by
  have h0 := sp_X6_makeBlock (D := D) (ad := ad) (z := z) h.1 h.2.1 h.2.2 hv ha
  rw [row2_self] at h0
  exact h0.mono fun v w hw => by
    obtain ⟨r, h1, h2, h3⟩ := hw
    exact ⟨r, h1, h2, RQ_of h (mkBlk_WF h.2.2 hv hvt ha hz hT) h3⟩
end MODEL