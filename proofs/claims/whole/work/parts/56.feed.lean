
/-! FEEDING AND LOADING -/
section FEED
variable {D : va_G} {ad : Nat → Nat} {M M1 : Mem} {ws : va_W} {A : AS} {tx : Nat → Nat} {n s t f : Nat} {x : Int32} {H : List AS}
/-- the byte k of x, the first one the highest -/
def byN (x : Int32) (k : Nat) : Nat := x.toBitVec.toNat / 2 ^ (24 - 8 * k) % 256
theorem byN_lt (x : Int32) (k : Nat) : byN x k < 256 := Nat.mod_lt _ (by decide)
theorem and255 (a : Nat) : nI a &&& nI 255 = nI (a % 256) := by
  rw [nI_and, show (255 : Nat) = 2 ^ 8 - 1 by rfl, Nat.and_two_pow_sub_one_eq_mod]
theorem ush_by {k : Nat} (hk : k < 4) : (x.toUInt32 >>> ((nI (24 - 8 * k)).toUInt32 &&& Int32.toUInt32 31)).toInt32 &&& nI 255 = nI (byN x k) := by
  have hx : x.toBitVec.toNat < 2 ^ 32 := x.toBitVec.isLt
  have e : (x.toUInt32 >>> ((nI (24 - 8 * k)).toUInt32 &&& Int32.toUInt32 31)).toInt32 = nI (x.toBitVec.toNat / 2 ^ (24 - 8 * k)) := by
    conv => lhs; rw [nI_self x]
    refine pk_ushrN hx _ (24 - 8 * k) ?_
    rcases (show k = 0 ∨ k = 1 ∨ k = 2 ∨ k = 3 by omega) with rfl | rfl | rfl | rfl <;> decide
  rw [e, and255]
  rfl
theorem ssh_by {k : Nat} (hk : k < 4) : (x >>> (nI (24 - 8 * k) &&& 31)).toInt8.toInt32 &&& nI 255 = nI (byN x k) := by
  have e : (x >>> (nI (24 - 8 * k) &&& 31)).toInt8.toInt32 &&& nI 255 = (x >>> (nI (24 - 8 * k) &&& 31)) &&& nI 255 := bp_b _
  rw [e, ← ush_by hk]
  refine b_ext fun i hi => ?_
  rw [b_and, b_and, b_sshr _ (by omega) _ hi, b_ushr _ (by omega), show bt (nI 255) i = decide (i < 8) from b_255 i]
  by_cases c : i < 8
  · rw [if_pos (by omega)]
  · simp [c]
theorem chr_by {k : Nat} (hk : k < 4) : ((((x.toUInt32 >>> ((nI (24 - 8 * k)).toUInt32 &&& Int32.toUInt32 31)).toInt32) &&& nI 255).toUInt32 % 65536).toInt32 = nI (byN x k) := by
  have h := byN_lt x k
  rw [ush_by hk, pk_char, pk_tn (by omega), Nat.mod_eq_of_lt (by omega)]
theorem nar_chr {q : Nat} (h : q < 256) : vp_nar .char (nI q) = nI q := by
  unfold vp_nar
  rw [(pk_charN (show q < 65536 by omega)).1]
def tx1 (tx : Nat → Nat) (f y : Nat) : Nat → Nat := fun i => if i = f then y else tx i
def tx4 (tx : Nat → Nat) (f : Nat) (x : Int32) : Nat → Nat := tx1 (tx1 (tx1 (tx1 tx f (byN x 0)) (f + 1) (byN x 1)) (f + 2) (byN x 2)) (f + 3) (byN x 3)
theorem tx1_lt {y : Nat} (h : ∀ i, tx i < 256) (hy : y < 256) : ∀ i, tx1 tx f y i < 256 := fun i => by
  unfold tx1; split
  · exact hy
  · exact h i
/-- the class's text; the reference's -/
def TxC (M : Mem) (f : Nat) (tx : Nat → Nat) : Prop := f ≤ 1000 ∧ M 133 1 = nI f ∧ (∀ i, tx i < 256) ∧ ∀ i, i < f → M 134 i = nI (tx i)
def TxQ (M : Mem) (f : Nat) (tx : Nat → Nat) : Prop := f ≤ 1000 ∧ M 157 9 = nI f ∧ (∀ i, tx i < 256) ∧ ∀ i, i < f → M 162 i &&& nI 255 = nI (tx i)
def FrT (M M' : Mem) : Prop := (∀ c, c ≠ 133 → c ≠ 134 → M' c = M c) ∧ ∀ j, j ≠ 1 → M' 133 j = M 133 j
theorem FrT.tr {M1 M2 : Mem} (h : FrT M M1) (h2 : FrT M1 M2) : FrT M M2 := ⟨fun c a d => (h2.1 c a d).trans (h.1 c a d), fun j a => (h2.2 j a).trans (h.2 j a)⟩
def FrQ (M M' : Mem) : Prop := (∀ c, c ≠ 157 → c ≠ 162 → M' c = M c) ∧ ∀ j, j ≠ 4 → j ≠ 9 → M' 157 j = M 157 j
theorem FrQ.tr {M1 M2 : Mem} (h : FrQ M M1) (h2 : FrQ M1 M2) : FrQ M M2 := ⟨fun c a d => (h2.1 c a d).trans (h.1 c a d), fun j a d => (h2.2 j a d).trans (h.2 j a d)⟩
theorem TxC.put {y : Nat} (h : TxC M f tx) (hf : f < 1000) (hy : y < 256) : TxC (upd2 (upd2 M 134 f (nI y)) 133 1 (nI (f + 1))) (f + 1) (tx1 tx f y) ∧ FrT M (upd2 (upd2 M 134 f (nI y)) 133 1 (nI (f + 1))) := by
  obtain ⟨h1, h2, h3, h4⟩ := h
  refine ⟨⟨by omega, upd2_same, tx1_lt h3 hy, fun i hi => ?_⟩, fun c a d => by rw [upd2_row a, upd2_row d], fun j a => by rw [upd2_ne (by omega), upd2_row (by decide)]⟩
  rw [upd2_row (by decide)]
  unfold tx1
  by_cases c : i = f
  · rw [if_pos c, c]; exact upd2_same
  · rw [if_neg c, upd2_ne (by omega)]; exact h4 i (by omega)
theorem TxQ.put {y : Nat} {v : Int32} (h : TxQ M f tx) (hf : f < 1000) (hy : y < 256) (hv : v &&& nI 255 = nI y) : TxQ (upd2 (upd2 M 162 f v) 157 9 (nI (f + 1))) (f + 1) (tx1 tx f y) ∧ FrQ M (upd2 (upd2 M 162 f v) 157 9 (nI (f + 1))) := by
  obtain ⟨h1, h2, h3, h4⟩ := h
  refine ⟨⟨by omega, upd2_same, tx1_lt h3 hy, fun i hi => ?_⟩, fun c a d => by rw [upd2_row a, upd2_row d], fun j a d => by rw [upd2_ne (by omega), upd2_row (by decide)]⟩
  rw [upd2_row (by decide)]
  unfold tx1
  by_cases c : i = f
  · rw [if_pos c, c, upd2_same]; exact hv
  · rw [if_neg c, upd2_ne (by omega)]; exact h4 i (by omega)
theorem st_X2_append0 {Qf : QF} (h : TxC M f tx) (hf : f < 1000) (kk : ∀ M1, TxC M1 (f + 1) (tx1 tx f (byN x 0)) → FrT M M1 → V D cfX2_append (rmOf 1 0 0) Qf 0 0 3 [some (.ref (ad 133)), some (.int x), some (.int (nI 16))] [] (wl D ad M1)) : V D cfX2_append (rmOf 1 0 0) Qf 0 0 3 [some (.ref (ad 133)), some (.int x), some (.int (nI 24))] [] (wl D ad M) := by
  have hy := byN_lt x 0
  obtain ⟨p1, p2⟩ := h.put hf hy
  refine E_iload2 (q := 4) dX2_append_3 rfl ?_
  refine E_if_lt (tgt := 50) (q := 7) dX2_append_4 (by decide) rfl (fun h4 => ?_) (fun h4 => ?_)
  · first | exact absurd h4 (by decide) | exact absurd (by decide) h4
  · skip
    refine E_aload0 (q := 8) dX2_append_7 rfl ?_
    refine G_X2_filled (q := 11) fl_X2_15 dX2_append_8 rfl ?_
    refine V_int h.2.1 ?_
    refine E_sipush (v := nI 1000) (q := 14) dX2_append_11 (by decide) rfl ?_
    refine E_icmp_geN (tgt := 50) (q := 17) dX2_append_14 (by decide) rfl (by omega) (by omega) (fun h14 => ?_) (fun h14 => ?_)
    · skip
      exact absurd h14 (by omega)
    · skip
      refine E_aload0 (q := 18) dX2_append_17 rfl ?_
      refine G_X2_text (q := 21) fl_X2_9 dX2_append_18 rfl ?_
      refine E_aload0 (q := 22) dX2_append_21 rfl ?_
      refine G_X2_filled (q := 25) fl_X2_15 dX2_append_22 rfl ?_
      refine V_int h.2.1 ?_
      refine E_iload1 (q := 26) dX2_append_25 rfl ?_
      refine E_iload2 (q := 27) dX2_append_26 rfl ?_
      refine E_iushr (q := 28) dX2_append_27 rfl rfl ?_
      refine E_sipush (v := nI 255) (q := 31) dX2_append_28 (by decide) rfl ?_
      refine E_iand (q := 32) dX2_append_31 rfl ?_
      refine E_i2c (q := 33) dX2_append_32 rfl ?_
      refine V_int (chr_by (x := x) (k := 0) (by decide)) ?_
      refine E_castN (q := 34) sk_134 (by omega) (by decide) dX2_append_33 rfl ?_
      refine V_ws (congrArg (fun v => wl D ad (upd2 M 134 f v)) (nar_chr hy)) ?_
      refine E_aload0 (q := 35) dX2_append_34 rfl ?_
      refine E_dup (q := 36) dX2_append_35 rfl rfl ?_
      refine G_X2_filled (q := 39) fl_X2_15 dX2_append_36 rfl ?_
      refine V_int (show _ = nI f by rw [upd2_row (by decide)]; exact h.2.1) ?_
      refine E_iconst (v := nI 1) (q := 40) dX2_append_39 (by decide) rfl ?_
      refine E_iaddN (q := 41) dX2_append_40 rfl ?_
      refine P_X2_filled (q := 44) fl_X2_15 dX2_append_41 rfl ?_
      refine E_iinc2 (q := 47) dX2_append_44 (show _ = (nI 16 : Int32) by decide) rfl rfl ?_
      refine E_goto (q := 3) dX2_append_47 (by decide) ?_
      exact kk _ p1 p2
theorem st_X6_append0 {Qf : QF} (h : TxQ M f tx) (hf : f < 1000) (kk : ∀ M1, TxQ M1 (f + 1) (tx1 tx f (byN x 0)) → FrQ M M1 → V D cfX6_append (rmOf 1 0 0) Qf 0 0 3 [some (.ref (ad 157)), some (.int x), some (.int (nI 16))] [] (wl D ad M1)) : V D cfX6_append (rmOf 1 0 0) Qf 0 0 3 [some (.ref (ad 157)), some (.int x), some (.int (nI 24))] [] (wl D ad M) := by
  have hy := byN_lt x 0
  obtain ⟨p1, p2⟩ := h.put hf hy (ssh_by (x := x) (k := 0) (by decide))
  refine E_iload2 (q := 4) dX6_append_3 rfl ?_
  refine E_if_lt (tgt := 36) (q := 7) dX6_append_4 (by decide) rfl (fun h4 => ?_) (fun h4 => ?_)
  · first | exact absurd h4 (by decide) | exact absurd (by decide) h4
  · skip
    refine E_aload0 (q := 8) dX6_append_7 rfl ?_
    refine G_X6_buffer (q := 11) fl_X6_25 dX6_append_8 rfl ?_
    refine E_aload0 (q := 12) dX6_append_11 rfl ?_
    refine G_X6_bufferSize (q := 15) fl_X6_208 dX6_append_12 rfl ?_
    refine V_int h.2.1 ?_
    refine E_iload1 (q := 16) dX6_append_15 rfl ?_
    refine E_iload2 (q := 17) dX6_append_16 rfl ?_
    refine E_ishr (q := 18) dX6_append_17 rfl ?_
    refine E_i2b (q := 19) dX6_append_18 rfl ?_
    refine E_bastN (q := 20) sk_162 (by omega) (by decide) dX6_append_19 rfl ?_
    refine V_ws (congrArg (fun v => wl D ad (upd2 M 162 f v)) (pk_vb _)) ?_
    refine E_aload0 (q := 21) dX6_append_20 rfl ?_
    refine E_dup (q := 22) dX6_append_21 rfl rfl ?_
    refine G_X6_bufferSize (q := 25) fl_X6_208 dX6_append_22 rfl ?_
    refine V_int (show _ = nI f by rw [upd2_row (by decide)]; exact h.2.1) ?_
    refine E_iconst (v := nI 1) (q := 26) dX6_append_25 (by decide) rfl ?_
    refine E_iaddN (q := 27) dX6_append_26 rfl ?_
    refine P_X6_bufferSize (q := 30) fl_X6_208 dX6_append_27 rfl ?_
    refine E_iinc2 (q := 33) dX6_append_30 (show _ = (nI 16 : Int32) by decide) rfl rfl ?_
    refine E_goto (q := 3) dX6_append_33 (by decide) ?_
    exact kk _ p1 p2
theorem st_X2_append1 {Qf : QF} (h : TxC M f tx) (hf : f < 1000) (kk : ∀ M1, TxC M1 (f + 1) (tx1 tx f (byN x 1)) → FrT M M1 → V D cfX2_append (rmOf 1 0 0) Qf 0 0 3 [some (.ref (ad 133)), some (.int x), some (.int (nI 8))] [] (wl D ad M1)) : V D cfX2_append (rmOf 1 0 0) Qf 0 0 3 [some (.ref (ad 133)), some (.int x), some (.int (nI 16))] [] (wl D ad M) := by
  have hy := byN_lt x 1
  obtain ⟨p1, p2⟩ := h.put hf hy
  refine E_iload2 (q := 4) dX2_append_3 rfl ?_
  refine E_if_lt (tgt := 50) (q := 7) dX2_append_4 (by decide) rfl (fun h4 => ?_) (fun h4 => ?_)
  · first | exact absurd h4 (by decide) | exact absurd (by decide) h4
  · skip
    refine E_aload0 (q := 8) dX2_append_7 rfl ?_
    refine G_X2_filled (q := 11) fl_X2_15 dX2_append_8 rfl ?_
    refine V_int h.2.1 ?_
    refine E_sipush (v := nI 1000) (q := 14) dX2_append_11 (by decide) rfl ?_
    refine E_icmp_geN (tgt := 50) (q := 17) dX2_append_14 (by decide) rfl (by omega) (by omega) (fun h14 => ?_) (fun h14 => ?_)
    · skip
      exact absurd h14 (by omega)
    · skip
      refine E_aload0 (q := 18) dX2_append_17 rfl ?_
      refine G_X2_text (q := 21) fl_X2_9 dX2_append_18 rfl ?_
      refine E_aload0 (q := 22) dX2_append_21 rfl ?_
      refine G_X2_filled (q := 25) fl_X2_15 dX2_append_22 rfl ?_
      refine V_int h.2.1 ?_
      refine E_iload1 (q := 26) dX2_append_25 rfl ?_
      refine E_iload2 (q := 27) dX2_append_26 rfl ?_
      refine E_iushr (q := 28) dX2_append_27 rfl rfl ?_
      refine E_sipush (v := nI 255) (q := 31) dX2_append_28 (by decide) rfl ?_
      refine E_iand (q := 32) dX2_append_31 rfl ?_
      refine E_i2c (q := 33) dX2_append_32 rfl ?_
      refine V_int (chr_by (x := x) (k := 1) (by decide)) ?_
      refine E_castN (q := 34) sk_134 (by omega) (by decide) dX2_append_33 rfl ?_
      refine V_ws (congrArg (fun v => wl D ad (upd2 M 134 f v)) (nar_chr hy)) ?_
      refine E_aload0 (q := 35) dX2_append_34 rfl ?_
      refine E_dup (q := 36) dX2_append_35 rfl rfl ?_
      refine G_X2_filled (q := 39) fl_X2_15 dX2_append_36 rfl ?_
      refine V_int (show _ = nI f by rw [upd2_row (by decide)]; exact h.2.1) ?_
      refine E_iconst (v := nI 1) (q := 40) dX2_append_39 (by decide) rfl ?_
      refine E_iaddN (q := 41) dX2_append_40 rfl ?_
      refine P_X2_filled (q := 44) fl_X2_15 dX2_append_41 rfl ?_
      refine E_iinc2 (q := 47) dX2_append_44 (show _ = (nI 8 : Int32) by decide) rfl rfl ?_
      refine E_goto (q := 3) dX2_append_47 (by decide) ?_
      exact kk _ p1 p2
theorem st_X6_append1 {Qf : QF} (h : TxQ M f tx) (hf : f < 1000) (kk : ∀ M1, TxQ M1 (f + 1) (tx1 tx f (byN x 1)) → FrQ M M1 → V D cfX6_append (rmOf 1 0 0) Qf 0 0 3 [some (.ref (ad 157)), some (.int x), some (.int (nI 8))] [] (wl D ad M1)) : V D cfX6_append (rmOf 1 0 0) Qf 0 0 3 [some (.ref (ad 157)), some (.int x), some (.int (nI 16))] [] (wl D ad M) := by
  have hy := byN_lt x 1
  obtain ⟨p1, p2⟩ := h.put hf hy (ssh_by (x := x) (k := 1) (by decide))
  refine E_iload2 (q := 4) dX6_append_3 rfl ?_
  refine E_if_lt (tgt := 36) (q := 7) dX6_append_4 (by decide) rfl (fun h4 => ?_) (fun h4 => ?_)
  · first | exact absurd h4 (by decide) | exact absurd (by decide) h4
  · skip
    refine E_aload0 (q := 8) dX6_append_7 rfl ?_
    refine G_X6_buffer (q := 11) fl_X6_25 dX6_append_8 rfl ?_
    refine E_aload0 (q := 12) dX6_append_11 rfl ?_
    refine G_X6_bufferSize (q := 15) fl_X6_208 dX6_append_12 rfl ?_
    refine V_int h.2.1 ?_
    refine E_iload1 (q := 16) dX6_append_15 rfl ?_
    refine E_iload2 (q := 17) dX6_append_16 rfl ?_
    refine E_ishr (q := 18) dX6_append_17 rfl ?_
    refine E_i2b (q := 19) dX6_append_18 rfl ?_
    refine E_bastN (q := 20) sk_162 (by omega) (by decide) dX6_append_19 rfl ?_
    refine V_ws (congrArg (fun v => wl D ad (upd2 M 162 f v)) (pk_vb _)) ?_
    refine E_aload0 (q := 21) dX6_append_20 rfl ?_
    refine E_dup (q := 22) dX6_append_21 rfl rfl ?_
    refine G_X6_bufferSize (q := 25) fl_X6_208 dX6_append_22 rfl ?_
    refine V_int (show _ = nI f by rw [upd2_row (by decide)]; exact h.2.1) ?_
    refine E_iconst (v := nI 1) (q := 26) dX6_append_25 (by decide) rfl ?_
    refine E_iaddN (q := 27) dX6_append_26 rfl ?_
    refine P_X6_bufferSize (q := 30) fl_X6_208 dX6_append_27 rfl ?_
    refine E_iinc2 (q := 33) dX6_append_30 (show _ = (nI 8 : Int32) by decide) rfl rfl ?_
    refine E_goto (q := 3) dX6_append_33 (by decide) ?_
    exact kk _ p1 p2
theorem st_X2_append2 {Qf : QF} (h : TxC M f tx) (hf : f < 1000) (kk : ∀ M1, TxC M1 (f + 1) (tx1 tx f (byN x 2)) → FrT M M1 → V D cfX2_append (rmOf 1 0 0) Qf 0 0 3 [some (.ref (ad 133)), some (.int x), some (.int (nI 0))] [] (wl D ad M1)) : V D cfX2_append (rmOf 1 0 0) Qf 0 0 3 [some (.ref (ad 133)), some (.int x), some (.int (nI 8))] [] (wl D ad M) := by
  have hy := byN_lt x 2
  obtain ⟨p1, p2⟩ := h.put hf hy
  refine E_iload2 (q := 4) dX2_append_3 rfl ?_
  refine E_if_lt (tgt := 50) (q := 7) dX2_append_4 (by decide) rfl (fun h4 => ?_) (fun h4 => ?_)
  · first | exact absurd h4 (by decide) | exact absurd (by decide) h4
  · skip
    refine E_aload0 (q := 8) dX2_append_7 rfl ?_
    refine G_X2_filled (q := 11) fl_X2_15 dX2_append_8 rfl ?_
    refine V_int h.2.1 ?_
    refine E_sipush (v := nI 1000) (q := 14) dX2_append_11 (by decide) rfl ?_
    refine E_icmp_geN (tgt := 50) (q := 17) dX2_append_14 (by decide) rfl (by omega) (by omega) (fun h14 => ?_) (fun h14 => ?_)
    · skip
      exact absurd h14 (by omega)
    · skip
      refine E_aload0 (q := 18) dX2_append_17 rfl ?_
      refine G_X2_text (q := 21) fl_X2_9 dX2_append_18 rfl ?_
      refine E_aload0 (q := 22) dX2_append_21 rfl ?_
      refine G_X2_filled (q := 25) fl_X2_15 dX2_append_22 rfl ?_
      refine V_int h.2.1 ?_
      refine E_iload1 (q := 26) dX2_append_25 rfl ?_
      refine E_iload2 (q := 27) dX2_append_26 rfl ?_
      refine E_iushr (q := 28) dX2_append_27 rfl rfl ?_
      refine E_sipush (v := nI 255) (q := 31) dX2_append_28 (by decide) rfl ?_
      refine E_iand (q := 32) dX2_append_31 rfl ?_
      refine E_i2c (q := 33) dX2_append_32 rfl ?_
      refine V_int (chr_by (x := x) (k := 2) (by decide)) ?_
      refine E_castN (q := 34) sk_134 (by omega) (by decide) dX2_append_33 rfl ?_
      refine V_ws (congrArg (fun v => wl D ad (upd2 M 134 f v)) (nar_chr hy)) ?_
      refine E_aload0 (q := 35) dX2_append_34 rfl ?_
      refine E_dup (q := 36) dX2_append_35 rfl rfl ?_
      refine G_X2_filled (q := 39) fl_X2_15 dX2_append_36 rfl ?_
      refine V_int (show _ = nI f by rw [upd2_row (by decide)]; exact h.2.1) ?_
      refine E_iconst (v := nI 1) (q := 40) dX2_append_39 (by decide) rfl ?_
      refine E_iaddN (q := 41) dX2_append_40 rfl ?_
      refine P_X2_filled (q := 44) fl_X2_15 dX2_append_41 rfl ?_
      refine E_iinc2 (q := 47) dX2_append_44 (show _ = (nI 0 : Int32) by decide) rfl rfl ?_
      refine E_goto (q := 3) dX2_append_47 (by decide) ?_
      exact kk _ p1 p2
theorem st_X6_append2 {Qf : QF} (h : TxQ M f tx) (hf : f < 1000) (kk : ∀ M1, TxQ M1 (f + 1) (tx1 tx f (byN x 2)) → FrQ M M1 → V D cfX6_append (rmOf 1 0 0) Qf 0 0 3 [some (.ref (ad 157)), some (.int x), some (.int (nI 0))] [] (wl D ad M1)) : V D cfX6_append (rmOf 1 0 0) Qf 0 0 3 [some (.ref (ad 157)), some (.int x), some (.int (nI 8))] [] (wl D ad M) := by
  have hy := byN_lt x 2
  obtain ⟨p1, p2⟩ := h.put hf hy (ssh_by (x := x) (k := 2) (by decide))
  refine E_iload2 (q := 4) dX6_append_3 rfl ?_
  refine E_if_lt (tgt := 36) (q := 7) dX6_append_4 (by decide) rfl (fun h4 => ?_) (fun h4 => ?_)
  · first | exact absurd h4 (by decide) | exact absurd (by decide) h4
  · skip
    refine E_aload0 (q := 8) dX6_append_7 rfl ?_
    refine G_X6_buffer (q := 11) fl_X6_25 dX6_append_8 rfl ?_
    refine E_aload0 (q := 12) dX6_append_11 rfl ?_
    refine G_X6_bufferSize (q := 15) fl_X6_208 dX6_append_12 rfl ?_
    refine V_int h.2.1 ?_
    refine E_iload1 (q := 16) dX6_append_15 rfl ?_
    refine E_iload2 (q := 17) dX6_append_16 rfl ?_
    refine E_ishr (q := 18) dX6_append_17 rfl ?_
    refine E_i2b (q := 19) dX6_append_18 rfl ?_
    refine E_bastN (q := 20) sk_162 (by omega) (by decide) dX6_append_19 rfl ?_
    refine V_ws (congrArg (fun v => wl D ad (upd2 M 162 f v)) (pk_vb _)) ?_
    refine E_aload0 (q := 21) dX6_append_20 rfl ?_
    refine E_dup (q := 22) dX6_append_21 rfl rfl ?_
    refine G_X6_bufferSize (q := 25) fl_X6_208 dX6_append_22 rfl ?_
    refine V_int (show _ = nI f by rw [upd2_row (by decide)]; exact h.2.1) ?_
    refine E_iconst (v := nI 1) (q := 26) dX6_append_25 (by decide) rfl ?_
    refine E_iaddN (q := 27) dX6_append_26 rfl ?_
    refine P_X6_bufferSize (q := 30) fl_X6_208 dX6_append_27 rfl ?_
    refine E_iinc2 (q := 33) dX6_append_30 (show _ = (nI 0 : Int32) by decide) rfl rfl ?_
    refine E_goto (q := 3) dX6_append_33 (by decide) ?_
    exact kk _ p1 p2
theorem st_X2_append3 {Qf : QF} (h : TxC M f tx) (hf : f < 1000) (kk : ∀ M1, TxC M1 (f + 1) (tx1 tx f (byN x 3)) → FrT M M1 → V D cfX2_append (rmOf 1 0 0) Qf 0 0 3 [some (.ref (ad 133)), some (.int x), some (.int (-8))] [] (wl D ad M1)) : V D cfX2_append (rmOf 1 0 0) Qf 0 0 3 [some (.ref (ad 133)), some (.int x), some (.int (nI 0))] [] (wl D ad M) := by
  have hy := byN_lt x 3
  obtain ⟨p1, p2⟩ := h.put hf hy
  refine E_iload2 (q := 4) dX2_append_3 rfl ?_
  refine E_if_lt (tgt := 50) (q := 7) dX2_append_4 (by decide) rfl (fun h4 => ?_) (fun h4 => ?_)
  · first | exact absurd h4 (by decide) | exact absurd (by decide) h4
  · skip
    refine E_aload0 (q := 8) dX2_append_7 rfl ?_
    refine G_X2_filled (q := 11) fl_X2_15 dX2_append_8 rfl ?_
    refine V_int h.2.1 ?_
    refine E_sipush (v := nI 1000) (q := 14) dX2_append_11 (by decide) rfl ?_
    refine E_icmp_geN (tgt := 50) (q := 17) dX2_append_14 (by decide) rfl (by omega) (by omega) (fun h14 => ?_) (fun h14 => ?_)
    · skip
      exact absurd h14 (by omega)
    · skip
      refine E_aload0 (q := 18) dX2_append_17 rfl ?_
      refine G_X2_text (q := 21) fl_X2_9 dX2_append_18 rfl ?_
      refine E_aload0 (q := 22) dX2_append_21 rfl ?_
      refine G_X2_filled (q := 25) fl_X2_15 dX2_append_22 rfl ?_
      refine V_int h.2.1 ?_
      refine E_iload1 (q := 26) dX2_append_25 rfl ?_
      refine E_iload2 (q := 27) dX2_append_26 rfl ?_
      refine E_iushr (q := 28) dX2_append_27 rfl rfl ?_
      refine E_sipush (v := nI 255) (q := 31) dX2_append_28 (by decide) rfl ?_
      refine E_iand (q := 32) dX2_append_31 rfl ?_
      refine E_i2c (q := 33) dX2_append_32 rfl ?_
      refine V_int (chr_by (x := x) (k := 3) (by decide)) ?_
      refine E_castN (q := 34) sk_134 (by omega) (by decide) dX2_append_33 rfl ?_
      refine V_ws (congrArg (fun v => wl D ad (upd2 M 134 f v)) (nar_chr hy)) ?_
      refine E_aload0 (q := 35) dX2_append_34 rfl ?_
      refine E_dup (q := 36) dX2_append_35 rfl rfl ?_
      refine G_X2_filled (q := 39) fl_X2_15 dX2_append_36 rfl ?_
      refine V_int (show _ = nI f by rw [upd2_row (by decide)]; exact h.2.1) ?_
      refine E_iconst (v := nI 1) (q := 40) dX2_append_39 (by decide) rfl ?_
      refine E_iaddN (q := 41) dX2_append_40 rfl ?_
      refine P_X2_filled (q := 44) fl_X2_15 dX2_append_41 rfl ?_
      refine E_iinc2 (q := 47) dX2_append_44 (show _ = (-8 : Int32) by decide) rfl rfl ?_
      refine E_goto (q := 3) dX2_append_47 (by decide) ?_
      exact kk _ p1 p2
theorem st_X6_append3 {Qf : QF} (h : TxQ M f tx) (hf : f < 1000) (kk : ∀ M1, TxQ M1 (f + 1) (tx1 tx f (byN x 3)) → FrQ M M1 → V D cfX6_append (rmOf 1 0 0) Qf 0 0 3 [some (.ref (ad 157)), some (.int x), some (.int (-8))] [] (wl D ad M1)) : V D cfX6_append (rmOf 1 0 0) Qf 0 0 3 [some (.ref (ad 157)), some (.int x), some (.int (nI 0))] [] (wl D ad M) := by
  have hy := byN_lt x 3
  obtain ⟨p1, p2⟩ := h.put hf hy (ssh_by (x := x) (k := 3) (by decide))
  refine E_iload2 (q := 4) dX6_append_3 rfl ?_
  refine E_if_lt (tgt := 36) (q := 7) dX6_append_4 (by decide) rfl (fun h4 => ?_) (fun h4 => ?_)
  · first | exact absurd h4 (by decide) | exact absurd (by decide) h4
  · skip
    refine E_aload0 (q := 8) dX6_append_7 rfl ?_
    refine G_X6_buffer (q := 11) fl_X6_25 dX6_append_8 rfl ?_
    refine E_aload0 (q := 12) dX6_append_11 rfl ?_
    refine G_X6_bufferSize (q := 15) fl_X6_208 dX6_append_12 rfl ?_
    refine V_int h.2.1 ?_
    refine E_iload1 (q := 16) dX6_append_15 rfl ?_
    refine E_iload2 (q := 17) dX6_append_16 rfl ?_
    refine E_ishr (q := 18) dX6_append_17 rfl ?_
    refine E_i2b (q := 19) dX6_append_18 rfl ?_
    refine E_bastN (q := 20) sk_162 (by omega) (by decide) dX6_append_19 rfl ?_
    refine V_ws (congrArg (fun v => wl D ad (upd2 M 162 f v)) (pk_vb _)) ?_
    refine E_aload0 (q := 21) dX6_append_20 rfl ?_
    refine E_dup (q := 22) dX6_append_21 rfl rfl ?_
    refine G_X6_bufferSize (q := 25) fl_X6_208 dX6_append_22 rfl ?_
    refine V_int (show _ = nI f by rw [upd2_row (by decide)]; exact h.2.1) ?_
    refine E_iconst (v := nI 1) (q := 26) dX6_append_25 (by decide) rfl ?_
    refine E_iaddN (q := 27) dX6_append_26 rfl ?_
    refine P_X6_bufferSize (q := 30) fl_X6_208 dX6_append_27 rfl ?_
    refine E_iinc2 (q := 33) dX6_append_30 (show _ = (-8 : Int32) by decide) rfl rfl ?_
    refine E_goto (q := 3) dX6_append_33 (by decide) ?_
    exact kk _ p1 p2
theorem en_X2_append {M0 : Mem} {P : Mem → Prop} (hP : P M) : V D cfX2_append (rmOf 1 0 0) (QM D (PY (fun w => ∃ M', w = wl D ad M' ∧ P M')) 0 0) 0 0 3 [some (.ref (ad 133)), some (.int x), some (.int (-8))] [] (wl D ad M) := by
  refine E_iload2 (q := 4) dX2_append_3 rfl ?_
  refine E_if_lt (tgt := 50) (q := 7) dX2_append_4 (by decide) rfl (fun h4 => ?_) (fun h4 => ?_)
  · skip
    exact E_vreturn rfl rfl dX2_append_50 ⟨rfl, M, rfl, hP⟩
  · first | exact absurd h4 (by decide) | exact absurd (by decide) h4
theorem sp_X2_append (h : TxC M f tx) (hf : f + 4 ≤ 1000) : Spec D 1 yX2_append cfX2_append [.ref (ad 133), .int x] (wl D ad M) 0 0 (PY (fun w => ∃ M', w = wl D ad M' ∧ (TxC M' (f + 4) (tx4 tx f x) ∧ FrT M M'))) := by
  refine Spec.of (by decide) rfl (Nat.le_of_ble_eq_true rfl) rfl ?_
  refine E_bipush (v := nI 24) (q := 2) dX2_append_0 (by decide) rfl ?_
  refine E_istore2 (q := 3) dX2_append_2 rfl rfl ?_
  refine st_X2_append0 h (by omega) (fun M1 t1 f1 => ?_)
  refine st_X2_append1 t1 (by omega) (fun M2 t2 f2 => ?_)
  refine st_X2_append2 t2 (by omega) (fun M3 t3 f3 => ?_)
  refine st_X2_append3 t3 (by omega) (fun M4 t4 f4 => ?_)
  exact en_X2_append (M0 := M) (P := fun M' => TxC M' (f + 4) (tx4 tx f x) ∧ FrT M M') ⟨t4, ((f1.tr f2).tr f3).tr f4⟩
theorem en_X6_append {M0 : Mem} {P : Mem → Prop} (hP : P M) : V D cfX6_append (rmOf 1 0 0) (QM D (PY (fun w => ∃ M', w = wl D ad M' ∧ P M')) 0 0) 0 0 3 [some (.ref (ad 157)), some (.int x), some (.int (-8))] [] (wl D ad M) := by
  refine E_iload2 (q := 4) dX6_append_3 rfl ?_
  refine E_if_lt (tgt := 36) (q := 7) dX6_append_4 (by decide) rfl (fun h4 => ?_) (fun h4 => ?_)
  · skip
    exact E_vreturn rfl rfl dX6_append_36 ⟨rfl, M, rfl, hP⟩
  · first | exact absurd h4 (by decide) | exact absurd (by decide) h4
theorem sp_X6_append (h : TxQ M f tx) (hf : f + 4 ≤ 1000) : Spec D 1 yX6_append cfX6_append [.ref (ad 157), .int x] (wl D ad M) 0 0 (PY (fun w => ∃ M', w = wl D ad M' ∧ (TxQ M' (f + 4) (tx4 tx f x) ∧ FrQ M M'))) := by
  refine Spec.of (by decide) rfl (Nat.le_of_ble_eq_true rfl) rfl ?_
  refine E_bipush (v := nI 24) (q := 2) dX6_append_0 (by decide) rfl ?_
  refine E_istore2 (q := 3) dX6_append_2 rfl rfl ?_
  refine st_X6_append0 h (by omega) (fun M1 t1 f1 => ?_)
  refine st_X6_append1 t1 (by omega) (fun M2 t2 f2 => ?_)
  refine st_X6_append2 t2 (by omega) (fun M3 t3 f3 => ?_)
  refine st_X6_append3 t3 (by omega) (fun M4 t4 f4 => ?_)
  exact en_X6_append (M0 := M) (P := fun M' => TxQ M' (f + 4) (tx4 tx f x) ∧ FrQ M M') ⟨t4, ((f1.tr f2).tr f3).tr f4⟩
def fdT (tx : Nat → Nat) (f : Nat) (a b c d e : Int32) : Nat → Nat := tx4 (tx4 (tx4 (tx4 (tx4 tx f a) (f + 4) b) (f + 4 + 4) c) (f + 4 + 4 + 4) d) (f + 4 + 4 + 4 + 4) e
theorem sp_X5_feedF {a b c d e : Int32} (h : TxC M f tx) (hf : 1000 < f + 20) : Spec D 10 yX5_feed cfX5_feed [.ref (ad 0), .int a, .int b, .int c, .int d, .int e] (wl D ad M) 0 0 (PI (-3) (wl D ad M)) := by
  have h1 := h.1
  refine Spec.of (by decide) rfl (Nat.le_of_ble_eq_true rfl) rfl ?_
  refine E_aload0 (q := 1) dX5_feed_0 rfl ?_
  refine G_X5_loader (q := 4) fl_X5_26 dX5_feed_1 rfl ?_
  refine G_X2_filled (q := 7) fl_X5_44 dX5_feed_4 rfl ?_
  refine V_int h.2.1 ?_
  refine E_bipush (v := nI 20) (q := 9) dX5_feed_7 (by decide) rfl ?_
  refine E_iaddN (q := 10) dX5_feed_9 rfl ?_
  refine E_sipush (v := nI 1000) (q := 13) dX5_feed_10 (by decide) rfl ?_
  refine E_icmp_leN (tgt := 19) (q := 16) dX5_feed_13 (by decide) rfl (by omega) (by omega) (fun h13 => ?_) (fun h13 => ?_)
  · skip
    exact absurd h13 (by omega)
  · skip
    refine E_bipush (v := -3) (q := 18) dX5_feed_16 (by decide) rfl ?_
    exact E_ireturn rfl rfl dX5_feed_18 (PI_of rfl rfl)
theorem sp_X5_feed {a b c d e : Int32} (h : TxC M f tx) (hf : f + 20 ≤ 1000) : Spec D 10 yX5_feed cfX5_feed [.ref (ad 0), .int a, .int b, .int c, .int d, .int e] (wl D ad M) 0 0 (PX (fun y w => y = nI (f + 20) ∧ ∃ M', w = wl D ad M' ∧ (TxC M' (f + 20) (fdT tx f a b c d e) ∧ FrT M M'))) := by
  have h1 := h.1
  refine Spec.of (by decide) rfl (Nat.le_of_ble_eq_true rfl) rfl ?_
  refine E_aload0 (q := 1) dX5_feed_0 rfl ?_
  refine G_X5_loader (q := 4) fl_X5_26 dX5_feed_1 rfl ?_
  refine G_X2_filled (q := 7) fl_X5_44 dX5_feed_4 rfl ?_
  refine V_int h.2.1 ?_
  refine E_bipush (v := nI 20) (q := 9) dX5_feed_7 (by decide) rfl ?_
  refine E_iaddN (q := 10) dX5_feed_9 rfl ?_
  refine E_sipush (v := nI 1000) (q := 13) dX5_feed_10 (by decide) rfl ?_
  refine E_icmp_leN (tgt := 19) (q := 16) dX5_feed_13 (by decide) rfl (by omega) (by omega) (fun h13 => ?_) (fun h13 => ?_)
  · skip
    refine E_aload0 (q := 20) dX5_feed_19 rfl ?_
    refine G_X5_loader (q := 23) fl_X5_26 dX5_feed_20 rfl ?_
    refine E_iload1 (q := 24) dX5_feed_23 rfl ?_
    refine C_V1Y (q := 27) lk_X5_48 (sp_X2_append h (by omega)) rc_X2 dX5_feed_24 (by decide) (Nat.le_of_ble_eq_true rfl) rfl ?_
    refine kkEW ?_
    rintro M1 ⟨t1, f1⟩
    refine E_aload0 (q := 28) dX5_feed_27 rfl ?_
    refine G_X5_loader (q := 31) fl_X5_26 dX5_feed_28 rfl ?_
    refine E_iload2 (q := 32) dX5_feed_31 rfl ?_
    refine C_V1Y (q := 35) lk_X5_48 (sp_X2_append t1 (by omega)) rc_X2 dX5_feed_32 (by decide) (Nat.le_of_ble_eq_true rfl) rfl ?_
    refine kkEW ?_
    rintro M2 ⟨t2, f2⟩
    refine E_aload0 (q := 36) dX5_feed_35 rfl ?_
    refine G_X5_loader (q := 39) fl_X5_26 dX5_feed_36 rfl ?_
    refine E_iload3 (q := 40) dX5_feed_39 rfl ?_
    refine C_V1Y (q := 43) lk_X5_48 (sp_X2_append t2 (by omega)) rc_X2 dX5_feed_40 (by decide) (Nat.le_of_ble_eq_true rfl) rfl ?_
    refine kkEW ?_
    rintro M3 ⟨t3, f3⟩
    refine E_aload0 (q := 44) dX5_feed_43 rfl ?_
    refine G_X5_loader (q := 47) fl_X5_26 dX5_feed_44 rfl ?_
    refine E_iload4 (q := 49) dX5_feed_47 rfl ?_
    refine C_V1Y (q := 52) lk_X5_48 (sp_X2_append t3 (by omega)) rc_X2 dX5_feed_49 (by decide) (Nat.le_of_ble_eq_true rfl) rfl ?_
    refine kkEW ?_
    rintro M4 ⟨t4, f4⟩
    refine E_aload0 (q := 53) dX5_feed_52 rfl ?_
    refine G_X5_loader (q := 56) fl_X5_26 dX5_feed_53 rfl ?_
    refine E_iload5 (q := 58) dX5_feed_56 rfl ?_
    refine C_V1Y (q := 61) lk_X5_48 (sp_X2_append t4 (by omega)) rc_X2 dX5_feed_58 (by decide) (Nat.le_of_ble_eq_true rfl) rfl ?_
    refine kkEW ?_
    rintro M5 ⟨t5, f5⟩
    refine E_aload0 (q := 62) dX5_feed_61 rfl ?_
    refine G_X5_loader (q := 65) fl_X5_26 dX5_feed_62 rfl ?_
    refine G_X2_filled (q := 68) fl_X5_44 dX5_feed_65 rfl ?_
    refine V_int t5.2.1 ?_
    exact E_ireturn rfl rfl dX5_feed_68 ⟨_, rfl, rfl, M5, rfl, t5, (((f1.tr f2).tr f3).tr f4).tr f5⟩
  · skip
    exact absurd h13 (by omega)
theorem sp_X6_feedF {a b c d e : Int32} (h : TxQ M f tx) (hf : 1000 < f + 20) : Spec D 14 yX6_feed cfX6_feed [.ref (ad 157), .int a, .int b, .int c, .int d, .int e] (wl D ad M) 0 0 (PI (-3) (wl D ad (upd2 M 157 4 (nI 0)))) := by
  have h1 := h.1
  refine Spec.of (by decide) rfl (Nat.le_of_ble_eq_true rfl) rfl ?_
  refine E_aload0 (q := 1) dX6_feed_0 rfl ?_
  refine E_iconst (v := nI 0) (q := 2) dX6_feed_1 (by decide) rfl ?_
  refine P_X6_thrown (q := 5) fl_X6_43 dX6_feed_2 rfl ?_
  refine E_aload0 (q := 6) dX6_feed_5 rfl ?_
  refine G_X6_bufferSize (q := 9) fl_X6_208 dX6_feed_6 rfl ?_
  refine V_int (show _ = nI f by rw [upd2_ne (by decide)]; exact h.2.1) ?_
  refine E_bipush (v := nI 20) (q := 11) dX6_feed_9 (by decide) rfl ?_
  refine E_iaddN (q := 12) dX6_feed_11 rfl ?_
  refine E_sipush (v := nI 1000) (q := 15) dX6_feed_12 (by decide) rfl ?_
  refine E_icmp_leN (tgt := 21) (q := 18) dX6_feed_15 (by decide) rfl (by omega) (by omega) (fun h15 => ?_) (fun h15 => ?_)
  · skip
    exact absurd h15 (by omega)
  · skip
    refine E_bipush (v := -3) (q := 20) dX6_feed_18 (by decide) rfl ?_
    exact E_ireturn rfl rfl dX6_feed_20 (PI_of rfl rfl)
theorem TxQ.th {v : Int32} (h : TxQ M f tx) : TxQ (upd2 M 157 4 v) f tx := ⟨h.1, by rw [upd2_ne (by decide)]; exact h.2.1, h.2.2.1, fun i hi => by rw [upd2_row (by decide)]; exact h.2.2.2 i hi⟩
theorem FrQ.th {v : Int32} : FrQ M (upd2 M 157 4 v) := ⟨fun c a _ => upd2_row a, fun j a _ => upd2_ne (fun z => a z.2)⟩
theorem sp_X6_feed {a b c d e : Int32} (h : TxQ M f tx) (hf : f + 20 ≤ 1000) : Spec D 14 yX6_feed cfX6_feed [.ref (ad 157), .int a, .int b, .int c, .int d, .int e] (wl D ad M) 0 0 (PX (fun y w => y = nI (f + 20) ∧ ∃ M', w = wl D ad M' ∧ (TxQ M' (f + 20) (fdT tx f a b c d e) ∧ FrQ M M'))) := by
  have h1 := h.1
  refine Spec.of (by decide) rfl (Nat.le_of_ble_eq_true rfl) rfl ?_
  refine E_aload0 (q := 1) dX6_feed_0 rfl ?_
  refine E_iconst (v := nI 0) (q := 2) dX6_feed_1 (by decide) rfl ?_
  refine P_X6_thrown (q := 5) fl_X6_43 dX6_feed_2 rfl ?_
  refine E_aload0 (q := 6) dX6_feed_5 rfl ?_
  refine G_X6_bufferSize (q := 9) fl_X6_208 dX6_feed_6 rfl ?_
  refine V_int (show _ = nI f by rw [upd2_ne (by decide)]; exact h.2.1) ?_
  refine E_bipush (v := nI 20) (q := 11) dX6_feed_9 (by decide) rfl ?_
  refine E_iaddN (q := 12) dX6_feed_11 rfl ?_
  refine E_sipush (v := nI 1000) (q := 15) dX6_feed_12 (by decide) rfl ?_
  refine E_icmp_leN (tgt := 21) (q := 18) dX6_feed_15 (by decide) rfl (by omega) (by omega) (fun h15 => ?_) (fun h15 => ?_)
  · skip
    refine E_aload0 (q := 22) dX6_feed_21 rfl ?_
    refine E_iload1 (q := 23) dX6_feed_22 rfl ?_
    refine C_V1Y (q := 26) lk_X6_211 (sp_X6_append h.th (by omega)) rc_X6 dX6_feed_23 (by decide) (Nat.le_of_ble_eq_true rfl) rfl ?_
    refine kkEW ?_
    rintro M1 ⟨t1, f1⟩
    refine E_aload0 (q := 27) dX6_feed_26 rfl ?_
    refine E_iload2 (q := 28) dX6_feed_27 rfl ?_
    refine C_V1Y (q := 31) lk_X6_211 (sp_X6_append t1 (by omega)) rc_X6 dX6_feed_28 (by decide) (Nat.le_of_ble_eq_true rfl) rfl ?_
    refine kkEW ?_
    rintro M2 ⟨t2, f2⟩
    refine E_aload0 (q := 32) dX6_feed_31 rfl ?_
    refine E_iload3 (q := 33) dX6_feed_32 rfl ?_
    refine C_V1Y (q := 36) lk_X6_211 (sp_X6_append t2 (by omega)) rc_X6 dX6_feed_33 (by decide) (Nat.le_of_ble_eq_true rfl) rfl ?_
    refine kkEW ?_
    rintro M3 ⟨t3, f3⟩
    refine E_aload0 (q := 37) dX6_feed_36 rfl ?_
    refine E_iload4 (q := 39) dX6_feed_37 rfl ?_
    refine C_V1Y (q := 42) lk_X6_211 (sp_X6_append t3 (by omega)) rc_X6 dX6_feed_39 (by decide) (Nat.le_of_ble_eq_true rfl) rfl ?_
    refine kkEW ?_
    rintro M4 ⟨t4, f4⟩
    refine E_aload0 (q := 43) dX6_feed_42 rfl ?_
    refine E_iload5 (q := 45) dX6_feed_43 rfl ?_
    refine C_V1Y (q := 48) lk_X6_211 (sp_X6_append t4 (by omega)) rc_X6 dX6_feed_45 (by decide) (Nat.le_of_ble_eq_true rfl) rfl ?_
    refine kkEW ?_
    rintro M5 ⟨t5, f5⟩
    refine E_aload0 (q := 49) dX6_feed_48 rfl ?_
    refine G_X6_bufferSize (q := 52) fl_X6_208 dX6_feed_49 rfl ?_
    refine V_int t5.2.1 ?_
    exact E_ireturn rfl rfl dX6_feed_52 ⟨_, rfl, rfl, M5, rfl, t5, ((((FrQ.th.tr f1).tr f2).tr f3).tr f4).tr f5⟩
  · skip
    exact absurd h15 (by omega)
theorem sp_X5_errorPosition {v : Int32} (h : M 133 3 = v) : Spec D 10 yX5_errorPosition cfX5_errorPosition [.ref (ad 0)] (wl D ad M) 0 0 (PI v (wl D ad M)) := by
  refine Spec.of (by decide) rfl (Nat.le_of_ble_eq_true rfl) rfl ?_
  refine E_aload0 (q := 1) dX5_errorPosition_0 rfl ?_
  refine G_X5_loader (q := 4) fl_X5_26 dX5_errorPosition_1 rfl ?_
  refine G_X2_errorAt (q := 7) fl_X5_56 dX5_errorPosition_4 rfl ?_
  refine V_int h ?_
  exact E_ireturn rfl rfl dX5_errorPosition_7 (PI_of rfl rfl)
theorem sp_X6_errorPosition {v : Int32} (h : M 157 10 = v) : Spec D 14 yX6_errorPosition cfX6_errorPosition [.ref (ad 157)] (wl D ad M) 0 0 (PI v (wl D ad (upd2 M 157 4 (nI 0)))) := by
  refine Spec.of (by decide) rfl (Nat.le_of_ble_eq_true rfl) rfl ?_
  refine E_aload0 (q := 1) dX6_errorPosition_0 rfl ?_
  refine E_iconst (v := nI 0) (q := 2) dX6_errorPosition_1 (by decide) rfl ?_
  refine P_X6_thrown (q := 5) fl_X6_43 dX6_errorPosition_2 rfl ?_
  refine E_aload0 (q := 6) dX6_errorPosition_5 rfl ?_
  refine G_X6_errorAt (q := 9) fl_X6_29 dX6_errorPosition_6 rfl ?_
  refine V_int (show _ = v by rw [upd2_ne (by decide)]; exact h) ?_
  exact E_ireturn rfl rfl dX6_errorPosition_9 (PI_of rfl rfl)
theorem sp_X5_loadB {x : Int32} (h : TxC M f tx) (hn : ¬ (nI 0 ≤ x ∧ x ≤ nI f)) : Spec D 14 yX5_load cfX5_load [.ref (ad 0), .int (x)] (wl D ad M) 0 0 (PI (-2) (wl D ad M)) := by
  refine Spec.of (by decide) rfl (Nat.le_of_ble_eq_true rfl) rfl ?_
  refine E_iload1 (q := 1) dX5_load_0 rfl ?_
  refine E_if_lt (tgt := 15) (q := 4) dX5_load_1 (by decide) rfl (fun h1 => ?_) (fun h1 => ?_)
  · skip
    refine E_bipush (v := -2) (q := 17) dX5_load_15 (by decide) rfl ?_
    exact E_ireturn rfl rfl dX5_load_17 (PI_of rfl rfl)
  · skip
    refine E_iload1 (q := 5) dX5_load_4 rfl ?_
    refine E_aload0 (q := 6) dX5_load_5 rfl ?_
    refine G_X5_loader (q := 9) fl_X5_26 dX5_load_6 rfl ?_
    refine G_X2_filled (q := 12) fl_X5_44 dX5_load_9 rfl ?_
    refine V_int h.2.1 ?_
    refine E_icmp_le (tgt := 18) (q := 15) dX5_load_12 (by decide) rfl (fun h12 => ?_) (fun h12 => ?_)
    · skip
      exact absurd ⟨Int32.not_lt.mp h1, h12⟩ hn
    · skip
      refine E_bipush (v := -2) (q := 17) dX5_load_15 (by decide) rfl ?_
      exact E_ireturn rfl rfl dX5_load_17 (PI_of rfl rfl)

theorem sp_X1_forget  : Spec D 1 yX1_forget cfX1_forget [.ref (ad 131)] (wl D ad M) 0 0 (PV (wl D ad (upd2 M 131 2 (nI 0)))) := by
  refine Spec.of (by decide) rfl (Nat.le_of_ble_eq_true rfl) rfl ?_
  refine E_aload0 (q := 1) dX1_forget_0 rfl ?_
  refine E_iconst (v := nI 0) (q := 2) dX1_forget_1 (by decide) rfl ?_
  refine P_X1_length (q := 5) fl_X1_21 dX1_forget_2 rfl ?_
  exact E_vreturn rfl rfl dX1_forget_5 (PV_of rfl)
def LDX (D : va_G) (ad : Nat → Nat) (M : Mem) (n : Nat) : Sum (Int32 × Nat) (Nat × AS) → Int32 → va_W → Prop
  | .inl (c, t) => fun y w => y = c ∧ ∃ M', w = wl D ad M' ∧ M' 133 1 = nI 0 ∧ M' 133 3 = nI t ∧ ∀ c, ¬ (14 ≤ c ∧ c ≤ 26) → c ≠ 133 → M' c = M c
  | .inr (k, B) => fun y w => y = nI k ∧ aT B ≤ n ∧ WF B ∧ ∃ M', w = wl D ad M' ∧ M' 133 1 = nI 0 ∧ M' 133 3 = -1 ∧ StoreIs M' 1 B ∧ M' 131 2 = nI 0 ∧ M' 131 1 = M 131 1 ∧ ∀ c, ¬ (1 ≤ c ∧ c ≤ 26) → c ≠ 131 → c ≠ 133 → M' c = M c
theorem ld_F {x c : Int32} {M1 : Mem} (ht : t ≤ n) (hn : n ≤ 1000) (p5 : M1 133 3 = nI t) (p6 : FrC M M1) : V D cfX5_load (rmOf 14 0 0) (QM D (PX (LDX D ad M n (.inl (c, t)))) 0 0) 0 0 26 [some (.ref (ad 0)), some (.int x), none] [.int c] (wl D ad M1) := by
  refine E_istore2 (q := 27) dX5_load_26 rfl rfl ?_
  refine E_aload0 (q := 28) dX5_load_27 rfl ?_
  refine G_X5_loader (q := 31) fl_X5_26 dX5_load_28 rfl ?_
  refine E_iconst (v := nI 0) (q := 32) dX5_load_31 (by decide) rfl ?_
  refine P_X2_filled (q := 35) fl_X5_44 dX5_load_32 rfl ?_
  refine E_aload0 (q := 36) dX5_load_35 rfl ?_
  refine G_X5_loader (q := 39) fl_X5_26 dX5_load_36 rfl ?_
  refine G_X2_errorAt (q := 42) fl_X5_56 dX5_load_39 rfl ?_
  refine V_int (show _ = nI t by rw [upd2_ne (by decide)]; exact p5) ?_
  refine E_iconst (v := -1) (q := 43) dX5_load_42 (by decide) rfl ?_
  refine E_icmp_ne (tgt := 67) (q := 46) dX5_load_43 (by decide) rfl (fun h43 => ?_) (fun h43 => ?_)
  · skip
    refine E_iload2 (q := 68) dX5_load_67 rfl ?_
    exact E_ireturn rfl rfl dX5_load_68 ⟨_, rfl, rfl, _, rfl, upd2_same, by rw [upd2_ne (by decide)]; exact p5, fun c a d => by rw [upd2_row d]; exact p6.1 c a d⟩
  · skip
    exact absurd h43 (nI_nm1 (by omega))
theorem ld_T {x : Int32} {k : Nat} {B : AS} {M1 : Mem} (ht : aT B ≤ n) (p5 : SI M1 14 B) (p6 : M1 133 3 = -1) (p7 : FrC M M1) : V D cfX5_load (rmOf 14 0 0) (QM D (PX (LDX D ad M n (.inr (k, B)))) 0 0) 0 0 26 [some (.ref (ad 0)), some (.int x), none] [.int (nI k)] (wl D ad M1) := by
  refine E_istore2 (q := 27) dX5_load_26 rfl rfl ?_
  refine E_aload0 (q := 28) dX5_load_27 rfl ?_
  refine G_X5_loader (q := 31) fl_X5_26 dX5_load_28 rfl ?_
  refine E_iconst (v := nI 0) (q := 32) dX5_load_31 (by decide) rfl ?_
  refine P_X2_filled (q := 35) fl_X5_44 dX5_load_32 rfl ?_
  refine E_aload0 (q := 36) dX5_load_35 rfl ?_
  refine G_X5_loader (q := 39) fl_X5_26 dX5_load_36 rfl ?_
  refine G_X2_errorAt (q := 42) fl_X5_56 dX5_load_39 rfl ?_
  refine V_int (show _ = (-1 : Int32) by rw [upd2_ne (by decide)]; exact p6) ?_
  refine E_iconst (v := -1) (q := 43) dX5_load_42 (by decide) rfl ?_
  refine E_icmp_ne (tgt := 67) (q := 46) dX5_load_43 (by decide) rfl (fun h43 => ?_) (fun h43 => ?_)
  · first | exact absurd h43 (by decide) | exact absurd (by decide) h43
  · skip
    refine E_aload0 (q := 47) dX5_load_46 rfl ?_
    refine G_X5_store (q := 50) fl_X5_12 dX5_load_47 rfl ?_
    refine E_aload0 (q := 51) dX5_load_50 rfl ?_
    refine G_X5_loader (q := 54) fl_X5_26 dX5_load_51 rfl ?_
    refine G_X2_draft (q := 57) fl_X5_59 dX5_load_54 rfl ?_
    refine C_V1Y (q := 60) lk_X5_62 (sp_X4_copyFrom isSt_1 isSt_14 (by omega) (p5.2.1.congr (fun c a d => upd2_row (by omega))) p5.2.2) (rc_X4 isSt_1) dX5_load_57 (by decide) (Nat.le_of_ble_eq_true rfl) rfl ?_
    refine kkEW ?_
    rintro M2 ⟨hb2, hk2⟩
    refine E_aload0 (q := 61) dX5_load_60 rfl ?_
    refine G_X5_history (q := 64) fl_X5_19 dX5_load_61 rfl ?_
    refine C_V0V (q := 67) lk_X5_66 (sp_X1_forget) rc_X1 dX5_load_64 (by decide) (Nat.le_of_ble_eq_true rfl) rfl ?_
    refine E_iload2 (q := 68) dX5_load_67 rfl ?_
    exact E_ireturn rfl rfl dX5_load_68 ⟨_, rfl, rfl, ht, p5.2.2, _, rfl, by rw [upd2_row (by decide), hk2 133 (by omega)]; exact upd2_same, by rw [upd2_row (by decide), hk2 133 (by omega), upd2_ne (by decide)]; exact p6, hb2.congr (fun c a d => upd2_row (by omega)), upd2_same, by rw [upd2_ne (by decide), hk2 131 (by omega), upd2_row (by decide), p7.1 131 (by omega) (by decide)], fun c a d e => by rw [upd2_row d, hk2 c (by omega), upd2_row e]; exact p7.1 c (by omega) e⟩
theorem sp_X5_load {n : Nat} (h : TxC M f tx) (hn : n ≤ f) : Spec D 14 yX5_load cfX5_load [.ref (ad 0), .int (nI (n))] (wl D ad M) 0 0 (PX (LDX D ad M n (ldF tx n (n + 1) (tokS tx n 0) 0 newA 0))) := by
  refine Spec.of (by decide) rfl (Nat.le_of_ble_eq_true rfl) rfl ?_
  have hf := h.1
  have hs := isSt_14
  refine E_iload1 (q := 1) dX5_load_0 rfl ?_
  refine E_if_lt (tgt := 15) (q := 4) dX5_load_1 (by decide) rfl (fun h1 => ?_) (fun h1 => ?_)
  · skip
    exact absurd h1 (nI_pos (by omega))
  · skip
    refine E_iload1 (q := 5) dX5_load_4 rfl ?_
    refine E_aload0 (q := 6) dX5_load_5 rfl ?_
    refine G_X5_loader (q := 9) fl_X5_26 dX5_load_6 rfl ?_
    refine G_X2_filled (q := 12) fl_X5_44 dX5_load_9 rfl ?_
    refine V_int h.2.1 ?_
    refine E_icmp_leN (tgt := 18) (q := 15) dX5_load_12 (by decide) rfl (by omega) (by omega) (fun h12 => ?_) (fun h12 => ?_)
    · skip
      refine E_aload0 (q := 19) dX5_load_18 rfl ?_
      refine G_X5_loader (q := 22) fl_X5_26 dX5_load_19 rfl ?_
      refine E_iload1 (q := 23) dX5_load_22 rfl ?_
      refine C_V1X (q := 26) lk_X5_52 (sp_X2_read (by omega) h.2.2.1 (fun i hi => h.2.2.2 i (by omega))) rc_X2 dX5_load_23 (by decide) (Nat.le_of_ble_eq_true rfl) rfl ?_
      rintro y w hp
      revert hp
      generalize ldF tx n (n + 1) (tokS tx n 0) 0 newA 0 = u
      intro hp
      match u, hp with
      | .inl (c, t), hp =>
        obtain ⟨p1, p2, p3, M1, p4, p5, p6⟩ := hp
        rw [p1, p4]
        exact ld_F p3 (by omega) p5 p6
      | .inr (k, B), hp =>
        obtain ⟨p1, p2, p3, M1, p4, p5, p6, p7⟩ := hp
        rw [p1, p4]
        exact ld_T (by omega) p5 p6 p7
    · skip
      exact absurd h12 (by omega)
end FEED