
/-! THE CLASS writes a volume, and tells its letters -/
section CAP
variable {cap m : Nat}
def CapOK (cap : Nat) : Prop := cap = 16 ∨ cap = 34 ∨ cap = 70 ∨ cap = 142 ∨ cap = 286
def pC (cap : Nat) : Nat := if cap = 16 then 4 else if cap = 34 then 3 else if cap = 70 then 2 else if cap = 142 then 1 else 0
def pS (cap : Nat) : Nat := if cap = 16 then 532 else if cap = 34 then 498 else if cap = 70 then 428 else if cap = 142 then 286 else 0
theorem cap_le (h : CapOK cap) : cap ≤ 286 ∧ 16 ≤ cap ∧ pC cap ≤ 4 ∧ pS cap ≤ 532 := by
  rcases h with rfl | rfl | rfl | rfl | rfl <;> decide
theorem cap_step (h : CapOK cap) (h1 : m ≤ 286) (h2 : m ≤ 2 * cap + 2) : CapOK (gN cap m) ∧ gC cap m + pC (gN cap m) ≤ pC cap ∧ gS cap m + pS (gN cap m) ≤ pS cap := by
  unfold gN gC gS
  by_cases c : m ≤ cap
  · rw [if_pos c, if_pos c, if_pos c]
    exact ⟨h, by omega, by omega⟩
  · rw [if_neg c, if_neg c, if_neg c]
    rcases h with rfl | rfl | rfl | rfl | rfl
    · exact ⟨Or.inr (Or.inl rfl), by decide, by decide⟩
    · exact ⟨Or.inr (Or.inr (Or.inl rfl)), by decide, by decide⟩
    · exact ⟨Or.inr (Or.inr (Or.inr (Or.inl rfl))), by decide, by decide⟩
    · exact ⟨Or.inr (Or.inr (Or.inr (Or.inr rfl))), by decide, by decide⟩
    · omega
end CAP
section CLS
variable {D : va_G} {ad : Nat → Nat} {M : Mem} {ws : va_W} {A : AS} {T : List Nat} {cap m c v i : Nat} {x : Blk}
theorem sp_appendBirthN (h : SbC M cap T) (h3 : cap ≤ 1000) : Spec D 8 yX5_appendBirth cfX5_appendBirth [.ref (ad 0), .int (-1)] (wl D ad M) (gC cap (T.length + 1)) (gS cap (T.length + 1)) (PY (PnQ D ad M (gN cap (T.length + 1)) (T ++ [45]))) := by
  refine Spec.of (by decide) rfl (Nat.le_of_ble_eq_true rfl) rfl ?_
  refine E_iload1 (q := 1) dX5_appendBirth_0 rfl ?_
  refine E_iconst (v := -1) (q := 2) dX5_appendBirth_1 (by decide) rfl ?_
  refine E_icmp_ne (tgt := 18) (q := 5) dX5_appendBirth_2 (by decide) rfl (fun h2 => ?_) (fun h2 => ?_)
  · first | exact absurd h2 (by decide) | exact absurd (by decide) h2
  · skip
    refine E_aload0 (q := 6) dX5_appendBirth_5 rfl ?_
    refine G_X5_output (q := 9) fl_X5_40 dX5_appendBirth_6 rfl ?_
    refine E_bipush (v := nI 45) (q := 11) dX5_appendBirth_9 (by decide) rfl ?_
    refine E_callV (ar := [.int (nI 45)]) (q := 14) lk_X5_82 (sp_J4_appendC h (by decide) (by omega)) rc_J4 (by decide) (by omega) (by omega) (Nat.le_of_ble_eq_true rfl) dX5_appendBirth_11 rfl rfl ?_
    rintro v w ⟨ad', M', hv, hw, o3, f3⟩
    rw [hv, hw]
    refine E_pop (q := 15) dX5_appendBirth_14 rfl rfl ?_
    refine E_goto (q := 38) dX5_appendBirth_15 (by decide) ?_
    exact E_vreturn rfl rfl dX5_appendBirth_38 ⟨rfl, ad', M', rfl, o3, f3⟩
theorem sp_appendBirthS (hI : SI M 1 A) (hx : A.2[i]? = some x) (h : SbC M cap T) (h3 : cap ≤ 1000) : Spec D 8 yX5_appendBirth cfX5_appendBirth [.ref (ad 0), .int (nI i)] (wl D ad M) (gC cap (T.length + sb_dg x.1)) (gS cap (T.length + sb_dg x.1)) (PY (PnQ D ad M (gN cap (T.length + sb_dg x.1)) (T ++ numT x.1))) := by
  refine Spec.of (by decide) rfl (Nat.le_of_ble_eq_true rfl) rfl ?_
  have hil := (List.getElem?_eq_some_iff.mp hx).1
  have h264 := hI.2.2.2.2.len
  have hxl : x.1 < 2 ^ 24 := Nat.lt_of_le_of_lt (hI.2.2.2.2.2 x (List.mem_of_getElem? hx)).2.1 hI.2.2.1.1.1
  refine E_iload1 (q := 1) dX5_appendBirth_0 rfl ?_
  refine E_iconst (v := -1) (q := 2) dX5_appendBirth_1 (by decide) rfl ?_
  refine E_icmp_ne (tgt := 18) (q := 5) dX5_appendBirth_2 (by decide) rfl (fun h2 => ?_) (fun h2 => ?_)
  · skip
    refine E_aload0 (q := 19) dX5_appendBirth_18 rfl ?_
    refine G_X5_output (q := 22) fl_X5_40 dX5_appendBirth_19 rfl ?_
    refine E_aload0 (q := 23) dX5_appendBirth_22 rfl ?_
    refine G_X5_store (q := 26) fl_X5_12 dX5_appendBirth_23 rfl ?_
    refine G_X4_blocks (q := 29) isSt_1 fl_X5_95 dX5_appendBirth_26 rfl ?_
    refine G_X0_births (q := 32) isSt_1.blocks fl_X5_197 dX5_appendBirth_29 rfl ?_
    refine E_iload1 (q := 33) dX5_appendBirth_32 rfl ?_
    refine E_ialdN (q := 34) isSt_1.blocks.births (by omega) (by decide) dX5_appendBirth_33 rfl ?_
    refine V_int (hI.bi.2 i x hx).1 ?_
    refine E_callV (ar := [.int (nI x.1)]) (q := 37) lk_X5_309 (sp_J4_appendI h hxl (by omega)) rc_J4 (by decide) (by omega) (by omega) (Nat.le_of_ble_eq_true rfl) dX5_appendBirth_34 rfl rfl ?_
    rintro v w ⟨ad', M', hv, hw, o3, f3⟩
    rw [hv, hw]
    refine E_pop (q := 38) dX5_appendBirth_37 rfl rfl ?_
    exact E_vreturn rfl rfl dX5_appendBirth_38 ⟨rfl, ad', M', rfl, o3, f3⟩
  · skip
    exact absurd h2 (nI_nm1 (by omega))
def WoQ (D : va_G) (ad : Nat → Nat) (M : Mem) (T : List Nat) : va_W → Prop := fun w => ∃ (ad' : Nat → Nat) (M' : Mem), w = wl D ad' M' ∧ (∃ cap, CapOK cap ∧ SbC M' cap T) ∧ FrB ad M ad' M'
/-- on the way: k cells and n slots are made -/
def OS (ad : Nat → Nat) (M : Mem) (k n : Nat) (ad1 : Nat → Nat) (M1 : Mem) (T : List Nat) : Prop := ∃ cap, CapOK cap ∧ SbC M1 cap T ∧ FrB ad M ad1 M1 ∧ k + pC cap ≤ 4 ∧ n + pS cap ≤ 532
theorem FrB.si {ad1 : Nat → Nat} {M1 : Mem} (f : FrB ad M ad1 M1) (h : SI M 1 A) : SI M1 1 A := h.to fun c _ q => f.2 c (by omega) (by omega)
theorem flt_s {s : Nat} (hs : s ∈ rowL A v) : (rowL A v).filter (fun t => decide (t < s + 1)) = (rowL A v).filter (fun t => decide (t < s)) ++ [s] := by
  refine pw_ext (List.Pairwise.filter _ (rowL_pw A v)) (List.pairwise_append.mpr ⟨List.Pairwise.filter _ (rowL_pw A v), List.pairwise_singleton _ _, fun a ha b hb => ?_⟩) (fun t => ?_)
  · rw [List.mem_singleton] at hb; subst hb
    have := (List.mem_filter.mp ha).2
    simpa using this
  · rw [List.mem_append, List.mem_filter, List.mem_filter, List.mem_singleton, decide_eq_true_eq, decide_eq_true_eq]
    constructor
    · rintro ⟨a, b⟩
      by_cases e : t = s
      · exact Or.inr e
      · exact Or.inl ⟨a, by omega⟩
    · rintro (⟨a, b⟩ | e)
      · exact ⟨a, by omega⟩
      · subst e; exact ⟨hs, by omega⟩
theorem flt_n {s : Nat} (hs : s ∉ rowL A v) : (rowL A v).filter (fun t => decide (t < s + 1)) = (rowL A v).filter (fun t => decide (t < s)) := by
  refine List.filter_congr fun t ht => ?_
  have : t ≠ s := fun e => hs (e ▸ ht)
  rw [decide_eq_decide]; omega
theorem flt_0 : (rowL A v).filter (fun t => decide (t < 0)) = [] := List.filter_eq_nil_iff.mpr fun t _ => by simp
theorem flt_16 : (rowL A v).filter (fun t => decide (t < 16)) = rowL A v := List.filter_eq_self.mpr fun t ht => by simpa using (mem_rowL.mp ht).1
theorem flt_len (s : Nat) : ((rowL A v).filter (fun t => decide (t < s))).length ≤ 16 := Nat.le_trans (List.length_filter_le _ _) (rowL_len A v)
theorem sp_X5_writeOut (h : SI M 1 A) (hv : v < 6) (ht : th A (16 + v)) (hc : CapOK cap) (ho : SbC M cap T) : Spec D 14 yX5_writeOut cfX5_writeOut [.ref (ad 0), .int (nI v)] (wl D ad M) 4 532 (PX (fun y w => y = nI (outT A v).length ∧ WoQ D ad M (outT A v) w)) := by
  refine Spec.of (by decide) rfl (Nat.le_of_ble_eq_true rfl) rfl ?_
  have h0 := h
  have hA := h.2.2
  have hvn := (hA.1.2.2.2.1 v hv ht).2.2.2
  have hrl := rowL_len A v
  have hhd := hdT_len (A := A) (v := v)
  have hvn6 := nmT_len (vnm A v)
  have hcl := cap_le hc
  have hsl := snT_len A (rowL A v)
  have hrm := rowM_lt (A := A) (v := v)
  have hadr : ∀ (k n : Nat) (ad1 : Nat → Nat) (M1 : Mem), OS ad M k n ad1 M1 ((hdT A v ++ snT A (rowL A v)) ++ adT A v 0) → V D cfX5_writeOut (rmOf 14 4 532) (QM D (PX (fun y w => y = nI (outT A v).length ∧ WoQ D ad M (outT A v) w)) 4 532) k n 92 [some (.ref (ad1 0)), some (.int (nI v)), none, some (.int (nI 0))] [] (wl D ad1 M1) := by
    refine upto0 (n := 12) (P := fun a => ∀ (k n : Nat) (ad1 : Nat → Nat) (M1 : Mem), OS ad M k n ad1 M1 ((hdT A v ++ snT A (rowL A v)) ++ adT A v a) → V D cfX5_writeOut (rmOf 14 4 532) (QM D (PX (fun y w => y = nI (outT A v).length ∧ WoQ D ad M (outT A v) w)) 4 532) k n 92 [some (.ref (ad1 0)), some (.int (nI v)), none, some (.int (nI a))] [] (wl D ad1 M1)) ?_ ?_
    · rintro k n ad1 M1 ⟨cap1, c1, o1, f1, b1, b2⟩
      have o1 : SbC M1 cap1 (outT A v) := o1
      refine E_iload3 (q := 93) dX5_writeOut_92 rfl ?_
      refine E_bipush (v := nI 12) (q := 95) dX5_writeOut_93 (by decide) rfl ?_
      refine E_icmp_geN (tgt := 133) (q := 98) dX5_writeOut_95 (by decide) rfl (by omega) (by omega) (fun h95 => ?_) (fun h95 => ?_)
      · skip
        refine E_aload0 (q := 134) dX5_writeOut_133 rfl ?_
        refine G_X5_output (q := 137) fl_X5_40 dX5_writeOut_134 rfl ?_
        refine C_V0I (q := 140) lk_X5_108 (sp_J4_length_8abf5 o1) rc_J4 dX5_writeOut_137 (by decide) (Nat.le_of_ble_eq_true rfl) rfl ?_
        exact E_ireturn rfl rfl dX5_writeOut_140 ⟨_, rfl, rfl, ad1, M1, rfl, ⟨cap1, c1, o1⟩, f1⟩
      · skip
        exact absurd h95 (by omega)
    · rintro a ha ih k n ad1 M1 ⟨cap1, c1, o1, f1, b1, b2⟩
      have hI1 := f1.si h0
      have hal := adT_len hA (v := v) a
      have hbl := bT_len hA (v := v) (a := a)
      have hl1 : ((hdT A v ++ snT A (rowL A v)) ++ adT A v a).length + 9 ≤ 286 := by rw [List.length_append, List.length_append]; omega
      have hap : ∀ t, ((hdT A v ++ snT A (rowL A v)) ++ adT A v a ++ [32]) ++ t = (hdT A v ++ snT A (rowL A v)) ++ (adT A v a ++ (32 :: t)) := fun t => by simp
      have hcl1 := cap_le c1
      have s1 := cap_step (m := ((hdT A v ++ snT A (rowL A v)) ++ adT A v a).length + 1) c1 (by omega) (by have := o1.2.1; omega)
      have hll : (((hdT A v ++ snT A (rowL A v)) ++ adT A v a) ++ [32]).length = ((hdT A v ++ snT A (rowL A v)) ++ adT A v a).length + 1 := by rw [List.length_append]; rfl
      rcases at_cases A.2 (16 + v) a with ⟨hno, hno2⟩ | ⟨i, x, hf, hx⟩
      · have e0 := (bAt_none hno).1
        have hb : adT A v (a + 1) = adT A v a ++ (32 :: [45]) := by rw [adT, bT, if_pos e0]
        rw [hb, ← hap] at ih
        refine E_iload3 (q := 93) dX5_writeOut_92 rfl ?_
        refine E_bipush (v := nI 12) (q := 95) dX5_writeOut_93 (by decide) rfl ?_
        refine E_icmp_geN (tgt := 133) (q := 98) dX5_writeOut_95 (by decide) rfl (by omega) (by omega) (fun h95 => ?_) (fun h95 => ?_)
        · skip
          exact absurd h95 (by omega)
        · skip
          refine E_aload0 (q := 99) dX5_writeOut_98 rfl ?_
          refine G_X5_output (q := 102) fl_X5_40 dX5_writeOut_99 rfl ?_
          refine E_bipush (v := nI 32) (q := 104) dX5_writeOut_102 (by decide) rfl ?_
          refine E_callV (ar := [.int (nI 32)]) (q := 107) lk_X5_82 (sp_J4_appendC o1 (by decide) (by omega)) rc_J4 (by decide) (by omega) (by omega) (Nat.le_of_ble_eq_true rfl) dX5_writeOut_104 rfl rfl ?_
          rintro v' w ⟨ad2, M2, hv', hw, o2, f2⟩
          rw [hv', hw, ← f2.1 0 (by decide)]
          have hI2 := f2.si hI1
          have hcl2 := cap_le s1.1
          have s2 := cap_step (m := (((hdT A v ++ snT A (rowL A v)) ++ adT A v a) ++ [32]).length + 1) s1.1 (by omega) (by have := o2.2.1; omega)
          refine E_pop (q := 108) dX5_writeOut_107 rfl rfl ?_
          refine E_aload0 (q := 109) dX5_writeOut_108 rfl ?_
          refine E_aload0 (q := 110) dX5_writeOut_109 rfl ?_
          refine G_X5_store (q := 113) fl_X5_12 dX5_writeOut_110 rfl ?_
          refine G_X4_blocks (q := 116) isSt_1 fl_X5_95 dX5_writeOut_113 rfl ?_
          refine E_bipush (v := nI 16) (q := 118) dX5_writeOut_116 (by decide) rfl ?_
          refine E_iload1 (q := 119) dX5_writeOut_118 rfl ?_
          refine E_iaddN (q := 120) dX5_writeOut_119 rfl ?_
          refine E_iload3 (q := 121) dX5_writeOut_120 rfl ?_
          refine C_V2I (q := 124) lk_X5_99 (sp_X0_indexAtN hI2.1.blocks hI2.bi hI2.bw (by omega) (by omega) hno2) (rc_X0 isSt_1.blocks) dX5_writeOut_121 (by decide) (Nat.le_of_ble_eq_true rfl) rfl ?_
          refine E_callV (ar := [.int (-1)]) (q := 127) lk_X5_105 (sp_appendBirthN o2 (by omega)) rc_X5 (by decide) (by omega) (by omega) (Nat.le_of_ble_eq_true rfl) dX5_writeOut_124 rfl rfl ?_
          rintro v' w ⟨hv', ad3, M3, hw, o3, f3⟩
          rw [hv', hw, ← f3.1 0 (by decide)]
          refine E_iinc3 (q := 130) dX5_writeOut_127 (nI_inc _) rfl rfl ?_
          refine E_goto (q := 92) dX5_writeOut_130 (by decide) ?_
          exact V_sub (by repeat (first | exact subL_nil | refine subL_s ?_ | refine subL_n ?_)) (ih _ _ ad3 M3 ⟨_, s2.1, o3, (f1.tr f2).tr f3, by omega, by omega⟩)
      · have e1 := (bAt_some hx).1
        have e5 := hA.2.2.bpos hx
        have hb : adT A v (a + 1) = adT A v a ++ (32 :: numT x.1) := by rw [adT, bT, if_neg e5, e1]
        have hnl : sb_dg x.1 ≤ 8 := by rw [← numT_l, ← e1, show numT (bAt A.2 (16 + v) a) = bT A v a by rw [bT, if_neg e5]]; exact hbl
        rw [hb, ← hap] at ih
        refine E_iload3 (q := 93) dX5_writeOut_92 rfl ?_
        refine E_bipush (v := nI 12) (q := 95) dX5_writeOut_93 (by decide) rfl ?_
        refine E_icmp_geN (tgt := 133) (q := 98) dX5_writeOut_95 (by decide) rfl (by omega) (by omega) (fun h95 => ?_) (fun h95 => ?_)
        · skip
          exact absurd h95 (by omega)
        · skip
          refine E_aload0 (q := 99) dX5_writeOut_98 rfl ?_
          refine G_X5_output (q := 102) fl_X5_40 dX5_writeOut_99 rfl ?_
          refine E_bipush (v := nI 32) (q := 104) dX5_writeOut_102 (by decide) rfl ?_
          refine E_callV (ar := [.int (nI 32)]) (q := 107) lk_X5_82 (sp_J4_appendC o1 (by decide) (by omega)) rc_J4 (by decide) (by omega) (by omega) (Nat.le_of_ble_eq_true rfl) dX5_writeOut_104 rfl rfl ?_
          rintro v' w ⟨ad2, M2, hv', hw, o2, f2⟩
          rw [hv', hw, ← f2.1 0 (by decide)]
          have hI2 := f2.si hI1
          have hcl2 := cap_le s1.1
          have s2 := cap_step (m := (((hdT A v ++ snT A (rowL A v)) ++ adT A v a) ++ [32]).length + sb_dg x.1) s1.1 (by omega) (by have := o2.2.1; omega)
          refine E_pop (q := 108) dX5_writeOut_107 rfl rfl ?_
          refine E_aload0 (q := 109) dX5_writeOut_108 rfl ?_
          refine E_aload0 (q := 110) dX5_writeOut_109 rfl ?_
          refine G_X5_store (q := 113) fl_X5_12 dX5_writeOut_110 rfl ?_
          refine G_X4_blocks (q := 116) isSt_1 fl_X5_95 dX5_writeOut_113 rfl ?_
          refine E_bipush (v := nI 16) (q := 118) dX5_writeOut_116 (by decide) rfl ?_
          refine E_iload1 (q := 119) dX5_writeOut_118 rfl ?_
          refine E_iaddN (q := 120) dX5_writeOut_119 rfl ?_
          refine E_iload3 (q := 121) dX5_writeOut_120 rfl ?_
          refine C_V2I (q := 124) lk_X5_99 (sp_X0_indexAtS hI2.1.blocks hI2.bi hI2.bw (by omega) (by omega) hf) (rc_X0 isSt_1.blocks) dX5_writeOut_121 (by decide) (Nat.le_of_ble_eq_true rfl) rfl ?_
          refine E_callV (ar := [.int (nI i)]) (q := 127) lk_X5_105 (sp_appendBirthS hI2 hf.1 o2 (by omega)) rc_X5 (by decide) (by omega) (by omega) (Nat.le_of_ble_eq_true rfl) dX5_writeOut_124 rfl rfl ?_
          rintro v' w ⟨hv', ad3, M3, hw, o3, f3⟩
          rw [hv', hw, ← f3.1 0 (by decide)]
          refine E_iinc3 (q := 130) dX5_writeOut_127 (nI_inc _) rfl rfl ?_
          refine E_goto (q := 92) dX5_writeOut_130 (by decide) ?_
          exact V_sub (by repeat (first | exact subL_nil | refine subL_s ?_ | refine subL_n ?_)) (ih _ _ ad3 M3 ⟨_, s2.1, o3, (f1.tr f2).tr f3, by omega, by omega⟩)
  have hrow : ∀ (k n : Nat) (ad1 : Nat → Nat) (M1 : Mem), OS ad M k n ad1 M1 (hdT A v ++ snT A ((rowL A v).filter (fun t => decide (t < 0)))) → V D cfX5_writeOut (rmOf 14 4 532) (QM D (PX (fun y w => y = nI (outT A v).length ∧ WoQ D ad M (outT A v) w)) 4 532) k n 47 [some (.ref (ad1 0)), some (.int (nI v)), some (.int (nI (rowM A v))), some (.int (nI 0))] [] (wl D ad1 M1) := by
    refine upto0 (n := 16) (P := fun s => ∀ (k n : Nat) (ad1 : Nat → Nat) (M1 : Mem), OS ad M k n ad1 M1 (hdT A v ++ snT A ((rowL A v).filter (fun t => decide (t < s)))) → V D cfX5_writeOut (rmOf 14 4 532) (QM D (PX (fun y w => y = nI (outT A v).length ∧ WoQ D ad M (outT A v) w)) 4 532) k n 47 [some (.ref (ad1 0)), some (.int (nI v)), some (.int (nI (rowM A v))), some (.int (nI s))] [] (wl D ad1 M1)) ?_ ?_
    · intro k n ad1 M1 o1
      rw [flt_16] at o1
      refine E_iload3 (q := 48) dX5_writeOut_47 rfl ?_
      refine E_bipush (v := nI 16) (q := 50) dX5_writeOut_48 (by decide) rfl ?_
      refine E_icmp_geN (tgt := 90) (q := 53) dX5_writeOut_50 (by decide) rfl (by omega) (by omega) (fun h50 => ?_) (fun h50 => ?_)
      · skip
        refine E_iconst (v := nI 0) (q := 91) dX5_writeOut_90 (by decide) rfl ?_
        refine E_istore3 (q := 92) dX5_writeOut_91 rfl rfl ?_
        exact V_sub (by repeat (first | exact subL_nil | refine subL_s ?_ | refine subL_n ?_)) (hadr k n ad1 M1 (by rw [show adT A v 0 = [] from rfl, List.append_nil]; exact o1))
      · skip
        exact absurd h50 (by omega)
    · rintro s hs ih k n ad1 M1 ⟨cap1, c1, o1, f1, b1, b2⟩
      have hI1 := f1.si h0
      by_cases hsr : s ∈ rowL A v
      · obtain ⟨q1, q2, q3⟩ := mem_rowL.mp hsr
        have hsn := (hA.1.2.2.2.2.1 s q1 q2).2.2.2.2
        have hn6 := nmT_len (snm A s)
        have hfl := flt_len (A := A) (v := v) s
        have hfl2 := flt_len (A := A) (v := v) (s + 1)
        have htl := snT_len A ((rowL A v).filter (fun t => decide (t < s)))
        rw [flt_s hsr] at ih hfl2
        rw [List.length_append, show [s].length = 1 from rfl] at hfl2
        have hl1 : (hdT A v ++ snT A ((rowL A v).filter (fun t => decide (t < s)))).length + 7 ≤ 286 := by rw [List.length_append]; omega
        rw [snT_app, ← List.append_assoc, show (32 :: nmT (snm A s)) = [32] ++ nmT (snm A s) from rfl, ← List.append_assoc] at ih
        have hcl1 := cap_le c1
        have s1 := cap_step (m := (hdT A v ++ snT A ((rowL A v).filter (fun t => decide (t < s)))).length + 1) c1 (by omega) (by have := o1.2.1; omega)
        have hll : ((hdT A v ++ snT A ((rowL A v).filter (fun t => decide (t < s)))) ++ [32]).length = (hdT A v ++ snT A ((rowL A v).filter (fun t => decide (t < s)))).length + 1 := by rw [List.length_append]; rfl
        refine E_iload3 (q := 48) dX5_writeOut_47 rfl ?_
        refine E_bipush (v := nI 16) (q := 50) dX5_writeOut_48 (by decide) rfl ?_
        refine E_icmp_geN (tgt := 90) (q := 53) dX5_writeOut_50 (by decide) rfl (by omega) (by omega) (fun h50 => ?_) (fun h50 => ?_)
        · skip
          exact absurd h50 (by omega)
        · skip
          refine E_iload2 (q := 54) dX5_writeOut_53 rfl ?_
          refine E_iload3 (q := 55) dX5_writeOut_54 rfl ?_
          refine C_S2I (q := 58) lk_X5_88 (sp_X5_contains (by omega) (by omega)) dX5_writeOut_55 (by decide) (Nat.le_of_ble_eq_true rfl) rfl ?_
          refine E_if_eq (tgt := 84) (q := 61) dX5_writeOut_58 (by decide) rfl (fun h58 => ?_) (fun h58 => ?_)
          · skip
            exact absurd (rowM_bit.mpr ⟨q1, q2, q3⟩) (zI_0 h58)
          · skip
            refine E_aload0 (q := 62) dX5_writeOut_61 rfl ?_
            refine G_X5_output (q := 65) fl_X5_40 dX5_writeOut_62 rfl ?_
            refine E_bipush (v := nI 32) (q := 67) dX5_writeOut_65 (by decide) rfl ?_
            refine E_callV (ar := [.int (nI 32)]) (q := 70) lk_X5_82 (sp_J4_appendC o1 (by decide) (by omega)) rc_J4 (by decide) (by omega) (by omega) (Nat.le_of_ble_eq_true rfl) dX5_writeOut_67 rfl rfl ?_
            rintro v' w ⟨ad2, M2, hv', hw, o2, f2⟩
            rw [hv', hw, ← f2.1 0 (by decide)]
            have hI2 := f2.si hI1
            have hcl2 := cap_le s1.1
            have s2 := cap_step (m := ((hdT A v ++ snT A ((rowL A v).filter (fun t => decide (t < s)))) ++ [32]).length + (nmT (snm A s)).length) s1.1 (by omega) (by have := o2.2.1; omega)
            refine E_pop (q := 71) dX5_writeOut_70 rfl rfl ?_
            refine E_aload0 (q := 72) dX5_writeOut_71 rfl ?_
            refine E_aload0 (q := 73) dX5_writeOut_72 rfl ?_
            refine G_X5_store (q := 76) fl_X5_12 dX5_writeOut_73 rfl ?_
            refine G_X4_snapshotNames (q := 79) isSt_1 fl_X5_92 dX5_writeOut_76 rfl ?_
            refine E_iload3 (q := 80) dX5_writeOut_79 rfl ?_
            refine E_ialdN (q := 81) isSt_1.snapshotNames (by omega) (by decide) dX5_writeOut_80 rfl ?_
            refine V_int (hI2.2.1.2.2.1 s q1 q2).2.2 ?_
            refine E_callV (ar := [.int (nI (snm A s))]) (q := 84) lk_X5_79 (sp_appendName hsn o2 (by omega)) rc_X5 (by decide) (by omega) (by omega) (Nat.le_of_ble_eq_true rfl) dX5_writeOut_81 rfl rfl ?_
            rintro v' w ⟨hv', ad3, M3, hw, o3, f3⟩
            rw [hv', hw, ← f3.1 0 (by decide)]
            refine E_iinc3 (q := 87) dX5_writeOut_84 (nI_inc _) rfl rfl ?_
            refine E_goto (q := 47) dX5_writeOut_87 (by decide) ?_
            exact ih _ _ ad3 M3 ⟨_, s2.1, o3, (f1.tr f2).tr f3, by omega, by omega⟩
      · rw [flt_n hsr] at ih
        refine E_iload3 (q := 48) dX5_writeOut_47 rfl ?_
        refine E_bipush (v := nI 16) (q := 50) dX5_writeOut_48 (by decide) rfl ?_
        refine E_icmp_geN (tgt := 90) (q := 53) dX5_writeOut_50 (by decide) rfl (by omega) (by omega) (fun h50 => ?_) (fun h50 => ?_)
        · skip
          exact absurd h50 (by omega)
        · skip
          refine E_iload2 (q := 54) dX5_writeOut_53 rfl ?_
          refine E_iload3 (q := 55) dX5_writeOut_54 rfl ?_
          refine C_S2I (q := 58) lk_X5_88 (sp_X5_contains (by omega) (by omega)) dX5_writeOut_55 (by decide) (Nat.le_of_ble_eq_true rfl) rfl ?_
          refine E_if_eq (tgt := 84) (q := 61) dX5_writeOut_58 (by decide) rfl (fun h58 => ?_) (fun h58 => ?_)
          · skip
            refine E_iinc3 (q := 87) dX5_writeOut_84 (nI_inc _) rfl rfl ?_
            refine E_goto (q := 47) dX5_writeOut_87 (by decide) ?_
            exact ih k n ad1 M1 ⟨cap1, c1, o1, f1, b1, b2⟩
          · skip
            exact absurd (mem_rowL.mpr (rowM_bit.mp (zI_n h58))) hsr
  have hnA : hdT A v = [] ++ nmT (vnm A v) ++ [58] := by unfold hdT; rw [List.nil_append]
  refine E_aload0 (q := 1) dX5_writeOut_0 rfl ?_
  refine E_iload1 (q := 2) dX5_writeOut_1 rfl ?_
  refine C_V1V (q := 5) lk_X5_69 (sp_X5_needVolume h ⟨v, hv, rfl, ht⟩) rc_X5 dX5_writeOut_2 (by decide) (Nat.le_of_ble_eq_true rfl) rfl ?_
  refine E_aload0 (q := 6) dX5_writeOut_5 rfl ?_
  refine G_X5_output (q := 9) fl_X5_40 dX5_writeOut_6 rfl ?_
  refine E_iconst (v := nI 0) (q := 10) dX5_writeOut_9 (by decide) rfl ?_
  refine C_V1Y (q := 13) lk_X5_72 (sp_J4_setLength_d00df ho) rc_J4 dX5_writeOut_10 (by decide) (Nat.le_of_ble_eq_true rfl) rfl ?_
  refine kkEW ?_
  rintro M1 ⟨o1, f1⟩
  have hI1 := f1.si h0
  have s1 := cap_step (m := ([] : List Nat).length + (nmT (vnm A v)).length) hc (by show 0 + _ ≤ _; omega) (by show 0 + _ ≤ _; omega)
  have hcl2 := cap_le s1.1
  refine E_aload0 (q := 14) dX5_writeOut_13 rfl ?_
  refine E_aload0 (q := 15) dX5_writeOut_14 rfl ?_
  refine G_X5_store (q := 18) fl_X5_12 dX5_writeOut_15 rfl ?_
  refine G_X4_volumeNames (q := 21) isSt_1 fl_X5_75 dX5_writeOut_18 rfl ?_
  refine E_iload1 (q := 22) dX5_writeOut_21 rfl ?_
  refine E_ialdN (q := 23) isSt_1.volumeNames (by omega) (by decide) dX5_writeOut_22 rfl ?_
  refine V_int (hI1.2.1.2.2.2.1 v hv ht).1 ?_
  refine E_callV (ar := [.int (nI (vnm A v))]) (q := 26) lk_X5_79 (sp_appendName hvn o1 (by omega)) rc_X5 (by decide) (by omega) (by omega) (Nat.le_of_ble_eq_true rfl) dX5_writeOut_23 rfl rfl ?_
  rintro v' w ⟨hv', ad2, M2, hw, o2, f2⟩
  rw [hv', hw, ← f2.1 0 (by decide)]
  have hI2 := f2.si hI1
  have s2 := cap_step (m := ([] ++ nmT (vnm A v)).length + 1) s1.1 (by rw [List.nil_append]; omega) (by rw [List.nil_append]; omega)
  refine E_aload0 (q := 27) dX5_writeOut_26 rfl ?_
  refine G_X5_output (q := 30) fl_X5_40 dX5_writeOut_27 rfl ?_
  refine E_bipush (v := nI 58) (q := 32) dX5_writeOut_30 (by decide) rfl ?_
  refine E_callV (ar := [.int (nI 58)]) (q := 35) lk_X5_82 (sp_J4_appendC o2 (by decide) (by omega)) rc_J4 (by decide) (by omega) (by omega) (Nat.le_of_ble_eq_true rfl) dX5_writeOut_32 rfl rfl ?_
  rintro v' w ⟨ad3, M3, hv', hw, o3, f3⟩
  rw [hv', hw, ← f3.1 0 (by decide)]
  have hI3 := f3.si hI2
  refine E_pop (q := 36) dX5_writeOut_35 rfl rfl ?_
  refine E_aload0 (q := 37) dX5_writeOut_36 rfl ?_
  refine G_X5_store (q := 40) fl_X5_12 dX5_writeOut_37 rfl ?_
  refine E_iload1 (q := 41) dX5_writeOut_40 rfl ?_
  refine C_V1I (q := 44) lk_X5_85 (sp_X4_rowOf hI3 (by omega)) (rc_X4 isSt_1) dX5_writeOut_41 (by decide) (Nat.le_of_ble_eq_true rfl) rfl ?_
  refine E_istore2 (q := 45) dX5_writeOut_44 rfl rfl ?_
  refine E_iconst (v := nI 0) (q := 46) dX5_writeOut_45 (by decide) rfl ?_
  refine E_istore3 (q := 47) dX5_writeOut_46 rfl rfl ?_
  refine hrow _ _ ad3 M3 ⟨_, s2.1, ?_, (f1.tr f2).tr f3, by omega, by omega⟩
  rw [flt_0, show snT A [] = [] from rfl, List.append_nil, hnA]
  exact o3
theorem sp_X5_outputAtH (h : SbC M cap T) (hc : T[i]? = some c) : Spec D 14 yX5_outputAt cfX5_outputAt [.ref (ad 0), .int (nI (i))] (wl D ad M) 0 0 (PI (nI c) (wl D ad M)) := by
  refine Spec.of (by decide) rfl (Nat.le_of_ble_eq_true rfl) rfl ?_
  have hil := (List.getElem?_eq_some_iff.mp hc).1
  have hT := h.2.1
  refine E_iload1 (q := 1) dX5_outputAt_0 rfl ?_
  refine E_if_lt (tgt := 15) (q := 4) dX5_outputAt_1 (by decide) rfl (fun h1 => ?_) (fun h1 => ?_)
  · skip
    exact absurd h1 (nI_pos (by omega))
  · skip
    refine E_iload1 (q := 5) dX5_outputAt_4 rfl ?_
    refine E_aload0 (q := 6) dX5_outputAt_5 rfl ?_
    refine G_X5_output (q := 9) fl_X5_40 dX5_outputAt_6 rfl ?_
    refine C_V0I (q := 12) lk_X5_108 (sp_J4_length_8abf5 h) rc_J4 dX5_outputAt_9 (by decide) (Nat.le_of_ble_eq_true rfl) rfl ?_
    refine E_icmp_ltN (tgt := 17) (q := 15) dX5_outputAt_12 (by decide) rfl (by omega) (by omega) (fun h12 => ?_) (fun h12 => ?_)
    · skip
      refine E_aload0 (q := 18) dX5_outputAt_17 rfl ?_
      refine G_X5_output (q := 21) fl_X5_40 dX5_outputAt_18 rfl ?_
      refine E_iload1 (q := 22) dX5_outputAt_21 rfl ?_
      refine C_V1I (q := 25) lk_X5_112 (sp_J4_charAt h hc) rc_J4 dX5_outputAt_22 (by decide) (Nat.le_of_ble_eq_true rfl) rfl ?_
      exact E_ireturn rfl rfl dX5_outputAt_25 (PI_of rfl rfl)
    · skip
      exact absurd hil (by omega)
theorem sp_X5_outputAtM {q : Int32} (h : SbC M cap T) (hc : ¬ ∃ k, k < T.length ∧ q = nI k) : Spec D 14 yX5_outputAt cfX5_outputAt [.ref (ad 0), .int (q)] (wl D ad M) 0 0 (PI (-1) (wl D ad M)) := by
  refine Spec.of (by decide) rfl (Nat.le_of_ble_eq_true rfl) rfl ?_
  have hT := h.2.1
  refine E_iload1 (q := 1) dX5_outputAt_0 rfl ?_
  refine E_if_lt (tgt := 15) (q := 4) dX5_outputAt_1 (by decide) rfl (fun h1 => ?_) (fun h1 => ?_)
  · skip
    refine E_iconst (v := -1) (q := 16) dX5_outputAt_15 (by decide) rfl ?_
    exact E_ireturn rfl rfl dX5_outputAt_16 (PI_of rfl rfl)
  · skip
    refine E_iload1 (q := 5) dX5_outputAt_4 rfl ?_
    refine E_aload0 (q := 6) dX5_outputAt_5 rfl ?_
    refine G_X5_output (q := 9) fl_X5_40 dX5_outputAt_6 rfl ?_
    refine C_V0I (q := 12) lk_X5_108 (sp_J4_length_8abf5 h) rc_J4 dX5_outputAt_9 (by decide) (Nat.le_of_ble_eq_true rfl) rfl ?_
    refine E_icmp_lt (tgt := 17) (q := 15) dX5_outputAt_12 (by decide) rfl (fun h12 => ?_) (fun h12 => ?_)
    · skip
      obtain ⟨k, hk, hqk⟩ := nI_of h1
      exact absurd ⟨k, (nI_ltI (by omega) (by omega)).mp (hqk ▸ h12), hqk⟩ hc
    · skip
      refine E_iconst (v := -1) (q := 16) dX5_outputAt_15 (by decide) rfl ?_
      exact E_ireturn rfl rfl dX5_outputAt_16 (PI_of rfl rfl)
end CLS
