/-! THE CLASS: blocks, what they answer and how they change -/
section VALS
variable {A : AS} {bl : List Blk}
/-- owners laid anew in the first i places -/
def moF (g : Nat → Int32) (bl : List Blk) (h : Blk → Nat) (i : Nat) : Nat → Int32 := fun j => if j < i then (match bl[j]? with | some x => nI (h x) | none => g j) else g j
theorem moF_0 {g : Nat → Int32} {h : Blk → Nat} : moF g bl h 0 = g := funext fun j => if_neg (by omega)
theorem moF_s {g : Nat → Int32} {h : Blk → Nat} {i : Nat} {x : Blk} (hx : bl[i]? = some x) : upd (moF g bl h i) i (nI (h x)) = moF g bl h (i + 1) := funext fun j => by
  unfold upd moF
  by_cases e : j = i
  · rw [if_pos e, if_pos (by omega), e, hx]
  · rw [if_neg e]
    by_cases e2 : j < i
    · rw [if_pos e2, if_pos (by omega)]
    · rw [if_neg e2, if_neg (by omega)]
theorem moF_k {g : Nat → Int32} {h : Blk → Nat} {i : Nat} {x : Blk} (hx : bl[i]? = some x) (hg : g i = nI (h x)) : moF g bl h i = moF g bl h (i + 1) := by
  rw [← moF_s hx]
  funext j
  unfold upd
  by_cases e : j = i
  · rw [if_pos e, e]
    unfold moF
    rw [if_neg (by omega), hg]
  · rw [if_neg e]
theorem moF_ge {g : Nat → Int32} {h : Blk → Nat} {i j : Nat} (hj : i ≤ j) : moF g bl h i j = g j := if_neg (by omega)
def mapO (h : Blk → Nat) (bl : List Blk) : List Blk := bl.map (fun x => (x.1, siz x, adr x, h x))
theorem lendB_map (f t : Nat) : lendB bl f t = mapO (fun x => if (own x).testBit f = true then own x ||| 2 ^ t else own x) bl := by
  unfold lendB mapO
  refine List.map_congr_left fun x _ => ?_
  by_cases c : (own x).testBit f = true
  · rw [if_pos c]
    show _ = (x.1, siz x, adr x, if (own x).testBit f = true then own x ||| 2 ^ t else own x)
    rw [if_pos c]
  · rw [if_neg c]
    show _ = (x.1, siz x, adr x, if (own x).testBit f = true then own x ||| 2 ^ t else own x)
    rw [if_neg c]
def delS (x : Blk) : Nat := if own x = 0 then siz x else 0
def keepB (bl : List Blk) : List Blk := bl.filter (fun x => own x != 0)
theorem keepB_app (bl : List Blk) (x : Blk) : keepB (bl ++ [x]) = if own x = 0 then keepB bl else keepB bl ++ [x] := by
  unfold keepB
  rw [List.filter_append]
  by_cases c : own x = 0
  · rw [if_pos c, List.filter_cons_of_neg (p := fun x => own x != 0) (by simp [c])]; exact List.append_nil _
  · rw [if_neg c, List.filter_cons_of_pos (p := fun x => own x != 0) (by simpa using c)]; rfl
theorem keepB_len (i : Nat) : (keepB (bl.take i)).length ≤ i := Nat.le_trans (List.length_filter_le _ _) (by rw [List.length_take]; omega)
theorem fsum_map (f : Blk → Nat) (g : Blk → Blk) (bl : List Blk) : fsum f (bl.map g) = fsum (fun x => f (g x)) bl := by
  induction bl with
  | nil => rfl
  | cons x bl ih => rw [List.map_cons, fsum_cons, fsum_cons, ih]
theorem uwF_only (h : BLW bl) (m : Nat) : fsum (uwF 0 (m ^^^ 4294967295) 0) bl = fsum (hbF m) bl := fsum_congr fun x hx => by
  have h1 := h.2 x hx
  unfold uwF hbF fitB andn
  by_cases c : own x &&& (m ^^^ 4294967295) = 0
  · rw [if_pos (dB_t ⟨h1.1, Nat.and_zero _, c⟩), if_pos c]
  · rw [if_neg (by rw [dB_f (fun z => c z.2.2)]; simp), if_neg c]
end VALS
section CLS
variable {D : va_G} {ad : Nat → Nat} {M : Mem} {wx : Nat} {ws : va_W} {A : AS} {b : Nat} {bl : List Blk}
/-- the blocks are bl, and only they have changed -/
def BW (D : va_G) (ad : Nat → Nat) (M : Mem) (b : Nat) (bl : List Blk) : va_W → Prop := fun w => ∃ M', w = wl D ad M' ∧ BlkIs M' b bl ∧ ∀ c, (c < b ∨ b + 4 < c) → M' c = M c
theorem m1_xor {m : Nat} : nI m ^^^ (-1 : Int32) = nI (m ^^^ 4294967295) := by rw [nI_m1, nI_xor]
theorem not_lt32 {m : Nat} (h : m < 2 ^ 32) : m ^^^ 4294967295 < 2 ^ 32 := Nat.xor_lt_two_pow h (by decide)
theorem nI_nm1 {i : Nat} (h : i < 2 ^ 31) : ¬ nI i = (-1 : Int32) := fun z => nI_pos h (by rw [z]; decide)
theorem BlkIs.mapO (hB : BlkIs M b bl) (h : Blk → Nat) : BlkIs (row2 M (b + 4) (moF (M (b + 4)) bl h bl.length)) b (mapO h bl) := by
  refine ⟨?_, fun i x hx => ?_⟩
  · rw [row2_ne (by omega), hB.1]; unfold CSnapshotVolumesLaw_law_r8276_96050f.mapO; rw [List.length_map]
  · unfold CSnapshotVolumesLaw_law_r8276_96050f.mapO at hx
    rw [List.getElem?_map] at hx
    cases hy : bl[i]? with
    | none => rw [hy] at hx; cases hx
    | some y =>
      rw [hy] at hx
      have hx : (y.1, siz y, adr y, h y) = x := by simpa using hx
      subst hx
      have hg := hB.2 i y hy
      have hi := (List.getElem?_eq_some_iff.mp hy).1
      rw [row2_ne (by omega), row2_ne (by omega), row2_ne (by omega), row2_same]
      refine ⟨hg.1, hg.2.1, hg.2.2.1, ?_⟩
      unfold moF
      rw [if_pos hi, hy]
theorem fitL_at {nd av k : Nat} {x : Blk} (hx : bl[k]? = some x) (hf : fitB nd av x) : (fitL nd av bl)[(fitL nd av (bl.take k)).length]? = some x := by
  have h1 : bl = bl.take k ++ x :: bl.drop (k + 1) := by
    conv => lhs; rw [← List.take_append_drop k bl]
    rw [List.drop_eq_getElem_cons (List.getElem?_eq_some_iff.mp hx).1, (List.getElem?_eq_some_iff.mp hx).2]
  have h2 : bl.filter (fun x => dB (fitB nd av x)) = (bl.take k).filter (fun x => dB (fitB nd av x)) ++ x :: (bl.drop (k + 1)).filter (fun x => dB (fitB nd av x)) := by
    conv => lhs; rw [h1]
    rw [List.filter_append, List.filter_cons_of_pos (p := fun x => dB (fitB nd av x)) (dB_t hf)]
  unfold fitL
  rw [h2, List.getElem?_append_right (Nat.le_refl _), Nat.sub_self]
  rfl
theorem sp_X0_unitsOnlyOf {m : Nat} (hb : IsBl b) (hB : BlkIs M b bl) (hw : BLW bl) (hm : m < 2 ^ 32) : Spec D 4 yX0_unitsOnlyOf cfX0_unitsOnlyOf [.ref (ad (b)), .int (nI (m))] (wl D ad M) 0 0 (PI (nI (fsum (hbF m) bl)) (wl D ad M)) := by
  refine Spec.of (by decide) rfl (Nat.le_of_ble_eq_true rfl) rfl ?_
  have hx := not_lt32 hm
  rw [← uwF_only hw m]
  refine E_aload0 (q := 1) dX0_unitsOnlyOf_0 rfl ?_
  refine E_iconst (v := nI 0) (q := 2) dX0_unitsOnlyOf_1 (by decide) rfl ?_
  refine E_iload1 (q := 3) dX0_unitsOnlyOf_2 rfl ?_
  refine E_iconst (v := -1) (q := 4) dX0_unitsOnlyOf_3 (by decide) rfl ?_
  refine E_ixor (q := 5) dX0_unitsOnlyOf_4 rfl ?_
  refine V_int m1_xor ?_
  refine E_iconst (v := nI 0) (q := 6) dX0_unitsOnlyOf_5 (by decide) rfl ?_
  refine C_V3I (q := 9) lk_X0_42 (sp_X0_unitsWhere hb hB hw (by decide) hx (by decide)) (rc_X0 hb) dX0_unitsOnlyOf_6 (by decide) (Nat.le_of_ble_eq_true rfl) rfl ?_
  exact E_ireturn rfl rfl dX0_unitsOnlyOf_9 (PI_of rfl rfl)
theorem sp_X0_unitsAloneAt {w a : Nat} (hb : IsBl b) (hB : BlkIs M b A.2) (hw : BLW A.2) (hw22 : w < 22) (ha : a < 2 ^ 31) : Spec D 4 yX0_unitsAloneAt cfX0_unitsAloneAt [.ref (ad (b)), .int (nI (w)), .int (nI (a))] (wl D ad M) 0 0 (PI (nI (aln A w a)) (wl D ad M)) := by
  refine Spec.of (by decide) rfl (Nat.le_of_ble_eq_true rfl) rfl ?_
  have hl := hw.1
  have hp32 : 2 ^ w < 2 ^ 32 := Nat.pow_lt_pow_right (by decide) (by omega)
  cases hx : blkAt A.2 w a with
  | none =>
    have hno : ∀ y, y ∈ A.2 → ¬ atWA w a y := fun y hy => blkAt_none hx hy
    have hv : aln A w a = 0 := by unfold aln; rw [hx]
    rw [hv]
    refine E_aload0 (q := 1) dX0_unitsAloneAt_0 rfl ?_
    refine E_iload1 (q := 2) dX0_unitsAloneAt_1 rfl ?_
    refine E_iload2 (q := 3) dX0_unitsAloneAt_2 rfl ?_
    refine C_V2I (q := 6) lk_X0_46 (sp_X0_indexAtN hb hB hw hw22 ha hno) (rc_X0 hb) dX0_unitsAloneAt_3 (by decide) (Nat.le_of_ble_eq_true rfl) rfl ?_
    refine E_istore3 (q := 7) dX0_unitsAloneAt_6 rfl rfl ?_
    refine E_iload3 (q := 8) dX0_unitsAloneAt_7 rfl ?_
    refine E_iconst (v := -1) (q := 9) dX0_unitsAloneAt_8 (by decide) rfl ?_
    refine E_icmp_eq (tgt := 34) (q := 12) dX0_unitsAloneAt_9 (by decide) rfl (fun h9 => ?_) (fun h9 => ?_)
    · skip
      refine E_iconst (v := nI 0) (q := 35) dX0_unitsAloneAt_34 (by decide) rfl ?_
      exact E_ireturn rfl rfl dX0_unitsAloneAt_35 (PI_of rfl rfl)
    · skip
      exact absurd rfl h9
  | some x =>
    have hs := blkAt_some hx
    obtain ⟨i, y, hf⟩ := atFst (P := atWA w a) ⟨x, hs.1, hs.2⟩
    have hxy : blkAt A.2 w a = some y := by
      unfold blkAt
      rw [List.find?_eq_some_iff_getElem]
      obtain ⟨h1, h2⟩ := List.getElem?_eq_some_iff.mp hf.1
      refine ⟨by rw [Bool.and_eq_true, beq_iff_eq]; exact hf.2.1, i, h1, h2, fun j hj => ?_⟩
      have := hf.2.2 j _ hj (List.getElem?_eq_getElem (by omega))
      simp only [Bool.not_eq_true', Bool.and_eq_false_imp, beq_iff_eq]
      intro q
      cases hc : (own A.2[j]).testBit w with
      | false => rfl
      | true => exact absurd ⟨q, hc⟩ this
    have hi := (List.getElem?_eq_some_iff.mp hf.1).1
    have hg := hB.2 i y hf.1
    have hyw := hw.2 y (List.mem_of_getElem? hf.1)
    have hv : aln A w a = if own y = 2 ^ w then siz y else 0 := by unfold aln; rw [hxy]
    refine E_aload0 (q := 1) dX0_unitsAloneAt_0 rfl ?_
    refine E_iload1 (q := 2) dX0_unitsAloneAt_1 rfl ?_
    refine E_iload2 (q := 3) dX0_unitsAloneAt_2 rfl ?_
    refine C_V2I (q := 6) lk_X0_46 (sp_X0_indexAtS hb hB hw hw22 ha hf) (rc_X0 hb) dX0_unitsAloneAt_3 (by decide) (Nat.le_of_ble_eq_true rfl) rfl ?_
    refine E_istore3 (q := 7) dX0_unitsAloneAt_6 rfl rfl ?_
    refine E_iload3 (q := 8) dX0_unitsAloneAt_7 rfl ?_
    refine E_iconst (v := -1) (q := 9) dX0_unitsAloneAt_8 (by decide) rfl ?_
    refine E_icmp_eq (tgt := 34) (q := 12) dX0_unitsAloneAt_9 (by decide) rfl (fun h9 => absurd h9 (nI_nm1 (by omega))) (fun h9 => ?_)
    refine E_aload0 (q := 13) dX0_unitsAloneAt_12 rfl ?_
    refine G_X0_owners (q := 16) hb fl_X0_21 dX0_unitsAloneAt_13 rfl ?_
    refine E_iload3 (q := 17) dX0_unitsAloneAt_16 rfl ?_
    refine E_ialdN (q := 18) hb.owners (by omega) (by decide) dX0_unitsAloneAt_17 rfl ?_
    refine V_int hg.2.2.2 ?_
    refine E_iload1 (q := 19) dX0_unitsAloneAt_18 rfl ?_
    refine C_SN1I (q := 22) lk_X0_34 (sp_X5_bit (by omega)) dX0_unitsAloneAt_19 (by decide) (Nat.le_of_ble_eq_true rfl) rfl ?_
    refine E_icmp_ne (tgt := 34) (q := 25) dX0_unitsAloneAt_22 (by decide) rfl (fun h22 => ?_) (fun h22 => ?_)
    · skip
      refine E_iconst (v := nI 0) (q := 35) dX0_unitsAloneAt_34 (by decide) rfl ?_
      exact E_ireturn rfl rfl dX0_unitsAloneAt_35 (PI_of (by rw [hv, if_neg (fun z => h22 (congrArg nI z))]) rfl)
    · skip
      refine E_aload0 (q := 26) dX0_unitsAloneAt_25 rfl ?_
      refine G_X0_sizes (q := 29) hb fl_X0_15 dX0_unitsAloneAt_26 rfl ?_
      refine E_iload3 (q := 30) dX0_unitsAloneAt_29 rfl ?_
      refine E_ialdN (q := 31) hb.sizes (by omega) (by decide) dX0_unitsAloneAt_30 rfl ?_
      refine V_int hg.2.1 ?_
      refine E_goto (q := 35) dX0_unitsAloneAt_31 (by decide) ?_
      exact E_ireturn rfl rfl dX0_unitsAloneAt_35 (PI_of (by rw [hv, if_pos (nI_inj (by omega) hp32 h22)]) rfl)
theorem sp_X0_unitsByVersions (hb : IsBl b) (hB : BlkIs M b bl) (hw : BLW bl) : Spec D 3 yX0_unitsByVersions cfX0_unitsByVersions [.ref (ad (b))] (wl D ad M) 0 0 (PI (nI (fsum (fun x => siz x * popN (own x)) bl)) (wl D ad M)) := by
  refine Spec.of (by decide) rfl (Nat.le_of_ble_eq_true rfl) rfl ?_
  have hl := hw.1
  have hmain : V D cfX0_unitsByVersions (rmOf 3 0 0) (QM D (PI (nI (fsum (fun x => siz x * popN (own x)) bl)) (wl D ad M)) 0 0) 0 0 4 [some (.ref (ad (b))), some (.int (nI (fsum (fun x => siz x * popN (own x)) (bl.take 0)))), some (.int (nI (0)))] [] (wl D ad M) := by
    refine upto0 (n := bl.length) (P := fun k => V D cfX0_unitsByVersions (rmOf 3 0 0) (QM D (PI (nI (fsum (fun x => siz x * popN (own x)) bl)) (wl D ad M)) 0 0) 0 0 4 [some (.ref (ad (b))), some (.int (nI (fsum (fun x => siz x * popN (own x)) (bl.take k)))), some (.int (nI (k)))] [] (wl D ad M)) ?_ ?_
    · skip
      refine E_iload2 (q := 5) dX0_unitsByVersions_4 rfl ?_
      refine E_aload0 (q := 6) dX0_unitsByVersions_5 rfl ?_
      refine G_X0_length (q := 9) hb fl_X0_24 dX0_unitsByVersions_6 rfl ?_
      refine V_int hB.1 ?_
      refine E_icmp_geN (tgt := 37) (q := 12) dX0_unitsByVersions_9 (by decide) rfl (by omega) (by omega) (fun h9 => ?_) (fun h9 => ?_)
      · skip
        refine E_iload1 (q := 38) dX0_unitsByVersions_37 rfl ?_
        exact E_ireturn rfl rfl dX0_unitsByVersions_38 (PI_of (by rw [List.take_length]) rfl)
      · skip
        exact absurd h9 (Nat.lt_irrefl _)
    · intro k hk ih
      obtain ⟨x, hx, hxm, g1, g2, g3, g4⟩ := hB.get hk
      have hxw := hw.2 x hxm
      rw [take_s hx, fsum_app] at ih
      refine E_iload2 (q := 5) dX0_unitsByVersions_4 rfl ?_
      refine E_aload0 (q := 6) dX0_unitsByVersions_5 rfl ?_
      refine G_X0_length (q := 9) hb fl_X0_24 dX0_unitsByVersions_6 rfl ?_
      refine V_int hB.1 ?_
      refine E_icmp_geN (tgt := 37) (q := 12) dX0_unitsByVersions_9 (by decide) rfl (by omega) (by omega) (fun h9 => ?_) (fun h9 => ?_)
      · skip
        exact absurd h9 (by omega)
      · skip
        refine E_iload1 (q := 13) dX0_unitsByVersions_12 rfl ?_
        refine E_aload0 (q := 14) dX0_unitsByVersions_13 rfl ?_
        refine G_X0_sizes (q := 17) hb fl_X0_15 dX0_unitsByVersions_14 rfl ?_
        refine E_iload2 (q := 18) dX0_unitsByVersions_17 rfl ?_
        refine E_ialdN (q := 19) hb.sizes (by omega) (by decide) dX0_unitsByVersions_18 rfl ?_
        refine V_int g2 ?_
        refine E_aload0 (q := 20) dX0_unitsByVersions_19 rfl ?_
        refine G_X0_owners (q := 23) hb fl_X0_21 dX0_unitsByVersions_20 rfl ?_
        refine E_iload2 (q := 24) dX0_unitsByVersions_23 rfl ?_
        refine E_ialdN (q := 25) hb.owners (by omega) (by decide) dX0_unitsByVersions_24 rfl ?_
        refine V_int g4 ?_
        refine C_S1I (q := 28) lk_X0_50 (sp_J6_bitCount_0f7a4 (by omega)) dX0_unitsByVersions_25 (by decide) (Nat.le_of_ble_eq_true rfl) rfl ?_
        refine E_imulN (q := 29) dX0_unitsByVersions_28 rfl ?_
        refine E_iaddN (q := 30) dX0_unitsByVersions_29 rfl ?_
        refine E_istore1 (q := 31) dX0_unitsByVersions_30 rfl rfl ?_
        refine E_iinc2 (q := 34) dX0_unitsByVersions_31 (nI_inc _) rfl rfl ?_
        refine E_goto (q := 4) dX0_unitsByVersions_34 (by decide) ?_
        exact ih
  refine E_iconst (v := nI 0) (q := 1) dX0_unitsByVersions_0 (by decide) rfl ?_
  refine E_istore1 (q := 2) dX0_unitsByVersions_1 rfl rfl ?_
  refine E_iconst (v := nI 0) (q := 3) dX0_unitsByVersions_2 (by decide) rfl ?_
  refine E_istore2 (q := 4) dX0_unitsByVersions_3 rfl rfl ?_
  exact hmain
theorem sp_X0_birthWhere {nd av : Nat} {p : Int32} (hb : IsBl b) (hB : BlkIs M b bl) (hw : BLW bl) (hnd : nd < 2 ^ 32) (hav : av < 2 ^ 32) : Spec D 3 yX0_birthWhere cfX0_birthWhere [.ref (ad (b)), .int (nI (nd)), .int (nI (av)), .int (p)] (wl D ad M) 0 0 (PI (nthV (fitL nd av bl) p) (wl D ad M)) := by
  refine Spec.of (by decide) rfl (Nat.le_of_ble_eq_true rfl) rfl ?_
  have hl := hw.1
  have hmain : V D cfX0_birthWhere (rmOf 3 0 0) (QM D (PI (nthV (fitL nd av bl) p) (wl D ad M)) 0 0) 0 0 6 [some (.ref (ad (b))), some (.int (nI (nd))), some (.int (nI (av))), some (.int (p)), some (.int (nI ((fitL nd av (bl.take 0)).length))), some (.int (nI (0)))] [] (wl D ad M) := by
    refine (upto0 (n := bl.length) (P := fun k => (∀ j, j < (fitL nd av (bl.take k)).length → p ≠ nI j) → V D cfX0_birthWhere (rmOf 3 0 0) (QM D (PI (nthV (fitL nd av bl) p) (wl D ad M)) 0 0) 0 0 6 [some (.ref (ad (b))), some (.int (nI (nd))), some (.int (nI (av))), some (.int (p)), some (.int (nI ((fitL nd av (bl.take k)).length))), some (.int (nI (k)))] [] (wl D ad M)) ?_ ?_) (fun j hj => absurd hj (by simp [fitL]))
    · intro hno
      refine E_iload5 (q := 8) dX0_birthWhere_6 rfl ?_
      refine E_aload0 (q := 9) dX0_birthWhere_8 rfl ?_
      refine G_X0_length (q := 12) hb fl_X0_24 dX0_birthWhere_9 rfl ?_
      refine V_int hB.1 ?_
      refine E_icmp_geN (tgt := 49) (q := 15) dX0_birthWhere_12 (by decide) rfl (by omega) (by omega) (fun h12 => ?_) (fun h12 => ?_)
      · skip
        refine E_iconst (v := -1) (q := 50) dX0_birthWhere_49 (by decide) rfl ?_
        exact E_ireturn rfl rfl dX0_birthWhere_50 (PI_of (nthV_miss (fun k x hk _ => hno k (by rw [List.take_length]; exact (List.getElem?_eq_some_iff.mp hk).1))).symm rfl)
      · skip
        exact absurd h12 (Nat.lt_irrefl _)
    · intro k hk ih hno
      obtain ⟨x, hx, hxm, g1, g2, g3, g4⟩ := hB.get hk
      have hxw := hw.2 x hxm
      have hkl : (fitL nd av (bl.take k)).length ≤ k := Nat.le_trans (List.length_filter_le _ _) (by rw [List.length_take]; omega)
      rw [take_s hx, fitL_app] at ih
      refine E_iload5 (q := 8) dX0_birthWhere_6 rfl ?_
      refine E_aload0 (q := 9) dX0_birthWhere_8 rfl ?_
      refine G_X0_length (q := 12) hb fl_X0_24 dX0_birthWhere_9 rfl ?_
      refine V_int hB.1 ?_
      refine E_icmp_geN (tgt := 49) (q := 15) dX0_birthWhere_12 (by decide) rfl (by omega) (by omega) (fun h12 => ?_) (fun h12 => ?_)
      · skip
        exact absurd h12 (by omega)
      · skip
        refine E_aload0 (q := 16) dX0_birthWhere_15 rfl ?_
        refine E_iload5 (q := 18) dX0_birthWhere_16 rfl ?_
        refine E_iload1 (q := 19) dX0_birthWhere_18 rfl ?_
        refine E_iload2 (q := 20) dX0_birthWhere_19 rfl ?_
        refine C_V3I (q := 23) lk_X0_38 (sp_X0_fits hb hB hw hx (by omega) (by omega)) (rc_X0 hb) dX0_birthWhere_20 (by decide) (Nat.le_of_ble_eq_true rfl) rfl ?_
        refine E_if_eq (tgt := 43) (q := 26) dX0_birthWhere_23 (by decide) rfl (fun h23 => ?_) (fun h23 => ?_)
        · skip
          refine E_iinc5 (q := 46) dX0_birthWhere_43 (nI_inc _) rfl rfl ?_
          refine E_goto (q := 6) dX0_birthWhere_46 (by decide) ?_
          rw [if_neg (by rw [dB_f (zI_0 h23)]; simp), Nat.add_zero] at ih
          exact ih hno
        · skip
          refine E_iload4 (q := 28) dX0_birthWhere_26 rfl ?_
          refine E_iload3 (q := 29) dX0_birthWhere_28 rfl ?_
          refine E_icmp_ne (tgt := 40) (q := 32) dX0_birthWhere_29 (by decide) rfl (fun h29 => ?_) (fun h29 => ?_)
          · skip
            refine E_iinc4 (q := 43) dX0_birthWhere_40 (nI_inc _) rfl rfl ?_
            refine E_iinc5 (q := 46) dX0_birthWhere_43 (nI_inc _) rfl rfl ?_
            refine E_goto (q := 6) dX0_birthWhere_46 (by decide) ?_
            rw [if_pos (dB_t (zI_n h23))] at ih
            exact ih (fun j hj => by rcases Nat.lt_or_ge j (fitL nd av (bl.take k)).length with q | q; exact hno j q; rw [show j = (fitL nd av (bl.take k)).length by omega]; exact fun z => h29 z.symm)
          · skip
            refine E_aload0 (q := 33) dX0_birthWhere_32 rfl ?_
            refine G_X0_births (q := 36) hb fl_X0_9 dX0_birthWhere_33 rfl ?_
            refine E_iload5 (q := 38) dX0_birthWhere_36 rfl ?_
            refine E_ialdN (q := 39) hb.births (by omega) (by decide) dX0_birthWhere_38 rfl ?_
            refine V_int g1 ?_
            exact E_ireturn rfl rfl dX0_birthWhere_39 (PI_of (by rw [← h29]; exact (nthV_hit (by omega) (fitL_at hx (zI_n h23))).symm) rfl)
  refine E_iconst (v := nI 0) (q := 1) dX0_birthWhere_0 (by decide) rfl ?_
  refine E_istore4 (q := 3) dX0_birthWhere_1 rfl rfl ?_
  refine E_iconst (v := nI 0) (q := 4) dX0_birthWhere_3 (by decide) rfl ?_
  refine E_istore5 (q := 6) dX0_birthWhere_4 rfl rfl ?_
  exact hmain
theorem sp_X0_lend {f t : Nat} (hb : IsBl b) (hB : BlkIs M b bl) (hw : BLW bl) (hf : f < 22) (ht : t < 22) : Spec D 3 yX0_lend cfX0_lend [.ref (ad (b)), .int (nI (f)), .int (nI (t))] (wl D ad M) 0 0 (PY (BW D ad M b (lendB bl f t))) := by
  refine Spec.of (by decide) rfl (Nat.le_of_ble_eq_true rfl) rfl ?_
  have hl := hw.1
  have hmain : V D cfX0_lend (rmOf 3 0 0) (QM D (PY (BW D ad M b (lendB bl f t))) 0 0) 0 0 2 [some (.ref (ad (b))), some (.int (nI (f))), some (.int (nI (t))), some (.int (nI (0)))] [] (wl D ad (row2 M (b + 4) (moF (M (b + 4)) bl (fun x => if (own x).testBit f = true then own x ||| 2 ^ t else own x) 0))) := by
    refine upto0 (n := bl.length) (P := fun k => V D cfX0_lend (rmOf 3 0 0) (QM D (PY (BW D ad M b (lendB bl f t))) 0 0) 0 0 2 [some (.ref (ad (b))), some (.int (nI (f))), some (.int (nI (t))), some (.int (nI (k)))] [] (wl D ad (row2 M (b + 4) (moF (M (b + 4)) bl (fun x => if (own x).testBit f = true then own x ||| 2 ^ t else own x) k)))) ?_ ?_
    · skip
      refine E_iload3 (q := 3) dX0_lend_2 rfl ?_
      refine E_aload0 (q := 4) dX0_lend_3 rfl ?_
      refine G_X0_length (q := 7) hb fl_X0_24 dX0_lend_4 rfl ?_
      refine V_int (show _ = nI bl.length by rw [row2_ne (by omega)]; exact hB.1) ?_
      refine E_icmp_geN (tgt := 42) (q := 10) dX0_lend_7 (by decide) rfl (by omega) (by omega) (fun h7 => ?_) (fun h7 => ?_)
      · skip
        exact E_vreturn rfl rfl dX0_lend_42 ⟨rfl, _, rfl, by rw [lendB_map]; exact hB.mapO _, fun c hc => row2_ne (by omega)⟩
      · skip
        exact absurd h7 (Nat.lt_irrefl _)
    · intro k hk ih
      obtain ⟨x, hx, hxm, g1, g2, g3, g4⟩ := hB.get hk
      have hxw := hw.2 x hxm
      have hrd : row2 M (b + 4) (moF (M (b + 4)) bl (fun x => if (own x).testBit f = true then own x ||| 2 ^ t else own x) k) (b + 4) k = nI (own x) := by rw [row2_same, moF_ge (Nat.le_refl _)]; exact g4
      refine E_iload3 (q := 3) dX0_lend_2 rfl ?_
      refine E_aload0 (q := 4) dX0_lend_3 rfl ?_
      refine G_X0_length (q := 7) hb fl_X0_24 dX0_lend_4 rfl ?_
      refine V_int (show _ = nI bl.length by rw [row2_ne (by omega)]; exact hB.1) ?_
      refine E_icmp_geN (tgt := 42) (q := 10) dX0_lend_7 (by decide) rfl (by omega) (by omega) (fun h7 => ?_) (fun h7 => ?_)
      · skip
        exact absurd h7 (by omega)
      · skip
        refine E_aload0 (q := 11) dX0_lend_10 rfl ?_
        refine G_X0_owners (q := 14) hb fl_X0_21 dX0_lend_11 rfl ?_
        refine E_iload3 (q := 15) dX0_lend_14 rfl ?_
        refine E_ialdN (q := 16) hb.owners (by omega) (by decide) dX0_lend_15 rfl ?_
        refine V_int hrd ?_
        refine E_iload1 (q := 17) dX0_lend_16 rfl ?_
        refine C_SN2I (q := 20) lk_X0_55 (sp_X5_contains (by omega) (by omega)) dX0_lend_17 (by decide) (Nat.le_of_ble_eq_true rfl) rfl ?_
        refine E_if_eq (tgt := 36) (q := 23) dX0_lend_20 (by decide) rfl (fun h20 => ?_) (fun h20 => ?_)
        · skip
          refine V_ws (congrArg (fun g => wl D ad (row2 M (b + 4) g)) (moF_k (h := fun x => if (own x).testBit f = true then own x ||| 2 ^ t else own x) hx (by rw [if_neg (zI_0 h20)]; exact g4))) ?_
          refine E_iinc3 (q := 39) dX0_lend_36 (nI_inc _) rfl rfl ?_
          refine E_goto (q := 2) dX0_lend_39 (by decide) ?_
          exact ih
        · skip
          refine E_aload0 (q := 24) dX0_lend_23 rfl ?_
          refine G_X0_owners (q := 27) hb fl_X0_21 dX0_lend_24 rfl ?_
          refine E_iload3 (q := 28) dX0_lend_27 rfl ?_
          refine E_dup2 (q := 29) dX0_lend_28 rfl rfl rfl ?_
          refine E_ialdN (q := 30) hb.owners (by omega) (by decide) dX0_lend_29 rfl ?_
          refine V_int hrd ?_
          refine E_iload2 (q := 31) dX0_lend_30 rfl ?_
          refine C_SN1I (q := 34) lk_X0_34 (sp_X5_bit (by omega)) dX0_lend_31 (by decide) (Nat.le_of_ble_eq_true rfl) rfl ?_
          refine E_iorN (q := 35) dX0_lend_34 (nI_or _ _) rfl ?_
          refine E_iastN (q := 36) hb.owners (by omega) (by decide) dX0_lend_35 rfl ?_
          refine V_ws (congrArg (wl D ad) row2_upd) ?_
          refine V_ws (congrArg (fun g => wl D ad (row2 M (b + 4) g)) (show _ = moF (M (b + 4)) bl (fun x => if (own x).testBit f = true then own x ||| 2 ^ t else own x) (k + 1) by rw [← moF_s hx, if_pos (zI_n h20)])) ?_
          refine E_iinc3 (q := 39) dX0_lend_36 (nI_inc _) rfl rfl ?_
          refine E_goto (q := 2) dX0_lend_39 (by decide) ?_
          exact ih
  rw [moF_0, row2_self] at hmain
  refine E_iconst (v := nI 0) (q := 1) dX0_lend_0 (by decide) rfl ?_
  refine E_istore3 (q := 2) dX0_lend_1 rfl rfl ?_
  exact hmain
theorem sp_X0_sweep (hb : IsBl b) (hB : BlkIs M b bl) (hl : bl.length ≤ 264) (ho : ∀ x, x ∈ bl → own x < 2 ^ 31) : Spec D 2 yX0_sweep cfX0_sweep [.ref (ad (b))] (wl D ad M) 0 0 (PX (fun y w => y = nI (fsum delS bl) ∧ BW D ad M b (keepB bl) w)) := by
  refine Spec.of (by decide) rfl (Nat.le_of_ble_eq_true rfl) rfl ?_
  have hmain : ∀ M', (M' b 4 = M b 4 ∧ (∀ j x, (keepB (bl.take 0))[j]? = some x → M' (b + 1) j = nI x.1 ∧ M' (b + 2) j = nI (siz x) ∧ M' (b + 3) j = nI (adr x) ∧ M' (b + 4) j = nI (own x)) ∧ (∀ j, 0 ≤ j → M' (b + 1) j = M (b + 1) j ∧ M' (b + 2) j = M (b + 2) j ∧ M' (b + 3) j = M (b + 3) j ∧ M' (b + 4) j = M (b + 4) j) ∧ ∀ c, (c < b ∨ b + 4 < c) → M' c = M c) → V D cfX0_sweep (rmOf 2 0 0) (QM D (PX (fun y w => y = nI (fsum delS bl) ∧ BW D ad M b (keepB bl) w)) 0 0) 0 0 6 [some (.ref (ad (b))), some (.int (nI ((keepB (bl.take 0)).length))), some (.int (nI (fsum delS (bl.take 0)))), some (.int (nI (0)))] [] (wl D ad M') := by
    refine upto0 (n := bl.length) (P := fun i => ∀ M', (M' b 4 = M b 4 ∧ (∀ j x, (keepB (bl.take i))[j]? = some x → M' (b + 1) j = nI x.1 ∧ M' (b + 2) j = nI (siz x) ∧ M' (b + 3) j = nI (adr x) ∧ M' (b + 4) j = nI (own x)) ∧ (∀ j, i ≤ j → M' (b + 1) j = M (b + 1) j ∧ M' (b + 2) j = M (b + 2) j ∧ M' (b + 3) j = M (b + 3) j ∧ M' (b + 4) j = M (b + 4) j) ∧ ∀ c, (c < b ∨ b + 4 < c) → M' c = M c) → V D cfX0_sweep (rmOf 2 0 0) (QM D (PX (fun y w => y = nI (fsum delS bl) ∧ BW D ad M b (keepB bl) w)) 0 0) 0 0 6 [some (.ref (ad (b))), some (.int (nI ((keepB (bl.take i)).length))), some (.int (nI (fsum delS (bl.take i)))), some (.int (nI (i)))] [] (wl D ad M')) ?_ ?_
    · rintro M' ⟨i0, i1, i2, i3⟩
      rw [List.take_length] at i1 ⊢
      refine E_iload3 (q := 7) dX0_sweep_6 rfl ?_
      refine E_aload0 (q := 8) dX0_sweep_7 rfl ?_
      refine G_X0_length (q := 11) hb fl_X0_24 dX0_sweep_8 rfl ?_
      refine V_int (i0.trans hB.1) ?_
      refine E_icmp_geN (tgt := 92) (q := 14) dX0_sweep_11 (by decide) rfl (by omega) (by omega) (fun h11 => ?_) (fun h11 => ?_)
      · skip
        refine E_aload0 (q := 93) dX0_sweep_92 rfl ?_
        refine E_iload1 (q := 94) dX0_sweep_93 rfl ?_
        refine P_X0_length (q := 97) hb fl_X0_24 dX0_sweep_94 rfl ?_
        refine E_iload2 (q := 98) dX0_sweep_97 rfl ?_
        exact E_ireturn rfl rfl dX0_sweep_98 ⟨_, rfl, rfl, _, rfl, ⟨upd2_same, fun j x hj => by rw [upd2_row (by omega), upd2_row (by omega), upd2_row (by omega), upd2_row (by omega)]; exact i1 j x hj⟩, fun c hc => by rw [upd2_row (by omega)]; exact i3 c hc⟩
      · skip
        exact absurd h11 (Nat.lt_irrefl _)
    · intro k hk ih M' hI
      obtain ⟨i0, i1, i2, i3⟩ := hI
      obtain ⟨x, hx, hxm, g1, g2, g3, g4⟩ := hB.get hk
      obtain ⟨f1, f2, f3, f4⟩ := i2 k (Nat.le_refl _)
      have hkl := keepB_len (bl := bl) k
      have hox := ho x hxm
      rw [take_s hx, keepB_app, fsum_app, delS] at ih
      by_cases c0 : own x = 0
      · rw [if_pos c0, if_pos c0] at ih
        refine E_iload3 (q := 7) dX0_sweep_6 rfl ?_
        refine E_aload0 (q := 8) dX0_sweep_7 rfl ?_
        refine G_X0_length (q := 11) hb fl_X0_24 dX0_sweep_8 rfl ?_
        refine V_int (i0.trans hB.1) ?_
        refine E_icmp_geN (tgt := 92) (q := 14) dX0_sweep_11 (by decide) rfl (by omega) (by omega) (fun h11 => ?_) (fun h11 => ?_)
        · skip
          exact absurd h11 (by omega)
        · skip
          refine E_aload0 (q := 15) dX0_sweep_14 rfl ?_
          refine G_X0_owners (q := 18) hb fl_X0_21 dX0_sweep_15 rfl ?_
          refine E_iload3 (q := 19) dX0_sweep_18 rfl ?_
          refine E_ialdN (q := 20) hb.owners (by omega) (by decide) dX0_sweep_19 rfl ?_
          refine V_int (show _ = nI 0 by rw [f4, g4, c0]) ?_
          refine E_if_ne (tgt := 35) (q := 23) dX0_sweep_20 (by decide) rfl (fun h20 => ?_) (fun h20 => ?_)
          · first | exact absurd h20 (by decide) | exact absurd (by decide) h20
          · skip
            refine E_iload2 (q := 24) dX0_sweep_23 rfl ?_
            refine E_aload0 (q := 25) dX0_sweep_24 rfl ?_
            refine G_X0_sizes (q := 28) hb fl_X0_15 dX0_sweep_25 rfl ?_
            refine E_iload3 (q := 29) dX0_sweep_28 rfl ?_
            refine E_ialdN (q := 30) hb.sizes (by omega) (by decide) dX0_sweep_29 rfl ?_
            refine V_int (f2.trans g2) ?_
            refine E_iaddN (q := 31) dX0_sweep_30 rfl ?_
            refine E_istore2 (q := 32) dX0_sweep_31 rfl rfl ?_
            refine E_goto (q := 86) dX0_sweep_32 (by decide) ?_
            refine E_iinc3 (q := 89) dX0_sweep_86 (nI_inc _) rfl rfl ?_
            refine E_goto (q := 6) dX0_sweep_89 (by decide) ?_
            exact ih M' ⟨i0, i1, fun j hj => i2 j (by omega), i3⟩
      · rw [if_neg c0, if_neg c0, List.length_append] at ih
        refine E_iload3 (q := 7) dX0_sweep_6 rfl ?_
        refine E_aload0 (q := 8) dX0_sweep_7 rfl ?_
        refine G_X0_length (q := 11) hb fl_X0_24 dX0_sweep_8 rfl ?_
        refine V_int (i0.trans hB.1) ?_
        refine E_icmp_geN (tgt := 92) (q := 14) dX0_sweep_11 (by decide) rfl (by omega) (by omega) (fun h11 => ?_) (fun h11 => ?_)
        · skip
          exact absurd h11 (by omega)
        · skip
          refine E_aload0 (q := 15) dX0_sweep_14 rfl ?_
          refine G_X0_owners (q := 18) hb fl_X0_21 dX0_sweep_15 rfl ?_
          refine E_iload3 (q := 19) dX0_sweep_18 rfl ?_
          refine E_ialdN (q := 20) hb.owners (by omega) (by decide) dX0_sweep_19 rfl ?_
          refine V_int (f4.trans g4) ?_
          refine E_if_ne (tgt := 35) (q := 23) dX0_sweep_20 (by decide) rfl (fun h20 => ?_) (fun h20 => ?_)
          · skip
            refine E_aload0 (q := 36) dX0_sweep_35 rfl ?_
            refine G_X0_births (q := 39) hb fl_X0_9 dX0_sweep_36 rfl ?_
            refine E_iload1 (q := 40) dX0_sweep_39 rfl ?_
            refine E_aload0 (q := 41) dX0_sweep_40 rfl ?_
            refine G_X0_births (q := 44) hb fl_X0_9 dX0_sweep_41 rfl ?_
            refine E_iload3 (q := 45) dX0_sweep_44 rfl ?_
            refine E_ialdN (q := 46) hb.births (by omega) (by decide) dX0_sweep_45 rfl ?_
            refine V_int (f1.trans g1) ?_
            refine E_iastN (q := 47) hb.births (by omega) (by decide) dX0_sweep_46 rfl ?_
            refine E_aload0 (q := 48) dX0_sweep_47 rfl ?_
            refine G_X0_sizes (q := 51) hb fl_X0_15 dX0_sweep_48 rfl ?_
            refine E_iload1 (q := 52) dX0_sweep_51 rfl ?_
            refine E_aload0 (q := 53) dX0_sweep_52 rfl ?_
            refine G_X0_sizes (q := 56) hb fl_X0_15 dX0_sweep_53 rfl ?_
            refine E_iload3 (q := 57) dX0_sweep_56 rfl ?_
            refine E_ialdN (q := 58) hb.sizes (by omega) (by decide) dX0_sweep_57 rfl ?_
            refine V_int (show _ = nI (siz x) by rw [upd2_row (by omega)]; exact f2.trans g2) ?_
            refine E_iastN (q := 59) hb.sizes (by omega) (by decide) dX0_sweep_58 rfl ?_
            refine E_aload0 (q := 60) dX0_sweep_59 rfl ?_
            refine G_X0_addresses (q := 63) hb fl_X0_18 dX0_sweep_60 rfl ?_
            refine E_iload1 (q := 64) dX0_sweep_63 rfl ?_
            refine E_aload0 (q := 65) dX0_sweep_64 rfl ?_
            refine G_X0_addresses (q := 68) hb fl_X0_18 dX0_sweep_65 rfl ?_
            refine E_iload3 (q := 69) dX0_sweep_68 rfl ?_
            refine E_ialdN (q := 70) hb.addresses (by omega) (by decide) dX0_sweep_69 rfl ?_
            refine V_int (show _ = nI (adr x) by rw [upd2_row (by omega), upd2_row (by omega)]; exact f3.trans g3) ?_
            refine E_iastN (q := 71) hb.addresses (by omega) (by decide) dX0_sweep_70 rfl ?_
            refine E_aload0 (q := 72) dX0_sweep_71 rfl ?_
            refine G_X0_owners (q := 75) hb fl_X0_21 dX0_sweep_72 rfl ?_
            refine E_iload1 (q := 76) dX0_sweep_75 rfl ?_
            refine E_aload0 (q := 77) dX0_sweep_76 rfl ?_
            refine G_X0_owners (q := 80) hb fl_X0_21 dX0_sweep_77 rfl ?_
            refine E_iload3 (q := 81) dX0_sweep_80 rfl ?_
            refine E_ialdN (q := 82) hb.owners (by omega) (by decide) dX0_sweep_81 rfl ?_
            refine V_int (show _ = nI (own x) by rw [upd2_row (by omega), upd2_row (by omega), upd2_row (by omega)]; exact f4.trans g4) ?_
            refine E_iastN (q := 83) hb.owners (by omega) (by decide) dX0_sweep_82 rfl ?_
            refine E_iinc1 (q := 86) dX0_sweep_83 (nI_inc _) rfl rfl ?_
            refine E_iinc3 (q := 89) dX0_sweep_86 (nI_inc _) rfl rfl ?_
            refine E_goto (q := 6) dX0_sweep_89 (by decide) ?_
            refine ih _ ⟨?_, ?_, ?_, ?_⟩
            · rw [upd2_row (by omega), upd2_row (by omega), upd2_row (by omega), upd2_row (by omega)]; exact i0
            · intro j y hj
              rw [upd2_row (a := b + 1) (by omega), upd2_row (a := b + 1) (by omega), upd2_row (a := b + 1) (by omega), upd2_row (a := b + 2) (by omega), upd2_row (a := b + 2) (by omega), upd2_row (a := b + 3) (by omega)]
              by_cases e : j = (keepB (bl.take k)).length
              · subst e
                rw [List.getElem?_append_right (Nat.le_refl _), Nat.sub_self] at hj
                have : x = y := by simpa using hj
                subst this
                rw [upd2_same, upd2_same, upd2_same, upd2_same]; exact ⟨rfl, rfl, rfl, rfl⟩
              · have hjl : j < (keepB (bl.take k)).length := by have := (List.getElem?_eq_some_iff.mp hj).1; rw [List.length_append] at this; simp at this; omega
                rw [List.getElem?_append_left hjl] at hj
                rw [upd2_ne (by omega), upd2_ne (by omega), upd2_row (a := b + 2) (by omega), upd2_ne (by omega), upd2_row (a := b + 3) (by omega), upd2_row (a := b + 3) (by omega), upd2_ne (by omega), upd2_row (a := b + 4) (by omega), upd2_row (a := b + 4) (by omega), upd2_row (a := b + 4) (by omega)]
                exact i1 j y hj
            · intro j hj
              rw [upd2_ne (a := b + 4) (by omega), upd2_ne (a := b + 4) (by omega), upd2_ne (a := b + 4) (by omega), upd2_ne (a := b + 4) (by omega), upd2_ne (a := b + 3) (by omega), upd2_ne (a := b + 3) (by omega), upd2_ne (a := b + 3) (by omega), upd2_ne (a := b + 3) (by omega), upd2_ne (a := b + 2) (by omega), upd2_ne (a := b + 2) (by omega), upd2_ne (a := b + 2) (by omega), upd2_ne (a := b + 2) (by omega), upd2_ne (a := b + 1) (by omega), upd2_ne (a := b + 1) (by omega), upd2_ne (a := b + 1) (by omega), upd2_ne (a := b + 1) (by omega)]
              exact i2 j (by omega)
            · intro c hc
              rw [upd2_row (by omega), upd2_row (by omega), upd2_row (by omega), upd2_row (by omega)]; exact i3 c hc
          · skip
            exact absurd ((nI_z hox).mp h20) c0
  refine E_iconst (v := nI 0) (q := 1) dX0_sweep_0 (by decide) rfl ?_
  refine E_istore1 (q := 2) dX0_sweep_1 rfl rfl ?_
  refine E_iconst (v := nI 0) (q := 3) dX0_sweep_2 (by decide) rfl ?_
  refine E_istore2 (q := 4) dX0_sweep_3 rfl rfl ?_
  refine E_iconst (v := nI 0) (q := 5) dX0_sweep_4 (by decide) rfl ?_
  refine E_istore3 (q := 6) dX0_sweep_5 rfl rfl ?_
  exact hmain M ⟨rfl, fun j x hj => by simp [keepB] at hj, fun j _ => ⟨rfl, rfl, rfl, rfl⟩, fun c _ => rfl⟩
end CLS
