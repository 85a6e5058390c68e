
/-! THE CLASS: blocks and stores change -/
section CLS
variable {D : va_G} {ad : Nat → Nat} {M : Mem} {wx : Nat} {ws : va_W} {A : AS} {b b2 : Nat} {bl : List Blk}
section KK
variable {F : Cfg} {rm : Room} {Qf : QF} {k n pc : Nat} {locs : List (Option Value)} {st : List Value}
theorem kkEI {P : Mem → Prop} {v : Int32} (h : ∀ M1, P M1 → V D F rm Qf k n pc locs (.int v :: st) (wl D ad M1)) : ∀ r w, (r = v ∧ ∃ M', w = wl D ad M' ∧ P M') → V D F rm Qf k n pc locs (.int r :: st) w := fun r w hw => by
  obtain ⟨h1, M1, h2, hp⟩ := hw
  rw [h1, h2]
  exact h M1 hp
theorem kkEW {P : Mem → Prop} (h : ∀ M1, P M1 → V D F rm Qf k n pc locs st (wl D ad M1)) : ∀ w, (∃ M', w = wl D ad M' ∧ P M') → V D F rm Qf k n pc locs st w := fun w hw => by
  obtain ⟨M1, h2, hp⟩ := hw
  rw [h2]
  exact h M1 hp
end KK
def SW (D : va_G) (ad : Nat → Nat) (M : Mem) (b : Nat) (B : AS) : va_W → Prop := fun w => ∃ M', w = wl D ad M' ∧ StoreIs M' b B ∧ ∀ c, (c < b ∨ b + 12 < c) → M' c = M c
theorem sp_X0_release {m : Nat} (hb : IsBl b) (hB : BlkIs M b bl) (hw : BLW bl) (hm : m < 2 ^ 32) : Spec D 3 yX0_release cfX0_release [.ref (ad (b)), .int (nI (m))] (wl D ad M) 0 0 (PX (fun y w => y = nI (freedB bl (fun _ => m)) ∧ BW D ad M b (relB bl (fun _ => m)) w)) := by
  refine Spec.of (by decide) rfl (Nat.le_of_ble_eq_true rfl) rfl ?_
  have hl := hw.1
  have hmain : V D cfX0_release (rmOf 3 0 0) (QM D (PX (fun y w => y = nI (freedB bl (fun _ => m)) ∧ BW D ad M b (relB bl (fun _ => m)) w)) 0 0) 0 0 2 [some (.ref (ad (b))), some (.int (nI (m))), some (.int (nI (0)))] [] (wl D ad (row2 M (b + 4) (moF (M (b + 4)) bl (fun x => andn (own x) m) 0))) := by
    refine upto0 (n := bl.length) (P := fun i => V D cfX0_release (rmOf 3 0 0) (QM D (PX (fun y w => y = nI (freedB bl (fun _ => m)) ∧ BW D ad M b (relB bl (fun _ => m)) w)) 0 0) 0 0 2 [some (.ref (ad (b))), some (.int (nI (m))), some (.int (nI (i)))] [] (wl D ad (row2 M (b + 4) (moF (M (b + 4)) bl (fun x => andn (own x) m) i)))) ?_ ?_
    · skip
      refine E_iload2 (q := 3) dX0_release_2 rfl ?_
      refine E_aload0 (q := 4) dX0_release_3 rfl ?_
      refine G_X0_length (q := 7) hb fl_X0_24 dX0_release_4 rfl ?_
      refine V_int (show _ = nI bl.length by rw [row2_ne (by omega)]; exact hB.1) ?_
      refine E_icmp_geN (tgt := 28) (q := 10) dX0_release_7 (by decide) rfl (by omega) (by omega) (fun h7 => ?_) (fun h7 => ?_)
      · skip
        refine E_aload0 (q := 29) dX0_release_28 rfl ?_
        refine C_V0X (q := 32) lk_X0_59 (sp_X0_sweep hb (hB.mapO (fun x => andn (own x) m)) (by rw [mapO, List.length_map]; exact hl) (fun x hx => by obtain ⟨z, hz, rfl⟩ := List.mem_map.mp hx; exact Nat.lt_of_le_of_lt andn_le (Nat.lt_trans (hw.2 z hz).2.2.2.2 (by decide)))) (rc_X0 hb) dX0_release_29 (by decide) (Nat.le_of_ble_eq_true rfl) rfl ?_
        refine kkEI ?_
        rintro M1 ⟨hb1, hk1⟩
        exact E_ireturn rfl rfl dX0_release_32 ⟨_, rfl, (congrArg nI (show fsum delS (mapO (fun x => andn (own x) m) bl) = freedB bl (fun _ => m) from fsum_map ..)), M1, rfl, hb1, fun c hc => by rw [hk1 c hc, row2_ne (by omega)]⟩
      · skip
        exact absurd h7 (Nat.lt_irrefl _)
    · intro k hk ih
      obtain ⟨x, hx, hxm, g1, g2, g3, g4⟩ := hB.get hk
      have hrd : row2 M (b + 4) (moF (M (b + 4)) bl (fun x => andn (own x) m) k) (b + 4) k = nI (own x) := by rw [row2_same, moF_ge (Nat.le_refl _)]; exact g4
      refine E_iload2 (q := 3) dX0_release_2 rfl ?_
      refine E_aload0 (q := 4) dX0_release_3 rfl ?_
      refine G_X0_length (q := 7) hb fl_X0_24 dX0_release_4 rfl ?_
      refine V_int (show _ = nI bl.length by rw [row2_ne (by omega)]; exact hB.1) ?_
      refine E_icmp_geN (tgt := 28) (q := 10) dX0_release_7 (by decide) rfl (by omega) (by omega) (fun h7 => ?_) (fun h7 => ?_)
      · skip
        exact absurd h7 (by omega)
      · skip
        refine E_aload0 (q := 11) dX0_release_10 rfl ?_
        refine G_X0_owners (q := 14) hb fl_X0_21 dX0_release_11 rfl ?_
        refine E_iload2 (q := 15) dX0_release_14 rfl ?_
        refine E_dup2 (q := 16) dX0_release_15 rfl rfl rfl ?_
        refine E_ialdN (q := 17) hb.owners (by omega) (by decide) dX0_release_16 rfl ?_
        refine V_int hrd ?_
        refine E_iload1 (q := 18) dX0_release_17 rfl ?_
        refine E_iconst (v := -1) (q := 19) dX0_release_18 (by decide) rfl ?_
        refine E_ixor (q := 20) dX0_release_19 rfl ?_
        refine E_iand (q := 21) dX0_release_20 rfl ?_
        refine V_int (nI_andn _ _) ?_
        refine E_iastN (q := 22) hb.owners (by omega) (by decide) dX0_release_21 rfl ?_
        refine V_ws (congrArg (wl D ad) row2_upd) ?_
        refine V_ws (congrArg (fun g => wl D ad (row2 M (b + 4) g)) (moF_s (h := fun x => andn (own x) m) hx)) ?_
        refine E_iinc2 (q := 25) dX0_release_22 (nI_inc _) rfl rfl ?_
        refine E_goto (q := 2) dX0_release_25 (by decide) ?_
        exact ih
  rw [moF_0, row2_self] at hmain
  refine E_iconst (v := nI 0) (q := 1) dX0_release_0 (by decide) rfl ?_
  refine E_istore2 (q := 2) dX0_release_1 rfl rfl ?_
  exact hmain
theorem sp_X0_releaseAt {w a : Nat} (hb : IsBl b) (hB : BlkIs M b A.2) (hA : WF A) (hw22 : w < 22) (ha : a < 2 ^ 31) : Spec D 4 yX0_releaseAt cfX0_releaseAt [.ref (ad (b)), .int (nI (w)), .int (nI (a))] (wl D ad M) 0 0 (PX (fun y w' => y = nI (freedB A.2 (fun c => if c = a then 2 ^ w else 0)) ∧ BW D ad M b (relAt A.2 w a) w')) := by
  refine Spec.of (by decide) rfl (Nat.le_of_ble_eq_true rfl) rfl ?_
  have hw := hA.blw
  have hl := hw.1
  rcases at_cases A.2 w a with ⟨hx0, hno⟩ | ⟨j, x, hf, hx0⟩
  · obtain ⟨e1, e2⟩ := rel_gone hA.2.2 hno
    refine E_aload0 (q := 1) dX0_releaseAt_0 rfl ?_
    refine E_iload1 (q := 2) dX0_releaseAt_1 rfl ?_
    refine E_iload2 (q := 3) dX0_releaseAt_2 rfl ?_
    refine C_V2I (q := 6) lk_X0_46 (sp_X0_indexAtN hb hB hw hw22 ha hno) (rc_X0 hb) dX0_releaseAt_3 (by decide) (Nat.le_of_ble_eq_true rfl) rfl ?_
    refine E_istore3 (q := 7) dX0_releaseAt_6 rfl rfl ?_
    refine E_iload3 (q := 8) dX0_releaseAt_7 rfl ?_
    refine E_iconst (v := -1) (q := 9) dX0_releaseAt_8 (by decide) rfl ?_
    refine E_icmp_ne (tgt := 14) (q := 12) dX0_releaseAt_9 (by decide) rfl (fun h9 => ?_) (fun h9 => ?_)
    · skip
      exact absurd rfl h9
    · skip
      refine E_iconst (v := nI 0) (q := 13) dX0_releaseAt_12 (by decide) rfl ?_
      exact E_ireturn rfl rfl dX0_releaseAt_13 ⟨_, rfl, by rw [e2], M, rfl, by rw [e1]; exact hB, fun c _ => rfl⟩
  · have hj := (List.getElem?_eq_some_iff.mp hf.1).1
    have hxm := List.mem_of_getElem? hf.1
    have h1 := rel_one hA.2.2 hf
    have hh : andn (own x) (if adr x = a then 2 ^ w else 0) = andn (own x) (2 ^ w) := by rw [if_pos hf.2.1.1]
    have hB2 : BlkIs (upd2 M (b + 4) j (nI (andn (own x) (2 ^ w)))) b (mapO (fun y => andn (own y) (if adr y = a then 2 ^ w else 0)) A.2) := hh ▸ blkIs_at hB hf.1 (fun y => andn (own y) (if adr y = a then 2 ^ w else 0)) h1
    refine E_aload0 (q := 1) dX0_releaseAt_0 rfl ?_
    refine E_iload1 (q := 2) dX0_releaseAt_1 rfl ?_
    refine E_iload2 (q := 3) dX0_releaseAt_2 rfl ?_
    refine C_V2I (q := 6) lk_X0_46 (sp_X0_indexAtS hb hB hw hw22 ha hf) (rc_X0 hb) dX0_releaseAt_3 (by decide) (Nat.le_of_ble_eq_true rfl) rfl ?_
    refine E_istore3 (q := 7) dX0_releaseAt_6 rfl rfl ?_
    refine E_iload3 (q := 8) dX0_releaseAt_7 rfl ?_
    refine E_iconst (v := -1) (q := 9) dX0_releaseAt_8 (by decide) rfl ?_
    refine E_icmp_ne (tgt := 14) (q := 12) dX0_releaseAt_9 (by decide) rfl (fun h9 => ?_) (fun h9 => ?_)
    · skip
      refine E_aload0 (q := 15) dX0_releaseAt_14 rfl ?_
      refine G_X0_owners (q := 18) hb fl_X0_21 dX0_releaseAt_15 rfl ?_
      refine E_iload3 (q := 19) dX0_releaseAt_18 rfl ?_
      refine E_dup2 (q := 20) dX0_releaseAt_19 rfl rfl rfl ?_
      refine E_ialdN (q := 21) hb.owners (by omega) (by decide) dX0_releaseAt_20 rfl ?_
      refine V_int (hB.2 j x hf.1).2.2.2 ?_
      refine E_iload1 (q := 22) dX0_releaseAt_21 rfl ?_
      refine C_SN1I (q := 25) lk_X0_34 (sp_X5_bit (by omega)) dX0_releaseAt_22 (by decide) (Nat.le_of_ble_eq_true rfl) rfl ?_
      refine E_iconst (v := -1) (q := 26) dX0_releaseAt_25 (by decide) rfl ?_
      refine E_ixor (q := 27) dX0_releaseAt_26 rfl ?_
      refine E_iand (q := 28) dX0_releaseAt_27 rfl ?_
      refine V_int (nI_andn _ _) ?_
      refine E_iastN (q := 29) hb.owners (by omega) (by decide) dX0_releaseAt_28 rfl ?_
      refine E_aload0 (q := 30) dX0_releaseAt_29 rfl ?_
      refine C_V0X (q := 33) lk_X0_59 (sp_X0_sweep hb hB2 (by rw [mapO, List.length_map]; exact hl) (fun x hx => by obtain ⟨z, hz, rfl⟩ := List.mem_map.mp hx; exact Nat.lt_of_le_of_lt andn_le (Nat.lt_trans (hw.2 z hz).2.2.2.2 (by decide)))) (rc_X0 hb) dX0_releaseAt_30 (by decide) (Nat.le_of_ble_eq_true rfl) rfl ?_
      refine kkEI ?_
      rintro M1 ⟨hb1, hk1⟩
      exact E_ireturn rfl rfl dX0_releaseAt_33 ⟨_, rfl, (congrArg nI (show fsum delS (mapO (fun y => andn (own y) (if adr y = a then 2 ^ w else 0)) A.2) = freedB A.2 (fun c => if c = a then 2 ^ w else 0) from fsum_map ..)), M1, rfl, hb1, fun c hc => by rw [hk1 c hc, upd2_row (by omega)]⟩
    · skip
      exact absurd h9 (nI_nm1 (by omega))
theorem BlkIs.app {t z a o : Nat} (hB : BlkIs M b bl) : BlkIs (upd2 (upd2 (upd2 (upd2 (upd2 M (b + 1) bl.length (nI t)) (b + 2) bl.length (nI z)) (b + 3) bl.length (nI a)) (b + 4) bl.length (nI o)) b 4 (nI (bl.length + 1))) b (bl ++ [(t, z, a, o)]) := by
  refine ⟨by rw [upd2_same, List.length_append]; rfl, fun i x hx => ?_⟩
  have hil := (List.getElem?_eq_some_iff.mp hx).1
  rw [List.length_append] at hil
  have hil : i < bl.length + 1 := hil
  by_cases e : i = bl.length
  · subst e
    rw [List.getElem?_append_right (Nat.le_refl _), Nat.sub_self] at hx
    have : (t, z, a, o) = x := by simpa using hx
    subst this
    refine ⟨?_, ?_, ?_, ?_⟩
    · rw [upd2_row (by omega), upd2_row (by omega), upd2_row (by omega), upd2_row (by omega)]; exact upd2_same
    · rw [upd2_row (by omega), upd2_row (by omega), upd2_row (by omega)]; exact upd2_same
    · rw [upd2_row (by omega), upd2_row (by omega)]; exact upd2_same
    · rw [upd2_row (by omega)]; exact upd2_same
  · rw [List.getElem?_append_left (by omega)] at hx
    obtain ⟨g1, g2, g3, g4⟩ := hB.2 i x hx
    refine ⟨?_, ?_, ?_, ?_⟩
    · rw [upd2_row (by omega), upd2_row (by omega), upd2_row (by omega), upd2_row (by omega), upd2_ne (by omega)]; exact g1
    · rw [upd2_row (by omega), upd2_row (by omega), upd2_row (by omega), upd2_ne (by omega), upd2_row (by omega)]; exact g2
    · rw [upd2_row (by omega), upd2_row (by omega), upd2_ne (by omega), upd2_row (by omega), upd2_row (by omega)]; exact g3
    · rw [upd2_row (by omega), upd2_ne (by omega), upd2_row (by omega), upd2_row (by omega), upd2_row (by omega)]; exact g4
theorem sp_X0_append {t z a w : Nat} (hb : IsBl b) (hB : BlkIs M b bl) (hl : bl.length < 264) (hw22 : w < 22) : Spec D 2 yX0_append cfX0_append [.ref (ad (b)), .int (nI (t)), .int (nI (z)), .int (nI (a)), .int (nI (w))] (wl D ad M) 0 0 (PY (BW D ad M b (bl ++ [(t, z, a, 2 ^ w)]))) := by
  refine Spec.of (by decide) rfl (Nat.le_of_ble_eq_true rfl) rfl ?_
  refine E_aload0 (q := 1) dX0_append_0 rfl ?_
  refine G_X0_length (q := 4) hb fl_X0_24 dX0_append_1 rfl ?_
  refine V_int hB.1 ?_
  refine E_sipush (v := nI 264) (q := 7) dX0_append_4 (by decide) rfl ?_
  refine E_icmp_geN (tgt := 64) (q := 10) dX0_append_7 (by decide) rfl (by omega) (by omega) (fun h7 => ?_) (fun h7 => ?_)
  · skip
    exact absurd h7 (by omega)
  · skip
    refine E_aload0 (q := 11) dX0_append_10 rfl ?_
    refine G_X0_births (q := 14) hb fl_X0_9 dX0_append_11 rfl ?_
    refine E_aload0 (q := 15) dX0_append_14 rfl ?_
    refine G_X0_length (q := 18) hb fl_X0_24 dX0_append_15 rfl ?_
    refine V_int hB.1 ?_
    refine E_iload1 (q := 19) dX0_append_18 rfl ?_
    refine E_iastN (q := 20) hb.births (by omega) (by decide) dX0_append_19 rfl ?_
    refine E_aload0 (q := 21) dX0_append_20 rfl ?_
    refine G_X0_sizes (q := 24) hb fl_X0_15 dX0_append_21 rfl ?_
    refine E_aload0 (q := 25) dX0_append_24 rfl ?_
    refine G_X0_length (q := 28) hb fl_X0_24 dX0_append_25 rfl ?_
    refine V_int (show _ = nI bl.length by rw [upd2_row (by omega)]; exact hB.1) ?_
    refine E_iload2 (q := 29) dX0_append_28 rfl ?_
    refine E_iastN (q := 30) hb.sizes (by omega) (by decide) dX0_append_29 rfl ?_
    refine E_aload0 (q := 31) dX0_append_30 rfl ?_
    refine G_X0_addresses (q := 34) hb fl_X0_18 dX0_append_31 rfl ?_
    refine E_aload0 (q := 35) dX0_append_34 rfl ?_
    refine G_X0_length (q := 38) hb fl_X0_24 dX0_append_35 rfl ?_
    refine V_int (show _ = nI bl.length by rw [upd2_row (by omega), upd2_row (by omega)]; exact hB.1) ?_
    refine E_iload3 (q := 39) dX0_append_38 rfl ?_
    refine E_iastN (q := 40) hb.addresses (by omega) (by decide) dX0_append_39 rfl ?_
    refine E_aload0 (q := 41) dX0_append_40 rfl ?_
    refine G_X0_owners (q := 44) hb fl_X0_21 dX0_append_41 rfl ?_
    refine E_aload0 (q := 45) dX0_append_44 rfl ?_
    refine G_X0_length (q := 48) hb fl_X0_24 dX0_append_45 rfl ?_
    refine V_int (show _ = nI bl.length by rw [upd2_row (by omega), upd2_row (by omega), upd2_row (by omega)]; exact hB.1) ?_
    refine E_iload4 (q := 50) dX0_append_48 rfl ?_
    refine C_SN1I (q := 53) lk_X0_34 (sp_X5_bit (by omega)) dX0_append_50 (by decide) (Nat.le_of_ble_eq_true rfl) rfl ?_
    refine E_iastN (q := 54) hb.owners (by omega) (by decide) dX0_append_53 rfl ?_
    refine E_aload0 (q := 55) dX0_append_54 rfl ?_
    refine E_dup (q := 56) dX0_append_55 rfl rfl ?_
    refine G_X0_length (q := 59) hb fl_X0_24 dX0_append_56 rfl ?_
    refine V_int (show _ = nI bl.length by rw [upd2_row (by omega), upd2_row (by omega), upd2_row (by omega), upd2_row (by omega)]; exact hB.1) ?_
    refine E_iconst (v := nI 1) (q := 60) dX0_append_59 (by decide) rfl ?_
    refine E_iaddN (q := 61) dX0_append_60 rfl ?_
    refine P_X0_length (q := 64) hb fl_X0_24 dX0_append_61 rfl ?_
    exact E_vreturn rfl rfl dX0_append_64 ⟨rfl, _, rfl, hB.app, fun c hc => by rw [upd2_row (by omega), upd2_row (by omega), upd2_row (by omega), upd2_row (by omega), upd2_row (by omega)]⟩

theorem sp_X0_copyFrom (hb : IsBl b) (hb2 : IsBl b2) (hne : b + 4 < b2 ∨ b2 + 4 < b) (hB : BlkIs M b2 bl) (hl : bl.length ≤ 264) : Spec D 1 yX0_copyFrom cfX0_copyFrom [.ref (ad (b)), .ref (ad (b2))] (wl D ad M) 0 0 (PY (BW D ad M b bl)) := by
  refine Spec.of (by decide) rfl (Nat.le_of_ble_eq_true rfl) rfl ?_
  refine E_aload0 (q := 1) dX0_copyFrom_0 rfl ?_
  refine E_aload1 (q := 2) dX0_copyFrom_1 rfl ?_
  refine G_X0_length (q := 5) hb2 fl_X0_24 dX0_copyFrom_2 rfl ?_
  refine V_int hB.1 ?_
  refine P_X0_length (q := 8) hb fl_X0_24 dX0_copyFrom_5 rfl ?_
  refine E_aload1 (q := 9) dX0_copyFrom_8 rfl ?_
  refine G_X0_births (q := 12) hb2 fl_X0_9 dX0_copyFrom_9 rfl ?_
  refine E_iconst (v := nI 0) (q := 13) dX0_copyFrom_12 (by decide) rfl ?_
  refine E_aload0 (q := 14) dX0_copyFrom_13 rfl ?_
  refine G_X0_births (q := 17) hb fl_X0_9 dX0_copyFrom_14 rfl ?_
  refine E_iconst (v := nI 0) (q := 18) dX0_copyFrom_17 (by decide) rfl ?_
  refine E_aload0 (q := 19) dX0_copyFrom_18 rfl ?_
  refine G_X0_length (q := 22) hb fl_X0_24 dX0_copyFrom_19 rfl ?_
  refine V_int upd2_same ?_
  refine E_acopy (q := 25) ac_X0 (by decide) hb2.births hb.births (by omega) (by omega) (by decide) (Nat.le_of_ble_eq_true rfl) dX0_copyFrom_22 rfl ?_
  refine E_aload1 (q := 26) dX0_copyFrom_25 rfl ?_
  refine G_X0_sizes (q := 29) hb2 fl_X0_15 dX0_copyFrom_26 rfl ?_
  refine E_iconst (v := nI 0) (q := 30) dX0_copyFrom_29 (by decide) rfl ?_
  refine E_aload0 (q := 31) dX0_copyFrom_30 rfl ?_
  refine G_X0_sizes (q := 34) hb fl_X0_15 dX0_copyFrom_31 rfl ?_
  refine E_iconst (v := nI 0) (q := 35) dX0_copyFrom_34 (by decide) rfl ?_
  refine E_aload0 (q := 36) dX0_copyFrom_35 rfl ?_
  refine G_X0_length (q := 39) hb fl_X0_24 dX0_copyFrom_36 rfl ?_
  refine V_int (show _ = nI bl.length by rw [row2_ne (by omega)]; exact upd2_same) ?_
  refine E_acopy (q := 42) ac_X0 (by decide) hb2.sizes hb.sizes (by omega) (by omega) (by decide) (Nat.le_of_ble_eq_true rfl) dX0_copyFrom_39 rfl ?_
  refine E_aload1 (q := 43) dX0_copyFrom_42 rfl ?_
  refine G_X0_addresses (q := 46) hb2 fl_X0_18 dX0_copyFrom_43 rfl ?_
  refine E_iconst (v := nI 0) (q := 47) dX0_copyFrom_46 (by decide) rfl ?_
  refine E_aload0 (q := 48) dX0_copyFrom_47 rfl ?_
  refine G_X0_addresses (q := 51) hb fl_X0_18 dX0_copyFrom_48 rfl ?_
  refine E_iconst (v := nI 0) (q := 52) dX0_copyFrom_51 (by decide) rfl ?_
  refine E_aload0 (q := 53) dX0_copyFrom_52 rfl ?_
  refine G_X0_length (q := 56) hb fl_X0_24 dX0_copyFrom_53 rfl ?_
  refine V_int (show _ = nI bl.length by rw [row2_ne (by omega), row2_ne (by omega)]; exact upd2_same) ?_
  refine E_acopy (q := 59) ac_X0 (by decide) hb2.addresses hb.addresses (by omega) (by omega) (by decide) (Nat.le_of_ble_eq_true rfl) dX0_copyFrom_56 rfl ?_
  refine E_aload1 (q := 60) dX0_copyFrom_59 rfl ?_
  refine G_X0_owners (q := 63) hb2 fl_X0_21 dX0_copyFrom_60 rfl ?_
  refine E_iconst (v := nI 0) (q := 64) dX0_copyFrom_63 (by decide) rfl ?_
  refine E_aload0 (q := 65) dX0_copyFrom_64 rfl ?_
  refine G_X0_owners (q := 68) hb fl_X0_21 dX0_copyFrom_65 rfl ?_
  refine E_iconst (v := nI 0) (q := 69) dX0_copyFrom_68 (by decide) rfl ?_
  refine E_aload0 (q := 70) dX0_copyFrom_69 rfl ?_
  refine G_X0_length (q := 73) hb fl_X0_24 dX0_copyFrom_70 rfl ?_
  refine V_int (show _ = nI bl.length by rw [row2_ne (by omega), row2_ne (by omega), row2_ne (by omega)]; exact upd2_same) ?_
  refine E_acopy (q := 76) ac_X0 (by decide) hb2.owners hb.owners (by omega) (by omega) (by decide) (Nat.le_of_ble_eq_true rfl) dX0_copyFrom_73 rfl ?_
  exact E_vreturn rfl rfl dX0_copyFrom_76 ⟨rfl, _, rfl, ⟨by rw [row2_ne (by omega), row2_ne (by omega), row2_ne (by omega), row2_ne (by omega)]; exact upd2_same, fun i x hx => ⟨by rw [row2_ne (by omega), row2_ne (by omega), row2_ne (by omega), row2_same, cpy_at (List.getElem?_eq_some_iff.mp hx).1, upd2_row (by omega)]; exact (hB.2 i x hx).1, by rw [row2_ne (by omega), row2_ne (by omega), row2_same, cpy_at (List.getElem?_eq_some_iff.mp hx).1, row2_ne (by omega), upd2_row (by omega)]; exact (hB.2 i x hx).2.1, by rw [row2_ne (by omega), row2_same, cpy_at (List.getElem?_eq_some_iff.mp hx).1, row2_ne (by omega), row2_ne (by omega), upd2_row (by omega)]; exact (hB.2 i x hx).2.2.1, by rw [row2_same, cpy_at (List.getElem?_eq_some_iff.mp hx).1, row2_ne (by omega), row2_ne (by omega), row2_ne (by omega), upd2_row (by omega)]; exact (hB.2 i x hx).2.2.2⟩⟩, fun c hc => by rw [row2_ne (by omega), row2_ne (by omega), row2_ne (by omega), row2_ne (by omega), upd2_row (by omega)]⟩
end CLS