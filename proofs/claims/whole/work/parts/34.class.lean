
/-! THE CLASS: a store and what it tells -/
section VALS
variable {A : AS} {bl : List Blk}
noncomputable def thM (A : AS) : Nat := bset (th A) 22
noncomputable def hdM (A : AS) : Nat := bset (hld A) 16
/-- the snapshots of w's volume ahead of w, as bits -/
noncomputable def ahM (A : AS) (w : Nat) : Nat := bset (fun s => th A s ∧ home A s = homeOf A w ∧ s < w) 16
noncomputable def linM (A : AS) (w : Nat) : Nat := bset (fun k => k ∈ lin A w) 22
theorem thM_bit {w : Nat} : (thM A).testBit w = true ↔ w < 22 ∧ th A w := bset_bit _ _ _
theorem hdM_bit {s : Nat} : (hdM A).testBit s = true ↔ s < 16 ∧ hld A s := bset_bit _ _ _
theorem thM_lt : thM A < 2 ^ 22 := bset_lt _ _
theorem hdM_lt : hdM A < 2 ^ 16 := bset_lt _ _
theorem ahM_lt {w : Nat} : ahM A w < 2 ^ 16 := bset_lt _ _
theorem linM_lt {w : Nat} : linM A w < 2 ^ 22 := bset_lt _ _
theorem clo_lt {s : Nat} : clo A s < 2 ^ 6 := bset_lt _ _
theorem snps_lt : snps A < 2 ^ 16 := bset_lt _ _
theorem sb_bit {k i : Nat} : (sbN k).testBit i = true ↔ i < k ∧ i < 16 := by
  unfold sbN
  rw [Nat.testBit_two_pow_sub_one, decide_eq_true_eq]
  split <;> omega
theorem sb_lt {k : Nat} : sbN k < 2 ^ 16 := by
  unfold sbN
  have : 2 ^ (if k < 16 then k else 16) ≤ 2 ^ 16 := Nat.pow_le_pow_right (by decide) (by split <;> omega)
  have : 1 ≤ 2 ^ (if k < 16 then k else 16) := Nat.one_le_two_pow
  omega
theorem snps_and : thM A &&& sbN 16 = snps A := eq_bits fun k => by
  rw [and_bit, thM_bit, sb_bit]
  unfold snps
  rw [bset_bit]
  constructor
  · rintro ⟨⟨_, h⟩, _, h2⟩; exact ⟨h2, h⟩
  · rintro ⟨h1, h2⟩; exact ⟨⟨by omega, h2⟩, h1, h1⟩
theorem ah_and {w : Nat} : rowM A (homeOf A w) &&& sbN w = ahM A w := eq_bits fun k => by
  rw [and_bit, rowM_bit, sb_bit]
  unfold ahM
  rw [bset_bit]
  constructor
  · rintro ⟨⟨h0, h1, h2⟩, h3, h4⟩; exact ⟨h4, h1, h2, h3⟩
  · rintro ⟨h0, h1, h2, h3⟩; exact ⟨⟨h0, h1, h2⟩, h3, h0⟩
theorem rb_and {s : Nat} (hs : s < 16) : andn (rowM A (home A s)) (sbN (s + 1)) = rowB A s := eq_bits fun k => by
  rw [andn_bit (Nat.lt_trans rowM_lt (by decide)), rowM_bit, sb_bit, rowB_bit]
  constructor
  · rintro ⟨⟨h0, h1, h2⟩, h3⟩; exact ⟨h0, h1, h2, by omega⟩
  · rintro ⟨h0, h1, h2, h3⟩; exact ⟨⟨h0, h1, h2⟩, by omega⟩
theorem nsum_range (P : Nat → Prop) (n : Nat) : nsum (fun k => if dB (P k) = true then 1 else 0) n = ((List.range n).filter (fun k => dB (P k))).length := by
  induction n with
  | zero => rfl
  | succ n ih =>
    rw [nsum, ih, List.range_succ, List.filter_append, List.length_append]
    by_cases c : dB (P n) = true
    · rw [if_pos c, List.filter_cons_of_pos (p := fun k => dB (P k)) c]; rfl
    · rw [if_neg c, List.filter_cons_of_neg (p := fun k => dB (P k)) c]; rfl
theorem rowAh_mem {w t : Nat} : t ∈ rowAh A w ↔ t < 16 ∧ th A t ∧ home A t = homeOf A w ∧ t < w := by
  unfold rowAh
  rw [List.mem_filter, mem_rowL, decide_eq_true_eq]
  constructor
  · rintro ⟨⟨a, b, c⟩, d⟩; exact ⟨a, b, c, d⟩
  · rintro ⟨a, b, c, d⟩; exact ⟨⟨a, b, c⟩, d⟩
theorem rowAh_pw (w : Nat) : (rowAh A w).Pairwise (· < ·) := List.Pairwise.filter _ (rowL_pw A _)
theorem ah_pop (w : Nat) : popN (ahM A w) = (rowAh A w).length := by
  unfold ahM
  rw [popN_bset _ (by decide), nsum_range]
  refine congrArg List.length (pw_ext (List.Pairwise.filter _ List.pairwise_lt_range) (rowAh_pw w) fun t => ?_)
  rw [rowAh_mem, List.mem_filter, List.mem_range]
  constructor
  · rintro ⟨a, c⟩
    exact ⟨a, Classical.byContradiction fun z => by rw [dB_f z] at c; cases c⟩
  · rintro ⟨a, c⟩; exact ⟨a, dB_t c⟩
theorem ah_0 {w : Nat} : ahM A w = 0 ↔ (rowAh A w).length = 0 := by
  rw [← ah_pop, popN_0iff (Nat.lt_trans ahM_lt (by decide))]
theorem hiF_is {m t n : Nat} (ht : m.testBit t = true) (hn : t < n) (hu : ∀ u, u < n → m.testBit u = true → u ≤ t) : hiF m n = nI t := by
  induction n with
  | zero => omega
  | succ n ih =>
    by_cases c : m.testBit n = true
    · have := hu n (by omega) c
      rw [hiF_on c, show n = t by omega]
    · rw [hiF_off c]
      have : t ≠ n := fun z => c (z ▸ ht)
      exact ih (by omega) (fun u h1 h2 => hu u (by omega) h2)
theorem hiF_0 (n : Nat) : hiF 0 n = -1 := by
  induction n with
  | zero => rfl
  | succ n ih => rw [hiF_off (by rw [Nat.zero_testBit]; simp), ih]
theorem ah_hi {w : Nat} (h : ahM A w ≠ 0) : hiF (ahM A w) 22 = oI (ahd A w) := by
  have hl : 0 < (rowAh A w).length := Nat.pos_of_ne_zero (fun z => h (ah_0.mpr z))
  cases hg : (rowAh A w).getLast? with
  | none => rw [List.getLast?_eq_none_iff] at hg; rw [hg] at hl; simp at hl
  | some t =>
    have e : ahd A w = t + 1 := by unfold ahd; rw [hg]
    have hm := rowAh_mem.mp (List.mem_of_getLast? hg)
    rw [e, oI_s]
    refine hiF_is ((bset_bit _ _ _).mpr ⟨hm.1, hm.2⟩) (by omega) (fun u _ hu => ?_)
    have hu := rowAh_mem.mpr ((bset_bit _ _ _).mp hu)
    rw [List.getLast?_eq_getElem?] at hg
    obtain ⟨i, hi⟩ := List.mem_iff_getElem?.mp hu
    have hil := (List.getElem?_eq_some_iff.mp hi).1
    by_cases c : i = (rowAh A w).length - 1
    · rw [c, hg] at hi; have : t = u := by simpa using hi
      omega
    · have := (pw_get_lt (rowAh_pw w) hi hg).mp (by omega); omega
theorem ah_org {w : Nat} (h : ahM A w = 0) : oI (org A (homeOf A w)) = oI (ahd A w) := by rw [ahd_zero (ah_0.mp h)]
theorem rb_lo {s : Nat} (hs : s < 16) (ht : th A s) (h : rowB A s ≠ 0) : fnd (fun k => (rowB A s).testBit k = true) 22 = nI (bhd A s) := by
  rcases fnd_or (fun k => (rowB A s).testBit k = true) 22 with ⟨k, h1, h2, h3, h4⟩ | ⟨h1, -⟩
  · rw [h4]
    have hk := rowB_bit.mp h2
    obtain ⟨i, hi⟩ := List.mem_iff_getElem?.mp (mem_rowL.mpr ⟨hk.1, hk.2.1, hk.2.2.1⟩)
    have hg := plc_get hs ht
    have hpi := (pw_get_lt (rowL_pw A _) hg hi).mpr hk.2.2.2
    have hil := (List.getElem?_eq_some_iff.mp hi).1
    obtain ⟨t, ht'⟩ : ∃ t, (rowL A (home A s))[plc A s + 1]? = some t := ⟨_, List.getElem?_eq_getElem (by omega)⟩
    have e : bhd A s = t := by unfold bhd; rw [ht']
    have htm := mem_rowL.mp (List.mem_of_getElem? ht')
    have hst := (pw_get_lt (rowL_pw A _) hg ht').mp (by omega)
    rw [e]
    by_cases c : i = plc A s + 1
    · subst c; rw [ht'] at hi; have : t = k := by simpa using hi
      rw [this]
    · have := (pw_get_lt (rowL_pw A _) ht' hi).mp (by omega)
      exact absurd (rowB_bit.mpr ⟨htm.1, htm.2.1, htm.2.2, hst⟩) (h3 t this)
  · obtain ⟨k, hk⟩ := ex_tb h
    have := (rowB_bit.mp hk).1
    exact absurd hk (h1 k (by omega))
theorem rb_0 {s : Nat} (hs : s < 16) (ht : th A s) (h : rowB A s = 0) : bhd A s = 16 + home A s := by
  unfold bhd
  cases hx : (rowL A (home A s))[plc A s + 1]? with
  | none => rfl
  | some t =>
    have hm := mem_rowL.mp (List.mem_of_getElem? hx)
    have hst := (pw_get_lt (rowL_pw A _) (plc_get hs ht) hx).mp (by omega)
    exact absurd (rowB_bit.mpr ⟨hm.1, hm.2.1, hm.2.2, hst⟩) (by rw [h, Nat.zero_testBit]; simp)
theorem uwF_all (h : BLW bl) : fsum (uwF 0 0 0) bl = fsum siz bl := fsum_congr fun x hx => if_pos (dB_t ⟨(h.2 x hx).1, Nat.and_zero _, Nat.and_zero _⟩)
theorem and_pow {m w : Nat} : m &&& 2 ^ w = 2 ^ w ↔ m.testBit w = true := by
  constructor
  · intro h
    have : (m &&& 2 ^ w).testBit w = true := by rw [h]; exact pow_bit.mpr rfl
    exact (and_bit.mp this).1
  · intro h
    refine eq_bits fun k => ?_
    rw [and_bit, pow_bit]
    exact ⟨fun z => z.2, fun z => ⟨z ▸ h, z⟩⟩
theorem uwF_w (h : WF A) (w : Nat) : fsum (uwF (2 ^ w) 0 0) A.2 = sumA A w := by
  rw [sumA_f h.2.2, uW_fsum]
  refine fsum_congr fun x hx => ?_
  unfold uwF
  by_cases c : (own x).testBit w = true
  · rw [if_pos (dB_t ⟨(h.blw.2 x hx).1, and_pow.mpr c, Nat.and_zero _⟩), if_pos c]
  · rw [if_neg (by rw [dB_f (fun z => c (and_pow.mp z.2.1))]; simp), if_neg c]
theorem at_cases (bl : List Blk) (w a : Nat) : (blkAt bl w a = none ∧ ∀ y, y ∈ bl → ¬ atWA w a y) ∨ ∃ i x, AtFst bl (atWA w a) i x ∧ blkAt bl w a = some x := by
  cases hx : blkAt bl w a with
  | none => exact Or.inl ⟨rfl, fun y hy => blkAt_none hx hy⟩
  | some x =>
    have hs := blkAt_some hx
    obtain ⟨i, y, hf⟩ := atFst (P := atWA w a) ⟨x, hs.1, hs.2⟩
    refine Or.inr ⟨i, y, hf, ?_⟩
    rw [← hx]
    unfold blkAt
    rw [List.find?_eq_some_iff_getElem]
    obtain ⟨h1, h2⟩ := List.getElem?_eq_some_iff.mp hf.1
    refine ⟨by rw [Bool.and_eq_true, beq_iff_eq]; exact hf.2.1, i, h1, h2, fun j hj => ?_⟩
    have := hf.2.2 j _ hj (List.getElem?_eq_getElem (by omega))
    simp only [Bool.not_eq_true', Bool.and_eq_false_imp, beq_iff_eq]
    intro q
    cases hc : (own bl[j]).testBit w with
    | false => rfl
    | true => exact absurd ⟨q, hc⟩ this
end VALS
section CLS
variable {D : va_G} {ad : Nat → Nat} {M : Mem} {wx : Nat} {ws : va_W} {A : AS} {b : Nat} {bl : List Blk}
def StoreIs (M : Mem) (b : Nat) (A : AS) : Prop := (M b 0 = nI (aT A) ∧ M b 1 = nI (aV A) ∧ M b 2 = nI (aS A) ∧ M b 3 = nI (thM A) ∧ M b 4 = nI (hdM A)) ∧ (M (b + 1) 0 = nI (aP A) ∧ M (b + 1) 1 = nI (aC A)) ∧
  (∀ s, s < 16 → th A s → M (b + 2) s = nI (home A s) ∧ M (b + 3) s = nI (stm A s) ∧ M (b + 4) s = nI (snm A s)) ∧
  (∀ v, v < 6 → th A (16 + v) → M (b + 5) v = nI (vnm A v) ∧ M (b + 6) v = oI (org A v) ∧ M (b + 7) v = nI (quo A v)) ∧ BlkIs M (b + 8) A.2
/-- the object b is the pool A -/
def SI (M : Mem) (b : Nat) (A : AS) : Prop := IsSt b ∧ StoreIs M b A ∧ WF A
theorem SI.bw (h : SI M b A) : BLW A.2 := h.2.2.blw
theorem SI.bi (h : SI M b A) : BlkIs M (b + 8) A.2 := h.2.1.2.2.2.2
theorem ver_snp {p : Int32} (h : p < nI 16) (hv : VerA A p) : SnpA A p := by
  obtain ⟨w, h1, rfl, h3⟩ := hv
  exact ⟨w, (nI_ltI (by omega) (by decide)).mp h, rfl, h3⟩
theorem bset_next_off {p : Nat → Prop} {n : Nat} (h : ¬ p n) : bset p n = bset p (n + 1) := by
  rw [bset, if_neg (by rw [dB_f h]; simp), Nat.or_zero]
theorem sp_X4_has {p : Int32} (h : SI M b A) : Spec D 3 yX4_has cfX4_has [.ref (ad (b)), .int (p)] (wl D ad M) 0 0 (PI (zI (VerA A p)) (wl D ad M)) := by
  refine Spec.of (by decide) rfl (Nat.le_of_ble_eq_true rfl) rfl ?_
  have hS := h.1
  have htl := thM_lt (A := A)
  refine E_iload1 (q := 1) dX4_has_0 rfl ?_
  refine E_if_lt (tgt := 25) (q := 4) dX4_has_1 (by decide) rfl (fun h1 => ?_) (fun h1 => ?_)
  · skip
    refine E_iconst (v := nI 0) (q := 26) dX4_has_25 (by decide) rfl ?_
    exact E_zreturn rfl rfl rfl dX4_has_26 (PI_of (zI_f (fun ⟨w, hw, e, _⟩ => nI_pos (show w < 2 ^ 31 by omega) (e ▸ h1))) rfl)
  · skip
    obtain ⟨n0, hn0, rfl⟩ := nI_of (x := p) (fun z => h1 z)
    refine E_iload1 (q := 5) dX4_has_4 rfl ?_
    refine E_bipush (v := nI 22) (q := 7) dX4_has_5 (by decide) rfl ?_
    refine E_icmp_geN (tgt := 25) (q := 10) dX4_has_7 (by decide) rfl (by omega) (by omega) (fun h7 => ?_) (fun h7 => ?_)
    · skip
      refine E_iconst (v := nI 0) (q := 26) dX4_has_25 (by decide) rfl ?_
      exact E_zreturn rfl rfl rfl dX4_has_26 (PI_of (zI_f (fun z => by have := ((VerA_nI hn0).mp z).1; omega)) rfl)
    · skip
      refine E_aload0 (q := 11) dX4_has_10 rfl ?_
      refine G_X4_there (q := 14) hS fl_X4_53 dX4_has_11 rfl ?_
      refine V_int h.2.1.1.2.2.2.1 ?_
      refine E_iload1 (q := 15) dX4_has_14 rfl ?_
      refine C_SN2I (q := 18) lk_X4_72 (sp_X5_contains (by omega) (by omega)) dX4_has_15 (by decide) (Nat.le_of_ble_eq_true rfl) rfl ?_
      refine E_if_eq (tgt := 25) (q := 21) dX4_has_18 (by decide) rfl (fun h18 => ?_) (fun h18 => ?_)
      · skip
        refine E_iconst (v := nI 0) (q := 26) dX4_has_25 (by decide) rfl ?_
        exact E_zreturn rfl rfl rfl dX4_has_26 (PI_of (zI_f (fun z => zI_0 h18 (thM_bit.mpr ((VerA_nI hn0).mp z)))) rfl)
      · skip
        refine E_iconst (v := nI 1) (q := 22) dX4_has_21 (by decide) rfl ?_
        refine E_goto (q := 26) dX4_has_22 (by decide) ?_
        exact E_zreturn rfl rfl rfl dX4_has_26 (PI_of (zI_t ((VerA_nI hn0).mpr (thM_bit.mp (zI_n h18)))) rfl)
theorem sp_X4_hasSnapshot {p : Int32} (h : SI M b A) : Spec D 4 yX4_hasSnapshot cfX4_hasSnapshot [.ref (ad (b)), .int (p)] (wl D ad M) 0 0 (PI (zI (SnpA A p)) (wl D ad M)) := by
  refine Spec.of (by decide) rfl (Nat.le_of_ble_eq_true rfl) rfl ?_
  have hS := h.1
  refine E_iload1 (q := 1) dX4_hasSnapshot_0 rfl ?_
  refine E_bipush (v := nI 16) (q := 3) dX4_hasSnapshot_1 (by decide) rfl ?_
  refine E_icmp_ge (tgt := 18) (q := 6) dX4_hasSnapshot_3 (by decide) rfl (fun h3 => ?_) (fun h3 => ?_)
  · skip
    refine E_iconst (v := nI 0) (q := 19) dX4_hasSnapshot_18 (by decide) rfl ?_
    exact E_zreturn rfl rfl rfl dX4_hasSnapshot_19 (PI_of (zI_f (fun ⟨s, hs, e, _⟩ => by rw [e] at h3; have := (nI_leI (by decide) (by omega)).mp h3; omega)) rfl)
  · skip
    refine E_aload0 (q := 7) dX4_hasSnapshot_6 rfl ?_
    refine E_iload1 (q := 8) dX4_hasSnapshot_7 rfl ?_
    refine C_V1I (q := 11) lk_X4_76 (sp_X4_has h) (rc_X4 hS) dX4_hasSnapshot_8 (by decide) (Nat.le_of_ble_eq_true rfl) rfl ?_
    refine E_if_eq (tgt := 18) (q := 14) dX4_hasSnapshot_11 (by decide) rfl (fun h11 => ?_) (fun h11 => ?_)
    · skip
      refine E_iconst (v := nI 0) (q := 19) dX4_hasSnapshot_18 (by decide) rfl ?_
      exact E_zreturn rfl rfl rfl dX4_hasSnapshot_19 (PI_of (zI_f (fun ⟨s, hs, e, ht⟩ => zI_0 h11 ⟨s, by omega, e, ht⟩)) rfl)
    · skip
      refine E_iconst (v := nI 1) (q := 15) dX4_hasSnapshot_14 (by decide) rfl ?_
      refine E_goto (q := 19) dX4_hasSnapshot_15 (by decide) ?_
      exact E_zreturn rfl rfl rfl dX4_hasSnapshot_19 (PI_of (zI_t (ver_snp (Int32.not_le.mp h3) (zI_n h11))) rfl)
theorem sp_X4_hasVolume {p : Int32} (h : SI M b A) : Spec D 3 yX4_hasVolume cfX4_hasVolume [.ref (ad (b)), .int (p)] (wl D ad M) 0 0 (PI (zI (VolA A p)) (wl D ad M)) := by
  refine Spec.of (by decide) rfl (Nat.le_of_ble_eq_true rfl) rfl ?_
  have hS := h.1
  have htl := thM_lt (A := A)
  refine E_iload1 (q := 1) dX4_hasVolume_0 rfl ?_
  refine E_if_lt (tgt := 28) (q := 4) dX4_hasVolume_1 (by decide) rfl (fun h1 => ?_) (fun h1 => ?_)
  · skip
    refine E_iconst (v := nI 0) (q := 29) dX4_hasVolume_28 (by decide) rfl ?_
    exact E_zreturn rfl rfl rfl dX4_hasVolume_29 (PI_of (zI_f (fun ⟨w, hw, e, _⟩ => nI_pos (show w < 2 ^ 31 by omega) (e ▸ h1))) rfl)
  · skip
    obtain ⟨n0, hn0, rfl⟩ := nI_of (x := p) (fun z => h1 z)
    refine E_iload1 (q := 5) dX4_hasVolume_4 rfl ?_
    refine E_bipush (v := nI 6) (q := 7) dX4_hasVolume_5 (by decide) rfl ?_
    refine E_icmp_geN (tgt := 28) (q := 10) dX4_hasVolume_7 (by decide) rfl (by omega) (by omega) (fun h7 => ?_) (fun h7 => ?_)
    · skip
      refine E_iconst (v := nI 0) (q := 29) dX4_hasVolume_28 (by decide) rfl ?_
      exact E_zreturn rfl rfl rfl dX4_hasVolume_29 (PI_of (zI_f (fun z => by have := ((VolA_nI hn0).mp z).1; omega)) rfl)
    · skip
      refine E_aload0 (q := 11) dX4_hasVolume_10 rfl ?_
      refine G_X4_there (q := 14) hS fl_X4_53 dX4_hasVolume_11 rfl ?_
      refine V_int h.2.1.1.2.2.2.1 ?_
      refine E_bipush (v := nI 16) (q := 16) dX4_hasVolume_14 (by decide) rfl ?_
      refine E_iload1 (q := 17) dX4_hasVolume_16 rfl ?_
      refine E_iaddN (q := 18) dX4_hasVolume_17 rfl ?_
      refine C_SN2I (q := 21) lk_X4_72 (sp_X5_contains (by omega) (by omega)) dX4_hasVolume_18 (by decide) (Nat.le_of_ble_eq_true rfl) rfl ?_
      refine E_if_eq (tgt := 28) (q := 24) dX4_hasVolume_21 (by decide) rfl (fun h21 => ?_) (fun h21 => ?_)
      · skip
        refine E_iconst (v := nI 0) (q := 29) dX4_hasVolume_28 (by decide) rfl ?_
        exact E_zreturn rfl rfl rfl dX4_hasVolume_29 (PI_of (zI_f (fun z => zI_0 h21 (thM_bit.mpr ⟨by omega, ((VolA_nI hn0).mp z).2⟩))) rfl)
      · skip
        refine E_iconst (v := nI 1) (q := 25) dX4_hasVolume_24 (by decide) rfl ?_
        refine E_goto (q := 29) dX4_hasVolume_25 (by decide) ?_
        exact E_zreturn rfl rfl rfl dX4_hasVolume_29 (PI_of (zI_t ((VolA_nI hn0).mpr ⟨by omega, (thM_bit.mp (zI_n h21)).2⟩)) rfl)
theorem sp_X4_snapshotSet (h : SI M b A) : Spec D 3 yX4_snapshotSet cfX4_snapshotSet [.ref (ad (b))] (wl D ad M) 0 0 (PI (nI (snps A)) (wl D ad M)) := by
  refine Spec.of (by decide) rfl (Nat.le_of_ble_eq_true rfl) rfl ?_
  have hS := h.1
  refine E_aload0 (q := 1) dX4_snapshotSet_0 rfl ?_
  refine G_X4_there (q := 4) hS fl_X4_53 dX4_snapshotSet_1 rfl ?_
  refine V_int h.2.1.1.2.2.2.1 ?_
  refine E_bipush (v := nI 16) (q := 6) dX4_snapshotSet_4 (by decide) rfl ?_
  refine C_SN1I (q := 9) lk_X4_80 (sp_X5_snapshotsBefore (by omega)) dX4_snapshotSet_6 (by decide) (Nat.le_of_ble_eq_true rfl) rfl ?_
  refine E_iand (q := 10) dX4_snapshotSet_9 rfl ?_
  refine V_int (show _ = nI (snps A) by rw [nI_and, snps_and]) ?_
  exact E_ireturn rfl rfl dX4_snapshotSet_10 (PI_of rfl rfl)
theorem sp_X4_rowOf {v : Nat} (h : SI M b A) (hv : v < 2 ^ 31) : Spec D 2 yX4_rowOf cfX4_rowOf [.ref (ad (b)), .int (nI (v))] (wl D ad M) 0 0 (PI (nI (rowM A v)) (wl D ad M)) := by
  refine Spec.of (by decide) rfl (Nat.le_of_ble_eq_true rfl) rfl ?_
  have hS := h.1
  have htl := thM_lt (A := A)
  have hmain : V D cfX4_rowOf (rmOf 2 0 0) (QM D (PI (nI (rowM A v)) (wl D ad M)) 0 0) 0 0 4 [some (.ref (ad (b))), some (.int (nI (v))), some (.int (nI (bset (fun s => th A s ∧ home A s = v) 0))), some (.int (nI (0)))] [] (wl D ad M) := by
    refine upto0 (n := 16) (P := fun k => V D cfX4_rowOf (rmOf 2 0 0) (QM D (PI (nI (rowM A v)) (wl D ad M)) 0 0) 0 0 4 [some (.ref (ad (b))), some (.int (nI (v))), some (.int (nI (bset (fun s => th A s ∧ home A s = v) k))), some (.int (nI (k)))] [] (wl D ad M)) ?_ ?_
    · skip
      refine E_iload3 (q := 5) dX4_rowOf_4 rfl ?_
      refine E_bipush (v := nI 16) (q := 7) dX4_rowOf_5 (by decide) rfl ?_
      refine E_icmp_geN (tgt := 44) (q := 10) dX4_rowOf_7 (by decide) rfl (by omega) (by omega) (fun h7 => ?_) (fun h7 => ?_)
      · skip
        refine E_iload2 (q := 45) dX4_rowOf_44 rfl ?_
        exact E_ireturn rfl rfl dX4_rowOf_45 (PI_of rfl rfl)
      · skip
        exact absurd h7 (by omega)
    · intro k hk ih
      have hvk : th A k → home A k < 6 := fun z => (h.2.2.hv6 hk z).1
      refine E_iload3 (q := 5) dX4_rowOf_4 rfl ?_
      refine E_bipush (v := nI 16) (q := 7) dX4_rowOf_5 (by decide) rfl ?_
      refine E_icmp_geN (tgt := 44) (q := 10) dX4_rowOf_7 (by decide) rfl (by omega) (by omega) (fun h7 => ?_) (fun h7 => ?_)
      · skip
        exact absurd h7 (by omega)
      · skip
        refine E_aload0 (q := 11) dX4_rowOf_10 rfl ?_
        refine G_X4_there (q := 14) hS fl_X4_53 dX4_rowOf_11 rfl ?_
        refine V_int h.2.1.1.2.2.2.1 ?_
        refine E_iload3 (q := 15) dX4_rowOf_14 rfl ?_
        refine C_SN2I (q := 18) lk_X4_72 (sp_X5_contains (by omega) (by omega)) dX4_rowOf_15 (by decide) (Nat.le_of_ble_eq_true rfl) rfl ?_
        refine E_if_eq (tgt := 38) (q := 21) dX4_rowOf_18 (by decide) rfl (fun h18 => ?_) (fun h18 => ?_)
        · skip
          refine E_iinc3 (q := 41) dX4_rowOf_38 (nI_inc _) rfl rfl ?_
          refine E_goto (q := 4) dX4_rowOf_41 (by decide) ?_
          rw [← bset_next_off (fun z => zI_0 h18 (thM_bit.mpr ⟨by omega, z.1⟩))] at ih
          exact ih
        · skip
          refine E_aload0 (q := 22) dX4_rowOf_21 rfl ?_
          refine G_X4_homes (q := 25) hS fl_X4_15 dX4_rowOf_22 rfl ?_
          refine E_iload3 (q := 26) dX4_rowOf_25 rfl ?_
          refine E_ialdN (q := 27) hS.homes (by omega) (by decide) dX4_rowOf_26 rfl ?_
          have htk : th A k := (thM_bit.mp (zI_n h18)).2
          have hvk := hvk htk
          refine V_int (h.2.1.2.2.1 k hk htk).1 ?_
          refine E_iload1 (q := 28) dX4_rowOf_27 rfl ?_
          refine E_icmp_neN (tgt := 38) (q := 31) dX4_rowOf_28 (by decide) rfl (by omega) (by omega) (fun h28 => ?_) (fun h28 => ?_)
          · skip
            refine E_iinc3 (q := 41) dX4_rowOf_38 (nI_inc _) rfl rfl ?_
            refine E_goto (q := 4) dX4_rowOf_41 (by decide) ?_
            rw [← bset_next_off (fun z => h28 z.2)] at ih
            exact ih
          · skip
            refine E_iload2 (q := 32) dX4_rowOf_31 rfl ?_
            refine E_iload3 (q := 33) dX4_rowOf_32 rfl ?_
            refine C_SN1I (q := 36) lk_X4_84 (sp_X5_bit (by omega)) dX4_rowOf_33 (by decide) (Nat.le_of_ble_eq_true rfl) rfl ?_
            refine E_iorN (q := 37) dX4_rowOf_36 (bset_on (n := k) ⟨htk, h28⟩) rfl ?_
            refine E_istore2 (q := 38) dX4_rowOf_37 rfl rfl ?_
            refine E_iinc3 (q := 41) dX4_rowOf_38 (nI_inc _) rfl rfl ?_
            refine E_goto (q := 4) dX4_rowOf_41 (by decide) ?_
            exact ih
  refine E_iconst (v := nI 0) (q := 1) dX4_rowOf_0 (by decide) rfl ?_
  refine E_istore2 (q := 2) dX4_rowOf_1 rfl rfl ?_
  refine E_iconst (v := nI 0) (q := 3) dX4_rowOf_2 (by decide) rfl ?_
  refine E_istore3 (q := 4) dX4_rowOf_3 rfl rfl ?_
  exact hmain
theorem sp_X4_versionsOf {v : Nat} (h : SI M b A) (hv : v < 6) : Spec D 3 yX4_versionsOf cfX4_versionsOf [.ref (ad (b)), .int (nI (v))] (wl D ad M) 0 0 (PI (nI (volS A v)) (wl D ad M)) := by
  refine Spec.of (by decide) rfl (Nat.le_of_ble_eq_true rfl) rfl ?_
  have hS := h.1
  refine E_aload0 (q := 1) dX4_versionsOf_0 rfl ?_
  refine E_iload1 (q := 2) dX4_versionsOf_1 rfl ?_
  refine C_V1I (q := 5) lk_X4_87 (sp_X4_rowOf h (by omega)) (rc_X4 hS) dX4_versionsOf_2 (by decide) (Nat.le_of_ble_eq_true rfl) rfl ?_
  refine E_bipush (v := nI 16) (q := 7) dX4_versionsOf_5 (by decide) rfl ?_
  refine E_iload1 (q := 8) dX4_versionsOf_7 rfl ?_
  refine E_iaddN (q := 9) dX4_versionsOf_8 rfl ?_
  refine C_SN1I (q := 12) lk_X4_84 (sp_X5_bit (by omega)) dX4_versionsOf_9 (by decide) (Nat.le_of_ble_eq_true rfl) rfl ?_
  refine E_iorN (q := 13) dX4_versionsOf_12 (nI_or _ _) rfl ?_
  exact E_ireturn rfl rfl dX4_versionsOf_13 (PI_of rfl rfl)
theorem sp_X4_homeOf {w : Nat} (h : SI M b A) (hw : w < 22) (ht : th A w) : Spec D 1 yX4_homeOf cfX4_homeOf [.ref (ad (b)), .int (nI (w))] (wl D ad M) 0 0 (PI (nI (homeOf A w)) (wl D ad M)) := by
  refine Spec.of (by decide) rfl (Nat.le_of_ble_eq_true rfl) rfl ?_
  have hS := h.1
  refine E_iload1 (q := 1) dX4_homeOf_0 rfl ?_
  refine E_bipush (v := nI 16) (q := 3) dX4_homeOf_1 (by decide) rfl ?_
  refine E_icmp_geN (tgt := 15) (q := 6) dX4_homeOf_3 (by decide) rfl (by omega) (by omega) (fun h3 => ?_) (fun h3 => ?_)
  · skip
    refine E_iload1 (q := 16) dX4_homeOf_15 rfl ?_
    refine E_bipush (v := nI 16) (q := 18) dX4_homeOf_16 (by decide) rfl ?_
    refine E_isubN (q := 19) dX4_homeOf_18 (by omega) rfl ?_
    exact E_ireturn rfl rfl dX4_homeOf_19 (PI_of (by unfold homeOf; rw [if_neg (by omega)]) rfl)
  · skip
    refine E_aload0 (q := 7) dX4_homeOf_6 rfl ?_
    refine G_X4_homes (q := 10) hS fl_X4_15 dX4_homeOf_7 rfl ?_
    refine E_iload1 (q := 11) dX4_homeOf_10 rfl ?_
    refine E_ialdN (q := 12) hS.homes (by omega) (by decide) dX4_homeOf_11 rfl ?_
    refine V_int (show _ = nI (homeOf A w) by rw [(h.2.1.2.2.1 w (by omega) ht).1]; unfold homeOf; rw [if_pos (by omega)]) ?_
    refine E_goto (q := 19) dX4_homeOf_12 (by decide) ?_
    exact E_ireturn rfl rfl dX4_homeOf_19 (PI_of rfl rfl)
theorem sp_X4_rowAhead {w : Nat} (h : SI M b A) (hw : w < 22) (ht : th A w) : Spec D 4 yX4_rowAhead cfX4_rowAhead [.ref (ad (b)), .int (nI (w))] (wl D ad M) 0 0 (PI (nI (ahM A w)) (wl D ad M)) := by
  refine Spec.of (by decide) rfl (Nat.le_of_ble_eq_true rfl) rfl ?_
  have hS := h.1
  have hh : homeOf A w < 6 := by
    unfold homeOf
    split
    · next c => exact (h.2.2.hv6 c ht).1
    · omega
  refine E_aload0 (q := 1) dX4_rowAhead_0 rfl ?_
  refine E_aload0 (q := 2) dX4_rowAhead_1 rfl ?_
  refine E_iload1 (q := 3) dX4_rowAhead_2 rfl ?_
  refine C_V1I (q := 6) lk_X4_90 (sp_X4_homeOf h hw ht) (rc_X4 hS) dX4_rowAhead_3 (by decide) (Nat.le_of_ble_eq_true rfl) rfl ?_
  refine C_V1I (q := 9) lk_X4_87 (sp_X4_rowOf h (by omega)) (rc_X4 hS) dX4_rowAhead_6 (by decide) (Nat.le_of_ble_eq_true rfl) rfl ?_
  refine E_iload1 (q := 10) dX4_rowAhead_9 rfl ?_
  refine C_SN1I (q := 13) lk_X4_80 (sp_X5_snapshotsBefore (by omega)) dX4_rowAhead_10 (by decide) (Nat.le_of_ble_eq_true rfl) rfl ?_
  refine E_iand (q := 14) dX4_rowAhead_13 rfl ?_
  refine V_int (show _ = nI (ahM A w) by rw [nI_and, ah_and]) ?_
  exact E_ireturn rfl rfl dX4_rowAhead_14 (PI_of rfl rfl)
theorem sp_X4_rowBehind {s : Nat} (h : SI M b A) (hs : s < 16) (ht : th A s) : Spec D 4 yX4_rowBehind cfX4_rowBehind [.ref (ad (b)), .int (nI (s))] (wl D ad M) 0 0 (PI (nI (rowB A s)) (wl D ad M)) := by
  refine Spec.of (by decide) rfl (Nat.le_of_ble_eq_true rfl) rfl ?_
  have hS := h.1
  have hv := h.2.2.hv6 hs ht
  refine E_aload0 (q := 1) dX4_rowBehind_0 rfl ?_
  refine E_aload0 (q := 2) dX4_rowBehind_1 rfl ?_
  refine G_X4_homes (q := 5) hS fl_X4_15 dX4_rowBehind_2 rfl ?_
  refine E_iload1 (q := 6) dX4_rowBehind_5 rfl ?_
  refine E_ialdN (q := 7) hS.homes (by omega) (by decide) dX4_rowBehind_6 rfl ?_
  refine V_int (h.2.1.2.2.1 s hs ht).1 ?_
  refine C_V1I (q := 10) lk_X4_87 (sp_X4_rowOf h (by omega)) (rc_X4 hS) dX4_rowBehind_7 (by decide) (Nat.le_of_ble_eq_true rfl) rfl ?_
  refine E_iload1 (q := 11) dX4_rowBehind_10 rfl ?_
  refine E_iconst (v := nI 1) (q := 12) dX4_rowBehind_11 (by decide) rfl ?_
  refine E_iaddN (q := 13) dX4_rowBehind_12 rfl ?_
  refine C_SN1I (q := 16) lk_X4_80 (sp_X5_snapshotsBefore (by omega)) dX4_rowBehind_13 (by decide) (Nat.le_of_ble_eq_true rfl) rfl ?_
  refine E_iconst (v := -1) (q := 17) dX4_rowBehind_16 (by decide) rfl ?_
  refine E_ixor (q := 18) dX4_rowBehind_17 rfl ?_
  refine E_iand (q := 19) dX4_rowBehind_18 rfl ?_
  refine V_int (show _ = nI (rowB A s) by rw [nI_andn, rb_and hs]) ?_
  exact E_ireturn rfl rfl dX4_rowBehind_19 (PI_of rfl rfl)
theorem sp_X4_placeOf {s : Nat} (h : SI M b A) (hs : s < 16) (ht : th A s) : Spec D 5 yX4_placeOf cfX4_placeOf [.ref (ad (b)), .int (nI (s))] (wl D ad M) 0 0 (PI (nI (plc A s)) (wl D ad M)) := by
  refine Spec.of (by decide) rfl (Nat.le_of_ble_eq_true rfl) rfl ?_
  have hS := h.1
  have hal := ahM_lt (A := A) (w := s)
  refine E_aload0 (q := 1) dX4_placeOf_0 rfl ?_
  refine E_iload1 (q := 2) dX4_placeOf_1 rfl ?_
  refine C_V1I (q := 5) lk_X4_93 (sp_X4_rowAhead h (by omega) ht) (rc_X4 hS) dX4_placeOf_2 (by decide) (Nat.le_of_ble_eq_true rfl) rfl ?_
  refine C_S1I (q := 8) lk_X4_96 (sp_J6_bitCount_0f7a4 (by omega)) dX4_placeOf_5 (by decide) (Nat.le_of_ble_eq_true rfl) rfl ?_
  exact E_ireturn rfl rfl dX4_placeOf_8 (PI_of (congrArg nI (ah_pop s)) rfl)
theorem sp_X4_ahead {w : Nat} (h : SI M b A) (hw : w < 22) (ht : th A w) : Spec D 5 yX4_ahead cfX4_ahead [.ref (ad (b)), .int (nI (w))] (wl D ad M) 0 0 (PI (oI (ahd A w)) (wl D ad M)) := by
  refine Spec.of (by decide) rfl (Nat.le_of_ble_eq_true rfl) rfl ?_
  have hS := h.1
  have hal := ahM_lt (A := A) (w := w)
  have hh : homeOf A w < 6 ∧ th A (16 + homeOf A w) := by
    unfold homeOf
    split
    · next c => exact h.2.2.hv6 c ht
    · exact ⟨by omega, by rw [show 16 + (w - 16) = w by omega]; exact ht⟩
  refine E_aload0 (q := 1) dX4_ahead_0 rfl ?_
  refine E_iload1 (q := 2) dX4_ahead_1 rfl ?_
  refine C_V1I (q := 5) lk_X4_93 (sp_X4_rowAhead h hw ht) (rc_X4 hS) dX4_ahead_2 (by decide) (Nat.le_of_ble_eq_true rfl) rfl ?_
  refine E_istore2 (q := 6) dX4_ahead_5 rfl rfl ?_
  refine E_iload2 (q := 7) dX4_ahead_6 rfl ?_
  refine E_if_ne (tgt := 23) (q := 10) dX4_ahead_7 (by decide) rfl (fun h7 => ?_) (fun h7 => ?_)
  · skip
    refine E_iload2 (q := 24) dX4_ahead_23 rfl ?_
    refine C_SN1I (q := 27) lk_X4_101 (sp_X5_highest (by omega)) dX4_ahead_24 (by decide) (Nat.le_of_ble_eq_true rfl) rfl ?_
    exact E_ireturn rfl rfl dX4_ahead_27 (PI_of (ah_hi (fun z => h7 (by rw [z]; rfl))) rfl)
  · skip
    refine E_aload0 (q := 11) dX4_ahead_10 rfl ?_
    refine G_X4_origins (q := 14) hS fl_X4_27 dX4_ahead_11 rfl ?_
    refine E_aload0 (q := 15) dX4_ahead_14 rfl ?_
    refine E_iload1 (q := 16) dX4_ahead_15 rfl ?_
    refine C_V1I (q := 19) lk_X4_90 (sp_X4_homeOf h hw ht) (rc_X4 hS) dX4_ahead_16 (by decide) (Nat.le_of_ble_eq_true rfl) rfl ?_
    refine E_ialdN (q := 20) hS.origins (by omega) (by decide) dX4_ahead_19 rfl ?_
    refine E_goto (q := 27) dX4_ahead_20 (by decide) ?_
    refine V_int (show _ = oI (ahd A w) by rw [(h.2.1.2.2.2.1 _ hh.1 hh.2).2.1]; exact ah_org ((nI_z (by omega)).mp h7)) ?_
    exact E_ireturn rfl rfl dX4_ahead_27 (PI_of rfl rfl)
theorem sp_X4_follower {s : Nat} (h : SI M b A) (hs : s < 16) (ht : th A s) : Spec D 5 yX4_follower cfX4_follower [.ref (ad (b)), .int (nI (s))] (wl D ad M) 0 0 (PI (nI (bhd A s)) (wl D ad M)) := by
  refine Spec.of (by decide) rfl (Nat.le_of_ble_eq_true rfl) rfl ?_
  have hS := h.1
  have hbl := rowB_lt (A := A) (s := s)
  refine E_aload0 (q := 1) dX4_follower_0 rfl ?_
  refine E_iload1 (q := 2) dX4_follower_1 rfl ?_
  refine C_V1I (q := 5) lk_X4_104 (sp_X4_rowBehind h hs ht) (rc_X4 hS) dX4_follower_2 (by decide) (Nat.le_of_ble_eq_true rfl) rfl ?_
  refine E_istore2 (q := 6) dX4_follower_5 rfl rfl ?_
  refine E_iload2 (q := 7) dX4_follower_6 rfl ?_
  refine E_if_ne (tgt := 22) (q := 10) dX4_follower_7 (by decide) rfl (fun h7 => ?_) (fun h7 => ?_)
  · skip
    refine E_iload2 (q := 23) dX4_follower_22 rfl ?_
    refine C_SN1I (q := 26) lk_X4_107 (sp_X5_lowest (by omega)) dX4_follower_23 (by decide) (Nat.le_of_ble_eq_true rfl) rfl ?_
    exact E_ireturn rfl rfl dX4_follower_26 (PI_of (rb_lo hs ht (fun z => h7 (by rw [z]; rfl))) rfl)
  · skip
    refine E_bipush (v := nI 16) (q := 12) dX4_follower_10 (by decide) rfl ?_
    refine E_aload0 (q := 13) dX4_follower_12 rfl ?_
    refine G_X4_homes (q := 16) hS fl_X4_15 dX4_follower_13 rfl ?_
    refine E_iload1 (q := 17) dX4_follower_16 rfl ?_
    refine E_ialdN (q := 18) hS.homes (by omega) (by decide) dX4_follower_17 rfl ?_
    refine V_int (h.2.1.2.2.1 s hs ht).1 ?_
    refine E_iaddN (q := 19) dX4_follower_18 rfl ?_
    refine E_goto (q := 26) dX4_follower_19 (by decide) ?_
    exact E_ireturn rfl rfl dX4_follower_26 (PI_of (by rw [rb_0 hs ht ((nI_z (by omega)).mp h7)]) rfl)
theorem sp_X4_offspring {s : Nat} (h : SI M b A) (hs : s < 2 ^ 31 - 1) : Spec D 2 yX4_offspring cfX4_offspring [.ref (ad (b)), .int (nI (s))] (wl D ad M) 0 0 (PI (nI (clo A s)) (wl D ad M)) := by
  refine Spec.of (by decide) rfl (Nat.le_of_ble_eq_true rfl) rfl ?_
  have hS := h.1
  have htl := thM_lt (A := A)
  have hmain : V D cfX4_offspring (rmOf 2 0 0) (QM D (PI (nI (clo A s)) (wl D ad M)) 0 0) 0 0 4 [some (.ref (ad (b))), some (.int (nI (s))), some (.int (nI (bset (fun v => th A (16 + v) ∧ org A v = s + 1) 0))), some (.int (nI (0)))] [] (wl D ad M) := by
    refine upto0 (n := 6) (P := fun k => V D cfX4_offspring (rmOf 2 0 0) (QM D (PI (nI (clo A s)) (wl D ad M)) 0 0) 0 0 4 [some (.ref (ad (b))), some (.int (nI (s))), some (.int (nI (bset (fun v => th A (16 + v) ∧ org A v = s + 1) k))), some (.int (nI (k)))] [] (wl D ad M)) ?_ ?_
    · skip
      refine E_iload3 (q := 5) dX4_offspring_4 rfl ?_
      refine E_bipush (v := nI 6) (q := 7) dX4_offspring_5 (by decide) rfl ?_
      refine E_icmp_geN (tgt := 47) (q := 10) dX4_offspring_7 (by decide) rfl (by omega) (by omega) (fun h7 => ?_) (fun h7 => ?_)
      · skip
        refine E_iload2 (q := 48) dX4_offspring_47 rfl ?_
        exact E_ireturn rfl rfl dX4_offspring_48 (PI_of rfl rfl)
      · skip
        exact absurd h7 (by omega)
    · intro k hk ih
      refine E_iload3 (q := 5) dX4_offspring_4 rfl ?_
      refine E_bipush (v := nI 6) (q := 7) dX4_offspring_5 (by decide) rfl ?_
      refine E_icmp_geN (tgt := 47) (q := 10) dX4_offspring_7 (by decide) rfl (by omega) (by omega) (fun h7 => ?_) (fun h7 => ?_)
      · skip
        exact absurd h7 (by omega)
      · skip
        refine E_aload0 (q := 11) dX4_offspring_10 rfl ?_
        refine G_X4_there (q := 14) hS fl_X4_53 dX4_offspring_11 rfl ?_
        refine V_int h.2.1.1.2.2.2.1 ?_
        refine E_bipush (v := nI 16) (q := 16) dX4_offspring_14 (by decide) rfl ?_
        refine E_iload3 (q := 17) dX4_offspring_16 rfl ?_
        refine E_iaddN (q := 18) dX4_offspring_17 rfl ?_
        refine C_SN2I (q := 21) lk_X4_72 (sp_X5_contains (by omega) (by omega)) dX4_offspring_18 (by decide) (Nat.le_of_ble_eq_true rfl) rfl ?_
        refine E_if_eq (tgt := 41) (q := 24) dX4_offspring_21 (by decide) rfl (fun h21 => ?_) (fun h21 => ?_)
        · skip
          refine E_iinc3 (q := 44) dX4_offspring_41 (nI_inc _) rfl rfl ?_
          refine E_goto (q := 4) dX4_offspring_44 (by decide) ?_
          rw [← bset_next_off (fun z => zI_0 h21 (thM_bit.mpr ⟨by omega, z.1⟩))] at ih
          exact ih
        · skip
          refine E_aload0 (q := 25) dX4_offspring_24 rfl ?_
          refine G_X4_origins (q := 28) hS fl_X4_27 dX4_offspring_25 rfl ?_
          refine E_iload3 (q := 29) dX4_offspring_28 rfl ?_
          refine E_ialdN (q := 30) hS.origins (by omega) (by decide) dX4_offspring_29 rfl ?_
          have htk : th A (16 + k) := (thM_bit.mp (zI_n h21)).2
          have hok := (h.2.2.1.2.2.2.1 k hk htk).2.1
          refine V_int (h.2.1.2.2.2.1 k hk htk).2.1 ?_
          refine E_iload1 (q := 31) dX4_offspring_30 rfl ?_
          refine E_icmp_ne (tgt := 41) (q := 34) dX4_offspring_31 (by decide) rfl (fun h31 => ?_) (fun h31 => ?_)
          · skip
            refine E_iinc3 (q := 44) dX4_offspring_41 (nI_inc _) rfl rfl ?_
            refine E_goto (q := 4) dX4_offspring_44 (by decide) ?_
            rw [← bset_next_off (fun z => h31 ((oI_eq (by omega) (by omega)).mpr z.2))] at ih
            exact ih
          · skip
            refine E_iload2 (q := 35) dX4_offspring_34 rfl ?_
            refine E_iload3 (q := 36) dX4_offspring_35 rfl ?_
            refine C_SN1I (q := 39) lk_X4_84 (sp_X5_bit (by omega)) dX4_offspring_36 (by decide) (Nat.le_of_ble_eq_true rfl) rfl ?_
            refine E_iorN (q := 40) dX4_offspring_39 (bset_on (n := k) ⟨htk, (oI_eq (by omega) (by omega)).mp h31⟩) rfl ?_
            refine E_istore2 (q := 41) dX4_offspring_40 rfl rfl ?_
            refine E_iinc3 (q := 44) dX4_offspring_41 (nI_inc _) rfl rfl ?_
            refine E_goto (q := 4) dX4_offspring_44 (by decide) ?_
            exact ih
  refine E_iconst (v := nI 0) (q := 1) dX4_offspring_0 (by decide) rfl ?_
  refine E_istore2 (q := 2) dX4_offspring_1 rfl rfl ?_
  refine E_iconst (v := nI 0) (q := 3) dX4_offspring_2 (by decide) rfl ?_
  refine E_istore3 (q := 4) dX4_offspring_3 rfl rfl ?_
  exact hmain
theorem sp_X4_canBeCloned {s : Nat} (h : SI M b A) (hs : s < 16) : Spec D 3 yX4_canBeCloned cfX4_canBeCloned [.ref (ad (b)), .int (nI (s))] (wl D ad M) 0 0 (PI (zI (popN (clo A s) < aC A)) (wl D ad M)) := by
  refine Spec.of (by decide) rfl (Nat.le_of_ble_eq_true rfl) rfl ?_
  have hS := h.1
  have hcl := clo_lt (A := A) (s := s)
  have hpl := popN_le (clo A s)
  have hC := h.2.2.1.1.2.2.2.2
  refine E_aload0 (q := 1) dX4_canBeCloned_0 rfl ?_
  refine E_iload1 (q := 2) dX4_canBeCloned_1 rfl ?_
  refine C_V1I (q := 5) lk_X4_113 (sp_X4_offspring h (by omega)) (rc_X4 hS) dX4_canBeCloned_2 (by decide) (Nat.le_of_ble_eq_true rfl) rfl ?_
  refine C_S1I (q := 8) lk_X4_96 (sp_J6_bitCount_0f7a4 (by omega)) dX4_canBeCloned_5 (by decide) (Nat.le_of_ble_eq_true rfl) rfl ?_
  refine E_aload0 (q := 9) dX4_canBeCloned_8 rfl ?_
  refine G_X4_settings (q := 12) hS fl_X4_9 dX4_canBeCloned_9 rfl ?_
  refine E_iconst (v := nI 1) (q := 13) dX4_canBeCloned_12 (by decide) rfl ?_
  refine E_ialdN (q := 14) hS.settings (by omega) (by decide) dX4_canBeCloned_13 rfl ?_
  refine V_int h.2.1.2.1.2 ?_
  refine E_icmp_geN (tgt := 21) (q := 17) dX4_canBeCloned_14 (by decide) rfl (by omega) (by omega) (fun h14 => ?_) (fun h14 => ?_)
  · skip
    refine E_iconst (v := nI 0) (q := 22) dX4_canBeCloned_21 (by decide) rfl ?_
    exact E_zreturn rfl rfl rfl dX4_canBeCloned_22 (PI_of (zI_f (by omega)) rfl)
  · skip
    refine E_iconst (v := nI 1) (q := 18) dX4_canBeCloned_17 (by decide) rfl ?_
    refine E_goto (q := 22) dX4_canBeCloned_18 (by decide) ?_
    exact E_zreturn rfl rfl rfl dX4_canBeCloned_22 (PI_of (zI_t (by omega)) rfl)
theorem sp_X4_canDestroy {s : Nat} (h : SI M b A) (hs : s < 16) : Spec D 3 yX4_canDestroy cfX4_canDestroy [.ref (ad (b)), .int (nI (s))] (wl D ad M) 0 0 (PI (zI (whyN A s = 0)) (wl D ad M)) := by
  refine Spec.of (by decide) rfl (Nat.le_of_ble_eq_true rfl) rfl ?_
  have hS := h.1
  have hcl := clo_lt (A := A) (s := s)
  have hhl := hdM_lt (A := A)
  refine E_aload0 (q := 1) dX4_canDestroy_0 rfl ?_
  refine E_iload1 (q := 2) dX4_canDestroy_1 rfl ?_
  refine C_V1I (q := 5) lk_X4_113 (sp_X4_offspring h (by omega)) (rc_X4 hS) dX4_canDestroy_2 (by decide) (Nat.le_of_ble_eq_true rfl) rfl ?_
  refine E_if_ne (tgt := 23) (q := 8) dX4_canDestroy_5 (by decide) rfl (fun h5 => ?_) (fun h5 => ?_)
  · skip
    refine E_iconst (v := nI 0) (q := 24) dX4_canDestroy_23 (by decide) rfl ?_
    exact E_zreturn rfl rfl rfl dX4_canDestroy_24 (PI_of (zI_f (fun z => h5 (by rw [(whyN_0.mp z).1]; rfl))) rfl)
  · skip
    refine E_aload0 (q := 9) dX4_canDestroy_8 rfl ?_
    refine G_X4_heldSet (q := 12) hS fl_X4_56 dX4_canDestroy_9 rfl ?_
    refine V_int h.2.1.1.2.2.2.2 ?_
    refine E_iload1 (q := 13) dX4_canDestroy_12 rfl ?_
    refine C_SN2I (q := 16) lk_X4_72 (sp_X5_contains (by omega) (by omega)) dX4_canDestroy_13 (by decide) (Nat.le_of_ble_eq_true rfl) rfl ?_
    refine E_if_ne (tgt := 23) (q := 19) dX4_canDestroy_16 (by decide) rfl (fun h16 => ?_) (fun h16 => ?_)
    · skip
      refine E_iconst (v := nI 0) (q := 24) dX4_canDestroy_23 (by decide) rfl ?_
      exact E_zreturn rfl rfl rfl dX4_canDestroy_24 (PI_of (zI_f (fun z => (whyN_0.mp z).2 (hdM_bit.mp (zI_n h16)).2)) rfl)
    · skip
      refine E_iconst (v := nI 1) (q := 20) dX4_canDestroy_19 (by decide) rfl ?_
      refine E_goto (q := 24) dX4_canDestroy_20 (by decide) ?_
      exact E_zreturn rfl rfl rfl dX4_canDestroy_24 (PI_of (zI_t (whyN_0.mpr ⟨(nI_z (by omega)).mp h5, fun z => zI_0 h16 (hdM_bit.mpr ⟨hs, z⟩)⟩)) rfl)
theorem sp_X4_canDestroyAll {m : Nat} (h : SI M b A) (hm : m < 2 ^ 31) : Spec D 4 yX4_canDestroyAll cfX4_canDestroyAll [.ref (ad (b)), .int (nI (m))] (wl D ad M) 0 0 (PI (zI (∀ s, s < 16 → m.testBit s = true → whyN A s = 0)) (wl D ad M)) := by
  refine Spec.of (by decide) rfl (Nat.le_of_ble_eq_true rfl) rfl ?_
  have hS := h.1
  have hmain : V D cfX4_canDestroyAll (rmOf 4 0 0) (QM D (PI (zI (∀ s, s < 16 → m.testBit s = true → whyN A s = 0)) (wl D ad M)) 0 0) 0 0 2 [some (.ref (ad (b))), some (.int (nI (m))), some (.int (nI (0)))] [] (wl D ad M) := by
    refine (upto0 (n := 16) (P := fun i => (∀ s, s < i → m.testBit s = true → whyN A s = 0) → V D cfX4_canDestroyAll (rmOf 4 0 0) (QM D (PI (zI (∀ s, s < 16 → m.testBit s = true → whyN A s = 0)) (wl D ad M)) 0 0) 0 0 2 [some (.ref (ad (b))), some (.int (nI (m))), some (.int (nI (i)))] [] (wl D ad M)) ?_ ?_) (fun j hj => absurd hj (by omega))
    · intro hno
      refine E_iload2 (q := 3) dX4_canDestroyAll_2 rfl ?_
      refine E_bipush (v := nI 16) (q := 5) dX4_canDestroyAll_3 (by decide) rfl ?_
      refine E_icmp_geN (tgt := 32) (q := 8) dX4_canDestroyAll_5 (by decide) rfl (by omega) (by omega) (fun h5 => ?_) (fun h5 => ?_)
      · skip
        refine E_iconst (v := nI 1) (q := 33) dX4_canDestroyAll_32 (by decide) rfl ?_
        exact E_zreturn rfl rfl rfl dX4_canDestroyAll_33 (PI_of (zI_t hno) rfl)
      · skip
        exact absurd h5 (by omega)
    · intro i hi ih hno
      refine E_iload2 (q := 3) dX4_canDestroyAll_2 rfl ?_
      refine E_bipush (v := nI 16) (q := 5) dX4_canDestroyAll_3 (by decide) rfl ?_
      refine E_icmp_geN (tgt := 32) (q := 8) dX4_canDestroyAll_5 (by decide) rfl (by omega) (by omega) (fun h5 => ?_) (fun h5 => ?_)
      · skip
        exact absurd h5 (by omega)
      · skip
        refine E_iload1 (q := 9) dX4_canDestroyAll_8 rfl ?_
        refine E_iload2 (q := 10) dX4_canDestroyAll_9 rfl ?_
        refine C_SN2I (q := 13) lk_X4_72 (sp_X5_contains (by omega) (by omega)) dX4_canDestroyAll_10 (by decide) (Nat.le_of_ble_eq_true rfl) rfl ?_
        refine E_if_eq (tgt := 26) (q := 16) dX4_canDestroyAll_13 (by decide) rfl (fun h13 => ?_) (fun h13 => ?_)
        · skip
          refine E_iinc2 (q := 29) dX4_canDestroyAll_26 (nI_inc _) rfl rfl ?_
          refine E_goto (q := 2) dX4_canDestroyAll_29 (by decide) ?_
          exact ih (fun s hs hb => by rcases Nat.lt_or_ge s i with q | q; exact hno s q hb; rw [show s = i by omega] at hb; exact absurd hb (zI_0 h13))
        · skip
          refine E_aload0 (q := 17) dX4_canDestroyAll_16 rfl ?_
          refine E_iload2 (q := 18) dX4_canDestroyAll_17 rfl ?_
          refine C_V1I (q := 21) lk_X4_116 (sp_X4_canDestroy h hi) (rc_X4 hS) dX4_canDestroyAll_18 (by decide) (Nat.le_of_ble_eq_true rfl) rfl ?_
          refine E_if_ne (tgt := 26) (q := 24) dX4_canDestroyAll_21 (by decide) rfl (fun h21 => ?_) (fun h21 => ?_)
          · skip
            refine E_iinc2 (q := 29) dX4_canDestroyAll_26 (nI_inc _) rfl rfl ?_
            refine E_goto (q := 2) dX4_canDestroyAll_29 (by decide) ?_
            exact ih (fun s hs hb => by rcases Nat.lt_or_ge s i with q | q; exact hno s q hb; rw [show s = i by omega]; exact zI_n h21)
          · skip
            refine E_iconst (v := nI 0) (q := 25) dX4_canDestroyAll_24 (by decide) rfl ?_
            exact E_zreturn rfl rfl rfl dX4_canDestroyAll_25 (PI_of (zI_f (fun z => zI_0 h21 (z i hi (zI_n h13)))) rfl)
  refine E_iconst (v := nI 0) (q := 1) dX4_canDestroyAll_0 (by decide) rfl ?_
  refine E_istore2 (q := 2) dX4_canDestroyAll_1 rfl rfl ?_
  exact hmain
end CLS
