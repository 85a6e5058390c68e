
/-! THE CLASS: lines, names, writing -/
section VALS
variable {A : AS} {bl : List Blk}
theorem ahd_in (h : WF A) {w p : Nat} (hw : w < 22) (ht : th A w) (hp : ahd A w = p + 1) : p < w ∧ p < 22 ∧ th A p := by
  have := WFT.lt h.1 h.2.1 hw ht
  have := this.2 p hp
  exact ⟨by omega, by omega, this.2⟩
theorem lin_le (h : WF A) : ∀ (w : Nat), w < 22 → th A w → (∀ t, t ∈ lin A w → t ≤ w) ∧ (lin A w).Pairwise (fun x y => y < x) ∧ (lin A w).length ≤ w + 1 := by
  intro w
  induction w using Nat.strongRecOn with
  | ind w ih =>
    intro hw ht
    rw [lin_cons h.1 h.2.1 hw ht]
    cases hz : ahd A w with
    | zero => exact ⟨fun t q => by simp [linO] at q; omega, by simp [linO], by simp [linO]⟩
    | succ p =>
      obtain ⟨p1, p2, p3⟩ := ahd_in h hw ht hz
      obtain ⟨i1, i2, i3⟩ := ih p p1 p2 p3
      refine ⟨fun t q => ?_, List.pairwise_cons.mpr ⟨fun t q => ?_, i2⟩, ?_⟩
      · rcases List.mem_cons.mp q with q | q
        · omega
        · have := i1 t q; omega
      · have := i1 t q; omega
      · show (lin A p).length + 1 ≤ w + 1
        omega
theorem lin_lt (h : WF A) {w t : Nat} (hw : w < 22) (ht : th A w) (hm : t ∈ lin A w) : t < 22 := by
  have := (lin_le h w hw ht).1 t hm; omega
theorem lin_pop (h : WF A) {w : Nat} (hw : w < 22) (ht : th A w) : popN (linM A w) = (lin A w).length := by
  unfold linM
  rw [popN_bset _ (by decide), nsum_range, ← List.length_reverse (as := lin A w)]
  refine congrArg List.length (pw_ext (List.Pairwise.filter _ List.pairwise_lt_range) (List.pairwise_reverse.mpr (lin_le h w hw ht).2.1) fun t => ?_)
  rw [List.mem_reverse, List.mem_filter, List.mem_range]
  constructor
  · rintro ⟨a, c⟩
    exact Classical.byContradiction fun z => by rw [dB_f z] at c; cases c
  · intro a; exact ⟨lin_lt h hw ht a, dB_t a⟩
theorem com_hi (h : WF A) {a c : Nat} (ha : a < 22) (hta : th A a) (hc : c < 22) (htc : th A c) : hiF (linM A a &&& linM A c) 22 = comV A a c := by
  have hb : ∀ k, (linM A a &&& linM A c).testBit k = true ↔ k ∈ lin A a ∧ k ∈ lin A c := fun k => by
    rw [and_bit]
    unfold linM
    rw [bset_bit, bset_bit]
    constructor
    · rintro ⟨⟨_, q1⟩, _, q2⟩; exact ⟨q1, q2⟩
    · rintro ⟨q1, q2⟩; exact ⟨⟨lin_lt h ha hta q1, q1⟩, lin_lt h ha hta q1, q2⟩
  unfold comV
  cases hf : (lin A a).find? (fun v => decide (v ∈ lin A c)) with
  | none =>
    have hn := List.find?_eq_none.mp hf
    have : linM A a &&& linM A c = 0 := zero_bits.mpr fun k z => by
      have := (hb k).mp z
      exact hn k this.1 (decide_eq_true this.2)
    rw [this, hiF_0]
  | some v =>
    rw [List.find?_eq_some_iff_append] at hf
    obtain ⟨hv, l1, l2, hl, hl1⟩ := hf
    have hp := (lin_le h a ha hta).2.1
    rw [hl] at hp
    have hva : v ∈ lin A a := by rw [hl]; simp
    refine hiF_is ((hb v).mpr ⟨hva, of_decide_eq_true hv⟩) (lin_lt h ha hta hva) (fun u _ hu => ?_)
    have hu := (hb u).mp hu
    rw [hl] at hu
    rcases List.mem_append.mp hu.1 with q | q
    · have := hl1 u q
      rw [decide_eq_true hu.2] at this
      cases this
    · rcases List.mem_cons.mp q with q | q
      · omega
      · have := (List.pairwise_cons.mp (List.pairwise_append.mp hp).2.1).1 u q
        omega
end VALS
section CLS
variable {D : va_G} {ad : Nat → Nat} {M : Mem} {wx : Nat} {ws : va_W} {A : AS} {b : Nat} {bl : List Blk}
theorem sp_X4_lineage {w : Nat} (h : SI M b A) (hw : w < 22) (ht : th A w) : Spec D 6 yX4_lineage cfX4_lineage [.ref (ad (b)), .int (nI (w))] (wl D ad M) 0 0 (PI (nI (linM A w)) (wl D ad M)) := by
  refine Spec.of (by decide) rfl (Nat.le_of_ble_eq_true rfl) rfl ?_
  have hS := h.1
  have hmain : ∀ n o i m, (linO A o).length = n → i + n ≤ 22 → (o = 0 ∨ ∃ p, o = p + 1 ∧ p < 22 ∧ th A p) → (∀ k, (m.testBit k = true ∨ k ∈ linO A o) ↔ k ∈ lin A w) → V D cfX4_lineage (rmOf 6 0 0) (QM D (PI (nI (linM A w)) (wl D ad M)) 0 0) 0 0 7 [some (.ref (ad (b))), some (.int (nI (w))), some (.int (nI (m))), some (.int (oI o)), some (.int (nI (i)))] [] (wl D ad M) := by
    intro n
    induction n with
    | zero =>
      intro o i m hn hi ho hm
      have ho0 : o = 0 := by
        rcases ho with ho | ⟨p, rfl, -, -⟩
        · exact ho
        · have := lin_ne A p
          rw [show linO A (p + 1) = lin A p from rfl] at hn
          omega
      subst ho0
      have hv : m = linM A w := eq_bits fun k => by
        unfold linM
        rw [bset_bit, ← hm k]
        constructor
        · intro q; exact ⟨lin_lt h.2.2 hw ht ((hm k).mp (Or.inl q)), Or.inl q⟩
        · rintro ⟨-, q | q⟩
          · exact q
          · cases q
      rw [oI_0, hv]
      refine E_iload4 (q := 9) dX4_lineage_7 rfl ?_
      refine E_bipush (v := nI 22) (q := 11) dX4_lineage_9 (by decide) rfl ?_
      refine E_icmp_geN (tgt := 38) (q := 14) dX4_lineage_11 (by decide) rfl (by omega) (by omega) (fun h11 => ?_) (fun h11 => ?_)
      · skip
        refine E_iload2 (q := 39) dX4_lineage_38 rfl ?_
        exact E_ireturn rfl rfl dX4_lineage_39 (PI_of rfl rfl)
      · skip
        refine E_iload3 (q := 15) dX4_lineage_14 rfl ?_
        refine E_iconst (v := -1) (q := 16) dX4_lineage_15 (by decide) rfl ?_
        refine E_icmp_eq (tgt := 38) (q := 19) dX4_lineage_16 (by decide) rfl (fun h16 => ?_) (fun h16 => ?_)
        · skip
          refine E_iload2 (q := 39) dX4_lineage_38 rfl ?_
          exact E_ireturn rfl rfl dX4_lineage_39 (PI_of rfl rfl)
        · skip
          exact absurd rfl h16
    | succ n ih =>
      intro o i m hn hi ho hm
      obtain ⟨p, rfl, p1, p2⟩ : ∃ p, o = p + 1 ∧ p < 22 ∧ th A p := by
        rcases ho with ho | ho
        · subst ho; simp [linO] at hn
        · exact ho
      rw [show linO A (p + 1) = lin A p from rfl, lin_cons h.2.2.1 h.2.2.2.1 p1 p2] at hm hn
      rw [oI_s]
      refine E_iload4 (q := 9) dX4_lineage_7 rfl ?_
      refine E_bipush (v := nI 22) (q := 11) dX4_lineage_9 (by decide) rfl ?_
      refine E_icmp_geN (tgt := 38) (q := 14) dX4_lineage_11 (by decide) rfl (by omega) (by omega) (fun h11 => ?_) (fun h11 => ?_)
      · skip
        exact absurd h11 (by omega)
      · skip
        refine E_iload3 (q := 15) dX4_lineage_14 rfl ?_
        refine E_iconst (v := -1) (q := 16) dX4_lineage_15 (by decide) rfl ?_
        refine E_icmp_eq (tgt := 38) (q := 19) dX4_lineage_16 (by decide) rfl (fun h16 => absurd h16 (nI_nm1 (by omega))) (fun h16 => ?_)
        refine E_iload2 (q := 20) dX4_lineage_19 rfl ?_
        refine E_iload3 (q := 21) dX4_lineage_20 rfl ?_
        refine C_SN1I (q := 24) lk_X4_84 (sp_X5_bit (by omega)) dX4_lineage_21 (by decide) (Nat.le_of_ble_eq_true rfl) rfl ?_
        refine E_iorN (q := 25) dX4_lineage_24 (nI_or _ _) rfl ?_
        refine E_istore2 (q := 26) dX4_lineage_25 rfl rfl ?_
        refine E_aload0 (q := 27) dX4_lineage_26 rfl ?_
        refine E_iload3 (q := 28) dX4_lineage_27 rfl ?_
        refine C_V1I (q := 31) lk_X4_110 (sp_X4_ahead h p1 p2) (rc_X4 hS) dX4_lineage_28 (by decide) (Nat.le_of_ble_eq_true rfl) rfl ?_
        refine E_istore3 (q := 32) dX4_lineage_31 rfl rfl ?_
        refine E_iinc4 (q := 35) dX4_lineage_32 (nI_inc _) rfl rfl ?_
        refine E_goto (q := 7) dX4_lineage_35 (by decide) ?_
        refine ih _ _ _ (by simpa using hn) (by omega) ?_ ?_
        · cases hz : ahd A p with
          | zero => exact Or.inl rfl
          | succ r => exact Or.inr ⟨r, rfl, (ahd_in h.2.2 p1 p2 hz).2⟩
        · intro k
          rw [or_bit, pow_bit, ← hm k, List.mem_cons]
          constructor
          · rintro ((q | q) | q)
            · exact Or.inl q
            · exact Or.inr (Or.inl q.symm)
            · exact Or.inr (Or.inr q)
          · rintro (q | q | q)
            · exact Or.inl (Or.inl q)
            · exact Or.inl (Or.inr q.symm)
            · exact Or.inr q
  have hlen := (lin_le h.2.2 w hw ht).2.2
  refine E_iconst (v := nI 0) (q := 1) dX4_lineage_0 (by decide) rfl ?_
  refine E_istore2 (q := 2) dX4_lineage_1 rfl rfl ?_
  refine E_iload1 (q := 3) dX4_lineage_2 rfl ?_
  refine E_istore3 (q := 4) dX4_lineage_3 rfl rfl ?_
  refine E_iconst (v := nI 0) (q := 5) dX4_lineage_4 (by decide) rfl ?_
  refine E_istore4 (q := 7) dX4_lineage_5 rfl rfl ?_
  have q := hmain _ (w + 1) 0 0 rfl (by show 0 + (lin A w).length ≤ 22; omega) (Or.inr ⟨w, rfl, hw, ht⟩) (fun k => by rw [Nat.zero_testBit]; simp [linO])
  rw [oI_s] at q
  exact q
theorem sp_X4_volumeWithName {p : Int32} (h : SI M b A) : Spec D 2 yX4_volumeWithName cfX4_volumeWithName [.ref (ad (b)), .int (p)] (wl D ad M) 0 0 (PI (fnd (fun k => p ≠ 0 ∧ th A (16 + k) ∧ nI (vnm A k) = p) 6) (wl D ad M)) := by
  refine Spec.of (by decide) rfl (Nat.le_of_ble_eq_true rfl) rfl ?_
  have hS := h.1
  have htl := thM_lt (A := A)
  have hmain : V D cfX4_volumeWithName (rmOf 2 0 0) (QM D (PI (fnd (fun k => p ≠ 0 ∧ th A (16 + k) ∧ nI (vnm A k) = p) 6) (wl D ad M)) 0 0) 0 0 2 [some (.ref (ad (b))), some (.int (p)), some (.int (nI (0)))] [] (wl D ad M) := by
    refine (upto0 (n := 6) (P := fun i => (∀ k, k < i → ¬ (p ≠ 0 ∧ th A (16 + k) ∧ nI (vnm A k) = p)) → V D cfX4_volumeWithName (rmOf 2 0 0) (QM D (PI (fnd (fun k => p ≠ 0 ∧ th A (16 + k) ∧ nI (vnm A k) = p) 6) (wl D ad M)) 0 0) 0 0 2 [some (.ref (ad (b))), some (.int (p)), some (.int (nI (i)))] [] (wl D ad M)) ?_ ?_) (fun j hj => absurd hj (by omega))
    · intro hno
      refine E_iload1 (q := 3) dX4_volumeWithName_2 rfl ?_
      refine E_if_eq (tgt := 44) (q := 6) dX4_volumeWithName_3 (by decide) rfl (fun h3 => ?_) (fun h3 => ?_)
      · skip
        refine E_iconst (v := -1) (q := 45) dX4_volumeWithName_44 (by decide) rfl ?_
        exact E_ireturn rfl rfl dX4_volumeWithName_45 (PI_of (fnd_miss hno).symm rfl)
      · skip
        refine E_iload2 (q := 7) dX4_volumeWithName_6 rfl ?_
        refine E_bipush (v := nI 6) (q := 9) dX4_volumeWithName_7 (by decide) rfl ?_
        refine E_icmp_geN (tgt := 44) (q := 12) dX4_volumeWithName_9 (by decide) rfl (by omega) (by omega) (fun h9 => ?_) (fun h9 => ?_)
        · skip
          refine E_iconst (v := -1) (q := 45) dX4_volumeWithName_44 (by decide) rfl ?_
          exact E_ireturn rfl rfl dX4_volumeWithName_45 (PI_of (fnd_miss hno).symm rfl)
        · skip
          exact absurd h9 (by omega)
    · intro i hi ih hno
      refine E_iload1 (q := 3) dX4_volumeWithName_2 rfl ?_
      refine E_if_eq (tgt := 44) (q := 6) dX4_volumeWithName_3 (by decide) rfl (fun h3 => ?_) (fun h3 => ?_)
      · skip
        refine E_iconst (v := -1) (q := 45) dX4_volumeWithName_44 (by decide) rfl ?_
        exact E_ireturn rfl rfl dX4_volumeWithName_45 (PI_of (fnd_miss (fun k _ z => z.1 h3)).symm rfl)
      · skip
        refine E_iload2 (q := 7) dX4_volumeWithName_6 rfl ?_
        refine E_bipush (v := nI 6) (q := 9) dX4_volumeWithName_7 (by decide) rfl ?_
        refine E_icmp_geN (tgt := 44) (q := 12) dX4_volumeWithName_9 (by decide) rfl (by omega) (by omega) (fun h9 => ?_) (fun h9 => ?_)
        · skip
          exact absurd h9 (by omega)
        · skip
          refine E_aload0 (q := 13) dX4_volumeWithName_12 rfl ?_
          refine G_X4_there (q := 16) hS fl_X4_53 dX4_volumeWithName_13 rfl ?_
          refine V_int h.2.1.1.2.2.2.1 ?_
          refine E_bipush (v := nI 16) (q := 18) dX4_volumeWithName_16 (by decide) rfl ?_
          refine E_iload2 (q := 19) dX4_volumeWithName_18 rfl ?_
          refine E_iaddN (q := 20) dX4_volumeWithName_19 rfl ?_
          refine C_SN2I (q := 23) lk_X4_72 (sp_X5_contains (by omega) (by omega)) dX4_volumeWithName_20 (by decide) (Nat.le_of_ble_eq_true rfl) rfl ?_
          refine E_if_eq (tgt := 38) (q := 26) dX4_volumeWithName_23 (by decide) rfl (fun h23 => ?_) (fun h23 => ?_)
          · skip
            refine E_iinc2 (q := 41) dX4_volumeWithName_38 (nI_inc _) rfl rfl ?_
            refine E_goto (q := 2) dX4_volumeWithName_41 (by decide) ?_
            exact ih (no_lt hno (fun z => zI_0 h23 (thM_bit.mpr ⟨by omega, z.2.1⟩)))
          · skip
            refine E_aload0 (q := 27) dX4_volumeWithName_26 rfl ?_
            refine G_X4_volumeNames (q := 30) hS fl_X4_24 dX4_volumeWithName_27 rfl ?_
            refine E_iload2 (q := 31) dX4_volumeWithName_30 rfl ?_
            refine E_ialdN (q := 32) hS.volumeNames (by omega) (by decide) dX4_volumeWithName_31 rfl ?_
            have htk : th A (16 + i) := (thM_bit.mp (zI_n h23)).2
            refine V_int (h.2.1.2.2.2.1 i hi htk).1 ?_
            refine E_iload1 (q := 33) dX4_volumeWithName_32 rfl ?_
            refine E_icmp_ne (tgt := 38) (q := 36) dX4_volumeWithName_33 (by decide) rfl (fun h33 => ?_) (fun h33 => ?_)
            · skip
              refine E_iinc2 (q := 41) dX4_volumeWithName_38 (nI_inc _) rfl rfl ?_
              refine E_goto (q := 2) dX4_volumeWithName_41 (by decide) ?_
              exact ih (no_lt hno (fun z => h33 z.2.2))
            · skip
              refine E_iload2 (q := 37) dX4_volumeWithName_36 rfl ?_
              exact E_ireturn rfl rfl dX4_volumeWithName_37 (PI_of (fnd_hit hi hno ⟨h3, htk, h33⟩).symm rfl)
  refine E_iconst (v := nI 0) (q := 1) dX4_volumeWithName_0 (by decide) rfl ?_
  refine E_istore2 (q := 2) dX4_volumeWithName_1 rfl rfl ?_
  exact hmain
theorem sp_X4_snapshotWithName {p : Int32} (h : SI M b A) : Spec D 2 yX4_snapshotWithName cfX4_snapshotWithName [.ref (ad (b)), .int (p)] (wl D ad M) 0 0 (PI (fnd (fun k => p ≠ 0 ∧ th A k ∧ nI (snm A k) = p) 16) (wl D ad M)) := by
  refine Spec.of (by decide) rfl (Nat.le_of_ble_eq_true rfl) rfl ?_
  have hS := h.1
  have htl := thM_lt (A := A)
  have hmain : V D cfX4_snapshotWithName (rmOf 2 0 0) (QM D (PI (fnd (fun k => p ≠ 0 ∧ th A k ∧ nI (snm A k) = p) 16) (wl D ad M)) 0 0) 0 0 2 [some (.ref (ad (b))), some (.int (p)), some (.int (nI (0)))] [] (wl D ad M) := by
    refine (upto0 (n := 16) (P := fun i => (∀ k, k < i → ¬ (p ≠ 0 ∧ th A k ∧ nI (snm A k) = p)) → V D cfX4_snapshotWithName (rmOf 2 0 0) (QM D (PI (fnd (fun k => p ≠ 0 ∧ th A k ∧ nI (snm A k) = p) 16) (wl D ad M)) 0 0) 0 0 2 [some (.ref (ad (b))), some (.int (p)), some (.int (nI (i)))] [] (wl D ad M)) ?_ ?_) (fun j hj => absurd hj (by omega))
    · intro hno
      refine E_iload1 (q := 3) dX4_snapshotWithName_2 rfl ?_
      refine E_if_eq (tgt := 41) (q := 6) dX4_snapshotWithName_3 (by decide) rfl (fun h3 => ?_) (fun h3 => ?_)
      · skip
        refine E_iconst (v := -1) (q := 42) dX4_snapshotWithName_41 (by decide) rfl ?_
        exact E_ireturn rfl rfl dX4_snapshotWithName_42 (PI_of (fnd_miss hno).symm rfl)
      · skip
        refine E_iload2 (q := 7) dX4_snapshotWithName_6 rfl ?_
        refine E_bipush (v := nI 16) (q := 9) dX4_snapshotWithName_7 (by decide) rfl ?_
        refine E_icmp_geN (tgt := 41) (q := 12) dX4_snapshotWithName_9 (by decide) rfl (by omega) (by omega) (fun h9 => ?_) (fun h9 => ?_)
        · skip
          refine E_iconst (v := -1) (q := 42) dX4_snapshotWithName_41 (by decide) rfl ?_
          exact E_ireturn rfl rfl dX4_snapshotWithName_42 (PI_of (fnd_miss hno).symm rfl)
        · skip
          exact absurd h9 (by omega)
    · intro i hi ih hno
      refine E_iload1 (q := 3) dX4_snapshotWithName_2 rfl ?_
      refine E_if_eq (tgt := 41) (q := 6) dX4_snapshotWithName_3 (by decide) rfl (fun h3 => ?_) (fun h3 => ?_)
      · skip
        refine E_iconst (v := -1) (q := 42) dX4_snapshotWithName_41 (by decide) rfl ?_
        exact E_ireturn rfl rfl dX4_snapshotWithName_42 (PI_of (fnd_miss (fun k _ z => z.1 h3)).symm rfl)
      · skip
        refine E_iload2 (q := 7) dX4_snapshotWithName_6 rfl ?_
        refine E_bipush (v := nI 16) (q := 9) dX4_snapshotWithName_7 (by decide) rfl ?_
        refine E_icmp_geN (tgt := 41) (q := 12) dX4_snapshotWithName_9 (by decide) rfl (by omega) (by omega) (fun h9 => ?_) (fun h9 => ?_)
        · skip
          exact absurd h9 (by omega)
        · skip
          refine E_aload0 (q := 13) dX4_snapshotWithName_12 rfl ?_
          refine G_X4_there (q := 16) hS fl_X4_53 dX4_snapshotWithName_13 rfl ?_
          refine V_int h.2.1.1.2.2.2.1 ?_
          refine E_iload2 (q := 17) dX4_snapshotWithName_16 rfl ?_
          refine C_SN2I (q := 20) lk_X4_72 (sp_X5_contains (by omega) (by omega)) dX4_snapshotWithName_17 (by decide) (Nat.le_of_ble_eq_true rfl) rfl ?_
          refine E_if_eq (tgt := 35) (q := 23) dX4_snapshotWithName_20 (by decide) rfl (fun h20 => ?_) (fun h20 => ?_)
          · skip
            refine E_iinc2 (q := 38) dX4_snapshotWithName_35 (nI_inc _) rfl rfl ?_
            refine E_goto (q := 2) dX4_snapshotWithName_38 (by decide) ?_
            exact ih (no_lt hno (fun z => zI_0 h20 (thM_bit.mpr ⟨by omega, z.2.1⟩)))
          · skip
            refine E_aload0 (q := 24) dX4_snapshotWithName_23 rfl ?_
            refine G_X4_snapshotNames (q := 27) hS fl_X4_21 dX4_snapshotWithName_24 rfl ?_
            refine E_iload2 (q := 28) dX4_snapshotWithName_27 rfl ?_
            refine E_ialdN (q := 29) hS.snapshotNames (by omega) (by decide) dX4_snapshotWithName_28 rfl ?_
            have htk : th A i := (thM_bit.mp (zI_n h20)).2
            refine V_int (h.2.1.2.2.1 i hi htk).2.2 ?_
            refine E_iload1 (q := 30) dX4_snapshotWithName_29 rfl ?_
            refine E_icmp_ne (tgt := 35) (q := 33) dX4_snapshotWithName_30 (by decide) rfl (fun h30 => ?_) (fun h30 => ?_)
            · skip
              refine E_iinc2 (q := 38) dX4_snapshotWithName_35 (nI_inc _) rfl rfl ?_
              refine E_goto (q := 2) dX4_snapshotWithName_38 (by decide) ?_
              exact ih (no_lt hno (fun z => h30 z.2.2))
            · skip
              refine E_iload2 (q := 34) dX4_snapshotWithName_33 rfl ?_
              exact E_ireturn rfl rfl dX4_snapshotWithName_34 (PI_of (fnd_hit hi hno ⟨h3, htk, h30⟩).symm rfl)
  refine E_iconst (v := nI 0) (q := 1) dX4_snapshotWithName_0 (by decide) rfl ?_
  refine E_istore2 (q := 2) dX4_snapshotWithName_1 rfl rfl ?_
  exact hmain
theorem sp_X4_writeAnswerV {p q r : Int32} (h : SI M b A) (hn : ¬ VolA A p) : Spec D 6 yX4_writeAnswer cfX4_writeAnswer [.ref (ad (b)), .int (p), .int (q), .int (r)] (wl D ad M) 0 0 (PI (-1) (wl D ad M)) := by
  refine Spec.of (by decide) rfl (Nat.le_of_ble_eq_true rfl) rfl ?_
  have hS := h.1
  refine E_aload0 (q := 1) dX4_writeAnswer_0 rfl ?_
  refine E_iload1 (q := 2) dX4_writeAnswer_1 rfl ?_
  refine C_V1I (q := 5) lk_X4_119 (sp_X4_hasVolume h) (rc_X4 hS) dX4_writeAnswer_2 (by decide) (Nat.le_of_ble_eq_true rfl) rfl ?_
  refine E_if_ne (tgt := 10) (q := 8) dX4_writeAnswer_5 (by decide) rfl (fun h5 => ?_) (fun h5 => ?_)
  · skip
    exact absurd (zI_n h5) hn
  · skip
    refine E_iconst (v := -1) (q := 9) dX4_writeAnswer_8 (by decide) rfl ?_
    exact E_ireturn rfl rfl dX4_writeAnswer_9 (PI_of rfl rfl)
theorem sp_X4_writeAnswerB {p q r : Int32} (h : SI M b A) (hp : VolA A p) (hn : ¬ (AdrP q ∧ SizP r)) : Spec D 6 yX4_writeAnswer cfX4_writeAnswer [.ref (ad (b)), .int (p), .int (q), .int (r)] (wl D ad M) 0 0 (PI (-2) (wl D ad M)) := by
  refine Spec.of (by decide) rfl (Nat.le_of_ble_eq_true rfl) rfl ?_
  have hS := h.1
  refine E_aload0 (q := 1) dX4_writeAnswer_0 rfl ?_
  refine E_iload1 (q := 2) dX4_writeAnswer_1 rfl ?_
  refine C_V1I (q := 5) lk_X4_119 (sp_X4_hasVolume h) (rc_X4 hS) dX4_writeAnswer_2 (by decide) (Nat.le_of_ble_eq_true rfl) rfl ?_
  refine E_if_ne (tgt := 10) (q := 8) dX4_writeAnswer_5 (by decide) rfl (fun h5 => ?_) (fun h5 => ?_)
  · skip
    refine E_iload2 (q := 11) dX4_writeAnswer_10 rfl ?_
    refine C_SN1I (q := 14) lk_X4_122 (sp_X5_isAddress) dX4_writeAnswer_11 (by decide) (Nat.le_of_ble_eq_true rfl) rfl ?_
    refine E_if_eq (tgt := 28) (q := 17) dX4_writeAnswer_14 (by decide) rfl (fun h14 => ?_) (fun h14 => ?_)
    · skip
      refine E_bipush (v := -2) (q := 30) dX4_writeAnswer_28 (by decide) rfl ?_
      exact E_ireturn rfl rfl dX4_writeAnswer_30 (PI_of rfl rfl)
    · skip
      refine E_iload3 (q := 18) dX4_writeAnswer_17 rfl ?_
      refine E_iconst (v := nI 1) (q := 19) dX4_writeAnswer_18 (by decide) rfl ?_
      refine E_icmp_lt (tgt := 28) (q := 22) dX4_writeAnswer_19 (by decide) rfl (fun h19 => ?_) (fun h19 => ?_)
      · skip
        refine E_bipush (v := -2) (q := 30) dX4_writeAnswer_28 (by decide) rfl ?_
        exact E_ireturn rfl rfl dX4_writeAnswer_30 (PI_of rfl rfl)
      · skip
        refine E_iload3 (q := 23) dX4_writeAnswer_22 rfl ?_
        refine E_bipush (v := nI 9) (q := 25) dX4_writeAnswer_23 (by decide) rfl ?_
        refine E_icmp_le (tgt := 31) (q := 28) dX4_writeAnswer_25 (by decide) rfl (fun h25 => ?_) (fun h25 => ?_)
        · skip
          exact absurd ⟨zI_n h14, Int32.not_lt.mp h19, h25⟩ hn
        · skip
          refine E_bipush (v := -2) (q := 30) dX4_writeAnswer_28 (by decide) rfl ?_
          exact E_ireturn rfl rfl dX4_writeAnswer_30 (PI_of rfl rfl)
  · skip
    exact absurd hp (zI_0 h5)
theorem sp_X4_writeAnswer {v a z : Nat} (h : SI M b A) (hv : v < 6) (ht : th A (16 + v)) (ha : a < 12) (hz : 1 ≤ z ∧ z ≤ 9) : Spec D 6 yX4_writeAnswer cfX4_writeAnswer [.ref (ad (b)), .int (nI (v)), .int (nI (a)), .int (nI (z))] (wl D ad M) 0 0 (PI (wwI A v a z) (wl D ad M)) := by
  refine Spec.of (by decide) rfl (Nat.le_of_ble_eq_true rfl) rfl ?_
  have hS := h.1
  have h1 := aln_le h.2.2.2.2 (16 + v) a
  have h2 := sz_le h.2.2.2.2
  have h3 := sumA_le h.2.2.2.2 (16 + v)
  have h4 := uAt_sum (A := A) (w := 16 + v) ha
  have h5 := h.2.2.1.1.2.2.2.1
  have h6 := (h.2.2.1.2.2.2.1 v hv ht).2.2.1
  have h7 := h.2.2.1.1.1
  have hV := h.2.1.2.2.2.1 v hv ht
  have hp32 : 2 ^ (16 + v) < 2 ^ 32 := Nat.pow_lt_pow_right (by decide) (by omega)
  have hm3 : ∀ {x : Nat}, wrI A v a x = -3 → wwI A v a x = -3 := fun e => by rw [wwI, e]; exact if_neg (by decide)
  have hm5 : ∀ {x : Nat}, wrI A v a x = -5 → wwI A v a x = -5 := fun e => by rw [wwI, e]; exact if_neg (by decide)
  have hm0 : ∀ {x : Nat}, wrI A v a x = nI 0 → wwI A v a x = nI (aT A + 1) := fun e => by rw [wwI, e]; exact if_pos rfl
  by_cases hfull : aP A < fsum siz A.2 - aln A (16 + v) a + z
  · skip
    refine E_aload0 (q := 1) dX4_writeAnswer_0 rfl ?_
    refine E_iload1 (q := 2) dX4_writeAnswer_1 rfl ?_
    refine C_V1I (q := 5) lk_X4_119 (sp_X4_hasVolume h) (rc_X4 hS) dX4_writeAnswer_2 (by decide) (Nat.le_of_ble_eq_true rfl) rfl ?_
    refine E_if_ne (tgt := 10) (q := 8) dX4_writeAnswer_5 (by decide) rfl (fun h5 => ?_) (fun h5 => ?_)
    · skip
      refine E_iload2 (q := 11) dX4_writeAnswer_10 rfl ?_
      refine C_SN1I (q := 14) lk_X4_122 (sp_X5_isAddress) dX4_writeAnswer_11 (by decide) (Nat.le_of_ble_eq_true rfl) rfl ?_
      refine E_if_eq (tgt := 28) (q := 17) dX4_writeAnswer_14 (by decide) rfl (fun h14 => ?_) (fun h14 => ?_)
      · skip
        exact absurd ⟨a, ha, rfl⟩ (zI_0 h14)
      · skip
        refine E_iload3 (q := 18) dX4_writeAnswer_17 rfl ?_
        refine E_iconst (v := nI 1) (q := 19) dX4_writeAnswer_18 (by decide) rfl ?_
        refine E_icmp_ltN (tgt := 28) (q := 22) dX4_writeAnswer_19 (by decide) rfl (by omega) (by omega) (fun h19 => ?_) (fun h19 => ?_)
        · skip
          exact absurd h19 (by omega)
        · skip
          refine E_iload3 (q := 23) dX4_writeAnswer_22 rfl ?_
          refine E_bipush (v := nI 9) (q := 25) dX4_writeAnswer_23 (by decide) rfl ?_
          refine E_icmp_leN (tgt := 31) (q := 28) dX4_writeAnswer_25 (by decide) rfl (by omega) (by omega) (fun h25 => ?_) (fun h25 => ?_)
          · skip
            refine E_bipush (v := nI 16) (q := 33) dX4_writeAnswer_31 (by decide) rfl ?_
            refine E_iload1 (q := 34) dX4_writeAnswer_33 rfl ?_
            refine E_iaddN (q := 35) dX4_writeAnswer_34 rfl ?_
            refine E_istore4 (q := 37) dX4_writeAnswer_35 rfl rfl ?_
            refine E_aload0 (q := 38) dX4_writeAnswer_37 rfl ?_
            refine G_X4_blocks (q := 41) hS fl_X4_36 dX4_writeAnswer_38 rfl ?_
            refine E_iconst (v := nI 0) (q := 42) dX4_writeAnswer_41 (by decide) rfl ?_
            refine E_iconst (v := nI 0) (q := 43) dX4_writeAnswer_42 (by decide) rfl ?_
            refine E_iconst (v := nI 0) (q := 44) dX4_writeAnswer_43 (by decide) rfl ?_
            refine C_V3I (q := 47) lk_X4_125 (sp_X0_unitsWhere hS.blocks h.bi h.bw (by decide) (by decide) (by decide)) (rc_X0 hS.blocks) dX4_writeAnswer_44 (by decide) (Nat.le_of_ble_eq_true rfl) rfl ?_
            refine V_int (congrArg nI (uwF_all h.bw)) ?_
            refine E_aload0 (q := 48) dX4_writeAnswer_47 rfl ?_
            refine G_X4_blocks (q := 51) hS fl_X4_36 dX4_writeAnswer_48 rfl ?_
            refine E_iload4 (q := 53) dX4_writeAnswer_51 rfl ?_
            refine E_iload2 (q := 54) dX4_writeAnswer_53 rfl ?_
            refine C_V2I (q := 57) lk_X4_129 (sp_X0_unitsAloneAt hS.blocks h.bi h.bw (by omega) (by omega)) (rc_X0 hS.blocks) dX4_writeAnswer_54 (by decide) (Nat.le_of_ble_eq_true rfl) rfl ?_
            refine E_isubN (q := 58) dX4_writeAnswer_57 (by omega) rfl ?_
            refine E_iload3 (q := 59) dX4_writeAnswer_58 rfl ?_
            refine E_iaddN (q := 60) dX4_writeAnswer_59 rfl ?_
            refine E_aload0 (q := 61) dX4_writeAnswer_60 rfl ?_
            refine G_X4_settings (q := 64) hS fl_X4_9 dX4_writeAnswer_61 rfl ?_
            refine E_iconst (v := nI 0) (q := 65) dX4_writeAnswer_64 (by decide) rfl ?_
            refine E_ialdN (q := 66) hS.settings (by omega) (by decide) dX4_writeAnswer_65 rfl ?_
            refine V_int h.2.1.2.1.1 ?_
            refine E_icmp_leN (tgt := 72) (q := 69) dX4_writeAnswer_66 (by decide) rfl (by omega) (by omega) (fun h66 => ?_) (fun h66 => ?_)
            · skip
              exact absurd h66 (by omega)
            · skip
              refine E_bipush (v := -3) (q := 71) dX4_writeAnswer_69 (by decide) rfl ?_
              exact E_ireturn rfl rfl dX4_writeAnswer_71 (PI_of (hm3 (by rw [wrI, if_pos hfull])).symm rfl)
          · skip
            exact absurd h25 (by omega)
    · skip
      exact absurd ((VolA_nI (by omega)).mpr ⟨hv, ht⟩) (zI_0 h5)
  · have hend : ∀ x5 : Int32, V D cfX4_writeAnswer (rmOf 6 0 0) (QM D (PI (wwI A v a z) (wl D ad M)) 0 0) 0 0 106 [some (.ref (ad (b))), some (.int (nI (v))), some (.int (nI (a))), some (.int (nI (z))), some (.int (nI (16 + v))), some (.int (x5)), some (.int (nI (uAt A.2 (16 + v) a))), none] [] (wl D ad M) := by
      intro x5
      refine E_aload0 (q := 107) dX4_writeAnswer_106 rfl ?_
      refine G_X4_blocks (q := 110) hS fl_X4_36 dX4_writeAnswer_107 rfl ?_
      refine E_iload4 (q := 112) dX4_writeAnswer_110 rfl ?_
      refine C_SN1I (q := 115) lk_X4_84 (sp_X5_bit (by omega)) dX4_writeAnswer_112 (by decide) (Nat.le_of_ble_eq_true rfl) rfl ?_
      refine E_iconst (v := nI 0) (q := 116) dX4_writeAnswer_115 (by decide) rfl ?_
      refine E_iconst (v := nI 0) (q := 117) dX4_writeAnswer_116 (by decide) rfl ?_
      refine C_V3I (q := 120) lk_X4_125 (sp_X0_unitsWhere hS.blocks h.bi h.bw hp32 (by decide) (by decide)) (rc_X0 hS.blocks) dX4_writeAnswer_117 (by decide) (Nat.le_of_ble_eq_true rfl) rfl ?_
      refine V_int (congrArg nI (uwF_w h.2.2 (16 + v))) ?_
      refine E_iload6 (q := 122) dX4_writeAnswer_120 rfl ?_
      refine E_isubN (q := 123) dX4_writeAnswer_122 (by omega) rfl ?_
      refine E_iload3 (q := 124) dX4_writeAnswer_123 rfl ?_
      refine E_iaddN (q := 125) dX4_writeAnswer_124 rfl ?_
      refine E_istore7 (q := 127) dX4_writeAnswer_125 rfl rfl ?_
      refine E_aload0 (q := 128) dX4_writeAnswer_127 rfl ?_
      refine G_X4_quotas (q := 131) hS fl_X4_30 dX4_writeAnswer_128 rfl ?_
      refine E_iload1 (q := 132) dX4_writeAnswer_131 rfl ?_
      refine E_ialdN (q := 133) hS.quotas (by omega) (by decide) dX4_writeAnswer_132 rfl ?_
      refine V_int hV.2.2 ?_
      refine E_if_eq (tgt := 150) (q := 136) dX4_writeAnswer_133 (by decide) rfl (fun h133 => ?_) (fun h133 => ?_)
      · skip
        refine E_aload0 (q := 151) dX4_writeAnswer_150 rfl ?_
        refine G_X4_time (q := 154) hS fl_X4_43 dX4_writeAnswer_151 rfl ?_
        refine V_int h.2.1.1.1 ?_
        refine E_iconst (v := nI 1) (q := 155) dX4_writeAnswer_154 (by decide) rfl ?_
        refine E_iaddN (q := 156) dX4_writeAnswer_155 rfl ?_
        exact E_ireturn rfl rfl dX4_writeAnswer_156 (PI_of (hm0 (by rw [wrI, if_neg hfull, if_neg (fun q => by have := (nI_z (by omega)).mp h133; omega)])).symm rfl)
      · skip
        refine E_iload7 (q := 138) dX4_writeAnswer_136 rfl ?_
        refine E_aload0 (q := 139) dX4_writeAnswer_138 rfl ?_
        refine G_X4_quotas (q := 142) hS fl_X4_30 dX4_writeAnswer_139 rfl ?_
        refine E_iload1 (q := 143) dX4_writeAnswer_142 rfl ?_
        refine E_ialdN (q := 144) hS.quotas (by omega) (by decide) dX4_writeAnswer_143 rfl ?_
        refine V_int hV.2.2 ?_
        refine E_icmp_leN (tgt := 150) (q := 147) dX4_writeAnswer_144 (by decide) rfl (by omega) (by omega) (fun h144 => ?_) (fun h144 => ?_)
        · skip
          refine E_aload0 (q := 151) dX4_writeAnswer_150 rfl ?_
          refine G_X4_time (q := 154) hS fl_X4_43 dX4_writeAnswer_151 rfl ?_
          refine V_int h.2.1.1.1 ?_
          refine E_iconst (v := nI 1) (q := 155) dX4_writeAnswer_154 (by decide) rfl ?_
          refine E_iaddN (q := 156) dX4_writeAnswer_155 rfl ?_
          exact E_ireturn rfl rfl dX4_writeAnswer_156 (PI_of (hm0 (by rw [wrI, if_neg hfull, if_neg (by omega)])).symm rfl)
        · skip
          refine E_bipush (v := -5) (q := 149) dX4_writeAnswer_147 (by decide) rfl ?_
          exact E_ireturn rfl rfl dX4_writeAnswer_149 (PI_of (hm5 (by rw [wrI, if_neg hfull, if_pos ⟨Nat.pos_of_ne_zero (fun q => h133 (by rw [q]; rfl)), by omega⟩])).symm rfl)
    rcases at_cases A.2 (16 + v) a with ⟨hx, hno⟩ | ⟨j, x, hf, hx⟩
    · have hu : uAt A.2 (16 + v) a = 0 := (bAt_none hx).2
      rw [hu] at hend
      refine E_aload0 (q := 1) dX4_writeAnswer_0 rfl ?_
      refine E_iload1 (q := 2) dX4_writeAnswer_1 rfl ?_
      refine C_V1I (q := 5) lk_X4_119 (sp_X4_hasVolume h) (rc_X4 hS) dX4_writeAnswer_2 (by decide) (Nat.le_of_ble_eq_true rfl) rfl ?_
      refine E_if_ne (tgt := 10) (q := 8) dX4_writeAnswer_5 (by decide) rfl (fun h5 => ?_) (fun h5 => ?_)
      · skip
        refine E_iload2 (q := 11) dX4_writeAnswer_10 rfl ?_
        refine C_SN1I (q := 14) lk_X4_122 (sp_X5_isAddress) dX4_writeAnswer_11 (by decide) (Nat.le_of_ble_eq_true rfl) rfl ?_
        refine E_if_eq (tgt := 28) (q := 17) dX4_writeAnswer_14 (by decide) rfl (fun h14 => ?_) (fun h14 => ?_)
        · skip
          exact absurd ⟨a, ha, rfl⟩ (zI_0 h14)
        · skip
          refine E_iload3 (q := 18) dX4_writeAnswer_17 rfl ?_
          refine E_iconst (v := nI 1) (q := 19) dX4_writeAnswer_18 (by decide) rfl ?_
          refine E_icmp_ltN (tgt := 28) (q := 22) dX4_writeAnswer_19 (by decide) rfl (by omega) (by omega) (fun h19 => ?_) (fun h19 => ?_)
          · skip
            exact absurd h19 (by omega)
          · skip
            refine E_iload3 (q := 23) dX4_writeAnswer_22 rfl ?_
            refine E_bipush (v := nI 9) (q := 25) dX4_writeAnswer_23 (by decide) rfl ?_
            refine E_icmp_leN (tgt := 31) (q := 28) dX4_writeAnswer_25 (by decide) rfl (by omega) (by omega) (fun h25 => ?_) (fun h25 => ?_)
            · skip
              refine E_bipush (v := nI 16) (q := 33) dX4_writeAnswer_31 (by decide) rfl ?_
              refine E_iload1 (q := 34) dX4_writeAnswer_33 rfl ?_
              refine E_iaddN (q := 35) dX4_writeAnswer_34 rfl ?_
              refine E_istore4 (q := 37) dX4_writeAnswer_35 rfl rfl ?_
              refine E_aload0 (q := 38) dX4_writeAnswer_37 rfl ?_
              refine G_X4_blocks (q := 41) hS fl_X4_36 dX4_writeAnswer_38 rfl ?_
              refine E_iconst (v := nI 0) (q := 42) dX4_writeAnswer_41 (by decide) rfl ?_
              refine E_iconst (v := nI 0) (q := 43) dX4_writeAnswer_42 (by decide) rfl ?_
              refine E_iconst (v := nI 0) (q := 44) dX4_writeAnswer_43 (by decide) rfl ?_
              refine C_V3I (q := 47) lk_X4_125 (sp_X0_unitsWhere hS.blocks h.bi h.bw (by decide) (by decide) (by decide)) (rc_X0 hS.blocks) dX4_writeAnswer_44 (by decide) (Nat.le_of_ble_eq_true rfl) rfl ?_
              refine V_int (congrArg nI (uwF_all h.bw)) ?_
              refine E_aload0 (q := 48) dX4_writeAnswer_47 rfl ?_
              refine G_X4_blocks (q := 51) hS fl_X4_36 dX4_writeAnswer_48 rfl ?_
              refine E_iload4 (q := 53) dX4_writeAnswer_51 rfl ?_
              refine E_iload2 (q := 54) dX4_writeAnswer_53 rfl ?_
              refine C_V2I (q := 57) lk_X4_129 (sp_X0_unitsAloneAt hS.blocks h.bi h.bw (by omega) (by omega)) (rc_X0 hS.blocks) dX4_writeAnswer_54 (by decide) (Nat.le_of_ble_eq_true rfl) rfl ?_
              refine E_isubN (q := 58) dX4_writeAnswer_57 (by omega) rfl ?_
              refine E_iload3 (q := 59) dX4_writeAnswer_58 rfl ?_
              refine E_iaddN (q := 60) dX4_writeAnswer_59 rfl ?_
              refine E_aload0 (q := 61) dX4_writeAnswer_60 rfl ?_
              refine G_X4_settings (q := 64) hS fl_X4_9 dX4_writeAnswer_61 rfl ?_
              refine E_iconst (v := nI 0) (q := 65) dX4_writeAnswer_64 (by decide) rfl ?_
              refine E_ialdN (q := 66) hS.settings (by omega) (by decide) dX4_writeAnswer_65 rfl ?_
              refine V_int h.2.1.2.1.1 ?_
              refine E_icmp_leN (tgt := 72) (q := 69) dX4_writeAnswer_66 (by decide) rfl (by omega) (by omega) (fun h66 => ?_) (fun h66 => ?_)
              · skip
                refine E_aload0 (q := 73) dX4_writeAnswer_72 rfl ?_
                refine G_X4_blocks (q := 76) hS fl_X4_36 dX4_writeAnswer_73 rfl ?_
                refine E_iload4 (q := 78) dX4_writeAnswer_76 rfl ?_
                refine E_iload2 (q := 79) dX4_writeAnswer_78 rfl ?_
                refine C_V2I (q := 82) lk_X4_133 (sp_X0_indexAtN hS.blocks h.bi h.bw (by omega) (by omega) hno) (rc_X0 hS.blocks) dX4_writeAnswer_79 (by decide) (Nat.le_of_ble_eq_true rfl) rfl ?_
                refine E_istore5 (q := 84) dX4_writeAnswer_82 rfl rfl ?_
                refine E_iload5 (q := 86) dX4_writeAnswer_84 rfl ?_
                refine E_iconst (v := -1) (q := 87) dX4_writeAnswer_86 (by decide) rfl ?_
                refine E_icmp_ne (tgt := 94) (q := 90) dX4_writeAnswer_87 (by decide) rfl (fun h87 => ?_) (fun h87 => ?_)
                · first | exact absurd h87 (by decide) | exact absurd (by decide) h87
                · skip
                  refine E_iconst (v := nI 0) (q := 91) dX4_writeAnswer_90 (by decide) rfl ?_
                  refine E_goto (q := 104) dX4_writeAnswer_91 (by decide) ?_
                  refine E_istore6 (q := 106) dX4_writeAnswer_104 rfl rfl ?_
                  exact hend _
              · skip
                exact absurd h66 (by omega)
            · skip
              exact absurd h25 (by omega)
      · skip
        exact absurd ((VolA_nI (by omega)).mpr ⟨hv, ht⟩) (zI_0 h5)
    · have hg := h.bi.2 j x hf.1
      have hj := (List.getElem?_eq_some_iff.mp hf.1).1
      have hjl := h.bw.1
      have hu : uAt A.2 (16 + v) a = siz x := (bAt_some hx).2
      refine E_aload0 (q := 1) dX4_writeAnswer_0 rfl ?_
      refine E_iload1 (q := 2) dX4_writeAnswer_1 rfl ?_
      refine C_V1I (q := 5) lk_X4_119 (sp_X4_hasVolume h) (rc_X4 hS) dX4_writeAnswer_2 (by decide) (Nat.le_of_ble_eq_true rfl) rfl ?_
      refine E_if_ne (tgt := 10) (q := 8) dX4_writeAnswer_5 (by decide) rfl (fun h5 => ?_) (fun h5 => ?_)
      · skip
        refine E_iload2 (q := 11) dX4_writeAnswer_10 rfl ?_
        refine C_SN1I (q := 14) lk_X4_122 (sp_X5_isAddress) dX4_writeAnswer_11 (by decide) (Nat.le_of_ble_eq_true rfl) rfl ?_
        refine E_if_eq (tgt := 28) (q := 17) dX4_writeAnswer_14 (by decide) rfl (fun h14 => ?_) (fun h14 => ?_)
        · skip
          exact absurd ⟨a, ha, rfl⟩ (zI_0 h14)
        · skip
          refine E_iload3 (q := 18) dX4_writeAnswer_17 rfl ?_
          refine E_iconst (v := nI 1) (q := 19) dX4_writeAnswer_18 (by decide) rfl ?_
          refine E_icmp_ltN (tgt := 28) (q := 22) dX4_writeAnswer_19 (by decide) rfl (by omega) (by omega) (fun h19 => ?_) (fun h19 => ?_)
          · skip
            exact absurd h19 (by omega)
          · skip
            refine E_iload3 (q := 23) dX4_writeAnswer_22 rfl ?_
            refine E_bipush (v := nI 9) (q := 25) dX4_writeAnswer_23 (by decide) rfl ?_
            refine E_icmp_leN (tgt := 31) (q := 28) dX4_writeAnswer_25 (by decide) rfl (by omega) (by omega) (fun h25 => ?_) (fun h25 => ?_)
            · skip
              refine E_bipush (v := nI 16) (q := 33) dX4_writeAnswer_31 (by decide) rfl ?_
              refine E_iload1 (q := 34) dX4_writeAnswer_33 rfl ?_
              refine E_iaddN (q := 35) dX4_writeAnswer_34 rfl ?_
              refine E_istore4 (q := 37) dX4_writeAnswer_35 rfl rfl ?_
              refine E_aload0 (q := 38) dX4_writeAnswer_37 rfl ?_
              refine G_X4_blocks (q := 41) hS fl_X4_36 dX4_writeAnswer_38 rfl ?_
              refine E_iconst (v := nI 0) (q := 42) dX4_writeAnswer_41 (by decide) rfl ?_
              refine E_iconst (v := nI 0) (q := 43) dX4_writeAnswer_42 (by decide) rfl ?_
              refine E_iconst (v := nI 0) (q := 44) dX4_writeAnswer_43 (by decide) rfl ?_
              refine C_V3I (q := 47) lk_X4_125 (sp_X0_unitsWhere hS.blocks h.bi h.bw (by decide) (by decide) (by decide)) (rc_X0 hS.blocks) dX4_writeAnswer_44 (by decide) (Nat.le_of_ble_eq_true rfl) rfl ?_
              refine V_int (congrArg nI (uwF_all h.bw)) ?_
              refine E_aload0 (q := 48) dX4_writeAnswer_47 rfl ?_
              refine G_X4_blocks (q := 51) hS fl_X4_36 dX4_writeAnswer_48 rfl ?_
              refine E_iload4 (q := 53) dX4_writeAnswer_51 rfl ?_
              refine E_iload2 (q := 54) dX4_writeAnswer_53 rfl ?_
              refine C_V2I (q := 57) lk_X4_129 (sp_X0_unitsAloneAt hS.blocks h.bi h.bw (by omega) (by omega)) (rc_X0 hS.blocks) dX4_writeAnswer_54 (by decide) (Nat.le_of_ble_eq_true rfl) rfl ?_
              refine E_isubN (q := 58) dX4_writeAnswer_57 (by omega) rfl ?_
              refine E_iload3 (q := 59) dX4_writeAnswer_58 rfl ?_
              refine E_iaddN (q := 60) dX4_writeAnswer_59 rfl ?_
              refine E_aload0 (q := 61) dX4_writeAnswer_60 rfl ?_
              refine G_X4_settings (q := 64) hS fl_X4_9 dX4_writeAnswer_61 rfl ?_
              refine E_iconst (v := nI 0) (q := 65) dX4_writeAnswer_64 (by decide) rfl ?_
              refine E_ialdN (q := 66) hS.settings (by omega) (by decide) dX4_writeAnswer_65 rfl ?_
              refine V_int h.2.1.2.1.1 ?_
              refine E_icmp_leN (tgt := 72) (q := 69) dX4_writeAnswer_66 (by decide) rfl (by omega) (by omega) (fun h66 => ?_) (fun h66 => ?_)
              · skip
                refine E_aload0 (q := 73) dX4_writeAnswer_72 rfl ?_
                refine G_X4_blocks (q := 76) hS fl_X4_36 dX4_writeAnswer_73 rfl ?_
                refine E_iload4 (q := 78) dX4_writeAnswer_76 rfl ?_
                refine E_iload2 (q := 79) dX4_writeAnswer_78 rfl ?_
                refine C_V2I (q := 82) lk_X4_133 (sp_X0_indexAtS hS.blocks h.bi h.bw (by omega) (by omega) hf) (rc_X0 hS.blocks) dX4_writeAnswer_79 (by decide) (Nat.le_of_ble_eq_true rfl) rfl ?_
                refine E_istore5 (q := 84) dX4_writeAnswer_82 rfl rfl ?_
                refine E_iload5 (q := 86) dX4_writeAnswer_84 rfl ?_
                refine E_iconst (v := -1) (q := 87) dX4_writeAnswer_86 (by decide) rfl ?_
                refine E_icmp_ne (tgt := 94) (q := 90) dX4_writeAnswer_87 (by decide) rfl (fun h87 => ?_) (fun h87 => ?_)
                · skip
                  refine E_aload0 (q := 95) dX4_writeAnswer_94 rfl ?_
                  refine G_X4_blocks (q := 98) hS fl_X4_36 dX4_writeAnswer_95 rfl ?_
                  refine G_X0_sizes (q := 101) hS.blocks fl_X4_136 dX4_writeAnswer_98 rfl ?_
                  refine E_iload5 (q := 103) dX4_writeAnswer_101 rfl ?_
                  refine E_ialdN (q := 104) hS.blocks.sizes (by omega) (by decide) dX4_writeAnswer_103 rfl ?_
                  refine V_int (show _ = nI (uAt A.2 (16 + v) a) by rw [hu]; exact hg.2.1) ?_
                  refine E_istore6 (q := 106) dX4_writeAnswer_104 rfl rfl ?_
                  exact hend _
                · skip
                  exact absurd h87 (nI_nm1 (by omega))
              · skip
                exact absurd h66 (by omega)
            · skip
              exact absurd h25 (by omega)
      · skip
        exact absurd ((VolA_nI (by omega)).mpr ⟨hv, ht⟩) (zI_0 h5)
end CLS
