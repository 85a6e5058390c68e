
/-! THE REFERENCE over a pool: sums, masks, lines -/
section MODEL
variable {D : va_G} {ad : Nat → Nat} {M : Mem} {wx : Nat} {ws : va_W} {A : AS}
/-- the reference's current row is the pool A -/
def RI (M : Mem) (wx : Nat) (A : AS) : Prop := WX M wx ∧ RowIs (M wx) A ∧ WF A
theorem RI.x {c j : Nat} {v : Int32} (h : RI M wx A) (hc : c ≠ wx) (hj : ¬ (157 = c ∧ 3 = j)) : RI (upd2 M c j v) wx A :=
  ⟨h.1.u hj, by rw [upd2_row (fun z => hc z.symm)]; exact h.2.1, h.2.2⟩
theorem RI.u {j : Nat} {v : Int32} (h : RI M wx A) (hj : 3 ≠ j) : RI (upd2 M 157 j v) wx A := h.x (fun z => h.1.ne z.symm) (fun z => hj z.2)
theorem RI.fl {v : Int32} (h : RI M wx A) : RI (upd2 M 157 4 v) wx A := h.u (by decide)
theorem RI.bt (h : RI M wx A) (w a : Nat) : bAt A.2 w a < 2 ^ 24 := Nat.lt_of_le_of_lt h.2.2.2.2.ble h.2.2.1.1.1
theorem sp_X6_volO {v : Nat} (h : RI M wx A) (hv : v < 6) (ht : th A (16 + v)) : Spec D 2 yX6_volume cfX6_volume [.ref (ad 157), .int (nI (v)), .int (nI (1))] (wl D ad M) 0 0 (PI (nI (org A v)) (wl D ad M)) := by
  have q := sp_X6_volume (D := D) (ad := ad) (v := v) (x := 1) h.1 (by omega)
  rw [(h.2.1.2.2.2.1 v hv ht).1] at q
  exact q
theorem sp_X6_volQ {v : Nat} (h : RI M wx A) (hv : v < 6) (ht : th A (16 + v)) : Spec D 2 yX6_volume cfX6_volume [.ref (ad 157), .int (nI (v)), .int (nI (2))] (wl D ad M) 0 0 (PI (nI (quo A v)) (wl D ad M)) := by
  have q := sp_X6_volume (D := D) (ad := ad) (v := v) (x := 2) h.1 (by omega)
  rw [(h.2.1.2.2.2.1 v hv ht).2.1] at q
  exact q
theorem sp_X6_volN {v : Nat} (h : RI M wx A) (hv : v < 6) (ht : th A (16 + v)) : Spec D 2 yX6_volume cfX6_volume [.ref (ad 157), .int (nI (v)), .int (nI (3))] (wl D ad M) 0 0 (PI (nI (vnm A v)) (wl D ad M)) := by
  have q := sp_X6_volume (D := D) (ad := ad) (v := v) (x := 3) h.1 (by omega)
  rw [(h.2.1.2.2.2.1 v hv ht).2.2.1] at q
  exact q
theorem sp_X6_volM {v : Nat} (h : RI M wx A) (hv : v < 6) (ht : th A (16 + v)) : Spec D 2 yX6_volume cfX6_volume [.ref (ad 157), .int (nI (v)), .int (nI (4))] (wl D ad M) 0 0 (PI (nI (rowL A v).length) (wl D ad M)) := by
  have q := sp_X6_volume (D := D) (ad := ad) (v := v) (x := 4) h.1 (by omega)
  rw [(h.2.1.2.2.2.1 v hv ht).2.2.2.1] at q
  exact q
theorem sp_X6_volL {v k s : Nat} (h : RI M wx A) (hv : v < 6) (ht : th A (16 + v)) (hk : (rowL A v)[k]? = some s) : Spec D 2 yX6_volume cfX6_volume [.ref (ad 157), .int (nI (v)), .int (nI (5 + k))] (wl D ad M) 0 0 (PI (nI s) (wl D ad M)) := by
  have hlt := (List.getElem?_eq_some_iff.mp hk).1
  have := rowL_len A v
  have q := sp_X6_volume (D := D) (ad := ad) (v := v) (x := 5 + k) h.1 (by omega)
  rw [(h.2.1.2.2.2.1 v hv ht).2.2.2.2 k s hk] at q
  exact q
theorem sp_X6_snpV {s : Nat} (h : RI M wx A) (hs : s < 16) (ht : th A s) : Spec D 2 yX6_snapshot cfX6_snapshot [.ref (ad 157), .int (nI (s)), .int (nI (1))] (wl D ad M) 0 0 (PI (nI (home A s)) (wl D ad M)) := by
  have q := sp_X6_snapshot (D := D) (ad := ad) (v := s) (x := 1) h.1 (by omega)
  rw [(h.2.1.2.2.2.2.1 s hs ht).1] at q
  exact q
theorem sp_X6_snpT {s : Nat} (h : RI M wx A) (hs : s < 16) (ht : th A s) : Spec D 2 yX6_snapshot cfX6_snapshot [.ref (ad 157), .int (nI (s)), .int (nI (2))] (wl D ad M) 0 0 (PI (nI (stm A s)) (wl D ad M)) := by
  have q := sp_X6_snapshot (D := D) (ad := ad) (v := s) (x := 2) h.1 (by omega)
  rw [(h.2.1.2.2.2.2.1 s hs ht).2.1] at q
  exact q
theorem sp_X6_snpH {s : Nat} (h : RI M wx A) (hs : s < 16) (ht : th A s) : Spec D 2 yX6_snapshot cfX6_snapshot [.ref (ad 157), .int (nI (s)), .int (nI (3))] (wl D ad M) 0 0 (PI (nI (A.1 4 s)) (wl D ad M)) := by
  have q := sp_X6_snapshot (D := D) (ad := ad) (v := s) (x := 3) h.1 (by omega)
  rw [(h.2.1.2.2.2.2.1 s hs ht).2.2.1] at q
  exact q
theorem sp_X6_snpN {s : Nat} (h : RI M wx A) (hs : s < 16) (ht : th A s) : Spec D 2 yX6_snapshot cfX6_snapshot [.ref (ad 157), .int (nI (s)), .int (nI (4))] (wl D ad M) 0 0 (PI (nI (snm A s)) (wl D ad M)) := by
  have q := sp_X6_snapshot (D := D) (ad := ad) (v := s) (x := 4) h.1 (by omega)
  rw [(h.2.1.2.2.2.2.1 s hs ht).2.2.2] at q
  exact q
theorem sp_X6_birthA {v a : Nat} (h : RI M wx A) (hv : v < 22) (ha : a < 12) : Spec D 1 yX6_birth cfX6_birth [.ref (ad 157), .int (nI (v)), .int (nI (a))] (wl D ad M) 0 0 (PI (nI (bAt A.2 v a)) (wl D ad M)) := by
  have q := sp_X6_birth (D := D) (ad := ad) (v := v) (a := a) h.1 hv ha
  rw [h.2.1.bth hv ha] at q
  exact q
theorem sp_X6_unitsA {v a : Nat} (h : RI M wx A) (hv : v < 22) (ha : a < 12) : Spec D 1 yX6_units cfX6_units [.ref (ad 157), .int (nI (v)), .int (nI (a))] (wl D ad M) 0 0 (PI (nI (uAt A.2 v a)) (wl D ad M)) := by
  have q := sp_X6_units (D := D) (ad := ad) (v := v) (a := a) h.1 hv ha
  rw [h.2.1.unt hv ha] at q
  exact q
theorem hasB_A {b v : Nat} (h : RI M wx A) (hv : v < 22) (hb : b ≠ 0) (hb2 : b < 2 ^ 31) : hasB (M wx) v (nI b) ↔ (ownB A.2 b).testBit v = true := by
  rw [h.2.2.2.2.own_bit hb]
  constructor
  · rintro ⟨a, h1, h2⟩
    rw [h.2.1.bth hv h1] at h2
    have := h.bt v a
    exact ⟨a, h1, (nI_eq (by omega) hb2).mp h2⟩
  · rintro ⟨a, h1, h2⟩
    exact ⟨a, h1, by rw [h.2.1.bth hv h1, h2]⟩
theorem hold_eq {b : Nat} (h : RI M wx A) (hb : b ≠ 0) (hb2 : b < 2 ^ 31) : bset (fun v => verN (M wx) v ∧ hasB (M wx) v (nI b)) 22 = ownB A.2 b := by
  refine bset_ext fun k => ?_
  constructor
  · intro hk
    have h22 := tb_22 (h.2.2.2.2.own_lt b) hk
    exact ⟨h22, (h.2.1.ver h.2.2.1 h22).mpr (h.2.2.2.2.own_th hk), (hasB_A h h22 hb hb2).mpr hk⟩
  · rintro ⟨h22, -, h2⟩
    exact (hasB_A h h22 hb hb2).mp h2
theorem sp_X6_holdersA {b : Nat} (h : RI M wx A) (hb : b ≠ 0) (hb2 : b < 2 ^ 31) : Spec D 5 yX6_holdersOf cfX6_holdersOf [.ref (ad 157), .int (nI (b))] (wl D ad M) 0 0 (PI (nI (ownB A.2 b)) (wl D ad M)) := by
  have q := sp_X6_holdersOf (D := D) (ad := ad) (b := nI b) h.1
  rw [hold_eq h hb hb2] at q
  exact q
theorem sp_X6_hasBlockA {v b : Nat} (h : RI M wx A) (hv : v < 22) (hb : b ≠ 0) (hb2 : b < 2 ^ 31) : Spec D 2 yX6_hasBlock cfX6_hasBlock [.ref (ad 157), .int (nI (v)), .int (nI (b))] (wl D ad M) 0 0 (PI (zI ((ownB A.2 b).testBit v = true)) (wl D ad M)) := by
  exact zI_c (hasB_A h hv hb hb2) ▸ sp_X6_hasBlock h.1 hv
theorem sp_X6_isFirstA {v b : Nat} (h : RI M wx A) (hv : v < 22) (hb : b ≠ 0) (hb2 : b < 2 ^ 31) : Spec D 6 yX6_isFirst cfX6_isFirst [.ref (ad 157), .int (nI (v)), .int (nI (b))] (wl D ad M) 0 0 (PI (zI (ownB A.2 b % 2 ^ v = 0)) (wl D ad M)) := by
  refine zI_c ?_ ▸ sp_X6_isFirst h.1 hv
  rw [mod_bits]
  constructor
  · intro z u hu hb'
    have h22 := tb_22 (h.2.2.2.2.own_lt b) hb'
    exact z u hu ⟨(h.2.1.ver h.2.2.1 h22).mpr (h.2.2.2.2.own_th hb'), (hasB_A h h22 hb hb2).mpr hb'⟩
  · rintro z u hu ⟨-, q⟩
    exact z u hu ((hasB_A h (by omega) hb hb2).mp q)
theorem sp_X6_has {m k : Nat} (hm : m < 2 ^ 31) (hk : k < 22) : Spec D 1 yX6_has cfX6_has [.int (nI (m)), .int (nI (k))] ws 0 0 (PI (zI (m.testBit k = true)) ws) := by
  refine Spec.of (by decide) rfl (Nat.le_of_ble_eq_true rfl) rfl ?_
  refine E_iload0 (q := 1) dX6_has_0 rfl ?_
  refine E_iload1 (q := 2) dX6_has_1 rfl ?_
  refine E_ishr (q := 3) dX6_has_2 rfl ?_
  refine V_int (shr_nI hm (by omega)) ?_
  refine E_iconst (v := nI 1) (q := 4) dX6_has_3 (by decide) rfl ?_
  refine E_iand (q := 5) dX6_has_4 rfl ?_
  refine V_int (and_one _) ?_
  refine E_iconst (v := nI 1) (q := 6) dX6_has_5 (by decide) rfl ?_
  refine E_icmp_neN (tgt := 13) (q := 9) dX6_has_6 (by decide) rfl (by omega) (by omega) (fun h6 => ?_) (fun h6 => ?_)
  · skip
    refine E_iconst (v := nI 0) (q := 14) dX6_has_13 (by decide) rfl ?_
    exact E_zreturn rfl rfl rfl dX6_has_14 (PI_of (zI_f (fun z => h6 (nI_inj (by omega) (by omega) (tb_nI.mpr z)))) rfl)
  · skip
    refine E_iconst (v := nI 1) (q := 10) dX6_has_9 (by decide) rfl ?_
    refine E_goto (q := 14) dX6_has_10 (by decide) ?_
    exact E_zreturn rfl rfl rfl dX6_has_14 (PI_of (zI_t (tb_nI.mp (congrArg nI h6))) rfl)
theorem sp_X6_fails {P : Prop} : Spec D 1 yX6_fails cfX6_fails [.ref (ad 157), .int (zI (P))] (wl D ad M) 0 0 (PI (zI (¬ P)) (wl D ad (upd2 M 157 4 (zI (¬ P))))) := by
  refine Spec.of (by decide) rfl (Nat.le_of_ble_eq_true rfl) rfl ?_
  refine E_aload0 (q := 1) dX6_fails_0 rfl ?_
  refine E_iload1 (q := 2) dX6_fails_1 rfl ?_
  refine E_if_eq (tgt := 9) (q := 5) dX6_fails_2 (by decide) rfl (fun h2 => ?_) (fun h2 => ?_)
  · skip
    refine E_iconst (v := nI 1) (q := 10) dX6_fails_9 (by decide) rfl ?_
    refine P_X6_thrown (q := 13) fl_X6_43 dX6_fails_10 rfl ?_
    refine E_iload1 (q := 14) dX6_fails_13 rfl ?_
    refine E_if_ne (tgt := 21) (q := 17) dX6_fails_14 (by decide) rfl (fun h14 => ?_) (fun h14 => ?_)
    · skip
      exact absurd h2 h14
    · skip
      refine E_iconst (v := nI 1) (q := 18) dX6_fails_17 (by decide) rfl ?_
      refine E_goto (q := 22) dX6_fails_18 (by decide) ?_
      exact E_zreturn rfl rfl rfl dX6_fails_22 (PI_of (zI_t (zI_0 h2)) (congrArg (fun z => wl D ad (upd2 M 157 4 z)) (zI_t (zI_0 h2))))
  · skip
    refine E_iconst (v := nI 0) (q := 6) dX6_fails_5 (by decide) rfl ?_
    refine E_goto (q := 10) dX6_fails_6 (by decide) ?_
    refine P_X6_thrown (q := 13) fl_X6_43 dX6_fails_10 rfl ?_
    refine E_iload1 (q := 14) dX6_fails_13 rfl ?_
    refine E_if_ne (tgt := 21) (q := 17) dX6_fails_14 (by decide) rfl (fun h14 => ?_) (fun h14 => ?_)
    · skip
      refine E_iconst (v := nI 0) (q := 22) dX6_fails_21 (by decide) rfl ?_
      exact E_zreturn rfl rfl rfl dX6_fails_22 (PI_of (zI_f (fun z => z (zI_n h2))) (congrArg (fun z => wl D ad (upd2 M 157 4 z)) (zI_f (fun z => z (zI_n h2)))))
    · skip
      exact absurd h14 h2
theorem sp_X6_bits {m : Nat} (hm : m < 2 ^ 31) : Spec D 1 yX6_bits cfX6_bits [.int (nI (m))] ws 0 0 (PI (nI (popN m)) ws) := by
  refine Spec.of (by decide) rfl (Nat.le_of_ble_eq_true rfl) rfl ?_
  have hmain : ∀ r, r < 2 ^ 31 → ∀ c, c + popN r = popN m → V D cfX6_bits (rmOf 1 0 0) (QM D (PI (nI (popN m)) ws) 0 0) 0 0 4 [some (.int (nI (m))), some (.int (nI (c))), some (.int (nI (r)))] [] ws := by
    intro r
    induction r using Nat.strongRecOn with
    | ind r ih =>
      intro hr c hc
      by_cases h0 : r = 0
      · subst h0
        rw [popN_0] at hc
        refine E_iload2 (q := 5) dX6_bits_4 rfl ?_
        refine E_if_eq (tgt := 20) (q := 8) dX6_bits_5 (by decide) rfl (fun h5 => ?_) (fun h5 => ?_)
        · skip
          refine E_iload1 (q := 21) dX6_bits_20 rfl ?_
          exact E_ireturn rfl rfl dX6_bits_21 (PI_of (by rw [← hc]; rfl) rfl)
        · skip
          exact absurd rfl h5
      · have hl := popN_low (m := r) (by omega) h0
        refine E_iload2 (q := 5) dX6_bits_4 rfl ?_
        refine E_if_eq (tgt := 20) (q := 8) dX6_bits_5 (by decide) rfl (fun h5 => ?_) (fun h5 => ?_)
        · skip
          exact absurd ((nI_z hr).mp h5) h0
        · skip
          refine E_iinc1 (q := 11) dX6_bits_8 (nI_inc _) rfl rfl ?_
          refine E_iload2 (q := 12) dX6_bits_11 rfl ?_
          refine E_iload2 (q := 13) dX6_bits_12 rfl ?_
          refine E_iconst (v := nI 1) (q := 14) dX6_bits_13 (by decide) rfl ?_
          refine E_isubN (q := 15) dX6_bits_14 (by omega) rfl ?_
          refine E_iand (q := 16) dX6_bits_15 rfl ?_
          refine V_int (nI_and _ _) ?_
          refine E_istore2 (q := 17) dX6_bits_16 rfl rfl ?_
          refine E_goto (q := 4) dX6_bits_17 (by decide) ?_
          exact ih _ hl.2 (by omega) _ (by omega)
  refine E_iconst (v := nI 0) (q := 1) dX6_bits_0 (by decide) rfl ?_
  refine E_istore1 (q := 2) dX6_bits_1 rfl rfl ?_
  refine E_iload0 (q := 3) dX6_bits_2 rfl ?_
  refine E_istore2 (q := 4) dX6_bits_3 rfl rfl ?_
  exact hmain m hm 0 (by omega)
theorem sp_X6_snapshots (h : RI M wx A) : Spec D 4 yX6_snapshots cfX6_snapshots [.ref (ad 157)] (wl D ad M) 0 0 (PI (nI (snps A)) (wl D ad M)) := by
  refine Spec.of (by decide) rfl (Nat.le_of_ble_eq_true rfl) rfl ?_
  refine E_iconst (v := nI 0) (q := 1) dX6_snapshots_0 (by decide) rfl ?_
  refine E_istore1 (q := 2) dX6_snapshots_1 rfl rfl ?_
  refine E_iconst (v := nI 0) (q := 3) dX6_snapshots_2 (by decide) rfl ?_
  refine E_istore2 (q := 4) dX6_snapshots_3 rfl rfl ?_
  refine upto0 (n := 16) (P := fun i => V D cfX6_snapshots (rmOf 4 0 0) (QM D (PI (nI (snps A)) (wl D ad M)) 0 0) 0 0 4 [some (.ref (ad 157)), some (.int (nI (bset (fun s => th A s) i))), some (.int (nI (i)))] [] (wl D ad M)) ?_ ?_
  · skip
    refine E_iload2 (q := 5) dX6_snapshots_4 rfl ?_
    refine E_bipush (v := nI 16) (q := 7) dX6_snapshots_5 (by decide) rfl ?_
    refine E_icmp_geN (tgt := 34) (q := 10) dX6_snapshots_7 (by decide) rfl (by omega) (by omega) (fun h7 => ?_) (fun h7 => ?_)
    · skip
      refine E_iload1 (q := 35) dX6_snapshots_34 rfl ?_
      exact E_ireturn rfl rfl dX6_snapshots_35 (PI_of rfl rfl)
    · skip
      exact absurd h7 (by omega)
  · intro i hi ih
    refine E_iload2 (q := 5) dX6_snapshots_4 rfl ?_
    refine E_bipush (v := nI 16) (q := 7) dX6_snapshots_5 (by decide) rfl ?_
    refine E_icmp_geN (tgt := 34) (q := 10) dX6_snapshots_7 (by decide) rfl (by omega) (by omega) (fun h7 => ?_) (fun h7 => ?_)
    · skip
      exact absurd h7 (by omega)
    · skip
      refine E_iload1 (q := 11) dX6_snapshots_10 rfl ?_
      refine E_aload0 (q := 12) dX6_snapshots_11 rfl ?_
      refine E_iload2 (q := 13) dX6_snapshots_12 rfl ?_
      refine C_V1I (q := 16) lk_X6_70 (sp_X6_isSnpN h.1 h.2.1 h.2.2.1 (by omega)) rc_X6 dX6_snapshots_13 (by decide) (Nat.le_of_ble_eq_true rfl) rfl ?_
      refine E_if_eq (tgt := 25) (q := 19) dX6_snapshots_16 (by decide) rfl (fun h16 => ?_) (fun h16 => ?_)
      · skip
        refine E_iconst (v := nI 0) (q := 26) dX6_snapshots_25 (by decide) rfl ?_
        refine E_iorN (q := 27) dX6_snapshots_26 (bset_off (n := i) (zI_0 h16)) rfl ?_
        refine E_istore1 (q := 28) dX6_snapshots_27 rfl rfl ?_
        refine E_iinc2 (q := 31) dX6_snapshots_28 (nI_inc _) rfl rfl ?_
        refine E_goto (q := 4) dX6_snapshots_31 (by decide) ?_
        exact ih
      · skip
        refine E_iconst (v := nI 1) (q := 20) dX6_snapshots_19 (by decide) rfl ?_
        refine E_iload2 (q := 21) dX6_snapshots_20 rfl ?_
        refine E_ishl (q := 22) dX6_snapshots_21 rfl ?_
        refine V_int (one_shl (by omega)) ?_
        refine E_goto (q := 26) dX6_snapshots_22 (by decide) ?_
        refine E_iorN (q := 27) dX6_snapshots_26 (bset_on (n := i) (zI_n h16)) rfl ?_
        refine E_istore1 (q := 28) dX6_snapshots_27 rfl rfl ?_
        refine E_iinc2 (q := 31) dX6_snapshots_28 (nI_inc _) rfl rfl ?_
        refine E_goto (q := 4) dX6_snapshots_31 (by decide) ?_
        exact ih
theorem sp_X6_clones {s : Nat} (h : RI M wx A) (hs : s < 16) : Spec D 4 yX6_clones cfX6_clones [.ref (ad 157), .int (nI (s))] (wl D ad M) 0 0 (PI (nI (clo A s)) (wl D ad M)) := by
  refine Spec.of (by decide) rfl (Nat.le_of_ble_eq_true rfl) rfl ?_
  refine E_iconst (v := nI 0) (q := 1) dX6_clones_0 (by decide) rfl ?_
  refine E_istore2 (q := 2) dX6_clones_1 rfl rfl ?_
  refine E_iconst (v := nI 0) (q := 3) dX6_clones_2 (by decide) rfl ?_
  refine E_istore3 (q := 4) dX6_clones_3 rfl rfl ?_
  refine upto0 (n := 6) (P := fun i => V D cfX6_clones (rmOf 4 0 0) (QM D (PI (nI (clo A s)) (wl D ad M)) 0 0) 0 0 4 [some (.ref (ad 157)), some (.int (nI (s))), some (.int (nI (bset (fun v => th A (16 + v) ∧ org A v = s + 1) i))), some (.int (nI (i)))] [] (wl D ad M)) ?_ ?_
  · skip
    refine E_iload3 (q := 5) dX6_clones_4 rfl ?_
    refine E_bipush (v := nI 6) (q := 7) dX6_clones_5 (by decide) rfl ?_
    refine E_icmp_geN (tgt := 43) (q := 10) dX6_clones_7 (by decide) rfl (by omega) (by omega) (fun h7 => ?_) (fun h7 => ?_)
    · skip
      refine E_iload2 (q := 44) dX6_clones_43 rfl ?_
      exact E_ireturn rfl rfl dX6_clones_44 (PI_of rfl rfl)
    · skip
      exact absurd h7 (by omega)
  · intro i hi ih
    refine E_iload3 (q := 5) dX6_clones_4 rfl ?_
    refine E_bipush (v := nI 6) (q := 7) dX6_clones_5 (by decide) rfl ?_
    refine E_icmp_geN (tgt := 43) (q := 10) dX6_clones_7 (by decide) rfl (by omega) (by omega) (fun h7 => ?_) (fun h7 => ?_)
    · skip
      exact absurd h7 (by omega)
    · skip
      refine E_iload2 (q := 11) dX6_clones_10 rfl ?_
      refine E_aload0 (q := 12) dX6_clones_11 rfl ?_
      refine E_iload3 (q := 13) dX6_clones_12 rfl ?_
      refine C_V1I (q := 16) lk_X6_74 (sp_X6_isVolN h.1 h.2.1 h.2.2.1 (by omega)) rc_X6 dX6_clones_13 (by decide) (Nat.le_of_ble_eq_true rfl) rfl ?_
      refine E_if_eq (tgt := 34) (q := 19) dX6_clones_16 (by decide) rfl (fun h16 => ?_) (fun h16 => ?_)
      · skip
        refine E_iconst (v := nI 0) (q := 35) dX6_clones_34 (by decide) rfl ?_
        refine E_iorN (q := 36) dX6_clones_35 (bset_off (n := i) (fun z => zI_0 h16 z.1)) rfl ?_
        refine E_istore2 (q := 37) dX6_clones_36 rfl rfl ?_
        refine E_iinc3 (q := 40) dX6_clones_37 (nI_inc _) rfl rfl ?_
        refine E_goto (q := 4) dX6_clones_40 (by decide) ?_
        exact ih
      · skip
        refine E_aload0 (q := 20) dX6_clones_19 rfl ?_
        refine E_iload3 (q := 21) dX6_clones_20 rfl ?_
        refine C_V1I (q := 24) lk_X6_107 (sp_X6_origin h.1 h.2.1 hi (zI_n h16)) rc_X6 dX6_clones_21 (by decide) (Nat.le_of_ble_eq_true rfl) rfl ?_
        have ho := (h.2.2.1.2.2.2.1 i hi (zI_n h16)).2.1
        refine E_iload1 (q := 25) dX6_clones_24 rfl ?_
        refine E_icmp_ne (tgt := 34) (q := 28) dX6_clones_25 (by decide) rfl (fun h25 => ?_) (fun h25 => ?_)
        · skip
          refine E_iconst (v := nI 0) (q := 35) dX6_clones_34 (by decide) rfl ?_
          refine E_iorN (q := 36) dX6_clones_35 (bset_off (n := i) (fun z => h25 ((oI_eq (by omega) (by omega)).mpr z.2))) rfl ?_
          refine E_istore2 (q := 37) dX6_clones_36 rfl rfl ?_
          refine E_iinc3 (q := 40) dX6_clones_37 (nI_inc _) rfl rfl ?_
          refine E_goto (q := 4) dX6_clones_40 (by decide) ?_
          exact ih
        · skip
          refine E_iconst (v := nI 1) (q := 29) dX6_clones_28 (by decide) rfl ?_
          refine E_iload3 (q := 30) dX6_clones_29 rfl ?_
          refine E_ishl (q := 31) dX6_clones_30 rfl ?_
          refine V_int (one_shl (by omega)) ?_
          refine E_goto (q := 35) dX6_clones_31 (by decide) ?_
          refine E_iorN (q := 36) dX6_clones_35 (bset_on (n := i) ⟨zI_n h16, (oI_eq (by omega) (by omega)).mp h25⟩) rfl ?_
          refine E_istore2 (q := 37) dX6_clones_36 rfl rfl ?_
          refine E_iinc3 (q := 40) dX6_clones_37 (nI_inc _) rfl rfl ?_
          refine E_goto (q := 4) dX6_clones_40 (by decide) ?_
          exact ih
theorem sp_X6_behindOf {s : Nat} (h : RI M wx A) (hs : s < 16) (ht : th A s) : Spec D 4 yX6_behindOf cfX6_behindOf [.ref (ad 157), .int (nI (s))] (wl D ad M) 0 0 (PI (nI (bhd A s)) (wl D ad M)) := by
  refine Spec.of (by decide) rfl (Nat.le_of_ble_eq_true rfl) rfl ?_
  have hh := h.2.2.1.2.2.2.2.1 s hs ht
  have hp := plc_lt16 hs ht
  have hl := rowL_len A (home A s)
  refine E_aload0 (q := 1) dX6_behindOf_0 rfl ?_
  refine E_iload1 (q := 2) dX6_behindOf_1 rfl ?_
  refine E_iconst (v := nI 1) (q := 3) dX6_behindOf_2 (by decide) rfl ?_
  refine C_V2I (q := 6) lk_X6_67 (sp_X6_snpV h hs ht) rc_X6 dX6_behindOf_3 (by decide) (Nat.le_of_ble_eq_true rfl) rfl ?_
  refine E_istore2 (q := 7) dX6_behindOf_6 rfl rfl ?_
  refine E_aload0 (q := 8) dX6_behindOf_7 rfl ?_
  refine E_iload1 (q := 9) dX6_behindOf_8 rfl ?_
  refine C_V1I (q := 12) lk_X6_104 (sp_X6_placeOf h.1 h.2.1 h.2.2.1 hs ht) rc_X6 dX6_behindOf_9 (by decide) (Nat.le_of_ble_eq_true rfl) rfl ?_
  refine E_istore3 (q := 13) dX6_behindOf_12 rfl rfl ?_
  refine E_iload3 (q := 14) dX6_behindOf_13 rfl ?_
  refine E_iconst (v := nI 1) (q := 15) dX6_behindOf_14 (by decide) rfl ?_
  refine E_iaddN (q := 16) dX6_behindOf_15 rfl ?_
  refine E_aload0 (q := 17) dX6_behindOf_16 rfl ?_
  refine E_iload2 (q := 18) dX6_behindOf_17 rfl ?_
  refine E_iconst (v := nI 4) (q := 19) dX6_behindOf_18 (by decide) rfl ?_
  refine C_V2I (q := 22) lk_X6_64 (sp_X6_volM h hh.2.1 hh.2.2.1) rc_X6 dX6_behindOf_19 (by decide) (Nat.le_of_ble_eq_true rfl) rfl ?_
  refine E_icmp_geN (tgt := 38) (q := 25) dX6_behindOf_22 (by decide) rfl (by omega) (by omega) (fun h22 => ?_) (fun h22 => ?_)
  · skip
    refine E_bipush (v := nI 16) (q := 40) dX6_behindOf_38 (by decide) rfl ?_
    refine E_iload2 (q := 41) dX6_behindOf_40 rfl ?_
    refine E_iaddN (q := 42) dX6_behindOf_41 rfl ?_
    exact E_ireturn rfl rfl dX6_behindOf_42 (PI_of (by unfold bhd; rw [List.getElem?_eq_none (by omega)]) rfl)
  · skip
    obtain ⟨t, hg⟩ : ∃ t, (rowL A (home A s))[plc A s + 1]? = some t := ⟨_, List.getElem?_eq_getElem (by omega)⟩
    refine E_aload0 (q := 26) dX6_behindOf_25 rfl ?_
    refine E_iload2 (q := 27) dX6_behindOf_26 rfl ?_
    refine E_iconst (v := nI 5) (q := 28) dX6_behindOf_27 (by decide) rfl ?_
    refine E_iload3 (q := 29) dX6_behindOf_28 rfl ?_
    refine E_iaddN (q := 30) dX6_behindOf_29 rfl ?_
    refine E_iconst (v := nI 1) (q := 31) dX6_behindOf_30 (by decide) rfl ?_
    refine E_iaddN (q := 32) dX6_behindOf_31 rfl ?_
    refine C_V2I (q := 35) lk_X6_64 (sp_X6_volL (k := plc A s + 1) h hh.2.1 hh.2.2.1 hg) rc_X6 dX6_behindOf_32 (by decide) (Nat.le_of_ble_eq_true rfl) rfl ?_
    refine E_goto (q := 42) dX6_behindOf_35 (by decide) ?_
    exact E_ireturn rfl rfl dX6_behindOf_42 (PI_of (by unfold bhd; rw [hg]) rfl)
theorem sp_X6_depth {w : Nat} (h : RI M wx A) (hw : w < 22) (ht : th A w) : Spec D 5 yX6_depth cfX6_depth [.ref (ad 157), .int (nI (w))] (wl D ad M) 0 0 (PI (nI ((lin A w).length - 1)) (wl D ad M)) := by
  refine Spec.of (by decide) rfl (Nat.le_of_ble_eq_true rfl) rfl ?_
  have hmain : ∀ u, u < 22 → th A u → ∀ d, d + (lin A u).length = (lin A w).length → V D cfX6_depth (rmOf 5 0 0) (QM D (PI (nI ((lin A w).length - 1)) (wl D ad M)) 0 0) 0 0 8 [some (.ref (ad 157)), some (.int (nI (w))), some (.int (nI (d))), some (.int (oI (ahd A u)))] [] (wl D ad M) := by
    intro u
    induction u using Nat.strongRecOn with
    | ind u ih =>
      intro hu htu d hd
      have hlt := WFT.lt h.2.2.1 h.2.2.2.1 hu htu
      cases hz : ahd A u with
      | zero =>
        rw [lin_0 hz] at hd
        rw [oI_0]
        refine E_iload3 (q := 9) dX6_depth_8 rfl ?_
        refine E_if_lt (tgt := 24) (q := 12) dX6_depth_9 (by decide) rfl (fun h9 => ?_) (fun h9 => ?_)
        · skip
          refine E_iload2 (q := 25) dX6_depth_24 rfl ?_
          exact E_ireturn rfl rfl dX6_depth_25 (PI_of (by rw [← hd]; rfl) rfl)
        · skip
          exact absurd (by decide) h9
      | succ p =>
        have hp := hlt.2 p hz
        rw [lin_s h.2.2.1 h.2.2.2.1 hu htu hz, List.length_cons] at hd
        rw [oI_s]
        refine E_iload3 (q := 9) dX6_depth_8 rfl ?_
        refine E_if_lt (tgt := 24) (q := 12) dX6_depth_9 (by decide) rfl (fun h9 => ?_) (fun h9 => ?_)
        · skip
          exact absurd h9 (nI_pos (by omega))
        · skip
          refine E_iinc2 (q := 15) dX6_depth_12 (nI_inc _) rfl rfl ?_
          refine E_aload0 (q := 16) dX6_depth_15 rfl ?_
          refine E_iload3 (q := 17) dX6_depth_16 rfl ?_
          refine C_V1I (q := 20) lk_X6_110 (sp_X6_beforeOf h.1 h.2.1 h.2.2.1 (by omega) hp.2) rc_X6 dX6_depth_17 (by decide) (Nat.le_of_ble_eq_true rfl) rfl ?_
          refine E_istore3 (q := 21) dX6_depth_20 rfl rfl ?_
          refine E_goto (q := 8) dX6_depth_21 (by decide) ?_
          exact ih p (by omega) (by omega) hp.2 _ (by omega)
  refine E_iconst (v := nI 0) (q := 1) dX6_depth_0 (by decide) rfl ?_
  refine E_istore2 (q := 2) dX6_depth_1 rfl rfl ?_
  refine E_aload0 (q := 3) dX6_depth_2 rfl ?_
  refine E_iload1 (q := 4) dX6_depth_3 rfl ?_
  refine C_V1I (q := 7) lk_X6_110 (sp_X6_beforeOf h.1 h.2.1 h.2.2.1 hw ht) rc_X6 dX6_depth_4 (by decide) (Nat.le_of_ble_eq_true rfl) rfl ?_
  refine E_istore3 (q := 8) dX6_depth_7 rfl rfl ?_
  exact hmain w hw ht 0 (by omega)
theorem sp_X6_sum {w : Nat} (h : RI M wx A) (hw : w < 22) : Spec D 2 yX6_sum cfX6_sum [.ref (ad 157), .int (nI (w))] (wl D ad M) 0 0 (PI (nI (sumA A w)) (wl D ad M)) := by
  refine Spec.of (by decide) rfl (Nat.le_of_ble_eq_true rfl) rfl ?_
  refine E_iconst (v := nI 0) (q := 1) dX6_sum_0 (by decide) rfl ?_
  refine E_istore2 (q := 2) dX6_sum_1 rfl rfl ?_
  refine E_iconst (v := nI 0) (q := 3) dX6_sum_2 (by decide) rfl ?_
  refine E_istore3 (q := 4) dX6_sum_3 rfl rfl ?_
  refine upto0 (n := 12) (P := fun i => V D cfX6_sum (rmOf 2 0 0) (QM D (PI (nI (sumA A w)) (wl D ad M)) 0 0) 0 0 4 [some (.ref (ad 157)), some (.int (nI (w))), some (.int (nI (nsum (fun a => uAt A.2 w a) i))), some (.int (nI (i)))] [] (wl D ad M)) ?_ ?_
  · skip
    refine E_iload3 (q := 5) dX6_sum_4 rfl ?_
    refine E_bipush (v := nI 12) (q := 7) dX6_sum_5 (by decide) rfl ?_
    refine E_icmp_geN (tgt := 25) (q := 10) dX6_sum_7 (by decide) rfl (by omega) (by omega) (fun h7 => ?_) (fun h7 => ?_)
    · skip
      refine E_iload2 (q := 26) dX6_sum_25 rfl ?_
      exact E_ireturn rfl rfl dX6_sum_26 (PI_of rfl rfl)
    · skip
      exact absurd h7 (by omega)
  · intro i hi ih
    refine E_iload3 (q := 5) dX6_sum_4 rfl ?_
    refine E_bipush (v := nI 12) (q := 7) dX6_sum_5 (by decide) rfl ?_
    refine E_icmp_geN (tgt := 25) (q := 10) dX6_sum_7 (by decide) rfl (by omega) (by omega) (fun h7 => ?_) (fun h7 => ?_)
    · skip
      exact absurd h7 (by omega)
    · skip
      refine E_iload2 (q := 11) dX6_sum_10 rfl ?_
      refine E_aload0 (q := 12) dX6_sum_11 rfl ?_
      refine E_iload1 (q := 13) dX6_sum_12 rfl ?_
      refine E_iload3 (q := 14) dX6_sum_13 rfl ?_
      refine C_V2I (q := 17) lk_X6_80 (sp_X6_unitsA h (by omega) (by omega)) rc_X6 dX6_sum_14 (by decide) (Nat.le_of_ble_eq_true rfl) rfl ?_
      refine E_iaddN (q := 18) dX6_sum_17 rfl ?_
      refine E_istore2 (q := 19) dX6_sum_18 rfl rfl ?_
      refine E_iinc3 (q := 22) dX6_sum_19 (nI_inc _) rfl rfl ?_
      refine E_goto (q := 4) dX6_sum_22 (by decide) ?_
      exact ih
end MODEL
