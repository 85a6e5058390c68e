/-! THE CLASS: bits, blocks -/
section VALS
variable {A : AS}
/-- the highest bit below n, or -1 -/
def hiF (m : Nat) : Nat → Int32
  | 0 => -1
  | n + 1 => if m.testBit n = true then nI n else hiF m n
theorem hiF_on {m n : Nat} (h : m.testBit n = true) : hiF m (n + 1) = nI n := if_pos h
theorem hiF_off {m n : Nat} (h : ¬ m.testBit n = true) : hiF m (n + 1) = hiF m n := if_neg h
def fitB (nd av : Nat) (x : Blk) : Prop := own x &&& nd = nd ∧ own x &&& av = 0
noncomputable def uwF (nd av t : Nat) (x : Blk) : Nat := if dB (t < x.1 ∧ fitB nd av x) = true then siz x else 0
noncomputable def fitL (nd av : Nat) (bl : List Blk) : List Blk := bl.filter (fun x => dB (fitB nd av x))
/-- the owners of the blocks at a -/
def oaL (a : Nat) (bl : List Blk) : Nat := bl.foldl (fun m x => if adr x = a then m ||| own x else m) 0
theorem oaL_app (a : Nat) (bl : List Blk) (x : Blk) : oaL a (bl ++ [x]) = if adr x = a then oaL a bl ||| own x else oaL a bl := by
  unfold oaL; rw [List.foldl_append]; rfl
theorem fsum_app (f : Blk → Nat) (bl : List Blk) (x : Blk) : fsum f (bl ++ [x]) = fsum f bl + f x := by
  induction bl with
  | nil => rw [List.nil_append, fsum_cons]; exact Nat.add_comm _ _
  | cons y bl ih => rw [List.cons_append, fsum_cons, fsum_cons, ih]; omega
theorem take_s {bl : List Blk} {i : Nat} {x : Blk} (h : bl[i]? = some x) : bl.take (i + 1) = bl.take i ++ [x] := by
  rw [List.take_succ, h]; rfl
theorem fitL_app (nd av : Nat) (bl : List Blk) (x : Blk) : (fitL nd av (bl ++ [x])).length = (fitL nd av bl).length + (if dB (fitB nd av x) = true then 1 else 0) := by
  unfold fitL
  rw [List.filter_append, List.length_append]
  by_cases h : dB (fitB nd av x) = true
  · rw [if_pos h, List.filter_cons_of_pos (p := fun x => dB (fitB nd av x)) h]; rfl
  · rw [if_neg h, List.filter_cons_of_neg (p := fun x => dB (fitB nd av x)) h]; rfl
/-- what holds of the numbers of blocks -/
def BLW (bl : List Blk) : Prop := bl.length ≤ 264 ∧ ∀ x, x ∈ bl → 0 < x.1 ∧ x.1 < 2 ^ 24 ∧ siz x ≤ 9 ∧ adr x < 12 ∧ own x < 2 ^ 22
theorem WF.blw (h : WF A) : BLW A.2 := ⟨h.2.2.len, fun x hx => by
  have h1 := h.2.2.2 x hx
  have := h.1.1.1
  exact ⟨h1.1, by omega, h1.2.2.2.1, h1.2.2.2.2.1, h1.2.2.2.2.2.2.1⟩⟩
/-- the blocks that lie in the object b -/
def BlkIs (M : Mem) (b : Nat) (bl : List Blk) : Prop := M b 4 = nI bl.length ∧ ∀ i x, bl[i]? = some x → M (b + 1) i = nI x.1 ∧ M (b + 2) i = nI (siz x) ∧ M (b + 3) i = nI (adr x) ∧ M (b + 4) i = nI (own x)
theorem and_lt {a b n : Nat} (h : a < 2 ^ n) : a &&& b < 2 ^ n := Nat.lt_of_le_of_lt Nat.and_le_left h
/-- J. the count of the bits -/
theorem popN_split (hi lo k : Nat) (hk : k ≤ 32) (hl : lo < 2 ^ k) : popN (hi * 2 ^ k + lo) = nsum (fun i => if lo.testBit i = true then 1 else 0) k + nsum (fun i => if hi.testBit i = true then 1 else 0) (32 - k) := by
  unfold popN
  have hs : ∀ n, nsum (fun i => if (hi * 2 ^ k + lo).testBit i = true then 1 else 0) (k + n) = nsum (fun i => if lo.testBit i = true then 1 else 0) k + nsum (fun i => if hi.testBit i = true then 1 else 0) n := fun n => by
    induction n with
    | zero =>
      refine nsum_congr fun i hi' => ?_
      rw [Nat.mul_comm, Nat.testBit_two_pow_mul_add _ hl, if_pos (show i < k by omega)]
    | succ n ih =>
      rw [show k + (n + 1) = (k + n) + 1 by omega, nsum_s, ih, nsum_s, Nat.mul_comm, Nat.testBit_two_pow_mul_add _ hl, if_neg (show ¬ k + n < k by omega), show k + n - k = n by omega]
      omega
  have := hs (32 - k)
  rwa [show k + (32 - k) = 32 by omega] at this
end VALS
section CLS
variable {D : va_G} {ad : Nat → Nat} {M : Mem} {wx : Nat} {ws : va_W} {A : AS} {b : Nat} {bl : List Blk}
theorem sp_X5_bit {k : Nat} (hk : k < 22) : Spec D 1 yX5_bit cfX5_bit [.int (nI (k))] ws 0 0 (PI (nI (2 ^ k)) ws) := by
  refine Spec.of (by decide) rfl (Nat.le_of_ble_eq_true rfl) rfl ?_
  refine E_iconst (v := nI 1) (q := 1) dX5_bit_0 (by decide) rfl ?_
  refine E_iload0 (q := 2) dX5_bit_1 rfl ?_
  refine E_ishl (q := 3) dX5_bit_2 rfl ?_
  refine V_int (one_shl hk) ?_
  exact E_ireturn rfl rfl dX5_bit_3 (PI_of rfl rfl)
theorem sp_X5_contains {m k : Nat} (hm : m < 2 ^ 31) (hk : k < 22) : Spec D 1 yX5_contains cfX5_contains [.int (nI (m)), .int (nI (k))] ws 0 0 (PI (zI (m.testBit k = true)) ws) := by
  refine Spec.of (by decide) rfl (Nat.le_of_ble_eq_true rfl) rfl ?_
  refine E_iload0 (q := 1) dX5_contains_0 rfl ?_
  refine E_iload1 (q := 2) dX5_contains_1 rfl ?_
  refine E_iushr (q := 3) dX5_contains_2 (ushr_nI hm (by omega)) rfl ?_
  refine E_iconst (v := nI 1) (q := 4) dX5_contains_3 (by decide) rfl ?_
  refine E_iand (q := 5) dX5_contains_4 rfl ?_
  refine V_int (and_one _) ?_
  refine E_if_eq (tgt := 12) (q := 8) dX5_contains_5 (by decide) rfl (fun h5 => ?_) (fun h5 => ?_)
  · skip
    refine E_iconst (v := nI 0) (q := 13) dX5_contains_12 (by decide) rfl ?_
    exact E_zreturn rfl rfl rfl dX5_contains_13 (PI_of (zI_f (fun z => by have := (nI_z (by omega)).mp h5; rw [Nat.testBit_eq_decide_div_mod_eq, decide_eq_true_eq] at z; omega)) rfl)
  · skip
    refine E_iconst (v := nI 1) (q := 9) dX5_contains_8 (by decide) rfl ?_
    refine E_goto (q := 13) dX5_contains_9 (by decide) ?_
    exact E_zreturn rfl rfl rfl dX5_contains_13 (PI_of (zI_t (by rw [Nat.testBit_eq_decide_div_mod_eq, decide_eq_true_eq]; have : m / 2 ^ k % 2 ≠ 0 := fun z => h5 (by rw [z]; rfl); omega)) rfl)
def sbN (k : Nat) : Nat := 2 ^ (if k < 16 then k else 16) - 1
theorem sp_X5_snapshotsBefore {k : Nat} (hk : k ≤ 22) : Spec D 2 yX5_snapshotsBefore cfX5_snapshotsBefore [.int (nI (k))] ws 0 0 (PI (nI (sbN k)) ws) := by
  refine Spec.of (by decide) rfl (Nat.le_of_ble_eq_true rfl) rfl ?_
  have hp : ∀ i, 1 ≤ 2 ^ i := fun i => Nat.one_le_two_pow
  have h1 := hp k
  refine E_iload0 (q := 1) dX5_snapshotsBefore_0 rfl ?_
  refine E_bipush (v := nI 16) (q := 3) dX5_snapshotsBefore_1 (by decide) rfl ?_
  refine E_icmp_geN (tgt := 10) (q := 6) dX5_snapshotsBefore_3 (by decide) rfl (by omega) (by omega) (fun h3 => ?_) (fun h3 => ?_)
  · skip
    refine E_bipush (v := nI 16) (q := 12) dX5_snapshotsBefore_10 (by decide) rfl ?_
    refine C_S1I (q := 15) lk_X5_200 (sp_X5_bit (by omega)) dX5_snapshotsBefore_12 (by decide) (Nat.le_of_ble_eq_true rfl) rfl ?_
    refine E_iconst (v := nI 1) (q := 16) dX5_snapshotsBefore_15 (by decide) rfl ?_
    refine E_isubN (q := 17) dX5_snapshotsBefore_16 (by omega) rfl ?_
    exact E_ireturn rfl rfl dX5_snapshotsBefore_17 (PI_of (congrArg nI (by unfold sbN; rw [if_neg (by omega)])) rfl)
  · skip
    refine E_iload0 (q := 7) dX5_snapshotsBefore_6 rfl ?_
    refine E_goto (q := 12) dX5_snapshotsBefore_7 (by decide) ?_
    refine C_S1I (q := 15) lk_X5_200 (sp_X5_bit (by omega)) dX5_snapshotsBefore_12 (by decide) (Nat.le_of_ble_eq_true rfl) rfl ?_
    have hlt : k < 16 := by omega
    refine E_iconst (v := nI 1) (q := 16) dX5_snapshotsBefore_15 (by decide) rfl ?_
    refine E_isubN (q := 17) dX5_snapshotsBefore_16 (by omega) rfl ?_
    exact E_ireturn rfl rfl dX5_snapshotsBefore_17 (PI_of (congrArg nI (by unfold sbN; rw [if_pos (by omega)])) rfl)
theorem sp_X5_lowest {m : Nat} (hm : m < 2 ^ 31) : Spec D 2 yX5_lowest cfX5_lowest [.int (nI (m))] ws 0 0 (PI (fnd (fun k => m.testBit k = true) 22) ws) := by
  refine Spec.of (by decide) rfl (Nat.le_of_ble_eq_true rfl) rfl ?_
  have hmain : V D cfX5_lowest (rmOf 2 0 0) (QM D (PI (fnd (fun k => m.testBit k = true) 22) ws) 0 0) 0 0 2 [some (.int (nI (m))), some (.int (nI (0)))] [] ws := by
    refine (upto0 (n := 22) (P := fun i => (∀ j, j < i → ¬ m.testBit j = true) → V D cfX5_lowest (rmOf 2 0 0) (QM D (PI (fnd (fun k => m.testBit k = true) 22) ws) 0 0) 0 0 2 [some (.int (nI (m))), some (.int (nI (i)))] [] ws) ?_ ?_) (fun j hj => absurd hj (by omega))
    · intro hno
      refine E_iload1 (q := 3) dX5_lowest_2 rfl ?_
      refine E_bipush (v := nI 22) (q := 5) dX5_lowest_3 (by decide) rfl ?_
      refine E_icmp_geN (tgt := 24) (q := 8) dX5_lowest_5 (by decide) rfl (by omega) (by omega) (fun h5 => ?_) (fun h5 => ?_)
      · skip
        refine E_iconst (v := -1) (q := 25) dX5_lowest_24 (by decide) rfl ?_
        exact E_ireturn rfl rfl dX5_lowest_25 (PI_of (fnd_miss hno).symm rfl)
      · skip
        exact absurd h5 (by omega)
    · intro i hi ih hno
      refine E_iload1 (q := 3) dX5_lowest_2 rfl ?_
      refine E_bipush (v := nI 22) (q := 5) dX5_lowest_3 (by decide) rfl ?_
      refine E_icmp_geN (tgt := 24) (q := 8) dX5_lowest_5 (by decide) rfl (by omega) (by omega) (fun h5 => ?_) (fun h5 => ?_)
      · skip
        exact absurd h5 (by omega)
      · skip
        refine E_iload0 (q := 9) dX5_lowest_8 rfl ?_
        refine E_iload1 (q := 10) dX5_lowest_9 rfl ?_
        refine C_S2I (q := 13) lk_X5_88 (sp_X5_contains (by omega) (by omega)) dX5_lowest_10 (by decide) (Nat.le_of_ble_eq_true rfl) rfl ?_
        refine E_if_eq (tgt := 18) (q := 16) dX5_lowest_13 (by decide) rfl (fun h13 => ?_) (fun h13 => ?_)
        · skip
          refine E_iinc1 (q := 21) dX5_lowest_18 (nI_inc _) rfl rfl ?_
          refine E_goto (q := 2) dX5_lowest_21 (by decide) ?_
          exact ih (no_lt hno (zI_0 h13))
        · skip
          refine E_iload1 (q := 17) dX5_lowest_16 rfl ?_
          exact E_ireturn rfl rfl dX5_lowest_17 (PI_of (fnd_hit hi hno (zI_n h13)).symm rfl)
  refine E_iconst (v := nI 0) (q := 1) dX5_lowest_0 (by decide) rfl ?_
  refine E_istore1 (q := 2) dX5_lowest_1 rfl rfl ?_
  exact hmain
theorem sp_X5_highest {m : Nat} (hm : m < 2 ^ 31) : Spec D 2 yX5_highest cfX5_highest [.int (nI (m))] ws 0 0 (PI (hiF m 22) ws) := by
  refine Spec.of (by decide) rfl (Nat.le_of_ble_eq_true rfl) rfl ?_
  have hmain : ∀ i, i ≤ 22 → hiF m i = hiF m 22 → V D cfX5_highest (rmOf 2 0 0) (QM D (PI (hiF m 22) ws) 0 0) 0 0 3 [some (.int (nI (m))), some (.int (oI i))] [] ws := by
    intro i
    induction i with
    | zero =>
      intro _ he
      rw [oI_0]
      refine E_iload1 (q := 4) dX5_highest_3 rfl ?_
      refine E_if_lt (tgt := 23) (q := 7) dX5_highest_4 (by decide) rfl (fun h4 => ?_) (fun h4 => ?_)
      · skip
        refine E_iconst (v := -1) (q := 24) dX5_highest_23 (by decide) rfl ?_
        exact E_ireturn rfl rfl dX5_highest_24 (PI_of he rfl)
      · skip
        exact absurd (by decide) h4
    | succ i ih =>
      intro hi he
      rw [oI_s]
      refine E_iload1 (q := 4) dX5_highest_3 rfl ?_
      refine E_if_lt (tgt := 23) (q := 7) dX5_highest_4 (by decide) rfl (fun h4 => ?_) (fun h4 => ?_)
      · skip
        exact absurd h4 (nI_pos (by omega))
      · skip
        refine E_iload0 (q := 8) dX5_highest_7 rfl ?_
        refine E_iload1 (q := 9) dX5_highest_8 rfl ?_
        refine C_S2I (q := 12) lk_X5_88 (sp_X5_contains (by omega) (by omega)) dX5_highest_9 (by decide) (Nat.le_of_ble_eq_true rfl) rfl ?_
        refine E_if_eq (tgt := 17) (q := 15) dX5_highest_12 (by decide) rfl (fun h12 => ?_) (fun h12 => ?_)
        · skip
          refine E_iinc1 (q := 20) dX5_highest_17 (oI_dec _) rfl rfl ?_
          refine E_goto (q := 3) dX5_highest_20 (by decide) ?_
          exact ih (by omega) ((hiF_off (zI_0 h12)).symm.trans he)
        · skip
          refine E_iload1 (q := 16) dX5_highest_15 rfl ?_
          exact E_ireturn rfl rfl dX5_highest_16 (PI_of ((hiF_on (zI_n h12)).symm.trans he) rfl)
  refine E_bipush (v := nI 21) (q := 2) dX5_highest_0 (by decide) rfl ?_
  refine E_istore1 (q := 3) dX5_highest_2 rfl rfl ?_
  have q := hmain 22 (Nat.le_refl _) rfl
  rw [oI_s] at q
  exact q
theorem sp_X5_isAddress {p : Int32} : Spec D 2 yX5_isAddress cfX5_isAddress [.int (p)] ws 0 0 (PI (zI (AdrP p)) ws) := by
  refine Spec.of (by decide) rfl (Nat.le_of_ble_eq_true rfl) rfl ?_
  refine E_iload0 (q := 1) dX5_isAddress_0 rfl ?_
  refine E_if_lt (tgt := 14) (q := 4) dX5_isAddress_1 (by decide) rfl (fun h1 => ?_) (fun h1 => ?_)
  · skip
    refine E_iconst (v := nI 0) (q := 15) dX5_isAddress_14 (by decide) rfl ?_
    exact E_zreturn rfl rfl rfl dX5_isAddress_15 (PI_of (zI_f (fun ⟨a, ha, e⟩ => nI_pos (show a < 2 ^ 31 by omega) (e ▸ h1))) rfl)
  · skip
    obtain ⟨n0, hn0, rfl⟩ := nI_of (x := p) (fun z => h1 z)
    refine E_iload0 (q := 5) dX5_isAddress_4 rfl ?_
    refine E_bipush (v := nI 12) (q := 7) dX5_isAddress_5 (by decide) rfl ?_
    refine E_icmp_geN (tgt := 14) (q := 10) dX5_isAddress_7 (by decide) rfl (by omega) (by omega) (fun h7 => ?_) (fun h7 => ?_)
    · skip
      refine E_iconst (v := nI 0) (q := 15) dX5_isAddress_14 (by decide) rfl ?_
      exact E_zreturn rfl rfl rfl dX5_isAddress_15 (PI_of (zI_f (fun ⟨a, ha, e⟩ => by have := (nI_eq hn0 (by omega)).mp e; omega)) rfl)
    · skip
      refine E_iconst (v := nI 1) (q := 11) dX5_isAddress_10 (by decide) rfl ?_
      refine E_goto (q := 15) dX5_isAddress_11 (by decide) ?_
      exact E_zreturn rfl rfl rfl dX5_isAddress_15 (PI_of (zI_t ⟨n0, by omega, rfl⟩) rfl)
theorem BlkIs.get (h : BlkIs M b bl) {i : Nat} (hi : i < bl.length) : ∃ x, bl[i]? = some x ∧ x ∈ bl ∧ M (b + 1) i = nI x.1 ∧ M (b + 2) i = nI (siz x) ∧ M (b + 3) i = nI (adr x) ∧ M (b + 4) i = nI (own x) := by
  have hx : bl[i]? = some bl[i] := List.getElem?_eq_getElem hi
  exact ⟨_, hx, List.getElem_mem hi, h.2 i _ hx⟩
theorem sp_X0_fits {i nd av : Nat} {x : Blk} (hb : IsBl b) (hB : BlkIs M b bl) (hw : BLW bl) (hx : bl[i]? = some x) (hnd : nd < 2 ^ 32) (hav : av < 2 ^ 32) : Spec D 2 yX0_fits cfX0_fits [.ref (ad (b)), .int (nI (i)), .int (nI (nd)), .int (nI (av))] (wl D ad M) 0 0 (PI (zI (fitB nd av x)) (wl D ad M)) := by
  refine Spec.of (by decide) rfl (Nat.le_of_ble_eq_true rfl) rfl ?_
  have hi := (List.getElem?_eq_some_iff.mp hx).1
  have hl := hw.1
  have ho := (hw.2 x (List.mem_of_getElem? hx)).2.2.2.2
  have hg := hB.2 i x hx
  have h1 : own x &&& nd < 2 ^ 32 := and_lt (by omega)
  have h2 : own x &&& av < 2 ^ 32 := and_lt (by omega)
  have h3 : own x &&& av < 2 ^ 22 := and_lt ho
  refine E_aload0 (q := 1) dX0_fits_0 rfl ?_
  refine G_X0_owners (q := 4) hb fl_X0_21 dX0_fits_1 rfl ?_
  refine E_iload1 (q := 5) dX0_fits_4 rfl ?_
  refine E_ialdN (q := 6) hb.owners (by omega) (by decide) dX0_fits_5 rfl ?_
  refine V_int hg.2.2.2 ?_
  refine E_iload2 (q := 7) dX0_fits_6 rfl ?_
  refine E_iand (q := 8) dX0_fits_7 rfl ?_
  refine V_int (nI_and _ _) ?_
  refine E_iload2 (q := 9) dX0_fits_8 rfl ?_
  refine E_icmp_ne (tgt := 27) (q := 12) dX0_fits_9 (by decide) rfl (fun h9 => ?_) (fun h9 => ?_)
  · skip
    refine E_iconst (v := nI 0) (q := 28) dX0_fits_27 (by decide) rfl ?_
    exact E_zreturn rfl rfl rfl dX0_fits_28 (PI_of (zI_f (fun z => h9 (congrArg nI z.1))) rfl)
  · skip
    refine E_aload0 (q := 13) dX0_fits_12 rfl ?_
    refine G_X0_owners (q := 16) hb fl_X0_21 dX0_fits_13 rfl ?_
    refine E_iload1 (q := 17) dX0_fits_16 rfl ?_
    refine E_ialdN (q := 18) hb.owners (by omega) (by decide) dX0_fits_17 rfl ?_
    refine V_int hg.2.2.2 ?_
    refine E_iload3 (q := 19) dX0_fits_18 rfl ?_
    refine E_iand (q := 20) dX0_fits_19 rfl ?_
    refine V_int (nI_and _ _) ?_
    refine E_if_ne (tgt := 27) (q := 23) dX0_fits_20 (by decide) rfl (fun h20 => ?_) (fun h20 => ?_)
    · skip
      refine E_iconst (v := nI 0) (q := 28) dX0_fits_27 (by decide) rfl ?_
      exact E_zreturn rfl rfl rfl dX0_fits_28 (PI_of (zI_f (fun z => h20 (by rw [z.2]; rfl))) rfl)
    · skip
      refine E_iconst (v := nI 1) (q := 24) dX0_fits_23 (by decide) rfl ?_
      refine E_goto (q := 28) dX0_fits_24 (by decide) ?_
      exact E_zreturn rfl rfl rfl dX0_fits_28 (PI_of (zI_t ⟨nI_inj h1 hnd h9, (nI_z (by omega)).mp h20⟩) rfl)
/-- where a block lies first -/
def AtFst (bl : List Blk) (P : Blk → Prop) (i : Nat) (x : Blk) : Prop := bl[i]? = some x ∧ P x ∧ ∀ j y, j < i → bl[j]? = some y → ¬ P y
theorem atFst {bl : List Blk} {P : Blk → Prop} (h : ∃ x, x ∈ bl ∧ P x) : ∃ i x, AtFst bl P i x := by
  induction bl with
  | nil => obtain ⟨x, hx, -⟩ := h; cases hx
  | cons y bl ih =>
    by_cases c : P y
    · exact ⟨0, y, rfl, c, fun j z hj => by omega⟩
    · obtain ⟨x, hx, hp⟩ := h
      have : x ∈ bl := by
        rcases List.mem_cons.mp hx with e | e
        · exact absurd (e ▸ hp) c
        · exact e
      obtain ⟨i, z, h1, h2, h3⟩ := ih ⟨x, this, hp⟩
      refine ⟨i + 1, z, by simpa using h1, h2, fun j w hj hw => ?_⟩
      cases j with
      | zero => have : y = w := by simpa using hw
                exact this ▸ c
      | succ j => exact h3 j w (by omega) (by simpa using hw)
def atWA (w a : Nat) (x : Blk) : Prop := adr x = a ∧ (own x).testBit w = true

theorem sp_X0_indexAtS {w a : Nat} (hb : IsBl b) (hB : BlkIs M b bl) (hw : BLW bl) (hw22 : w < 22) (ha : a < 2 ^ 31) {i : Nat} {x : Blk} (hx : AtFst bl (atWA w a) i x) : Spec D 2 yX0_indexAt cfX0_indexAt [.ref (ad (b)), .int (nI (w)), .int (nI (a))] (wl D ad M) 0 0 (PI (nI i) (wl D ad M)) := by
  refine Spec.of (by decide) rfl (Nat.le_of_ble_eq_true rfl) rfl ?_
  have hl := hw.1
  have hstep : ∀ j y, bl[j]? = some y → ¬ atWA w a y → V D cfX0_indexAt (rmOf 2 0 0) (QM D (PI (nI i) (wl D ad M)) 0 0) 0 0 7 [some (.ref (ad (b))), some (.int (nI (w))), some (.int (nI (a))), some (.int (nI (2 ^ w))), some (.int (nI (j + 1)))] [] (wl D ad M) → V D cfX0_indexAt (rmOf 2 0 0) (QM D (PI (nI i) (wl D ad M)) 0 0) 0 0 7 [some (.ref (ad (b))), some (.int (nI (w))), some (.int (nI (a))), some (.int (nI (2 ^ w))), some (.int (nI (j)))] [] (wl D ad M) := by
    intro j y hy hny ih
    have hj := (List.getElem?_eq_some_iff.mp hy).1
    have hg := hB.2 j y hy
    have hyw := hw.2 y (List.mem_of_getElem? hy)
    refine E_iload4 (q := 9) dX0_indexAt_7 rfl ?_
    refine E_aload0 (q := 10) dX0_indexAt_9 rfl ?_
    refine G_X0_length (q := 13) hb fl_X0_24 dX0_indexAt_10 rfl ?_
    refine V_int hB.1 ?_
    refine E_icmp_geN (tgt := 48) (q := 16) dX0_indexAt_13 (by decide) rfl (by omega) (by omega) (fun h13 => ?_) (fun h13 => ?_)
    · skip
      exact absurd h13 (by omega)
    · skip
      refine E_aload0 (q := 17) dX0_indexAt_16 rfl ?_
      refine G_X0_addresses (q := 20) hb fl_X0_18 dX0_indexAt_17 rfl ?_
      refine E_iload4 (q := 22) dX0_indexAt_20 rfl ?_
      refine E_ialdN (q := 23) hb.addresses (by omega) (by decide) dX0_indexAt_22 rfl ?_
      refine V_int hg.2.2.1 ?_
      refine E_iload2 (q := 24) dX0_indexAt_23 rfl ?_
      refine E_icmp_neN (tgt := 42) (q := 27) dX0_indexAt_24 (by decide) rfl (by omega) (by omega) (fun h24 => ?_) (fun h24 => ?_)
      · skip
        refine E_iinc4 (q := 45) dX0_indexAt_42 (nI_inc _) rfl rfl ?_
        refine E_goto (q := 7) dX0_indexAt_45 (by decide) ?_
        exact ih
      · skip
        refine E_aload0 (q := 28) dX0_indexAt_27 rfl ?_
        refine G_X0_owners (q := 31) hb fl_X0_21 dX0_indexAt_28 rfl ?_
        refine E_iload4 (q := 33) dX0_indexAt_31 rfl ?_
        refine E_ialdN (q := 34) hb.owners (by omega) (by decide) dX0_indexAt_33 rfl ?_
        refine V_int hg.2.2.2 ?_
        refine E_iload3 (q := 35) dX0_indexAt_34 rfl ?_
        refine E_iand (q := 36) dX0_indexAt_35 rfl ?_
        refine V_int (nI_and _ _) ?_
        refine E_if_eq (tgt := 42) (q := 39) dX0_indexAt_36 (by decide) rfl (fun h36 => ?_) (fun h36 => ?_)
        · skip
          refine E_iinc4 (q := 45) dX0_indexAt_42 (nI_inc _) rfl rfl ?_
          refine E_goto (q := 7) dX0_indexAt_45 (by decide) ?_
          exact ih
        · skip
          exact absurd ⟨h24, by
            have : own y &&& 2 ^ w ≠ 0 := fun z => h36 (by rw [z]; rfl)
            obtain ⟨k, hk⟩ := ex_tb this
            obtain ⟨k1, k2⟩ := and_bit.mp hk
            rw [pow_bit] at k2
            rw [k2]; exact k1⟩ hny
  have hi := (List.getElem?_eq_some_iff.mp hx.1).1
  have hend : V D cfX0_indexAt (rmOf 2 0 0) (QM D (PI (nI i) (wl D ad M)) 0 0) 0 0 7 [some (.ref (ad (b))), some (.int (nI (w))), some (.int (nI (a))), some (.int (nI (2 ^ w))), some (.int (nI (i)))] [] (wl D ad M) := by
    have hg := hB.2 i x hx.1
    have hyw := hw.2 x (List.mem_of_getElem? hx.1)
    have h2p : own x &&& 2 ^ w < 2 ^ 22 := and_lt hyw.2.2.2.2
    refine E_iload4 (q := 9) dX0_indexAt_7 rfl ?_
    refine E_aload0 (q := 10) dX0_indexAt_9 rfl ?_
    refine G_X0_length (q := 13) hb fl_X0_24 dX0_indexAt_10 rfl ?_
    refine V_int hB.1 ?_
    refine E_icmp_geN (tgt := 48) (q := 16) dX0_indexAt_13 (by decide) rfl (by omega) (by omega) (fun h13 => ?_) (fun h13 => ?_)
    · skip
      exact absurd h13 (by omega)
    · skip
      refine E_aload0 (q := 17) dX0_indexAt_16 rfl ?_
      refine G_X0_addresses (q := 20) hb fl_X0_18 dX0_indexAt_17 rfl ?_
      refine E_iload4 (q := 22) dX0_indexAt_20 rfl ?_
      refine E_ialdN (q := 23) hb.addresses (by omega) (by decide) dX0_indexAt_22 rfl ?_
      refine V_int hg.2.2.1 ?_
      refine E_iload2 (q := 24) dX0_indexAt_23 rfl ?_
      refine E_icmp_neN (tgt := 42) (q := 27) dX0_indexAt_24 (by decide) rfl (by omega) (by omega) (fun h24 => ?_) (fun h24 => ?_)
      · skip
        exact absurd hx.2.1.1 h24
      · skip
        refine E_aload0 (q := 28) dX0_indexAt_27 rfl ?_
        refine G_X0_owners (q := 31) hb fl_X0_21 dX0_indexAt_28 rfl ?_
        refine E_iload4 (q := 33) dX0_indexAt_31 rfl ?_
        refine E_ialdN (q := 34) hb.owners (by omega) (by decide) dX0_indexAt_33 rfl ?_
        refine V_int hg.2.2.2 ?_
        refine E_iload3 (q := 35) dX0_indexAt_34 rfl ?_
        refine E_iand (q := 36) dX0_indexAt_35 rfl ?_
        refine V_int (nI_and _ _) ?_
        refine E_if_eq (tgt := 42) (q := 39) dX0_indexAt_36 (by decide) rfl (fun h36 => ?_) (fun h36 => ?_)
        · skip
          exact absurd ((nI_z (by omega)).mp h36) (fun z => and_tb z w ⟨hx.2.1.2, pow_bit.mpr rfl⟩)
        · skip
          refine E_iload4 (q := 41) dX0_indexAt_39 rfl ?_
          exact E_ireturn rfl rfl dX0_indexAt_41 (PI_of rfl rfl)
  have hmain : V D cfX0_indexAt (rmOf 2 0 0) (QM D (PI (nI i) (wl D ad M)) 0 0) 0 0 7 [some (.ref (ad (b))), some (.int (nI (w))), some (.int (nI (a))), some (.int (nI (2 ^ w))), some (.int (nI (0)))] [] (wl D ad M) := by
    refine upto0 (n := i) (P := fun j => V D cfX0_indexAt (rmOf 2 0 0) (QM D (PI (nI i) (wl D ad M)) 0 0) 0 0 7 [some (.ref (ad (b))), some (.int (nI (w))), some (.int (nI (a))), some (.int (nI (2 ^ w))), some (.int (nI (j)))] [] (wl D ad M)) hend (fun j hj ih => ?_)
    exact hstep j _ (List.getElem?_eq_getElem (by omega)) (hx.2.2 j _ hj (List.getElem?_eq_getElem (by omega))) ih
  refine E_iconst (v := nI 1) (q := 1) dX0_indexAt_0 (by decide) rfl ?_
  refine E_iload1 (q := 2) dX0_indexAt_1 rfl ?_
  refine E_ishl (q := 3) dX0_indexAt_2 rfl ?_
  refine V_int (one_shl hw22) ?_
  refine E_istore3 (q := 4) dX0_indexAt_3 rfl rfl ?_
  refine E_iconst (v := nI 0) (q := 5) dX0_indexAt_4 (by decide) rfl ?_
  refine E_istore4 (q := 7) dX0_indexAt_5 rfl rfl ?_
  exact hmain
theorem sp_X0_indexAtN {w a : Nat} (hb : IsBl b) (hB : BlkIs M b bl) (hw : BLW bl) (hw22 : w < 22) (ha : a < 2 ^ 31) (hno : ∀ x, x ∈ bl → ¬ atWA w a x) : Spec D 2 yX0_indexAt cfX0_indexAt [.ref (ad (b)), .int (nI (w)), .int (nI (a))] (wl D ad M) 0 0 (PI (-1) (wl D ad M)) := by
  refine Spec.of (by decide) rfl (Nat.le_of_ble_eq_true rfl) rfl ?_
  have hl := hw.1
  have hstep : ∀ j y, bl[j]? = some y → ¬ atWA w a y → V D cfX0_indexAt (rmOf 2 0 0) (QM D (PI (-1) (wl D ad M)) 0 0) 0 0 7 [some (.ref (ad (b))), some (.int (nI (w))), some (.int (nI (a))), some (.int (nI (2 ^ w))), some (.int (nI (j + 1)))] [] (wl D ad M) → V D cfX0_indexAt (rmOf 2 0 0) (QM D (PI (-1) (wl D ad M)) 0 0) 0 0 7 [some (.ref (ad (b))), some (.int (nI (w))), some (.int (nI (a))), some (.int (nI (2 ^ w))), some (.int (nI (j)))] [] (wl D ad M) := by
    intro j y hy hny ih
    have hj := (List.getElem?_eq_some_iff.mp hy).1
    have hg := hB.2 j y hy
    have hyw := hw.2 y (List.mem_of_getElem? hy)
    refine E_iload4 (q := 9) dX0_indexAt_7 rfl ?_
    refine E_aload0 (q := 10) dX0_indexAt_9 rfl ?_
    refine G_X0_length (q := 13) hb fl_X0_24 dX0_indexAt_10 rfl ?_
    refine V_int hB.1 ?_
    refine E_icmp_geN (tgt := 48) (q := 16) dX0_indexAt_13 (by decide) rfl (by omega) (by omega) (fun h13 => ?_) (fun h13 => ?_)
    · skip
      exact absurd h13 (by omega)
    · skip
      refine E_aload0 (q := 17) dX0_indexAt_16 rfl ?_
      refine G_X0_addresses (q := 20) hb fl_X0_18 dX0_indexAt_17 rfl ?_
      refine E_iload4 (q := 22) dX0_indexAt_20 rfl ?_
      refine E_ialdN (q := 23) hb.addresses (by omega) (by decide) dX0_indexAt_22 rfl ?_
      refine V_int hg.2.2.1 ?_
      refine E_iload2 (q := 24) dX0_indexAt_23 rfl ?_
      refine E_icmp_neN (tgt := 42) (q := 27) dX0_indexAt_24 (by decide) rfl (by omega) (by omega) (fun h24 => ?_) (fun h24 => ?_)
      · skip
        refine E_iinc4 (q := 45) dX0_indexAt_42 (nI_inc _) rfl rfl ?_
        refine E_goto (q := 7) dX0_indexAt_45 (by decide) ?_
        exact ih
      · skip
        refine E_aload0 (q := 28) dX0_indexAt_27 rfl ?_
        refine G_X0_owners (q := 31) hb fl_X0_21 dX0_indexAt_28 rfl ?_
        refine E_iload4 (q := 33) dX0_indexAt_31 rfl ?_
        refine E_ialdN (q := 34) hb.owners (by omega) (by decide) dX0_indexAt_33 rfl ?_
        refine V_int hg.2.2.2 ?_
        refine E_iload3 (q := 35) dX0_indexAt_34 rfl ?_
        refine E_iand (q := 36) dX0_indexAt_35 rfl ?_
        refine V_int (nI_and _ _) ?_
        refine E_if_eq (tgt := 42) (q := 39) dX0_indexAt_36 (by decide) rfl (fun h36 => ?_) (fun h36 => ?_)
        · skip
          refine E_iinc4 (q := 45) dX0_indexAt_42 (nI_inc _) rfl rfl ?_
          refine E_goto (q := 7) dX0_indexAt_45 (by decide) ?_
          exact ih
        · skip
          exact absurd ⟨h24, by
            have : own y &&& 2 ^ w ≠ 0 := fun z => h36 (by rw [z]; rfl)
            obtain ⟨k, hk⟩ := ex_tb this
            obtain ⟨k1, k2⟩ := and_bit.mp hk
            rw [pow_bit] at k2
            rw [k2]; exact k1⟩ hny
  have hend : V D cfX0_indexAt (rmOf 2 0 0) (QM D (PI (-1) (wl D ad M)) 0 0) 0 0 7 [some (.ref (ad (b))), some (.int (nI (w))), some (.int (nI (a))), some (.int (nI (2 ^ w))), some (.int (nI (bl.length)))] [] (wl D ad M) := by
    refine E_iload4 (q := 9) dX0_indexAt_7 rfl ?_
    refine E_aload0 (q := 10) dX0_indexAt_9 rfl ?_
    refine G_X0_length (q := 13) hb fl_X0_24 dX0_indexAt_10 rfl ?_
    refine V_int hB.1 ?_
    refine E_icmp_geN (tgt := 48) (q := 16) dX0_indexAt_13 (by decide) rfl (by omega) (by omega) (fun h13 => ?_) (fun h13 => ?_)
    · skip
      refine E_iconst (v := -1) (q := 49) dX0_indexAt_48 (by decide) rfl ?_
      exact E_ireturn rfl rfl dX0_indexAt_49 (PI_of rfl rfl)
    · skip
      exact absurd h13 (Nat.lt_irrefl _)
  have hmain : V D cfX0_indexAt (rmOf 2 0 0) (QM D (PI (-1) (wl D ad M)) 0 0) 0 0 7 [some (.ref (ad (b))), some (.int (nI (w))), some (.int (nI (a))), some (.int (nI (2 ^ w))), some (.int (nI (0)))] [] (wl D ad M) := by
    refine upto0 (n := bl.length) (P := fun j => V D cfX0_indexAt (rmOf 2 0 0) (QM D (PI (-1) (wl D ad M)) 0 0) 0 0 7 [some (.ref (ad (b))), some (.int (nI (w))), some (.int (nI (a))), some (.int (nI (2 ^ w))), some (.int (nI (j)))] [] (wl D ad M)) hend (fun j hj ih => ?_)
    exact hstep j _ (List.getElem?_eq_getElem hj) (hno _ (List.getElem_mem hj)) ih
  refine E_iconst (v := nI 1) (q := 1) dX0_indexAt_0 (by decide) rfl ?_
  refine E_iload1 (q := 2) dX0_indexAt_1 rfl ?_
  refine E_ishl (q := 3) dX0_indexAt_2 rfl ?_
  refine V_int (one_shl hw22) ?_
  refine E_istore3 (q := 4) dX0_indexAt_3 rfl rfl ?_
  refine E_iconst (v := nI 0) (q := 5) dX0_indexAt_4 (by decide) rfl ?_
  refine E_istore4 (q := 7) dX0_indexAt_5 rfl rfl ?_
  exact hmain
theorem sp_X0_indexOfBirthS {p : Int32} (hb : IsBl b) (hB : BlkIs M b bl) (hw : BLW bl) {i : Nat} {x : Blk} (hx : AtFst bl (fun x => nI x.1 = p) i x) : Spec D 2 yX0_indexOfBirth cfX0_indexOfBirth [.ref (ad (b)), .int (p)] (wl D ad M) 0 0 (PI (nI i) (wl D ad M)) := by
  refine Spec.of (by decide) rfl (Nat.le_of_ble_eq_true rfl) rfl ?_
  have hl := hw.1
  have hstep : ∀ j y, bl[j]? = some y → ¬ nI y.1 = p → V D cfX0_indexOfBirth (rmOf 2 0 0) (QM D (PI (nI i) (wl D ad M)) 0 0) 0 0 2 [some (.ref (ad (b))), some (.int (p)), some (.int (nI (j + 1)))] [] (wl D ad M) → V D cfX0_indexOfBirth (rmOf 2 0 0) (QM D (PI (nI i) (wl D ad M)) 0 0) 0 0 2 [some (.ref (ad (b))), some (.int (p)), some (.int (nI (j)))] [] (wl D ad M) := by
    intro j y hy hny ih
    have hj := (List.getElem?_eq_some_iff.mp hy).1
    have hg := hB.2 j y hy
    refine E_iload2 (q := 3) dX0_indexOfBirth_2 rfl ?_
    refine E_aload0 (q := 4) dX0_indexOfBirth_3 rfl ?_
    refine G_X0_length (q := 7) hb fl_X0_24 dX0_indexOfBirth_4 rfl ?_
    refine V_int hB.1 ?_
    refine E_icmp_geN (tgt := 28) (q := 10) dX0_indexOfBirth_7 (by decide) rfl (by omega) (by omega) (fun h7 => ?_) (fun h7 => ?_)
    · skip
      exact absurd h7 (by omega)
    · skip
      refine E_aload0 (q := 11) dX0_indexOfBirth_10 rfl ?_
      refine G_X0_births (q := 14) hb fl_X0_9 dX0_indexOfBirth_11 rfl ?_
      refine E_iload2 (q := 15) dX0_indexOfBirth_14 rfl ?_
      refine E_ialdN (q := 16) hb.births (by omega) (by decide) dX0_indexOfBirth_15 rfl ?_
      refine V_int hg.1 ?_
      refine E_iload1 (q := 17) dX0_indexOfBirth_16 rfl ?_
      refine E_icmp_ne (tgt := 22) (q := 20) dX0_indexOfBirth_17 (by decide) rfl (fun h17 => ?_) (fun h17 => ?_)
      · skip
        refine E_iinc2 (q := 25) dX0_indexOfBirth_22 (nI_inc _) rfl rfl ?_
        refine E_goto (q := 2) dX0_indexOfBirth_25 (by decide) ?_
        exact ih
      · skip
        exact absurd h17 hny
  have hi := (List.getElem?_eq_some_iff.mp hx.1).1
  have hmain : V D cfX0_indexOfBirth (rmOf 2 0 0) (QM D (PI (nI i) (wl D ad M)) 0 0) 0 0 2 [some (.ref (ad (b))), some (.int (p)), some (.int (nI (0)))] [] (wl D ad M) := by
    refine upto0 (n := i) (P := fun j => V D cfX0_indexOfBirth (rmOf 2 0 0) (QM D (PI (nI i) (wl D ad M)) 0 0) 0 0 2 [some (.ref (ad (b))), some (.int (p)), some (.int (nI (j)))] [] (wl D ad M)) ?_ (fun j hj ih => ?_)
    · have hg := hB.2 i x hx.1
      refine E_iload2 (q := 3) dX0_indexOfBirth_2 rfl ?_
      refine E_aload0 (q := 4) dX0_indexOfBirth_3 rfl ?_
      refine G_X0_length (q := 7) hb fl_X0_24 dX0_indexOfBirth_4 rfl ?_
      refine V_int hB.1 ?_
      refine E_icmp_geN (tgt := 28) (q := 10) dX0_indexOfBirth_7 (by decide) rfl (by omega) (by omega) (fun h7 => ?_) (fun h7 => ?_)
      · skip
        exact absurd h7 (by omega)
      · skip
        refine E_aload0 (q := 11) dX0_indexOfBirth_10 rfl ?_
        refine G_X0_births (q := 14) hb fl_X0_9 dX0_indexOfBirth_11 rfl ?_
        refine E_iload2 (q := 15) dX0_indexOfBirth_14 rfl ?_
        refine E_ialdN (q := 16) hb.births (by omega) (by decide) dX0_indexOfBirth_15 rfl ?_
        refine V_int hg.1 ?_
        refine E_iload1 (q := 17) dX0_indexOfBirth_16 rfl ?_
        refine E_icmp_ne (tgt := 22) (q := 20) dX0_indexOfBirth_17 (by decide) rfl (fun h17 => ?_) (fun h17 => ?_)
        · skip
          exact absurd hx.2.1 h17
        · skip
          refine E_iload2 (q := 21) dX0_indexOfBirth_20 rfl ?_
          exact E_ireturn rfl rfl dX0_indexOfBirth_21 (PI_of rfl rfl)
    · exact hstep j _ (List.getElem?_eq_getElem (by omega)) (hx.2.2 j _ hj (List.getElem?_eq_getElem (by omega))) ih
  refine E_iconst (v := nI 0) (q := 1) dX0_indexOfBirth_0 (by decide) rfl ?_
  refine E_istore2 (q := 2) dX0_indexOfBirth_1 rfl rfl ?_
  exact hmain
theorem sp_X0_indexOfBirthN {p : Int32} (hb : IsBl b) (hB : BlkIs M b bl) (hw : BLW bl) (hno : ∀ x, x ∈ bl → ¬ nI x.1 = p) : Spec D 2 yX0_indexOfBirth cfX0_indexOfBirth [.ref (ad (b)), .int (p)] (wl D ad M) 0 0 (PI (-1) (wl D ad M)) := by
  refine Spec.of (by decide) rfl (Nat.le_of_ble_eq_true rfl) rfl ?_
  have hl := hw.1
  have hstep : ∀ j y, bl[j]? = some y → ¬ nI y.1 = p → V D cfX0_indexOfBirth (rmOf 2 0 0) (QM D (PI (-1) (wl D ad M)) 0 0) 0 0 2 [some (.ref (ad (b))), some (.int (p)), some (.int (nI (j + 1)))] [] (wl D ad M) → V D cfX0_indexOfBirth (rmOf 2 0 0) (QM D (PI (-1) (wl D ad M)) 0 0) 0 0 2 [some (.ref (ad (b))), some (.int (p)), some (.int (nI (j)))] [] (wl D ad M) := by
    intro j y hy hny ih
    have hj := (List.getElem?_eq_some_iff.mp hy).1
    have hg := hB.2 j y hy
    refine E_iload2 (q := 3) dX0_indexOfBirth_2 rfl ?_
    refine E_aload0 (q := 4) dX0_indexOfBirth_3 rfl ?_
    refine G_X0_length (q := 7) hb fl_X0_24 dX0_indexOfBirth_4 rfl ?_
    refine V_int hB.1 ?_
    refine E_icmp_geN (tgt := 28) (q := 10) dX0_indexOfBirth_7 (by decide) rfl (by omega) (by omega) (fun h7 => ?_) (fun h7 => ?_)
    · skip
      exact absurd h7 (by omega)
    · skip
      refine E_aload0 (q := 11) dX0_indexOfBirth_10 rfl ?_
      refine G_X0_births (q := 14) hb fl_X0_9 dX0_indexOfBirth_11 rfl ?_
      refine E_iload2 (q := 15) dX0_indexOfBirth_14 rfl ?_
      refine E_ialdN (q := 16) hb.births (by omega) (by decide) dX0_indexOfBirth_15 rfl ?_
      refine V_int hg.1 ?_
      refine E_iload1 (q := 17) dX0_indexOfBirth_16 rfl ?_
      refine E_icmp_ne (tgt := 22) (q := 20) dX0_indexOfBirth_17 (by decide) rfl (fun h17 => ?_) (fun h17 => ?_)
      · skip
        refine E_iinc2 (q := 25) dX0_indexOfBirth_22 (nI_inc _) rfl rfl ?_
        refine E_goto (q := 2) dX0_indexOfBirth_25 (by decide) ?_
        exact ih
      · skip
        exact absurd h17 hny
  have hmain : V D cfX0_indexOfBirth (rmOf 2 0 0) (QM D (PI (-1) (wl D ad M)) 0 0) 0 0 2 [some (.ref (ad (b))), some (.int (p)), some (.int (nI (0)))] [] (wl D ad M) := by
    refine upto0 (n := bl.length) (P := fun j => V D cfX0_indexOfBirth (rmOf 2 0 0) (QM D (PI (-1) (wl D ad M)) 0 0) 0 0 2 [some (.ref (ad (b))), some (.int (p)), some (.int (nI (j)))] [] (wl D ad M)) ?_ (fun j hj ih => ?_)
    · skip
      refine E_iload2 (q := 3) dX0_indexOfBirth_2 rfl ?_
      refine E_aload0 (q := 4) dX0_indexOfBirth_3 rfl ?_
      refine G_X0_length (q := 7) hb fl_X0_24 dX0_indexOfBirth_4 rfl ?_
      refine V_int hB.1 ?_
      refine E_icmp_geN (tgt := 28) (q := 10) dX0_indexOfBirth_7 (by decide) rfl (by omega) (by omega) (fun h7 => ?_) (fun h7 => ?_)
      · skip
        refine E_iconst (v := -1) (q := 29) dX0_indexOfBirth_28 (by decide) rfl ?_
        exact E_ireturn rfl rfl dX0_indexOfBirth_29 (PI_of rfl rfl)
      · skip
        exact absurd h7 (Nat.lt_irrefl _)
    · exact hstep j _ (List.getElem?_eq_getElem hj) (hno _ (List.getElem_mem hj)) ih
  refine E_iconst (v := nI 0) (q := 1) dX0_indexOfBirth_0 (by decide) rfl ?_
  refine E_istore2 (q := 2) dX0_indexOfBirth_1 rfl rfl ?_
  exact hmain
theorem sp_X0_ownersAt {a : Nat} (hb : IsBl b) (hB : BlkIs M b bl) (hw : BLW bl) (ha : a < 2 ^ 31) : Spec D 4 yX0_ownersAt cfX0_ownersAt [.ref (ad (b)), .int (nI (a))] (wl D ad M) 0 0 (PI (nI (oaL a bl)) (wl D ad M)) := by
  refine Spec.of (by decide) rfl (Nat.le_of_ble_eq_true rfl) rfl ?_
  have hl := hw.1
  have hmain : V D cfX0_ownersAt (rmOf 4 0 0) (QM D (PI (nI (oaL a bl)) (wl D ad M)) 0 0) 0 0 4 [some (.ref (ad (b))), some (.int (nI (a))), some (.int (nI (oaL a (bl.take 0)))), some (.int (nI (0)))] [] (wl D ad M) := by
    refine upto0 (n := bl.length) (P := fun k => V D cfX0_ownersAt (rmOf 4 0 0) (QM D (PI (nI (oaL a bl)) (wl D ad M)) 0 0) 0 0 4 [some (.ref (ad (b))), some (.int (nI (a))), some (.int (nI (oaL a (bl.take k)))), some (.int (nI (k)))] [] (wl D ad M)) ?_ ?_
    · skip
      refine E_iload3 (q := 5) dX0_ownersAt_4 rfl ?_
      refine E_aload0 (q := 6) dX0_ownersAt_5 rfl ?_
      refine G_X0_length (q := 9) hb fl_X0_24 dX0_ownersAt_6 rfl ?_
      refine V_int hB.1 ?_
      refine E_icmp_geN (tgt := 37) (q := 12) dX0_ownersAt_9 (by decide) rfl (by omega) (by omega) (fun h9 => ?_) (fun h9 => ?_)
      · skip
        refine E_iload2 (q := 38) dX0_ownersAt_37 rfl ?_
        exact E_ireturn rfl rfl dX0_ownersAt_38 (PI_of (by rw [List.take_length]) rfl)
      · skip
        exact absurd h9 (Nat.lt_irrefl _)
    · intro k hk ih
      obtain ⟨x, hx, hxm, g1, g2, g3, g4⟩ := hB.get hk
      have hxw := hw.2 x hxm
      rw [take_s hx] at ih
      rw [oaL_app] at ih
      refine E_iload3 (q := 5) dX0_ownersAt_4 rfl ?_
      refine E_aload0 (q := 6) dX0_ownersAt_5 rfl ?_
      refine G_X0_length (q := 9) hb fl_X0_24 dX0_ownersAt_6 rfl ?_
      refine V_int hB.1 ?_
      refine E_icmp_geN (tgt := 37) (q := 12) dX0_ownersAt_9 (by decide) rfl (by omega) (by omega) (fun h9 => ?_) (fun h9 => ?_)
      · skip
        exact absurd h9 (by omega)
      · skip
        refine E_aload0 (q := 13) dX0_ownersAt_12 rfl ?_
        refine G_X0_addresses (q := 16) hb fl_X0_18 dX0_ownersAt_13 rfl ?_
        refine E_iload3 (q := 17) dX0_ownersAt_16 rfl ?_
        refine E_ialdN (q := 18) hb.addresses (by omega) (by decide) dX0_ownersAt_17 rfl ?_
        refine V_int g3 ?_
        refine E_iload1 (q := 19) dX0_ownersAt_18 rfl ?_
        refine E_icmp_neN (tgt := 31) (q := 22) dX0_ownersAt_19 (by decide) rfl (by omega) (by omega) (fun h19 => ?_) (fun h19 => ?_)
        · skip
          refine E_iinc3 (q := 34) dX0_ownersAt_31 (nI_inc _) rfl rfl ?_
          refine E_goto (q := 4) dX0_ownersAt_34 (by decide) ?_
          rw [if_neg h19] at ih
          exact ih
        · skip
          refine E_iload2 (q := 23) dX0_ownersAt_22 rfl ?_
          refine E_aload0 (q := 24) dX0_ownersAt_23 rfl ?_
          refine G_X0_owners (q := 27) hb fl_X0_21 dX0_ownersAt_24 rfl ?_
          refine E_iload3 (q := 28) dX0_ownersAt_27 rfl ?_
          refine E_ialdN (q := 29) hb.owners (by omega) (by decide) dX0_ownersAt_28 rfl ?_
          refine V_int g4 ?_
          refine E_iorN (q := 30) dX0_ownersAt_29 (nI_or _ _) rfl ?_
          refine E_istore2 (q := 31) dX0_ownersAt_30 rfl rfl ?_
          refine E_iinc3 (q := 34) dX0_ownersAt_31 (nI_inc _) rfl rfl ?_
          refine E_goto (q := 4) dX0_ownersAt_34 (by decide) ?_
          rw [if_pos h19] at ih
          exact ih
  refine E_iconst (v := nI 0) (q := 1) dX0_ownersAt_0 (by decide) rfl ?_
  refine E_istore2 (q := 2) dX0_ownersAt_1 rfl rfl ?_
  refine E_iconst (v := nI 0) (q := 3) dX0_ownersAt_2 (by decide) rfl ?_
  refine E_istore3 (q := 4) dX0_ownersAt_3 rfl rfl ?_
  exact hmain
theorem sp_X0_unitsWhere {nd av t : Nat} (hb : IsBl b) (hB : BlkIs M b bl) (hw : BLW bl) (hnd : nd < 2 ^ 32) (hav : av < 2 ^ 32) (ht : t < 2 ^ 31) : Spec D 3 yX0_unitsWhere cfX0_unitsWhere [.ref (ad (b)), .int (nI (nd)), .int (nI (av)), .int (nI (t))] (wl D ad M) 0 0 (PI (nI (fsum (uwF nd av t) bl)) (wl D ad M)) := by
  refine Spec.of (by decide) rfl (Nat.le_of_ble_eq_true rfl) rfl ?_
  have hl := hw.1
  have hmain : V D cfX0_unitsWhere (rmOf 3 0 0) (QM D (PI (nI (fsum (uwF nd av t) bl)) (wl D ad M)) 0 0) 0 0 6 [some (.ref (ad (b))), some (.int (nI (nd))), some (.int (nI (av))), some (.int (nI (t))), some (.int (nI (fsum (uwF nd av t) (bl.take 0)))), some (.int (nI (0)))] [] (wl D ad M) := by
    refine upto0 (n := bl.length) (P := fun k => V D cfX0_unitsWhere (rmOf 3 0 0) (QM D (PI (nI (fsum (uwF nd av t) bl)) (wl D ad M)) 0 0) 0 0 6 [some (.ref (ad (b))), some (.int (nI (nd))), some (.int (nI (av))), some (.int (nI (t))), some (.int (nI (fsum (uwF nd av t) (bl.take k)))), some (.int (nI (k)))] [] (wl D ad M)) ?_ ?_
    · skip
      refine E_iload5 (q := 8) dX0_unitsWhere_6 rfl ?_
      refine E_aload0 (q := 9) dX0_unitsWhere_8 rfl ?_
      refine G_X0_length (q := 12) hb fl_X0_24 dX0_unitsWhere_9 rfl ?_
      refine V_int hB.1 ?_
      refine E_icmp_geN (tgt := 55) (q := 15) dX0_unitsWhere_12 (by decide) rfl (by omega) (by omega) (fun h12 => ?_) (fun h12 => ?_)
      · skip
        refine E_iload4 (q := 57) dX0_unitsWhere_55 rfl ?_
        exact E_ireturn rfl rfl dX0_unitsWhere_57 (PI_of (by rw [List.take_length]) rfl)
      · skip
        exact absurd h12 (Nat.lt_irrefl _)
    · intro k hk ih
      obtain ⟨x, hx, hxm, g1, g2, g3, g4⟩ := hB.get hk
      have hxw := hw.2 x hxm
      rw [take_s hx] at ih
      rw [fsum_app] at ih
      refine E_iload5 (q := 8) dX0_unitsWhere_6 rfl ?_
      refine E_aload0 (q := 9) dX0_unitsWhere_8 rfl ?_
      refine G_X0_length (q := 12) hb fl_X0_24 dX0_unitsWhere_9 rfl ?_
      refine V_int hB.1 ?_
      refine E_icmp_geN (tgt := 55) (q := 15) dX0_unitsWhere_12 (by decide) rfl (by omega) (by omega) (fun h12 => ?_) (fun h12 => ?_)
      · skip
        exact absurd h12 (by omega)
      · skip
        refine E_aload0 (q := 16) dX0_unitsWhere_15 rfl ?_
        refine G_X0_births (q := 19) hb fl_X0_9 dX0_unitsWhere_16 rfl ?_
        refine E_iload5 (q := 21) dX0_unitsWhere_19 rfl ?_
        refine E_ialdN (q := 22) hb.births (by omega) (by decide) dX0_unitsWhere_21 rfl ?_
        refine V_int g1 ?_
        refine E_iload3 (q := 23) dX0_unitsWhere_22 rfl ?_
        refine E_icmp_leN (tgt := 49) (q := 26) dX0_unitsWhere_23 (by decide) rfl (by omega) (by omega) (fun h23 => ?_) (fun h23 => ?_)
        · skip
          refine E_iinc5 (q := 52) dX0_unitsWhere_49 (nI_inc _) rfl rfl ?_
          refine E_goto (q := 6) dX0_unitsWhere_52 (by decide) ?_
          rw [uwF, if_neg (by rw [dB_f (fun z => by have := z.1; omega)]; simp)] at ih
          exact ih
        · skip
          refine E_aload0 (q := 27) dX0_unitsWhere_26 rfl ?_
          refine E_iload5 (q := 29) dX0_unitsWhere_27 rfl ?_
          refine E_iload1 (q := 30) dX0_unitsWhere_29 rfl ?_
          refine E_iload2 (q := 31) dX0_unitsWhere_30 rfl ?_
          refine C_V3I (q := 34) lk_X0_38 (sp_X0_fits hb hB hw hx (by omega) (by omega)) (rc_X0 hb) dX0_unitsWhere_31 (by decide) (Nat.le_of_ble_eq_true rfl) rfl ?_
          refine E_if_eq (tgt := 49) (q := 37) dX0_unitsWhere_34 (by decide) rfl (fun h34 => ?_) (fun h34 => ?_)
          · skip
            refine E_iinc5 (q := 52) dX0_unitsWhere_49 (nI_inc _) rfl rfl ?_
            refine E_goto (q := 6) dX0_unitsWhere_52 (by decide) ?_
            rw [uwF, if_neg (by rw [dB_f (fun z => zI_0 h34 z.2)]; simp)] at ih
            exact ih
          · skip
            refine E_iload4 (q := 39) dX0_unitsWhere_37 rfl ?_
            refine E_aload0 (q := 40) dX0_unitsWhere_39 rfl ?_
            refine G_X0_sizes (q := 43) hb fl_X0_15 dX0_unitsWhere_40 rfl ?_
            refine E_iload5 (q := 45) dX0_unitsWhere_43 rfl ?_
            refine E_ialdN (q := 46) hb.sizes (by omega) (by decide) dX0_unitsWhere_45 rfl ?_
            refine V_int g2 ?_
            refine E_iaddN (q := 47) dX0_unitsWhere_46 rfl ?_
            refine E_istore4 (q := 49) dX0_unitsWhere_47 rfl rfl ?_
            refine E_iinc5 (q := 52) dX0_unitsWhere_49 (nI_inc _) rfl rfl ?_
            refine E_goto (q := 6) dX0_unitsWhere_52 (by decide) ?_
            rw [uwF, if_pos (dB_t ⟨by omega, zI_n h34⟩)] at ih
            exact ih
  refine E_iconst (v := nI 0) (q := 1) dX0_unitsWhere_0 (by decide) rfl ?_
  refine E_istore4 (q := 3) dX0_unitsWhere_1 rfl rfl ?_
  refine E_iconst (v := nI 0) (q := 4) dX0_unitsWhere_3 (by decide) rfl ?_
  refine E_istore5 (q := 6) dX0_unitsWhere_4 rfl rfl ?_
  exact hmain
theorem sp_X0_numberWhere {nd av : Nat} (hb : IsBl b) (hB : BlkIs M b bl) (hw : BLW bl) (hnd : nd < 2 ^ 32) (hav : av < 2 ^ 32) : Spec D 3 yX0_numberWhere cfX0_numberWhere [.ref (ad (b)), .int (nI (nd)), .int (nI (av))] (wl D ad M) 0 0 (PI (nI (fitL nd av bl).length) (wl D ad M)) := by
  refine Spec.of (by decide) rfl (Nat.le_of_ble_eq_true rfl) rfl ?_
  have hl := hw.1
  have hmain : V D cfX0_numberWhere (rmOf 3 0 0) (QM D (PI (nI (fitL nd av bl).length) (wl D ad M)) 0 0) 0 0 5 [some (.ref (ad (b))), some (.int (nI (nd))), some (.int (nI (av))), some (.int (nI ((fitL nd av (bl.take 0)).length))), some (.int (nI (0)))] [] (wl D ad M) := by
    refine upto0 (n := bl.length) (P := fun k => V D cfX0_numberWhere (rmOf 3 0 0) (QM D (PI (nI (fitL nd av bl).length) (wl D ad M)) 0 0) 0 0 5 [some (.ref (ad (b))), some (.int (nI (nd))), some (.int (nI (av))), some (.int (nI ((fitL nd av (bl.take k)).length))), some (.int (nI (k)))] [] (wl D ad M)) ?_ ?_
    · skip
      refine E_iload4 (q := 7) dX0_numberWhere_5 rfl ?_
      refine E_aload0 (q := 8) dX0_numberWhere_7 rfl ?_
      refine G_X0_length (q := 11) hb fl_X0_24 dX0_numberWhere_8 rfl ?_
      refine V_int hB.1 ?_
      refine E_icmp_geN (tgt := 34) (q := 14) dX0_numberWhere_11 (by decide) rfl (by omega) (by omega) (fun h11 => ?_) (fun h11 => ?_)
      · skip
        refine E_iload3 (q := 35) dX0_numberWhere_34 rfl ?_
        exact E_ireturn rfl rfl dX0_numberWhere_35 (PI_of (by rw [List.take_length]) rfl)
      · skip
        exact absurd h11 (Nat.lt_irrefl _)
    · intro k hk ih
      obtain ⟨x, hx, hxm, g1, g2, g3, g4⟩ := hB.get hk
      have hxw := hw.2 x hxm
      rw [take_s hx] at ih
      rw [fitL_app] at ih
      refine E_iload4 (q := 7) dX0_numberWhere_5 rfl ?_
      refine E_aload0 (q := 8) dX0_numberWhere_7 rfl ?_
      refine G_X0_length (q := 11) hb fl_X0_24 dX0_numberWhere_8 rfl ?_
      refine V_int hB.1 ?_
      refine E_icmp_geN (tgt := 34) (q := 14) dX0_numberWhere_11 (by decide) rfl (by omega) (by omega) (fun h11 => ?_) (fun h11 => ?_)
      · skip
        exact absurd h11 (by omega)
      · skip
        refine E_aload0 (q := 15) dX0_numberWhere_14 rfl ?_
        refine E_iload4 (q := 17) dX0_numberWhere_15 rfl ?_
        refine E_iload1 (q := 18) dX0_numberWhere_17 rfl ?_
        refine E_iload2 (q := 19) dX0_numberWhere_18 rfl ?_
        refine C_V3I (q := 22) lk_X0_38 (sp_X0_fits hb hB hw hx (by omega) (by omega)) (rc_X0 hb) dX0_numberWhere_19 (by decide) (Nat.le_of_ble_eq_true rfl) rfl ?_
        refine E_if_eq (tgt := 28) (q := 25) dX0_numberWhere_22 (by decide) rfl (fun h22 => ?_) (fun h22 => ?_)
        · skip
          refine E_iinc4 (q := 31) dX0_numberWhere_28 (nI_inc _) rfl rfl ?_
          refine E_goto (q := 5) dX0_numberWhere_31 (by decide) ?_
          rw [if_neg (by rw [dB_f (zI_0 h22)]; simp)] at ih
          exact ih
        · skip
          refine E_iinc3 (q := 28) dX0_numberWhere_25 (nI_inc _) rfl rfl ?_
          refine E_iinc4 (q := 31) dX0_numberWhere_28 (nI_inc _) rfl rfl ?_
          refine E_goto (q := 5) dX0_numberWhere_31 (by decide) ?_
          rw [if_pos (dB_t (zI_n h22))] at ih
          exact ih
  refine E_iconst (v := nI 0) (q := 1) dX0_numberWhere_0 (by decide) rfl ?_
  refine E_istore3 (q := 2) dX0_numberWhere_1 rfl rfl ?_
  refine E_iconst (v := nI 0) (q := 3) dX0_numberWhere_2 (by decide) rfl ?_
  refine E_istore4 (q := 5) dX0_numberWhere_3 rfl rfl ?_
  exact hmain
end CLS
