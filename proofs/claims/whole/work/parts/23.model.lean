
/-! THE REFERENCE: what its methods answer, with searches and sums -/
section VALS
variable {A : AS}
/-- a sum over w's addresses -/
def av (A : AS) (w : Nat) (f : Blk → Nat) (a : Nat) : Nat := match blkAt A.2 w a with
  | some x => f x
  | none => 0
theorem av_sum (h : WFB A) (w : Nat) (f : Blk → Nat) : nsum (av A w f) 12 = fsum (fun x => if (own x).testBit w = true then f x else 0) A.2 := asum h w f
theorem av_case (h : WFB A) (w : Nat) (f : Blk → Nat) (a : Nat) :
    (bAt A.2 w a = 0 ∧ av A w f a = 0) ∨ ∃ x, x ∈ A.2 ∧ bAt A.2 w a = x.1 ∧ uAt A.2 w a = siz x ∧ ownB A.2 (bAt A.2 w a) = own x ∧ (own x).testBit w = true ∧ bAt A.2 w a ≠ 0 ∧ av A w f a = f x := by
  unfold av
  cases hx : blkAt A.2 w a with
  | none => exact Or.inl ⟨(bAt_none hx).1, rfl⟩
  | some x =>
    have h1 := blkAt_some hx
    exact Or.inr ⟨x, h1.1, (bAt_some hx).1, (bAt_some hx).2, by rw [(bAt_some hx).1, ownB_mem h.1 h1.1], h1.2.2, h.bpos hx, rfl⟩
theorem rngm {q : Int32} {n : Nat} (hn : n < 2 ^ 31) : (nI 0 ≤ q ∧ q ≤ nI n - nI 1) ↔ ∃ k, k < n ∧ q = nI k := by
  cases n with
  | zero =>
    constructor
    · rintro ⟨h1, h2⟩
      exact absurd (Int32.le_trans h1 h2) (by decide)
    · rintro ⟨k, h, -⟩; omega
  | succ n =>
    rw [pk_sub (by omega), show n + 1 - 1 = n by omega, rng (by omega)]
    constructor
    · rintro ⟨k, h, e⟩; exact ⟨k, by omega, e⟩
    · rintro ⟨k, h, e⟩; exact ⟨k, by omega, e⟩
theorem plc_of {v k t : Nat} (h : (rowL A v)[k]? = some t) : plc A t = k ∧ t < 16 ∧ th A t ∧ home A t = v := by
  have hm := mem_rowL.mp (List.mem_of_getElem? h)
  have hg := plc_get hm.1 hm.2.1
  rw [hm.2.2] at hg
  exact ⟨pw_inj (rowL_pw A v) hg h, hm⟩
theorem snpAtV_hit {v k t : Nat} (h : (rowL A v)[k]? = some t) : snpAtV A v (nI k) = nI t := by
  obtain ⟨e1, e2, e3, e4⟩ := plc_of h
  refine fnd_hit e2 (fun j hj => ?_) ⟨e3, e4, by rw [e1]⟩
  rintro ⟨q1, q2, q3⟩
  have hk16 : k < 16 := by have := (List.getElem?_eq_some_iff.mp h).1; have := rowL_len A v; omega
  have hp := plc_lt A j
  have q3 := (nI_eq (by omega) (by omega)).mp q3
  have hg := plc_get (A := A) (s := j) (by omega) q1
  rw [q2, q3, h] at hg
  have : t = j := by simpa using hg
  omega
theorem snpAtV_miss {v : Nat} {q : Int32} (h : ¬ ∃ k, k < (rowL A v).length ∧ q = nI k) : snpAtV A v q = -1 := by
  refine fnd_miss fun j hj => ?_
  rintro ⟨q1, q2, q3⟩
  refine h ⟨plc A j, ?_, q3.symm⟩
  have := plc_lt16 hj q1
  rwa [q2] at this
theorem szV_hit (h : WFB A) {x : Blk} (hx : x ∈ A.2) (hT : aT A < 2 ^ 31) : szV A (nI x.1) = nI (siz x) ∧ owV A (nI x.1) = nI (own x) := by
  unfold szV owV
  cases hf : A.2.find? (fun y => decide (nI y.1 = nI x.1)) with
  | none =>
    have := List.find?_eq_none.mp hf x hx
    simp at this
  | some y =>
    have h1 := List.mem_of_find?_eq_some hf
    have h2 := List.find?_some hf
    simp only [decide_eq_true_eq] at h2
    have b1 := (h.2 x hx).2.1
    have b2 := (h.2 y h1).2.1
    have h3 := (nI_eq (by omega) (by omega)).mp h2
    rw [BPW.inj h.1 h1 hx h3]
    exact ⟨rfl, rfl⟩
theorem szV_miss {p : Int32} (h : ∀ x, x ∈ A.2 → nI x.1 ≠ p) : szV A p = -1 ∧ owV A p = nI 0 := by
  have : A.2.find? (fun y => decide (nI y.1 = p)) = none := List.find?_eq_none.mpr fun x hx => by simpa using h x hx
  unfold szV owV
  rw [this]
  exact ⟨rfl, rfl⟩
theorem blk_owner (h : WFB A) {x : Blk} (hx : x ∈ A.2) : ∃ w a, w < 22 ∧ a < 12 ∧ th A w ∧ bAt A.2 w a = x.1 := by
  obtain ⟨a1, a2, a3, a4, a5, a6, a7, a8⟩ := h.2 x hx
  obtain ⟨w, hw⟩ := ex_tb a6
  exact ⟨w, adr x, tb_22 a7 hw, a5, a8 w hw, (bAt_some (blkAt_mem h.1 hx rfl hw)).1⟩
def maxN (f : Nat → Nat) : Nat → Nat
  | 0 => 0
  | n + 1 => if maxN f n < f n then f n else maxN f n
def minN (f : Nat → Nat) : Nat → Nat
  | 0 => 0
  | n + 1 => if f n = 0 then minN f n else if minN f n = 0 then f n else if f n ≤ minN f n then f n else minN f n
/-- a birth, or -1 -/
def bV (m : Nat) : Int32 := if m = 0 then -1 else nI m
noncomputable def mxE (A : AS) : Nat → Int32 × Nat
  | 0 => (-1, 0)
  | s + 1 => if fsum (hbF (2 ^ s)) A.2 ≤ (mxE A s).2 then mxE A s else (nI s, fsum (hbF (2 ^ s)) A.2)
theorem hb_th (h : WFB A) {s : Nat} (hs : ¬ th A s) : fsum (hbF (2 ^ s)) A.2 = 0 := fsum_zero fun x hx => by
  unfold hbF
  rw [if_neg]
  intro z
  obtain ⟨a1, a2, a3, a4, a5, a6, a7, a8⟩ := h.2 x hx
  obtain ⟨w, hw⟩ := ex_tb a6
  have := (andn_0 (Nat.lt_trans a7 (by decide))).mp z w hw
  rw [pow_bit] at this
  subst this
  exact hs (a8 _ hw)
theorem hb_le (h : WFB A) (m : Nat) : fsum (hbF m) A.2 ≤ 2376 := by
  have h1 := h.len
  refine Nat.le_trans (fsum_le (c := 9) fun x hx => ?_) (by omega)
  unfold hbF
  split
  · exact (h.2 x hx).2.2.2.1
  · omega
theorem sz_le (h : WFB A) : fsum siz A.2 ≤ 2376 := by
  have h1 := h.len
  exact Nat.le_trans (fsum_le (c := 9) fun x hx => (h.2 x hx).2.2.2.1) (by omega)
theorem fsum_mono {f g : Blk → Nat} {bl : List Blk} (h : ∀ x, x ∈ bl → f x ≤ g x) : fsum f bl ≤ fsum g bl := by
  induction bl with
  | nil => exact Nat.le_refl _
  | cons x bl ih =>
    rw [fsum_cons, fsum_cons]
    have := h x (List.mem_cons_self ..)
    have := ih (fun y hy => h y (List.mem_cons_of_mem _ hy))
    omega
theorem fsum_ge {f : Blk → Nat} {bl : List Blk} {x : Blk} (hx : x ∈ bl) : f x ≤ fsum f bl := by
  induction bl with
  | nil => cases hx
  | cons y bl ih =>
    rw [fsum_cons]
    rcases List.mem_cons.mp hx with rfl | hx
    · omega
    · have := ih hx; omega
theorem aln_le (h : WFB A) (w a : Nat) : aln A w a ≤ fsum siz A.2 := by
  rcases aln_case h w a with ⟨-, e⟩ | ⟨x, hx, -, -, -, -, -, e⟩
  · omega
  · rw [e]; split
    · exact fsum_ge hx
    · omega
theorem uAt_sum {w a : Nat} (ha : a < 12) : uAt A.2 w a ≤ sumA A w := by
  unfold sumA
  have : nsum (fun a => uAt A.2 w a) (a + 1) ≤ nsum (fun a => uAt A.2 w a) 12 := nsum_cut (by omega)
  rw [nsum] at this
  omega
theorem sumA_le (h : WFB A) (w : Nat) : sumA A w ≤ 108 := nsum_le (c := 9) fun a _ => h.ule
def wrI (A : AS) (v a z : Nat) : Int32 := if aP A < fsum siz A.2 - aln A (16 + v) a + z then -3 else if 0 < quo A v ∧ quo A v < sumA A (16 + v) - uAt A.2 (16 + v) a + z then -5 else nI 0
end VALS
section MODEL
variable {D : va_G} {ad : Nat → Nat} {M : Mem} {wx : Nat} {ws : va_W} {A : AS}
theorem hold_ow {p : Int32} (h : RI M wx A) (hp : ¬ p = 0) : nI (bset (fun v => verN (M wx) v ∧ hasB (M wx) v p) 22) = owV A p := by
  have hT := h.2.2.1.1.1
  by_cases hx : ∃ x, x ∈ A.2 ∧ nI x.1 = p
  · obtain ⟨x, hx, rfl⟩ := hx
    have := h.2.2.2.2.2 x hx
    rw [(szV_hit h.2.2.2.2 hx (by omega)).2, hold_eq h (by omega) (by omega), ownB_mem h.2.2.2.2.1 hx]
  · rw [(szV_miss (fun x hxm z => hx ⟨x, hxm, z⟩)).2]
    refine congrArg nI (bset_0.mpr fun k hk z => ?_)
    obtain ⟨-, a, ha, e⟩ := z
    rw [h.2.1.bth hk ha] at e
    by_cases hb : bAt A.2 k a = 0
    · rw [hb] at e; exact hp e.symm
    · obtain ⟨x, -, q1, q2, -⟩ := h.2.2.2.2.bt hb
      exact hx ⟨x, q1, by rw [← q2]; exact e⟩
theorem sp_X6_blockAt {w a : Nat} (h : RI M wx A) (hw : w < 22) (ht : th A w) (ha : a < 12) : Spec D 12 yX6_blockAt cfX6_blockAt [.ref (ad 157), .int (nI (w)), .int (nI (a))] (wl D ad M) 0 0 (PI (blkV A w a) (wl D ad (upd2 M 157 4 (nI 0)))) := by
  refine Spec.of (by decide) rfl (Nat.le_of_ble_eq_true rfl) rfl ?_
  have hb := h.bt w a
  refine E_aload0 (q := 1) dX6_blockAt_0 rfl ?_
  refine E_aload0 (q := 2) dX6_blockAt_1 rfl ?_
  refine E_iload1 (q := 3) dX6_blockAt_2 rfl ?_
  refine C_V1I (q := 6) lk_X6_87 (sp_X6_isVerT h ((VerA_nI (by omega)).mpr ⟨hw, ht⟩)) rc_X6 dX6_blockAt_3 (by decide) (Nat.le_of_ble_eq_true rfl) rfl ?_
  refine E_if_eq (tgt := 20) (q := 9) dX6_blockAt_6 (by decide) rfl (fun h6 => ?_) (fun h6 => ?_)
  · first | exact absurd h6 (by decide) | exact absurd (by decide) h6
  · skip
    refine E_iload2 (q := 10) dX6_blockAt_9 rfl ?_
    refine C_S1I (q := 13) lk_X6_141 (sp_X6_isAdrT ⟨a, ha, rfl⟩) dX6_blockAt_10 (by decide) (Nat.le_of_ble_eq_true rfl) rfl ?_
    refine E_if_eq (tgt := 20) (q := 16) dX6_blockAt_13 (by decide) rfl (fun h13 => ?_) (fun h13 => ?_)
    · first | exact absurd h13 (by decide) | exact absurd (by decide) h13
    · skip
      refine E_iconst (v := nI 1) (q := 17) dX6_blockAt_16 (by decide) rfl ?_
      refine E_goto (q := 21) dX6_blockAt_17 (by decide) ?_
      refine C_V1I (q := 24) lk_X6_128 (sp_X6_failsT) rc_X6 dX6_blockAt_21 (by decide) (Nat.le_of_ble_eq_true rfl) rfl ?_
      refine E_if_eq (tgt := 29) (q := 27) dX6_blockAt_24 (by decide) rfl (fun h24 => ?_) (fun h24 => ?_)
      · skip
        refine E_aload0 (q := 30) dX6_blockAt_29 rfl ?_
        refine E_iload1 (q := 31) dX6_blockAt_30 rfl ?_
        refine E_iload2 (q := 32) dX6_blockAt_31 rfl ?_
        refine C_V2I (q := 35) lk_X6_77 (sp_X6_birthA h.fl (by omega) (by omega)) rc_X6 dX6_blockAt_32 (by decide) (Nat.le_of_ble_eq_true rfl) rfl ?_
        refine E_if_ne (tgt := 42) (q := 38) dX6_blockAt_35 (by decide) rfl (fun h35 => ?_) (fun h35 => ?_)
        · skip
          refine E_aload0 (q := 43) dX6_blockAt_42 rfl ?_
          refine E_iload1 (q := 44) dX6_blockAt_43 rfl ?_
          refine E_iload2 (q := 45) dX6_blockAt_44 rfl ?_
          refine C_V2I (q := 48) lk_X6_77 (sp_X6_birthA h.fl (by omega) (by omega)) rc_X6 dX6_blockAt_45 (by decide) (Nat.le_of_ble_eq_true rfl) rfl ?_
          exact E_ireturn rfl rfl dX6_blockAt_48 (PI_of (by rw [blkV, if_neg (fun z => h35 ((nI_z (by omega)).mpr z))]) rfl)
        · skip
          refine E_iconst (v := -1) (q := 39) dX6_blockAt_38 (by decide) rfl ?_
          refine E_goto (q := 48) dX6_blockAt_39 (by decide) ?_
          exact E_ireturn rfl rfl dX6_blockAt_48 (PI_of (by rw [blkV, if_pos ((nI_z (by omega)).mp h35)]) rfl)
      · first | exact absurd h24 (by decide) | exact absurd (by decide) h24
theorem sp_X6_wouldFree {v a : Nat} (h : RI M wx A) (hv : v < 6) (ht : th A (16 + v)) (ha : a < 12) : Spec D 12 yX6_wouldFree cfX6_wouldFree [.ref (ad 157), .int (nI (v)), .int (nI (a))] (wl D ad M) 0 0 (PI (nI (aln A (16 + v) a)) (wl D ad (upd2 M 157 4 (nI 0)))) := by
  refine Spec.of (by decide) rfl (Nat.le_of_ble_eq_true rfl) rfl ?_
  refine E_aload0 (q := 1) dX6_wouldFree_0 rfl ?_
  refine E_aload0 (q := 2) dX6_wouldFree_1 rfl ?_
  refine E_iload1 (q := 3) dX6_wouldFree_2 rfl ?_
  refine C_V1I (q := 6) lk_X6_74 (sp_X6_isVolT h ((VolA_nI (by omega)).mpr ⟨hv, ht⟩)) rc_X6 dX6_wouldFree_3 (by decide) (Nat.le_of_ble_eq_true rfl) rfl ?_
  refine E_if_eq (tgt := 20) (q := 9) dX6_wouldFree_6 (by decide) rfl (fun h6 => ?_) (fun h6 => ?_)
  · first | exact absurd h6 (by decide) | exact absurd (by decide) h6
  · skip
    refine E_iload2 (q := 10) dX6_wouldFree_9 rfl ?_
    refine C_S1I (q := 13) lk_X6_141 (sp_X6_isAdrT ⟨a, ha, rfl⟩) dX6_wouldFree_10 (by decide) (Nat.le_of_ble_eq_true rfl) rfl ?_
    refine E_if_eq (tgt := 20) (q := 16) dX6_wouldFree_13 (by decide) rfl (fun h13 => ?_) (fun h13 => ?_)
    · first | exact absurd h13 (by decide) | exact absurd (by decide) h13
    · skip
      refine E_iconst (v := nI 1) (q := 17) dX6_wouldFree_16 (by decide) rfl ?_
      refine E_goto (q := 21) dX6_wouldFree_17 (by decide) ?_
      refine C_V1I (q := 24) lk_X6_128 (sp_X6_failsT) rc_X6 dX6_wouldFree_21 (by decide) (Nat.le_of_ble_eq_true rfl) rfl ?_
      refine E_if_eq (tgt := 31) (q := 27) dX6_wouldFree_24 (by decide) rfl (fun h24 => ?_) (fun h24 => ?_)
      · skip
        refine E_aload0 (q := 32) dX6_wouldFree_31 rfl ?_
        refine E_iload1 (q := 33) dX6_wouldFree_32 rfl ?_
        refine E_iload2 (q := 34) dX6_wouldFree_33 rfl ?_
        refine C_V2I (q := 37) lk_X6_153 (sp_X6_goesWith h.fl hv ha) rc_X6 dX6_wouldFree_34 (by decide) (Nat.le_of_ble_eq_true rfl) rfl ?_
        exact E_ireturn rfl rfl dX6_wouldFree_37 (PI_of rfl rfl)
      · first | exact absurd h24 (by decide) | exact absurd (by decide) h24
theorem sp_X6_snapshotAt {v : Nat} {q : Int32} (h : RI M wx A) (hv : v < 6) (ht : th A (16 + v)) : Spec D 12 yX6_snapshotAt cfX6_snapshotAt [.ref (ad 157), .int (nI (v)), .int (q)] (wl D ad M) 0 0 (PI (snpAtV A v q) (wl D ad (upd2 M 157 4 (nI 0)))) := by
  refine Spec.of (by decide) rfl (Nat.le_of_ble_eq_true rfl) rfl ?_
  have hl := rowL_len A v
  refine E_aload0 (q := 1) dX6_snapshotAt_0 rfl ?_
  refine E_aload0 (q := 2) dX6_snapshotAt_1 rfl ?_
  refine E_iload1 (q := 3) dX6_snapshotAt_2 rfl ?_
  refine C_V1I (q := 6) lk_X6_74 (sp_X6_isVolT h ((VolA_nI (by omega)).mpr ⟨hv, ht⟩)) rc_X6 dX6_snapshotAt_3 (by decide) (Nat.le_of_ble_eq_true rfl) rfl ?_
  refine C_V1I (q := 9) lk_X6_128 (sp_X6_failsT) rc_X6 dX6_snapshotAt_6 (by decide) (Nat.le_of_ble_eq_true rfl) rfl ?_
  refine E_if_eq (tgt := 14) (q := 12) dX6_snapshotAt_9 (by decide) rfl (fun h9 => ?_) (fun h9 => ?_)
  · skip
    refine E_iload2 (q := 15) dX6_snapshotAt_14 rfl ?_
    refine E_iconst (v := nI 0) (q := 16) dX6_snapshotAt_15 (by decide) rfl ?_
    refine E_aload0 (q := 17) dX6_snapshotAt_16 rfl ?_
    refine E_iload1 (q := 18) dX6_snapshotAt_17 rfl ?_
    refine E_iconst (v := nI 4) (q := 19) dX6_snapshotAt_18 (by decide) rfl ?_
    refine C_V2I (q := 22) lk_X6_64 (sp_X6_volM h.fl hv ht) rc_X6 dX6_snapshotAt_19 (by decide) (Nat.le_of_ble_eq_true rfl) rfl ?_
    refine E_iconst (v := nI 1) (q := 23) dX6_snapshotAt_22 (by decide) rfl ?_
    refine E_isub (q := 24) dX6_snapshotAt_23 rfl ?_
    refine C_S3I (q := 27) lk_X6_60 (sp_X6_inRange) dX6_snapshotAt_24 (by decide) (Nat.le_of_ble_eq_true rfl) rfl ?_
    refine V_int (zI_c (rngm (by omega))) ?_
    refine E_if_eq (tgt := 41) (q := 30) dX6_snapshotAt_27 (by decide) rfl (fun h27 => ?_) (fun h27 => ?_)
    · skip
      refine E_iconst (v := -1) (q := 42) dX6_snapshotAt_41 (by decide) rfl ?_
      exact E_ireturn rfl rfl dX6_snapshotAt_42 (PI_of (snpAtV_miss (zI_0 h27)).symm rfl)
    · skip
      obtain ⟨k, hk, rfl⟩ := zI_n h27
      obtain ⟨t, hg⟩ : ∃ t, (rowL A v)[k]? = some t := ⟨_, List.getElem?_eq_getElem hk⟩
      refine E_aload0 (q := 31) dX6_snapshotAt_30 rfl ?_
      refine E_iload1 (q := 32) dX6_snapshotAt_31 rfl ?_
      refine E_iconst (v := nI 5) (q := 33) dX6_snapshotAt_32 (by decide) rfl ?_
      refine E_iload2 (q := 34) dX6_snapshotAt_33 rfl ?_
      refine E_iaddN (q := 35) dX6_snapshotAt_34 rfl ?_
      refine C_V2I (q := 38) lk_X6_64 (sp_X6_volL h.fl hv ht hg) rc_X6 dX6_snapshotAt_35 (by decide) (Nat.le_of_ble_eq_true rfl) rfl ?_
      refine E_goto (q := 42) dX6_snapshotAt_38 (by decide) ?_
      exact E_ireturn rfl rfl dX6_snapshotAt_42 (PI_of (snpAtV_hit hg).symm rfl)
  · first | exact absurd h9 (by decide) | exact absurd (by decide) h9

theorem sp_X6_shared {u w : Nat} (h : RI M wx A) (hu : u < 22) (htu : th A u) (hw : w < 22) (ht : th A w) : Spec D 12 yX6_shared cfX6_shared [.ref (ad 157), .int (nI (u)), .int (nI (w))] (wl D ad M) 0 0 (PI (nI (fsum (fun x => if (own x).testBit u = true then (if (own x).testBit w = true then siz x else 0) else 0) A.2)) (wl D ad (upd2 M 157 4 (nI 0)))) := by
  refine Spec.of (by decide) rfl (Nat.le_of_ble_eq_true rfl) rfl ?_
  have hmain : V D cfX6_shared (rmOf 12 0 0) (QM D (PI (nI (fsum (fun x => if (own x).testBit u = true then (if (own x).testBit w = true then siz x else 0) else 0) A.2)) (wl D ad (upd2 M 157 4 (nI 0)))) 0 0) 0 0 35 [some (.ref (ad 157)), some (.int (nI (u))), some (.int (nI (w))), some (.int (nI (0))), some (.int (nI (0)))] [] (wl D ad (upd2 M 157 4 (nI 0))) := by
    refine upto0 (n := 12) (P := fun i => V D cfX6_shared (rmOf 12 0 0) (QM D (PI (nI (fsum (fun x => if (own x).testBit u = true then (if (own x).testBit w = true then siz x else 0) else 0) A.2)) (wl D ad (upd2 M 157 4 (nI 0)))) 0 0) 0 0 35 [some (.ref (ad 157)), some (.int (nI (u))), some (.int (nI (w))), some (.int (nI (nsum (av A u (fun x => if (own x).testBit w = true then siz x else 0)) i))), some (.int (nI (i)))] [] (wl D ad (upd2 M 157 4 (nI 0)))) ?_ ?_
    · skip
      refine E_iload4 (q := 37) dX6_shared_35 rfl ?_
      refine E_bipush (v := nI 12) (q := 39) dX6_shared_37 (by decide) rfl ?_
      refine E_icmp_geN (tgt := 87) (q := 42) dX6_shared_39 (by decide) rfl (by omega) (by omega) (fun h39 => ?_) (fun h39 => ?_)
      · skip
        refine E_iload3 (q := 88) dX6_shared_87 rfl ?_
        exact E_ireturn rfl rfl dX6_shared_88 (PI_of (congrArg nI (av_sum h.2.2.2.2 u _)) rfl)
      · skip
        exact absurd h39 (by omega)
    · intro i hi ih
      have hb := h.bt u i
      rw [nsum_s] at ih
      rcases av_case h.2.2.2.2 u (fun x => if (own x).testBit w = true then siz x else 0) i with ⟨e0, e1⟩ | ⟨x, hx, e1, e2, e3, e4, e5, e6⟩
      · rw [e1] at ih
        refine E_iload4 (q := 37) dX6_shared_35 rfl ?_
        refine E_bipush (v := nI 12) (q := 39) dX6_shared_37 (by decide) rfl ?_
        refine E_icmp_geN (tgt := 87) (q := 42) dX6_shared_39 (by decide) rfl (by omega) (by omega) (fun h39 => ?_) (fun h39 => ?_)
        · skip
          exact absurd h39 (by omega)
        · skip
          refine E_iload3 (q := 43) dX6_shared_42 rfl ?_
          refine E_aload0 (q := 44) dX6_shared_43 rfl ?_
          refine E_iload1 (q := 45) dX6_shared_44 rfl ?_
          refine E_iload4 (q := 47) dX6_shared_45 rfl ?_
          refine C_V2I (q := 50) lk_X6_77 (sp_X6_birthA h.fl (by omega) (by omega)) rc_X6 dX6_shared_47 (by decide) (Nat.le_of_ble_eq_true rfl) rfl ?_
          refine E_if_eq (tgt := 78) (q := 53) dX6_shared_50 (by decide) rfl (fun h50 => ?_) (fun h50 => ?_)
          · skip
            refine E_iconst (v := nI 0) (q := 79) dX6_shared_78 (by decide) rfl ?_
            refine E_iaddN (q := 80) dX6_shared_79 rfl ?_
            refine E_istore3 (q := 81) dX6_shared_80 rfl rfl ?_
            refine E_iinc4 (q := 84) dX6_shared_81 (nI_inc _) rfl rfl ?_
            refine E_goto (q := 35) dX6_shared_84 (by decide) ?_
            exact ih
          · skip
            exact absurd (by rw [e0]; decide) h50
      · rw [e6] at ih
        refine E_iload4 (q := 37) dX6_shared_35 rfl ?_
        refine E_bipush (v := nI 12) (q := 39) dX6_shared_37 (by decide) rfl ?_
        refine E_icmp_geN (tgt := 87) (q := 42) dX6_shared_39 (by decide) rfl (by omega) (by omega) (fun h39 => ?_) (fun h39 => ?_)
        · skip
          exact absurd h39 (by omega)
        · skip
          refine E_iload3 (q := 43) dX6_shared_42 rfl ?_
          refine E_aload0 (q := 44) dX6_shared_43 rfl ?_
          refine E_iload1 (q := 45) dX6_shared_44 rfl ?_
          refine E_iload4 (q := 47) dX6_shared_45 rfl ?_
          refine C_V2I (q := 50) lk_X6_77 (sp_X6_birthA h.fl (by omega) (by omega)) rc_X6 dX6_shared_47 (by decide) (Nat.le_of_ble_eq_true rfl) rfl ?_
          refine E_if_eq (tgt := 78) (q := 53) dX6_shared_50 (by decide) rfl (fun h50 => ?_) (fun h50 => ?_)
          · skip
            exact absurd ((nI_z (by omega)).mp h50) e5
          · skip
            refine E_aload0 (q := 54) dX6_shared_53 rfl ?_
            refine E_iload2 (q := 55) dX6_shared_54 rfl ?_
            refine E_aload0 (q := 56) dX6_shared_55 rfl ?_
            refine E_iload1 (q := 57) dX6_shared_56 rfl ?_
            refine E_iload4 (q := 59) dX6_shared_57 rfl ?_
            refine C_V2I (q := 62) lk_X6_77 (sp_X6_birthA h.fl (by omega) (by omega)) rc_X6 dX6_shared_59 (by decide) (Nat.le_of_ble_eq_true rfl) rfl ?_
            refine C_V2I (q := 65) lk_X6_90 (sp_X6_hasBlockA h.fl (by omega) (by omega) (by omega)) rc_X6 dX6_shared_62 (by decide) (Nat.le_of_ble_eq_true rfl) rfl ?_
            refine E_if_eq (tgt := 78) (q := 68) dX6_shared_65 (by decide) rfl (fun h65 => ?_) (fun h65 => ?_)
            · skip
              refine E_iconst (v := nI 0) (q := 79) dX6_shared_78 (by decide) rfl ?_
              refine E_iaddN (q := 80) dX6_shared_79 rfl ?_
              refine E_istore3 (q := 81) dX6_shared_80 rfl rfl ?_
              refine E_iinc4 (q := 84) dX6_shared_81 (nI_inc _) rfl rfl ?_
              refine E_goto (q := 35) dX6_shared_84 (by decide) ?_
              rw [if_neg (e3 ▸ zI_0 h65)] at ih
              exact ih
            · skip
              refine E_aload0 (q := 69) dX6_shared_68 rfl ?_
              refine E_iload1 (q := 70) dX6_shared_69 rfl ?_
              refine E_iload4 (q := 72) dX6_shared_70 rfl ?_
              refine C_V2I (q := 75) lk_X6_80 (sp_X6_unitsA h.fl (by omega) (by omega)) rc_X6 dX6_shared_72 (by decide) (Nat.le_of_ble_eq_true rfl) rfl ?_
              refine E_goto (q := 79) dX6_shared_75 (by decide) ?_
              refine E_iaddN (q := 80) dX6_shared_79 rfl ?_
              refine E_istore3 (q := 81) dX6_shared_80 rfl rfl ?_
              refine E_iinc4 (q := 84) dX6_shared_81 (nI_inc _) rfl rfl ?_
              refine E_goto (q := 35) dX6_shared_84 (by decide) ?_
              rw [if_pos (e3 ▸ zI_n h65), ← e2] at ih
              exact ih
  refine E_aload0 (q := 1) dX6_shared_0 rfl ?_
  refine E_aload0 (q := 2) dX6_shared_1 rfl ?_
  refine E_iload1 (q := 3) dX6_shared_2 rfl ?_
  refine C_V1I (q := 6) lk_X6_87 (sp_X6_isVerT h ((VerA_nI (by omega)).mpr ⟨hu, htu⟩)) rc_X6 dX6_shared_3 (by decide) (Nat.le_of_ble_eq_true rfl) rfl ?_
  refine E_if_eq (tgt := 21) (q := 9) dX6_shared_6 (by decide) rfl (fun h6 => ?_) (fun h6 => ?_)
  · first | exact absurd h6 (by decide) | exact absurd (by decide) h6
  · skip
    refine E_aload0 (q := 10) dX6_shared_9 rfl ?_
    refine E_iload2 (q := 11) dX6_shared_10 rfl ?_
    refine C_V1I (q := 14) lk_X6_87 (sp_X6_isVerT h ((VerA_nI (by omega)).mpr ⟨hw, ht⟩)) rc_X6 dX6_shared_11 (by decide) (Nat.le_of_ble_eq_true rfl) rfl ?_
    refine E_if_eq (tgt := 21) (q := 17) dX6_shared_14 (by decide) rfl (fun h14 => ?_) (fun h14 => ?_)
    · first | exact absurd h14 (by decide) | exact absurd (by decide) h14
    · skip
      refine E_iconst (v := nI 1) (q := 18) dX6_shared_17 (by decide) rfl ?_
      refine E_goto (q := 22) dX6_shared_18 (by decide) ?_
      refine C_V1I (q := 25) lk_X6_128 (sp_X6_failsT) rc_X6 dX6_shared_22 (by decide) (Nat.le_of_ble_eq_true rfl) rfl ?_
      refine E_if_eq (tgt := 30) (q := 28) dX6_shared_25 (by decide) rfl (fun h25 => ?_) (fun h25 => ?_)
      · skip
        refine E_iconst (v := nI 0) (q := 31) dX6_shared_30 (by decide) rfl ?_
        refine E_istore3 (q := 32) dX6_shared_31 rfl rfl ?_
        refine E_iconst (v := nI 0) (q := 33) dX6_shared_32 (by decide) rfl ?_
        refine E_istore4 (q := 35) dX6_shared_33 rfl rfl ?_
        exact hmain
      · first | exact absurd h25 (by decide) | exact absurd (by decide) h25
theorem sp_X6_unlike {u w : Nat} (h : RI M wx A) (hu : u < 22) (htu : th A u) (hw : w < 22) (ht : th A w) : Spec D 12 yX6_unlike cfX6_unlike [.ref (ad 157), .int (nI (u)), .int (nI (w))] (wl D ad M) 0 0 (PI (nI (bset (fun i => bAt A.2 u i ≠ bAt A.2 w i) 12)) (wl D ad (upd2 M 157 4 (nI 0)))) := by
  refine Spec.of (by decide) rfl (Nat.le_of_ble_eq_true rfl) rfl ?_
  have hmain : V D cfX6_unlike (rmOf 12 0 0) (QM D (PI (nI (bset (fun i => bAt A.2 u i ≠ bAt A.2 w i) 12)) (wl D ad (upd2 M 157 4 (nI 0)))) 0 0) 0 0 35 [some (.ref (ad 157)), some (.int (nI (u))), some (.int (nI (w))), some (.int (nI (0))), some (.int (nI (0)))] [] (wl D ad (upd2 M 157 4 (nI 0))) := by
    refine upto0 (n := 12) (P := fun k => V D cfX6_unlike (rmOf 12 0 0) (QM D (PI (nI (bset (fun i => bAt A.2 u i ≠ bAt A.2 w i) 12)) (wl D ad (upd2 M 157 4 (nI 0)))) 0 0) 0 0 35 [some (.ref (ad 157)), some (.int (nI (u))), some (.int (nI (w))), some (.int (nI (bset (fun i => bAt A.2 u i ≠ bAt A.2 w i) k))), some (.int (nI (k)))] [] (wl D ad (upd2 M 157 4 (nI 0)))) ?_ ?_
    · skip
      refine E_iload4 (q := 37) dX6_unlike_35 rfl ?_
      refine E_bipush (v := nI 12) (q := 39) dX6_unlike_37 (by decide) rfl ?_
      refine E_icmp_geN (tgt := 76) (q := 42) dX6_unlike_39 (by decide) rfl (by omega) (by omega) (fun h39 => ?_) (fun h39 => ?_)
      · skip
        refine E_iload3 (q := 77) dX6_unlike_76 rfl ?_
        exact E_ireturn rfl rfl dX6_unlike_77 (PI_of rfl rfl)
      · skip
        exact absurd h39 (by omega)
    · intro i hi ih
      have hb := h.bt u i
      have hb2 := h.bt w i
      refine E_iload4 (q := 37) dX6_unlike_35 rfl ?_
      refine E_bipush (v := nI 12) (q := 39) dX6_unlike_37 (by decide) rfl ?_
      refine E_icmp_geN (tgt := 76) (q := 42) dX6_unlike_39 (by decide) rfl (by omega) (by omega) (fun h39 => ?_) (fun h39 => ?_)
      · skip
        exact absurd h39 (by omega)
      · skip
        refine E_iload3 (q := 43) dX6_unlike_42 rfl ?_
        refine E_aload0 (q := 44) dX6_unlike_43 rfl ?_
        refine E_iload1 (q := 45) dX6_unlike_44 rfl ?_
        refine E_iload4 (q := 47) dX6_unlike_45 rfl ?_
        refine C_V2I (q := 50) lk_X6_77 (sp_X6_birthA h.fl (by omega) (by omega)) rc_X6 dX6_unlike_47 (by decide) (Nat.le_of_ble_eq_true rfl) rfl ?_
        refine E_aload0 (q := 51) dX6_unlike_50 rfl ?_
        refine E_iload2 (q := 52) dX6_unlike_51 rfl ?_
        refine E_iload4 (q := 54) dX6_unlike_52 rfl ?_
        refine C_V2I (q := 57) lk_X6_77 (sp_X6_birthA h.fl (by omega) (by omega)) rc_X6 dX6_unlike_54 (by decide) (Nat.le_of_ble_eq_true rfl) rfl ?_
        refine E_icmp_eqN (tgt := 67) (q := 60) dX6_unlike_57 (by decide) rfl (by omega) (by omega) (fun h57 => ?_) (fun h57 => ?_)
        · skip
          refine E_iconst (v := nI 0) (q := 68) dX6_unlike_67 (by decide) rfl ?_
          refine E_iorN (q := 69) dX6_unlike_68 (bset_off (n := i) (fun z => z h57)) rfl ?_
          refine E_istore3 (q := 70) dX6_unlike_69 rfl rfl ?_
          refine E_iinc4 (q := 73) dX6_unlike_70 (nI_inc _) rfl rfl ?_
          refine E_goto (q := 35) dX6_unlike_73 (by decide) ?_
          exact ih
        · skip
          refine E_iconst (v := nI 1) (q := 61) dX6_unlike_60 (by decide) rfl ?_
          refine E_iload4 (q := 63) dX6_unlike_61 rfl ?_
          refine E_ishl (q := 64) dX6_unlike_63 rfl ?_
          refine V_int (one_shl (by omega)) ?_
          refine E_goto (q := 68) dX6_unlike_64 (by decide) ?_
          refine E_iorN (q := 69) dX6_unlike_68 (bset_on (n := i) h57) rfl ?_
          refine E_istore3 (q := 70) dX6_unlike_69 rfl rfl ?_
          refine E_iinc4 (q := 73) dX6_unlike_70 (nI_inc _) rfl rfl ?_
          refine E_goto (q := 35) dX6_unlike_73 (by decide) ?_
          exact ih
  refine E_aload0 (q := 1) dX6_unlike_0 rfl ?_
  refine E_aload0 (q := 2) dX6_unlike_1 rfl ?_
  refine E_iload1 (q := 3) dX6_unlike_2 rfl ?_
  refine C_V1I (q := 6) lk_X6_87 (sp_X6_isVerT h ((VerA_nI (by omega)).mpr ⟨hu, htu⟩)) rc_X6 dX6_unlike_3 (by decide) (Nat.le_of_ble_eq_true rfl) rfl ?_
  refine E_if_eq (tgt := 21) (q := 9) dX6_unlike_6 (by decide) rfl (fun h6 => ?_) (fun h6 => ?_)
  · first | exact absurd h6 (by decide) | exact absurd (by decide) h6
  · skip
    refine E_aload0 (q := 10) dX6_unlike_9 rfl ?_
    refine E_iload2 (q := 11) dX6_unlike_10 rfl ?_
    refine C_V1I (q := 14) lk_X6_87 (sp_X6_isVerT h ((VerA_nI (by omega)).mpr ⟨hw, ht⟩)) rc_X6 dX6_unlike_11 (by decide) (Nat.le_of_ble_eq_true rfl) rfl ?_
    refine E_if_eq (tgt := 21) (q := 17) dX6_unlike_14 (by decide) rfl (fun h14 => ?_) (fun h14 => ?_)
    · first | exact absurd h14 (by decide) | exact absurd (by decide) h14
    · skip
      refine E_iconst (v := nI 1) (q := 18) dX6_unlike_17 (by decide) rfl ?_
      refine E_goto (q := 22) dX6_unlike_18 (by decide) ?_
      refine C_V1I (q := 25) lk_X6_128 (sp_X6_failsT) rc_X6 dX6_unlike_22 (by decide) (Nat.le_of_ble_eq_true rfl) rfl ?_
      refine E_if_eq (tgt := 30) (q := 28) dX6_unlike_25 (by decide) rfl (fun h25 => ?_) (fun h25 => ?_)
      · skip
        refine E_iconst (v := nI 0) (q := 31) dX6_unlike_30 (by decide) rfl ?_
        refine E_istore3 (q := 32) dX6_unlike_31 rfl rfl ?_
        refine E_iconst (v := nI 0) (q := 33) dX6_unlike_32 (by decide) rfl ?_
        refine E_istore4 (q := 35) dX6_unlike_33 rfl rfl ?_
        exact hmain
      · first | exact absurd h25 (by decide) | exact absurd (by decide) h25
theorem sp_X6_writtenSince {v s : Nat} (h : RI M wx A) (hv : v < 6) (ht : th A (16 + v)) (hs : s < 16) (hts : th A s) : Spec D 12 yX6_writtenSince cfX6_writtenSince [.ref (ad 157), .int (nI (v)), .int (nI (s))] (wl D ad M) 0 0 (PI (nI (fsum (fun x => if (own x).testBit (16 + v) = true then (if stm A s < x.1 then siz x else 0) else 0) A.2)) (wl D ad (upd2 M 157 4 (nI 0)))) := by
  refine Spec.of (by decide) rfl (Nat.le_of_ble_eq_true rfl) rfl ?_
  have hst := (h.2.2.1.2.2.2.2.1 s hs hts).2.2.2.1
  have hT := h.2.2.1.1.1
  have hmain : V D cfX6_writtenSince (rmOf 12 0 0) (QM D (PI (nI (fsum (fun x => if (own x).testBit (16 + v) = true then (if stm A s < x.1 then siz x else 0) else 0) A.2)) (wl D ad (upd2 M 157 4 (nI 0)))) 0 0) 0 0 35 [some (.ref (ad 157)), some (.int (nI (v))), some (.int (nI (s))), some (.int (nI (0))), some (.int (nI (0)))] [] (wl D ad (upd2 M 157 4 (nI 0))) := by
    refine upto0 (n := 12) (P := fun i => V D cfX6_writtenSince (rmOf 12 0 0) (QM D (PI (nI (fsum (fun x => if (own x).testBit (16 + v) = true then (if stm A s < x.1 then siz x else 0) else 0) A.2)) (wl D ad (upd2 M 157 4 (nI 0)))) 0 0) 0 0 35 [some (.ref (ad 157)), some (.int (nI (v))), some (.int (nI (s))), some (.int (nI (nsum (av A (16 + v) (fun x => if stm A s < x.1 then siz x else 0)) i))), some (.int (nI (i)))] [] (wl D ad (upd2 M 157 4 (nI 0)))) ?_ ?_
    · skip
      refine E_iload4 (q := 37) dX6_writtenSince_35 rfl ?_
      refine E_bipush (v := nI 12) (q := 39) dX6_writtenSince_37 (by decide) rfl ?_
      refine E_icmp_geN (tgt := 84) (q := 42) dX6_writtenSince_39 (by decide) rfl (by omega) (by omega) (fun h39 => ?_) (fun h39 => ?_)
      · skip
        refine E_iload3 (q := 85) dX6_writtenSince_84 rfl ?_
        exact E_ireturn rfl rfl dX6_writtenSince_85 (PI_of (congrArg nI (av_sum h.2.2.2.2 (16 + v) _)) rfl)
      · skip
        exact absurd h39 (by omega)
    · intro i hi ih
      have hb := h.bt (16 + v) i
      rw [nsum_s] at ih
      rcases av_case h.2.2.2.2 (16 + v) (fun x => if stm A s < x.1 then siz x else 0) i with ⟨e0, e1⟩ | ⟨x, hx, e1, e2, e3, e4, e5, e6⟩
      · rw [e1] at ih
        refine E_iload4 (q := 37) dX6_writtenSince_35 rfl ?_
        refine E_bipush (v := nI 12) (q := 39) dX6_writtenSince_37 (by decide) rfl ?_
        refine E_icmp_geN (tgt := 84) (q := 42) dX6_writtenSince_39 (by decide) rfl (by omega) (by omega) (fun h39 => ?_) (fun h39 => ?_)
        · skip
          exact absurd h39 (by omega)
        · skip
          refine E_iload3 (q := 43) dX6_writtenSince_42 rfl ?_
          refine E_aload0 (q := 44) dX6_writtenSince_43 rfl ?_
          refine E_bipush (v := nI 16) (q := 46) dX6_writtenSince_44 (by decide) rfl ?_
          refine E_iload1 (q := 47) dX6_writtenSince_46 rfl ?_
          refine E_iaddN (q := 48) dX6_writtenSince_47 rfl ?_
          refine E_iload4 (q := 50) dX6_writtenSince_48 rfl ?_
          refine C_V2I (q := 53) lk_X6_77 (sp_X6_birthA h.fl (by omega) (by omega)) rc_X6 dX6_writtenSince_50 (by decide) (Nat.le_of_ble_eq_true rfl) rfl ?_
          refine E_aload0 (q := 54) dX6_writtenSince_53 rfl ?_
          refine E_iload2 (q := 55) dX6_writtenSince_54 rfl ?_
          refine E_iconst (v := nI 2) (q := 56) dX6_writtenSince_55 (by decide) rfl ?_
          refine C_V2I (q := 59) lk_X6_67 (sp_X6_snpT h.fl hs hts) rc_X6 dX6_writtenSince_56 (by decide) (Nat.le_of_ble_eq_true rfl) rfl ?_
          refine E_icmp_leN (tgt := 75) (q := 62) dX6_writtenSince_59 (by decide) rfl (by omega) (by omega) (fun h59 => ?_) (fun h59 => ?_)
          · skip
            refine E_iconst (v := nI 0) (q := 76) dX6_writtenSince_75 (by decide) rfl ?_
            refine E_iaddN (q := 77) dX6_writtenSince_76 rfl ?_
            refine E_istore3 (q := 78) dX6_writtenSince_77 rfl rfl ?_
            refine E_iinc4 (q := 81) dX6_writtenSince_78 (nI_inc _) rfl rfl ?_
            refine E_goto (q := 35) dX6_writtenSince_81 (by decide) ?_
            exact ih
          · skip
            exact absurd h59 (by omega)
      · rw [e6] at ih
        refine E_iload4 (q := 37) dX6_writtenSince_35 rfl ?_
        refine E_bipush (v := nI 12) (q := 39) dX6_writtenSince_37 (by decide) rfl ?_
        refine E_icmp_geN (tgt := 84) (q := 42) dX6_writtenSince_39 (by decide) rfl (by omega) (by omega) (fun h39 => ?_) (fun h39 => ?_)
        · skip
          exact absurd h39 (by omega)
        · skip
          refine E_iload3 (q := 43) dX6_writtenSince_42 rfl ?_
          refine E_aload0 (q := 44) dX6_writtenSince_43 rfl ?_
          refine E_bipush (v := nI 16) (q := 46) dX6_writtenSince_44 (by decide) rfl ?_
          refine E_iload1 (q := 47) dX6_writtenSince_46 rfl ?_
          refine E_iaddN (q := 48) dX6_writtenSince_47 rfl ?_
          refine E_iload4 (q := 50) dX6_writtenSince_48 rfl ?_
          refine C_V2I (q := 53) lk_X6_77 (sp_X6_birthA h.fl (by omega) (by omega)) rc_X6 dX6_writtenSince_50 (by decide) (Nat.le_of_ble_eq_true rfl) rfl ?_
          refine E_aload0 (q := 54) dX6_writtenSince_53 rfl ?_
          refine E_iload2 (q := 55) dX6_writtenSince_54 rfl ?_
          refine E_iconst (v := nI 2) (q := 56) dX6_writtenSince_55 (by decide) rfl ?_
          refine C_V2I (q := 59) lk_X6_67 (sp_X6_snpT h.fl hs hts) rc_X6 dX6_writtenSince_56 (by decide) (Nat.le_of_ble_eq_true rfl) rfl ?_
          refine E_icmp_leN (tgt := 75) (q := 62) dX6_writtenSince_59 (by decide) rfl (by omega) (by omega) (fun h59 => ?_) (fun h59 => ?_)
          · skip
            refine E_iconst (v := nI 0) (q := 76) dX6_writtenSince_75 (by decide) rfl ?_
            refine E_iaddN (q := 77) dX6_writtenSince_76 rfl ?_
            refine E_istore3 (q := 78) dX6_writtenSince_77 rfl rfl ?_
            refine E_iinc4 (q := 81) dX6_writtenSince_78 (nI_inc _) rfl rfl ?_
            refine E_goto (q := 35) dX6_writtenSince_81 (by decide) ?_
            rw [if_neg (by omega)] at ih
            exact ih
          · skip
            refine E_aload0 (q := 63) dX6_writtenSince_62 rfl ?_
            refine E_bipush (v := nI 16) (q := 65) dX6_writtenSince_63 (by decide) rfl ?_
            refine E_iload1 (q := 66) dX6_writtenSince_65 rfl ?_
            refine E_iaddN (q := 67) dX6_writtenSince_66 rfl ?_
            refine E_iload4 (q := 69) dX6_writtenSince_67 rfl ?_
            refine C_V2I (q := 72) lk_X6_80 (sp_X6_unitsA h.fl (by omega) (by omega)) rc_X6 dX6_writtenSince_69 (by decide) (Nat.le_of_ble_eq_true rfl) rfl ?_
            refine E_goto (q := 76) dX6_writtenSince_72 (by decide) ?_
            refine E_iaddN (q := 77) dX6_writtenSince_76 rfl ?_
            refine E_istore3 (q := 78) dX6_writtenSince_77 rfl rfl ?_
            refine E_iinc4 (q := 81) dX6_writtenSince_78 (nI_inc _) rfl rfl ?_
            refine E_goto (q := 35) dX6_writtenSince_81 (by decide) ?_
            rw [if_pos (by omega), ← e2] at ih
            exact ih
  refine E_aload0 (q := 1) dX6_writtenSince_0 rfl ?_
  refine E_aload0 (q := 2) dX6_writtenSince_1 rfl ?_
  refine E_iload1 (q := 3) dX6_writtenSince_2 rfl ?_
  refine C_V1I (q := 6) lk_X6_74 (sp_X6_isVolT h ((VolA_nI (by omega)).mpr ⟨hv, ht⟩)) rc_X6 dX6_writtenSince_3 (by decide) (Nat.le_of_ble_eq_true rfl) rfl ?_
  refine E_if_eq (tgt := 21) (q := 9) dX6_writtenSince_6 (by decide) rfl (fun h6 => ?_) (fun h6 => ?_)
  · first | exact absurd h6 (by decide) | exact absurd (by decide) h6
  · skip
    refine E_aload0 (q := 10) dX6_writtenSince_9 rfl ?_
    refine E_iload2 (q := 11) dX6_writtenSince_10 rfl ?_
    refine C_V1I (q := 14) lk_X6_70 (sp_X6_isSnpT h ((SnpA_nI (by omega)).mpr ⟨hs, hts⟩)) rc_X6 dX6_writtenSince_11 (by decide) (Nat.le_of_ble_eq_true rfl) rfl ?_
    refine E_if_eq (tgt := 21) (q := 17) dX6_writtenSince_14 (by decide) rfl (fun h14 => ?_) (fun h14 => ?_)
    · first | exact absurd h14 (by decide) | exact absurd (by decide) h14
    · skip
      refine E_iconst (v := nI 1) (q := 18) dX6_writtenSince_17 (by decide) rfl ?_
      refine E_goto (q := 22) dX6_writtenSince_18 (by decide) ?_
      refine C_V1I (q := 25) lk_X6_128 (sp_X6_failsT) rc_X6 dX6_writtenSince_22 (by decide) (Nat.le_of_ble_eq_true rfl) rfl ?_
      refine E_if_eq (tgt := 30) (q := 28) dX6_writtenSince_25 (by decide) rfl (fun h25 => ?_) (fun h25 => ?_)
      · skip
        refine E_iconst (v := nI 0) (q := 31) dX6_writtenSince_30 (by decide) rfl ?_
        refine E_istore3 (q := 32) dX6_writtenSince_31 rfl rfl ?_
        refine E_iconst (v := nI 0) (q := 33) dX6_writtenSince_32 (by decide) rfl ?_
        refine E_istore4 (q := 35) dX6_writtenSince_33 rfl rfl ?_
        exact hmain
      · first | exact absurd h25 (by decide) | exact absurd (by decide) h25
theorem sp_X6_sameAt {w a : Nat} (h : RI M wx A) (hw : w < 22) (ht : th A w) (ha : a < 12) : Spec D 12 yX6_sameAt cfX6_sameAt [.ref (ad 157), .int (nI (w)), .int (nI (a))] (wl D ad M) 0 0 (PI (nI (bset (fun v => th A v ∧ bAt A.2 v a = bAt A.2 w a) 22)) (wl D ad (upd2 M 157 4 (nI 0)))) := by
  refine Spec.of (by decide) rfl (Nat.le_of_ble_eq_true rfl) rfl ?_
  have hb2 := h.bt w a
  have hmain : V D cfX6_sameAt (rmOf 12 0 0) (QM D (PI (nI (bset (fun v => th A v ∧ bAt A.2 v a = bAt A.2 w a) 22)) (wl D ad (upd2 M 157 4 (nI 0)))) 0 0) 0 0 34 [some (.ref (ad 157)), some (.int (nI (w))), some (.int (nI (a))), some (.int (nI (0))), some (.int (nI (0)))] [] (wl D ad (upd2 M 157 4 (nI 0))) := by
    refine upto0 (n := 22) (P := fun k => V D cfX6_sameAt (rmOf 12 0 0) (QM D (PI (nI (bset (fun v => th A v ∧ bAt A.2 v a = bAt A.2 w a) 22)) (wl D ad (upd2 M 157 4 (nI 0)))) 0 0) 0 0 34 [some (.ref (ad 157)), some (.int (nI (w))), some (.int (nI (a))), some (.int (nI (bset (fun v => th A v ∧ bAt A.2 v a = bAt A.2 w a) k))), some (.int (nI (k)))] [] (wl D ad (upd2 M 157 4 (nI 0)))) ?_ ?_
    · skip
      refine E_iload4 (q := 36) dX6_sameAt_34 rfl ?_
      refine E_bipush (v := nI 22) (q := 38) dX6_sameAt_36 (by decide) rfl ?_
      refine E_icmp_geN (tgt := 83) (q := 41) dX6_sameAt_38 (by decide) rfl (by omega) (by omega) (fun h38 => ?_) (fun h38 => ?_)
      · skip
        refine E_iload3 (q := 84) dX6_sameAt_83 rfl ?_
        exact E_ireturn rfl rfl dX6_sameAt_84 (PI_of rfl rfl)
      · skip
        exact absurd h38 (by omega)
    · intro i hi ih
      have hb := h.bt i a
      refine E_iload4 (q := 36) dX6_sameAt_34 rfl ?_
      refine E_bipush (v := nI 22) (q := 38) dX6_sameAt_36 (by decide) rfl ?_
      refine E_icmp_geN (tgt := 83) (q := 41) dX6_sameAt_38 (by decide) rfl (by omega) (by omega) (fun h38 => ?_) (fun h38 => ?_)
      · skip
        exact absurd h38 (by omega)
      · skip
        refine E_iload3 (q := 42) dX6_sameAt_41 rfl ?_
        refine E_aload0 (q := 43) dX6_sameAt_42 rfl ?_
        refine E_iload4 (q := 45) dX6_sameAt_43 rfl ?_
        refine C_V1I (q := 48) lk_X6_87 (sp_X6_isVerN h.fl.1 h.fl.2.1 h.2.2.1 (by omega)) rc_X6 dX6_sameAt_45 (by decide) (Nat.le_of_ble_eq_true rfl) rfl ?_
        refine E_if_eq (tgt := 74) (q := 51) dX6_sameAt_48 (by decide) rfl (fun h48 => ?_) (fun h48 => ?_)
        · skip
          refine E_iconst (v := nI 0) (q := 75) dX6_sameAt_74 (by decide) rfl ?_
          refine E_iorN (q := 76) dX6_sameAt_75 (bset_off (n := i) (fun z => zI_0 h48 z.1)) rfl ?_
          refine E_istore3 (q := 77) dX6_sameAt_76 rfl rfl ?_
          refine E_iinc4 (q := 80) dX6_sameAt_77 (nI_inc _) rfl rfl ?_
          refine E_goto (q := 34) dX6_sameAt_80 (by decide) ?_
          exact ih
        · skip
          refine E_aload0 (q := 52) dX6_sameAt_51 rfl ?_
          refine E_iload4 (q := 54) dX6_sameAt_52 rfl ?_
          refine E_iload2 (q := 55) dX6_sameAt_54 rfl ?_
          refine C_V2I (q := 58) lk_X6_77 (sp_X6_birthA h.fl (by omega) (by omega)) rc_X6 dX6_sameAt_55 (by decide) (Nat.le_of_ble_eq_true rfl) rfl ?_
          refine E_aload0 (q := 59) dX6_sameAt_58 rfl ?_
          refine E_iload1 (q := 60) dX6_sameAt_59 rfl ?_
          refine E_iload2 (q := 61) dX6_sameAt_60 rfl ?_
          refine C_V2I (q := 64) lk_X6_77 (sp_X6_birthA h.fl (by omega) (by omega)) rc_X6 dX6_sameAt_61 (by decide) (Nat.le_of_ble_eq_true rfl) rfl ?_
          refine E_icmp_neN (tgt := 74) (q := 67) dX6_sameAt_64 (by decide) rfl (by omega) (by omega) (fun h64 => ?_) (fun h64 => ?_)
          · skip
            refine E_iconst (v := nI 0) (q := 75) dX6_sameAt_74 (by decide) rfl ?_
            refine E_iorN (q := 76) dX6_sameAt_75 (bset_off (n := i) (fun z => h64 z.2)) rfl ?_
            refine E_istore3 (q := 77) dX6_sameAt_76 rfl rfl ?_
            refine E_iinc4 (q := 80) dX6_sameAt_77 (nI_inc _) rfl rfl ?_
            refine E_goto (q := 34) dX6_sameAt_80 (by decide) ?_
            exact ih
          · skip
            refine E_iconst (v := nI 1) (q := 68) dX6_sameAt_67 (by decide) rfl ?_
            refine E_iload4 (q := 70) dX6_sameAt_68 rfl ?_
            refine E_ishl (q := 71) dX6_sameAt_70 rfl ?_
            refine V_int (one_shl (by omega)) ?_
            refine E_goto (q := 75) dX6_sameAt_71 (by decide) ?_
            refine E_iorN (q := 76) dX6_sameAt_75 (bset_on (n := i) ⟨zI_n h48, h64⟩) rfl ?_
            refine E_istore3 (q := 77) dX6_sameAt_76 rfl rfl ?_
            refine E_iinc4 (q := 80) dX6_sameAt_77 (nI_inc _) rfl rfl ?_
            refine E_goto (q := 34) dX6_sameAt_80 (by decide) ?_
            exact ih
  refine E_aload0 (q := 1) dX6_sameAt_0 rfl ?_
  refine E_aload0 (q := 2) dX6_sameAt_1 rfl ?_
  refine E_iload1 (q := 3) dX6_sameAt_2 rfl ?_
  refine C_V1I (q := 6) lk_X6_87 (sp_X6_isVerT h ((VerA_nI (by omega)).mpr ⟨hw, ht⟩)) rc_X6 dX6_sameAt_3 (by decide) (Nat.le_of_ble_eq_true rfl) rfl ?_
  refine E_if_eq (tgt := 20) (q := 9) dX6_sameAt_6 (by decide) rfl (fun h6 => ?_) (fun h6 => ?_)
  · first | exact absurd h6 (by decide) | exact absurd (by decide) h6
  · skip
    refine E_iload2 (q := 10) dX6_sameAt_9 rfl ?_
    refine C_S1I (q := 13) lk_X6_141 (sp_X6_isAdrT ⟨a, ha, rfl⟩) dX6_sameAt_10 (by decide) (Nat.le_of_ble_eq_true rfl) rfl ?_
    refine E_if_eq (tgt := 20) (q := 16) dX6_sameAt_13 (by decide) rfl (fun h13 => ?_) (fun h13 => ?_)
    · first | exact absurd h13 (by decide) | exact absurd (by decide) h13
    · skip
      refine E_iconst (v := nI 1) (q := 17) dX6_sameAt_16 (by decide) rfl ?_
      refine E_goto (q := 21) dX6_sameAt_17 (by decide) ?_
      refine C_V1I (q := 24) lk_X6_128 (sp_X6_failsT) rc_X6 dX6_sameAt_21 (by decide) (Nat.le_of_ble_eq_true rfl) rfl ?_
      refine E_if_eq (tgt := 29) (q := 27) dX6_sameAt_24 (by decide) rfl (fun h24 => ?_) (fun h24 => ?_)
      · skip
        refine E_iconst (v := nI 0) (q := 30) dX6_sameAt_29 (by decide) rfl ?_
        refine E_istore3 (q := 31) dX6_sameAt_30 rfl rfl ?_
        refine E_iconst (v := nI 0) (q := 32) dX6_sameAt_31 (by decide) rfl ?_
        refine E_istore4 (q := 34) dX6_sameAt_32 rfl rfl ?_
        exact hmain
      · first | exact absurd h24 (by decide) | exact absurd (by decide) h24
theorem sp_X6_holders {p : Int32} (h : RI M wx A) : Spec D 12 yX6_holders cfX6_holders [.ref (ad 157), .int (p)] (wl D ad M) 0 0 (PI (owV A p) (wl D ad (upd2 M 157 4 (nI 0)))) := by
  refine Spec.of (by decide) rfl (Nat.le_of_ble_eq_true rfl) rfl ?_
  have hT := h.2.2.1.1.1
  have h0 : ∀ x, x ∈ A.2 → nI x.1 ≠ 0 := fun x hx z => by
    have := h.2.2.2.2.2 x hx
    have := (nI_z (by omega)).mp z
    omega
  refine E_aload0 (q := 1) dX6_holders_0 rfl ?_
  refine E_iconst (v := nI 0) (q := 2) dX6_holders_1 (by decide) rfl ?_
  refine P_X6_thrown (q := 5) fl_X6_43 dX6_holders_2 rfl ?_
  refine E_iload1 (q := 6) dX6_holders_5 rfl ?_
  refine E_if_ne (tgt := 13) (q := 9) dX6_holders_6 (by decide) rfl (fun h6 => ?_) (fun h6 => ?_)
  · skip
    refine E_aload0 (q := 14) dX6_holders_13 rfl ?_
    refine E_iload1 (q := 15) dX6_holders_14 rfl ?_
    refine C_V1I (q := 18) lk_X6_94 (sp_X6_holdersOf h.1) rc_X6 dX6_holders_15 (by decide) (Nat.le_of_ble_eq_true rfl) rfl ?_
    have hv : bset (fun v => verN (upd2 M 157 4 (nI 0) wx) v ∧ hasB (upd2 M 157 4 (nI 0) wx) v p) 22 = bset (fun v => verN (M wx) v ∧ hasB (M wx) v p) 22 := by rw [upd2_row (fun z => h.1.ne z)]
    exact E_ireturn rfl rfl dX6_holders_18 (PI_of (by rw [hv]; exact hold_ow h h6) rfl)
  · skip
    refine E_iconst (v := nI 0) (q := 10) dX6_holders_9 (by decide) rfl ?_
    refine E_goto (q := 18) dX6_holders_10 (by decide) ?_
    exact E_ireturn rfl rfl dX6_holders_18 (PI_of (by rw [h6]; exact (szV_miss h0).2.symm) rfl)

end MODEL
