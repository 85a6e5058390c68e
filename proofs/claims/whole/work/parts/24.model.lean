
/-! THE REFERENCE: what its methods answer, further searches -/
section VALS
variable {A : AS}
/-- the blocks of the version ahead that w hasn't, in the order of births -/
def deadL (A : AS) (p w : Nat) : List Blk := A.2.filter (fun x => (own x).testBit p && !(own x).testBit w)
/-- the birth of the q-th -/
def nthV (L : List Blk) (q : Int32) : Int32 := if 0 ≤ q then (match L[q.toNatClampNeg]? with | some x => nI x.1 | none => -1) else -1
theorem nthV_nI {L : List Blk} {k : Nat} (hk : k < 2 ^ 31) : nthV L (nI k) = match L[k]? with | some x => nI x.1 | none => -1 := by
  unfold nthV
  rw [if_pos (nI_ge0 hk), show (nI k).toNatClampNeg = k from nI_clamp hk]
theorem nthV_neg {L : List Blk} {q : Int32} (h : ¬ 0 ≤ q) : nthV L q = -1 := if_neg h
theorem nthV_hit {L : List Blk} {k : Nat} {x : Blk} (hk : k < 2 ^ 31) (h : L[k]? = some x) : nthV L (nI k) = nI x.1 := by rw [nthV_nI hk, h]
theorem nthV_miss {L : List Blk} {q : Int32} (h : ∀ k x, L[k]? = some x → k < 2 ^ 31 → q ≠ nI k) : nthV L q = -1 := by
  by_cases h0 : 0 ≤ q
  · obtain ⟨k, hk, rfl⟩ := nI_of (x := q) (fun z => Int32.not_lt.mpr h0 z)
    rw [nthV_nI hk]
    cases hx : L[k]? with
    | none => rfl
    | some x => exact absurd rfl (h k x hx hk)
  · exact nthV_neg h0
def snc (A : AS) (s : Nat) : Nat := match ahd A s with
  | 0 => 0
  | p + 1 => stm A p
def ahdV (A : AS) (w : Nat) (f : Nat → Int32) (d : Int32) : Int32 := match ahd A w with
  | 0 => d
  | p + 1 => f p
theorem pw_rank {L : List Blk} (h : L.Pairwise (fun x y => x.1 < y.1)) {k : Nat} {x : Blk} (hk : L[k]? = some x) : (L.filter (fun y => decide (y.1 < x.1))).length = k := by
  induction L generalizing k with
  | nil => simp at hk
  | cons y L ih =>
    obtain ⟨h1, h2⟩ := List.pairwise_cons.mp h
    cases k with
    | zero =>
      have : y = x := by simpa using hk
      subst this
      rw [List.length_eq_zero_iff, List.filter_eq_nil_iff]
      intro z hz
      rcases List.mem_cons.mp hz with rfl | hz
      · simp
      · have := h1 z hz; simp; omega
    | succ k =>
      have hk' : L[k]? = some x := by simpa using hk
      have := h1 x (List.mem_of_getElem? hk')
      rw [List.filter_cons_of_pos (by simpa using this), List.length_cons, ih h2 hk']
theorem fsum_len (p : Blk → Bool) (bl : List Blk) : fsum (fun x => if p x = true then 1 else 0) bl = (bl.filter p).length := by
  induction bl with
  | nil => rfl
  | cons x bl ih =>
    rw [fsum_cons, ih]
    by_cases h : p x = true
    · rw [if_pos h, List.filter_cons_of_pos h, List.length_cons]; omega
    · rw [if_neg h, List.filter_cons_of_neg h]; omega
theorem BPW.lt {bl : List Blk} (h : BPW bl) : bl.Pairwise (fun x y => x.1 < y.1) := h.imp fun q => q.1
/-- the dead ones with smaller births -/
theorem dead_rank (h : WFB A) {p w k : Nat} {x : Blk} (hk : (deadL A p w)[k]? = some x) :
    fsum (fun y => if (own y).testBit p = true then (if (own y).testBit w = true then 0 else if y.1 < x.1 then 1 else 0) else 0) A.2 = k := by
  rw [← pw_rank (BPW.lt (bl := deadL A p w) (List.Pairwise.filter _ h.1)) hk, deadL, List.filter_filter, ← fsum_len]
  refine fsum_congr fun y _ => ?_
  by_cases h1 : (own y).testBit p = true <;> by_cases h2 : (own y).testBit w = true <;> by_cases h3 : y.1 < x.1 <;> simp [h1, h2, h3]
theorem bV_pos {m : Nat} (h : m ≠ 0) : bV m = nI m := if_neg h
theorem maxN_s (f : Nat → Nat) (n : Nat) : maxN f (n + 1) = if maxN f n < f n then f n else maxN f n := rfl
theorem minN_s (f : Nat → Nat) (n : Nat) : minN f (n + 1) = if f n = 0 then minN f n else if minN f n = 0 then f n else if f n ≤ minN f n then f n else minN f n := rfl
/-- in the order of births: what stands ahead of a given birth -/
def besF (A : AS) (v : Nat) (x : Blk) : Nat := match org A v with
  | 0 => siz x
  | s + 1 => if (own x).testBit s = true then 0 else siz x
end VALS
section MODEL
theorem no_blk {M : Mem} {wx : Nat} {A : AS} {p : Int32} {i : Nat} (h : RI M wx A) (hno : ∀ v, v < i → ∀ a, a < 12 → p = 0 ∨ nI (bAt A.2 v a) ≠ p) (hi : ¬ th A i) : ∀ v, v < i + 1 → ∀ a, a < 12 → p = 0 ∨ nI (bAt A.2 v a) ≠ p := fun v hv a ha => by
  rcases Nat.lt_or_ge v i with q | q
  · exact hno v q a ha
  · have : v = i := by omega
    subst this
    by_cases hp : p = 0
    · exact Or.inl hp
    · refine Or.inr fun z => ?_
      cases hx : blkAt A.2 v a with
      | none => rw [(bAt_none hx).1] at z; exact hp z.symm
      | some x =>
        have h1 := blkAt_some hx
        exact hi ((h.2.2.2.2.2 x h1.1).2.2.2.2.2.2.2 v h1.2.2)
variable {D : va_G} {ad : Nat → Nat} {M : Mem} {wx : Nat} {ws : va_W} {A : AS}
theorem sp_X6_sizeOf {p : Int32} (h : RI M wx A) : Spec D 12 yX6_sizeOf cfX6_sizeOf [.ref (ad 157), .int (p)] (wl D ad M) 0 0 (PI (szV A p) (wl D ad (upd2 M 157 4 (nI 0)))) := by
  refine Spec.of (by decide) rfl (Nat.le_of_ble_eq_true rfl) rfl ?_
  have hT := h.2.2.1.1.1
  have hB := h.2.2.2.2
  have hmain : V D cfX6_sizeOf (rmOf 12 0 0) (QM D (PI (szV A p) (wl D ad (upd2 M 157 4 (nI 0)))) 0 0) 0 0 7 [some (.ref (ad 157)), some (.int (p)), some (.int (nI (0))), none] [] (wl D ad (upd2 M 157 4 (nI 0))) := by
    refine (upto0 (n := 22) (P := fun i => (∀ v, v < i → ∀ a, a < 12 → p = 0 ∨ nI (bAt A.2 v a) ≠ p) → V D cfX6_sizeOf (rmOf 12 0 0) (QM D (PI (szV A p) (wl D ad (upd2 M 157 4 (nI 0)))) 0 0) 0 0 7 [some (.ref (ad 157)), some (.int (p)), some (.int (nI (i))), none] [] (wl D ad (upd2 M 157 4 (nI 0)))) ?_ ?_) (fun j hj => absurd hj (by omega))
    · intro hno
      refine E_iload2 (q := 8) dX6_sizeOf_7 rfl ?_
      refine E_bipush (v := nI 22) (q := 10) dX6_sizeOf_8 (by decide) rfl ?_
      refine E_icmp_geN (tgt := 65) (q := 13) dX6_sizeOf_10 (by decide) rfl (by omega) (by omega) (fun h10 => ?_) (fun h10 => ?_)
      · skip
        refine E_iconst (v := -1) (q := 66) dX6_sizeOf_65 (by decide) rfl ?_
        exact E_ireturn rfl rfl dX6_sizeOf_66 (PI_of (szV_miss (fun x hx z => by obtain ⟨w, a, q1, q2, -, q3⟩ := blk_owner hB hx; have q4 := hB.2 x hx; rcases hno w q1 a q2 with q | q; exact absurd ((nI_z (by omega)).mp (z.trans q)) (by omega); exact q (by rw [q3]; exact z))).1.symm rfl)
      · skip
        exact absurd h10 (by omega)
    · intro i hi ih hno
      have hin : (∀ v, v < i + 1 → ∀ a, a < 12 → p = 0 ∨ nI (bAt A.2 v a) ≠ p) → V D cfX6_sizeOf (rmOf 12 0 0) (QM D (PI (szV A p) (wl D ad (upd2 M 157 4 (nI 0)))) 0 0) 0 0 59 [some (.ref (ad 157)), some (.int (p)), some (.int (nI (i))), none] [] (wl D ad (upd2 M 157 4 (nI 0))) := fun hno2 => by
        refine E_iinc2 (q := 62) dX6_sizeOf_59 (nI_inc _) rfl rfl ?_
        refine E_goto (q := 7) dX6_sizeOf_62 (by decide) ?_
        exact ih hno2
      have hmid : V D cfX6_sizeOf (rmOf 12 0 0) (QM D (PI (szV A p) (wl D ad (upd2 M 157 4 (nI 0)))) 0 0) 0 0 26 [some (.ref (ad 157)), some (.int (p)), some (.int (nI (i))), some (.int (nI (0)))] [] (wl D ad (upd2 M 157 4 (nI 0))) := by
        refine (upto0 (n := 12) (P := fun j => (∀ a, a < j → p = 0 ∨ nI (bAt A.2 i a) ≠ p) → V D cfX6_sizeOf (rmOf 12 0 0) (QM D (PI (szV A p) (wl D ad (upd2 M 157 4 (nI 0)))) 0 0) 0 0 26 [some (.ref (ad 157)), some (.int (p)), some (.int (nI (i))), some (.int (nI (j)))] [] (wl D ad (upd2 M 157 4 (nI 0)))) ?_ ?_) (fun j hj => absurd hj (by omega))
        · intro hno2
          refine E_iload3 (q := 27) dX6_sizeOf_26 rfl ?_
          refine E_bipush (v := nI 12) (q := 29) dX6_sizeOf_27 (by decide) rfl ?_
          refine E_icmp_geN (tgt := 59) (q := 32) dX6_sizeOf_29 (by decide) rfl (by omega) (by omega) (fun h29 => ?_) (fun h29 => ?_)
          · skip
            exact V_sub (by repeat (first | exact subL_nil | refine subL_s ?_ | refine subL_n ?_)) (hin (fun v hv a ha => by rcases Nat.lt_or_ge v i with q | q; exact hno v q a ha; rw [show v = i by omega]; exact hno2 a ha))
          · skip
            exact absurd h29 (by omega)
        · intro j hj ih2 hno2
          have hb := h.bt i j
          refine E_iload3 (q := 27) dX6_sizeOf_26 rfl ?_
          refine E_bipush (v := nI 12) (q := 29) dX6_sizeOf_27 (by decide) rfl ?_
          refine E_icmp_geN (tgt := 59) (q := 32) dX6_sizeOf_29 (by decide) rfl (by omega) (by omega) (fun h29 => ?_) (fun h29 => ?_)
          · skip
            exact absurd h29 (by omega)
          · skip
            refine E_aload0 (q := 33) dX6_sizeOf_32 rfl ?_
            refine E_iload2 (q := 34) dX6_sizeOf_33 rfl ?_
            refine E_iload3 (q := 35) dX6_sizeOf_34 rfl ?_
            refine C_V2I (q := 38) lk_X6_77 (sp_X6_birthA h.fl (by omega) (by omega)) rc_X6 dX6_sizeOf_35 (by decide) (Nat.le_of_ble_eq_true rfl) rfl ?_
            refine E_iload1 (q := 39) dX6_sizeOf_38 rfl ?_
            refine E_icmp_ne (tgt := 53) (q := 42) dX6_sizeOf_39 (by decide) rfl (fun h39 => ?_) (fun h39 => ?_)
            · skip
              refine E_iinc3 (q := 56) dX6_sizeOf_53 (nI_inc _) rfl rfl ?_
              refine E_goto (q := 26) dX6_sizeOf_56 (by decide) ?_
              exact ih2 (fun a ha => by rcases Nat.lt_or_ge a j with q | q; exact hno2 a q; rw [show a = j by omega]; exact Or.inr h39)
            · skip
              refine E_iload1 (q := 43) dX6_sizeOf_42 rfl ?_
              refine E_if_eq (tgt := 53) (q := 46) dX6_sizeOf_43 (by decide) rfl (fun h43 => ?_) (fun h43 => ?_)
              · skip
                refine E_iinc3 (q := 56) dX6_sizeOf_53 (nI_inc _) rfl rfl ?_
                refine E_goto (q := 26) dX6_sizeOf_56 (by decide) ?_
                exact ih2 (fun a ha => Or.inl h43)
              · skip
                refine E_aload0 (q := 47) dX6_sizeOf_46 rfl ?_
                refine E_iload2 (q := 48) dX6_sizeOf_47 rfl ?_
                refine E_iload3 (q := 49) dX6_sizeOf_48 rfl ?_
                refine C_V2I (q := 52) lk_X6_80 (sp_X6_unitsA h.fl (by omega) (by omega)) rc_X6 dX6_sizeOf_49 (by decide) (Nat.le_of_ble_eq_true rfl) rfl ?_
                obtain ⟨x, -, hx, e1, e2, -, -⟩ := hB.bt (w := i) (a := j) (fun z => h43 (by rw [← h39, z]; rfl))
                exact E_ireturn rfl rfl dX6_sizeOf_52 (PI_of (by rw [e2, ← h39, e1]; exact (szV_hit hB hx (by omega)).1.symm) rfl)
      refine E_iload2 (q := 8) dX6_sizeOf_7 rfl ?_
      refine E_bipush (v := nI 22) (q := 10) dX6_sizeOf_8 (by decide) rfl ?_
      refine E_icmp_geN (tgt := 65) (q := 13) dX6_sizeOf_10 (by decide) rfl (by omega) (by omega) (fun h10 => ?_) (fun h10 => ?_)
      · skip
        exact absurd h10 (by omega)
      · skip
        refine E_aload0 (q := 14) dX6_sizeOf_13 rfl ?_
        refine E_iload2 (q := 15) dX6_sizeOf_14 rfl ?_
        refine C_V1I (q := 18) lk_X6_87 (sp_X6_isVerN h.fl.1 h.fl.2.1 h.2.2.1 (by omega)) rc_X6 dX6_sizeOf_15 (by decide) (Nat.le_of_ble_eq_true rfl) rfl ?_
        refine E_if_ne (tgt := 24) (q := 21) dX6_sizeOf_18 (by decide) rfl (fun h18 => ?_) (fun h18 => ?_)
        · skip
          refine E_iconst (v := nI 0) (q := 25) dX6_sizeOf_24 (by decide) rfl ?_
          refine E_istore3 (q := 26) dX6_sizeOf_25 rfl rfl ?_
          exact hmid
        · skip
          refine E_goto (q := 59) dX6_sizeOf_21 (by decide) ?_
          exact hin (no_blk h hno (zI_0 h18))
  refine E_aload0 (q := 1) dX6_sizeOf_0 rfl ?_
  refine E_iconst (v := nI 0) (q := 2) dX6_sizeOf_1 (by decide) rfl ?_
  refine P_X6_thrown (q := 5) fl_X6_43 dX6_sizeOf_2 rfl ?_
  refine E_iconst (v := nI 0) (q := 6) dX6_sizeOf_5 (by decide) rfl ?_
  refine E_istore2 (q := 7) dX6_sizeOf_6 rfl rfl ?_
  exact hmain
theorem sp_X6_birthInN {w : Nat} (h : RI M wx A) (hw : w < 22) (ht : th A w) : Spec D 12 yX6_birthIn cfX6_birthIn [.ref (ad 157), .int (nI (w)), .int (nI (1))] (wl D ad M) 0 0 (PI (bV (maxN (bAt A.2 w) 12)) (wl D ad (upd2 M 157 4 (nI 0)))) := by
  refine Spec.of (by decide) rfl (Nat.le_of_ble_eq_true rfl) rfl ?_
  have hle : ∀ n, maxN (bAt A.2 w) n < 2 ^ 24 := fun n => by
    induction n with
    | zero => exact Nat.two_pow_pos _
    | succ n ih =>
      have := h.bt w n
      rw [maxN]
      repeat (first | split | exact ih | exact this)
  have hmain : V D cfX6_birthIn (rmOf 12 0 0) (QM D (PI (bV (maxN (bAt A.2 w) 12)) (wl D ad (upd2 M 157 4 (nI 0)))) 0 0) 0 0 19 [some (.ref (ad 157)), some (.int (nI (w))), some (.int (nI (1))), some (.int (bV (maxN (bAt A.2 w) 0))), some (.int (nI (0))), none] [] (wl D ad (upd2 M 157 4 (nI 0))) := by
    refine upto0 (n := 12) (P := fun k => V D cfX6_birthIn (rmOf 12 0 0) (QM D (PI (bV (maxN (bAt A.2 w) 12)) (wl D ad (upd2 M 157 4 (nI 0)))) 0 0) 0 0 19 [some (.ref (ad 157)), some (.int (nI (w))), some (.int (nI (1))), some (.int (bV (maxN (bAt A.2 w) k))), some (.int (nI (k))), none] [] (wl D ad (upd2 M 157 4 (nI 0)))) ?_ ?_
    · skip
      refine E_iload4 (q := 21) dX6_birthIn_19 rfl ?_
      refine E_bipush (v := nI 12) (q := 23) dX6_birthIn_21 (by decide) rfl ?_
      refine E_icmp_geN (tgt := 68) (q := 26) dX6_birthIn_23 (by decide) rfl (by omega) (by omega) (fun h23 => ?_) (fun h23 => ?_)
      · skip
        refine E_iload3 (q := 69) dX6_birthIn_68 rfl ?_
        exact E_ireturn rfl rfl dX6_birthIn_69 (PI_of rfl rfl)
      · skip
        exact absurd h23 (by omega)
    · intro k hk ih
      have hb := h.bt w k
      have hm := hle k
      rw [maxN_s (bAt A.2 w) k] at ih
      by_cases hz : maxN (bAt A.2 w) k = 0
      · have hbv : bV (maxN (bAt A.2 w) k) = -1 := if_pos hz
        refine E_iload4 (q := 21) dX6_birthIn_19 rfl ?_
        refine E_bipush (v := nI 12) (q := 23) dX6_birthIn_21 (by decide) rfl ?_
        refine E_icmp_geN (tgt := 68) (q := 26) dX6_birthIn_23 (by decide) rfl (by omega) (by omega) (fun h23 => ?_) (fun h23 => ?_)
        · skip
          exact absurd h23 (by omega)
        · skip
          refine E_aload0 (q := 27) dX6_birthIn_26 rfl ?_
          refine E_iload1 (q := 28) dX6_birthIn_27 rfl ?_
          refine E_iload4 (q := 30) dX6_birthIn_28 rfl ?_
          refine C_V2I (q := 33) lk_X6_77 (sp_X6_birthA h.fl (by omega) (by omega)) rc_X6 dX6_birthIn_30 (by decide) (Nat.le_of_ble_eq_true rfl) rfl ?_
          refine E_istore5 (q := 35) dX6_birthIn_33 rfl rfl ?_
          refine E_iload5 (q := 37) dX6_birthIn_35 rfl ?_
          refine E_if_eq (tgt := 62) (q := 40) dX6_birthIn_37 (by decide) rfl (fun h37 => ?_) (fun h37 => ?_)
          · skip
            refine E_iinc4 (q := 65) dX6_birthIn_62 (nI_inc _) rfl rfl ?_
            refine E_goto (q := 19) dX6_birthIn_65 (by decide) ?_
            rw [if_neg (by rw [(nI_z (by omega)).mp h37]; omega), hbv] at ih
            refine V_sub ?_ ih
            rw [hbv]
            exact (by repeat (first | exact subL_nil | refine subL_s ?_ | refine subL_n ?_))
          · skip
            refine E_iload3 (q := 41) dX6_birthIn_40 rfl ?_
            refine V_int hbv ?_
            refine E_if_lt (tgt := 59) (q := 44) dX6_birthIn_41 (by decide) rfl (fun h41 => ?_) (fun h41 => ?_)
            · skip
              refine E_iload5 (q := 61) dX6_birthIn_59 rfl ?_
              refine E_istore3 (q := 62) dX6_birthIn_61 rfl rfl ?_
              refine E_iinc4 (q := 65) dX6_birthIn_62 (nI_inc _) rfl rfl ?_
              refine E_goto (q := 19) dX6_birthIn_65 (by decide) ?_
              have hb0 : bAt A.2 w k ≠ 0 := fun z => h37 (by rw [z]; rfl)
              rw [if_pos (by omega), bV_pos hb0] at ih
              exact V_sub (by repeat (first | exact subL_nil | refine subL_s ?_ | refine subL_n ?_)) ih
            · skip
              exact absurd (by decide) h41
      · have hbv : bV (maxN (bAt A.2 w) k) = nI (maxN (bAt A.2 w) k) := if_neg hz
        rw [hbv]
        refine E_iload4 (q := 21) dX6_birthIn_19 rfl ?_
        refine E_bipush (v := nI 12) (q := 23) dX6_birthIn_21 (by decide) rfl ?_
        refine E_icmp_geN (tgt := 68) (q := 26) dX6_birthIn_23 (by decide) rfl (by omega) (by omega) (fun h23 => ?_) (fun h23 => ?_)
        · skip
          exact absurd h23 (by omega)
        · skip
          refine E_aload0 (q := 27) dX6_birthIn_26 rfl ?_
          refine E_iload1 (q := 28) dX6_birthIn_27 rfl ?_
          refine E_iload4 (q := 30) dX6_birthIn_28 rfl ?_
          refine C_V2I (q := 33) lk_X6_77 (sp_X6_birthA h.fl (by omega) (by omega)) rc_X6 dX6_birthIn_30 (by decide) (Nat.le_of_ble_eq_true rfl) rfl ?_
          refine E_istore5 (q := 35) dX6_birthIn_33 rfl rfl ?_
          refine E_iload5 (q := 37) dX6_birthIn_35 rfl ?_
          refine E_if_eq (tgt := 62) (q := 40) dX6_birthIn_37 (by decide) rfl (fun h37 => ?_) (fun h37 => ?_)
          · skip
            refine E_iinc4 (q := 65) dX6_birthIn_62 (nI_inc _) rfl rfl ?_
            refine E_goto (q := 19) dX6_birthIn_65 (by decide) ?_
            rw [if_neg (by rw [(nI_z (by omega)).mp h37]; omega), hbv] at ih
            exact V_sub (by repeat (first | exact subL_nil | refine subL_s ?_ | refine subL_n ?_)) ih
          · skip
            refine E_iload3 (q := 41) dX6_birthIn_40 rfl ?_
            refine E_if_lt (tgt := 59) (q := 44) dX6_birthIn_41 (by decide) rfl (fun h41 => ?_) (fun h41 => ?_)
            · skip
              exact absurd h41 (nI_pos (by omega))
            · skip
              refine E_iload2 (q := 45) dX6_birthIn_44 rfl ?_
              refine E_iload5 (q := 47) dX6_birthIn_45 rfl ?_
              refine E_iload3 (q := 48) dX6_birthIn_47 rfl ?_
              refine E_icmp_leN (tgt := 55) (q := 51) dX6_birthIn_48 (by decide) rfl (by omega) (by omega) (fun h48 => ?_) (fun h48 => ?_)
              · skip
                refine E_iconst (v := nI 0) (q := 56) dX6_birthIn_55 (by decide) rfl ?_
                skip
                refine E_icmp_neN (tgt := 62) (q := 59) dX6_birthIn_56 (by decide) rfl (by omega) (by omega) (fun h56 => ?_) (fun h56 => ?_)
                · skip
                  refine E_iinc4 (q := 65) dX6_birthIn_62 (nI_inc _) rfl rfl ?_
                  refine E_goto (q := 19) dX6_birthIn_65 (by decide) ?_
                  rw [if_neg (by omega), hbv] at ih
                  exact V_sub (by repeat (first | exact subL_nil | refine subL_s ?_ | refine subL_n ?_)) ih
                · first | exact absurd h56 (by decide) | exact absurd (by decide) h56
              · skip
                refine E_iconst (v := nI 1) (q := 52) dX6_birthIn_51 (by decide) rfl ?_
                refine E_goto (q := 56) dX6_birthIn_52 (by decide) ?_
                skip
                refine E_icmp_neN (tgt := 62) (q := 59) dX6_birthIn_56 (by decide) rfl (by omega) (by omega) (fun h56 => ?_) (fun h56 => ?_)
                · first | exact absurd h56 (by decide) | exact absurd (by decide) h56
                · skip
                  refine E_iload5 (q := 61) dX6_birthIn_59 rfl ?_
                  refine E_istore3 (q := 62) dX6_birthIn_61 rfl rfl ?_
                  refine E_iinc4 (q := 65) dX6_birthIn_62 (nI_inc _) rfl rfl ?_
                  refine E_goto (q := 19) dX6_birthIn_65 (by decide) ?_
                  have hb0 : bAt A.2 w k ≠ 0 := fun z => h37 (by rw [z]; rfl)
                  rw [if_pos (by omega), bV_pos hb0] at ih
                  exact V_sub (by repeat (first | exact subL_nil | refine subL_s ?_ | refine subL_n ?_)) ih
  refine E_aload0 (q := 1) dX6_birthIn_0 rfl ?_
  refine E_aload0 (q := 2) dX6_birthIn_1 rfl ?_
  refine E_iload1 (q := 3) dX6_birthIn_2 rfl ?_
  refine C_V1I (q := 6) lk_X6_87 (sp_X6_isVerT h ((VerA_nI (by omega)).mpr ⟨hw, ht⟩)) rc_X6 dX6_birthIn_3 (by decide) (Nat.le_of_ble_eq_true rfl) rfl ?_
  refine C_V1I (q := 9) lk_X6_128 (sp_X6_failsT) rc_X6 dX6_birthIn_6 (by decide) (Nat.le_of_ble_eq_true rfl) rfl ?_
  refine E_if_eq (tgt := 14) (q := 12) dX6_birthIn_9 (by decide) rfl (fun h9 => ?_) (fun h9 => ?_)
  · skip
    refine E_iconst (v := -1) (q := 15) dX6_birthIn_14 (by decide) rfl ?_
    refine E_istore3 (q := 16) dX6_birthIn_15 rfl rfl ?_
    refine E_iconst (v := nI 0) (q := 17) dX6_birthIn_16 (by decide) rfl ?_
    refine E_istore4 (q := 19) dX6_birthIn_17 rfl rfl ?_
    exact hmain
  · first | exact absurd h9 (by decide) | exact absurd (by decide) h9
theorem sp_X6_birthInO {w : Nat} (h : RI M wx A) (hw : w < 22) (ht : th A w) : Spec D 12 yX6_birthIn cfX6_birthIn [.ref (ad 157), .int (nI (w)), .int (nI (0))] (wl D ad M) 0 0 (PI (bV (minN (bAt A.2 w) 12)) (wl D ad (upd2 M 157 4 (nI 0)))) := by
  refine Spec.of (by decide) rfl (Nat.le_of_ble_eq_true rfl) rfl ?_
  have hle : ∀ n, minN (bAt A.2 w) n < 2 ^ 24 := fun n => by
    induction n with
    | zero => exact Nat.two_pow_pos _
    | succ n ih =>
      have := h.bt w n
      rw [minN]
      repeat (first | split | exact ih | exact this)
  have hmain : V D cfX6_birthIn (rmOf 12 0 0) (QM D (PI (bV (minN (bAt A.2 w) 12)) (wl D ad (upd2 M 157 4 (nI 0)))) 0 0) 0 0 19 [some (.ref (ad 157)), some (.int (nI (w))), some (.int (nI (0))), some (.int (bV (minN (bAt A.2 w) 0))), some (.int (nI (0))), none] [] (wl D ad (upd2 M 157 4 (nI 0))) := by
    refine upto0 (n := 12) (P := fun k => V D cfX6_birthIn (rmOf 12 0 0) (QM D (PI (bV (minN (bAt A.2 w) 12)) (wl D ad (upd2 M 157 4 (nI 0)))) 0 0) 0 0 19 [some (.ref (ad 157)), some (.int (nI (w))), some (.int (nI (0))), some (.int (bV (minN (bAt A.2 w) k))), some (.int (nI (k))), none] [] (wl D ad (upd2 M 157 4 (nI 0)))) ?_ ?_
    · skip
      refine E_iload4 (q := 21) dX6_birthIn_19 rfl ?_
      refine E_bipush (v := nI 12) (q := 23) dX6_birthIn_21 (by decide) rfl ?_
      refine E_icmp_geN (tgt := 68) (q := 26) dX6_birthIn_23 (by decide) rfl (by omega) (by omega) (fun h23 => ?_) (fun h23 => ?_)
      · skip
        refine E_iload3 (q := 69) dX6_birthIn_68 rfl ?_
        exact E_ireturn rfl rfl dX6_birthIn_69 (PI_of rfl rfl)
      · skip
        exact absurd h23 (by omega)
    · intro k hk ih
      have hb := h.bt w k
      have hm := hle k
      rw [minN_s (bAt A.2 w) k] at ih
      by_cases hz : minN (bAt A.2 w) k = 0
      · have hbv : bV (minN (bAt A.2 w) k) = -1 := if_pos hz
        refine E_iload4 (q := 21) dX6_birthIn_19 rfl ?_
        refine E_bipush (v := nI 12) (q := 23) dX6_birthIn_21 (by decide) rfl ?_
        refine E_icmp_geN (tgt := 68) (q := 26) dX6_birthIn_23 (by decide) rfl (by omega) (by omega) (fun h23 => ?_) (fun h23 => ?_)
        · skip
          exact absurd h23 (by omega)
        · skip
          refine E_aload0 (q := 27) dX6_birthIn_26 rfl ?_
          refine E_iload1 (q := 28) dX6_birthIn_27 rfl ?_
          refine E_iload4 (q := 30) dX6_birthIn_28 rfl ?_
          refine C_V2I (q := 33) lk_X6_77 (sp_X6_birthA h.fl (by omega) (by omega)) rc_X6 dX6_birthIn_30 (by decide) (Nat.le_of_ble_eq_true rfl) rfl ?_
          refine E_istore5 (q := 35) dX6_birthIn_33 rfl rfl ?_
          refine E_iload5 (q := 37) dX6_birthIn_35 rfl ?_
          refine E_if_eq (tgt := 62) (q := 40) dX6_birthIn_37 (by decide) rfl (fun h37 => ?_) (fun h37 => ?_)
          · skip
            refine E_iinc4 (q := 65) dX6_birthIn_62 (nI_inc _) rfl rfl ?_
            refine E_goto (q := 19) dX6_birthIn_65 (by decide) ?_
            rw [if_pos ((nI_z (by omega)).mp h37), hbv] at ih
            refine V_sub ?_ ih
            rw [hbv]
            exact (by repeat (first | exact subL_nil | refine subL_s ?_ | refine subL_n ?_))
          · skip
            refine E_iload3 (q := 41) dX6_birthIn_40 rfl ?_
            refine V_int hbv ?_
            refine E_if_lt (tgt := 59) (q := 44) dX6_birthIn_41 (by decide) rfl (fun h41 => ?_) (fun h41 => ?_)
            · skip
              refine E_iload5 (q := 61) dX6_birthIn_59 rfl ?_
              refine E_istore3 (q := 62) dX6_birthIn_61 rfl rfl ?_
              refine E_iinc4 (q := 65) dX6_birthIn_62 (nI_inc _) rfl rfl ?_
              refine E_goto (q := 19) dX6_birthIn_65 (by decide) ?_
              have hb0 : bAt A.2 w k ≠ 0 := fun z => h37 (by rw [z]; rfl)
              rw [if_neg hb0, if_pos hz, bV_pos hb0] at ih
              exact V_sub (by repeat (first | exact subL_nil | refine subL_s ?_ | refine subL_n ?_)) ih
            · skip
              exact absurd (by decide) h41
      · have hbv : bV (minN (bAt A.2 w) k) = nI (minN (bAt A.2 w) k) := if_neg hz
        rw [hbv]
        refine E_iload4 (q := 21) dX6_birthIn_19 rfl ?_
        refine E_bipush (v := nI 12) (q := 23) dX6_birthIn_21 (by decide) rfl ?_
        refine E_icmp_geN (tgt := 68) (q := 26) dX6_birthIn_23 (by decide) rfl (by omega) (by omega) (fun h23 => ?_) (fun h23 => ?_)
        · skip
          exact absurd h23 (by omega)
        · skip
          refine E_aload0 (q := 27) dX6_birthIn_26 rfl ?_
          refine E_iload1 (q := 28) dX6_birthIn_27 rfl ?_
          refine E_iload4 (q := 30) dX6_birthIn_28 rfl ?_
          refine C_V2I (q := 33) lk_X6_77 (sp_X6_birthA h.fl (by omega) (by omega)) rc_X6 dX6_birthIn_30 (by decide) (Nat.le_of_ble_eq_true rfl) rfl ?_
          refine E_istore5 (q := 35) dX6_birthIn_33 rfl rfl ?_
          refine E_iload5 (q := 37) dX6_birthIn_35 rfl ?_
          refine E_if_eq (tgt := 62) (q := 40) dX6_birthIn_37 (by decide) rfl (fun h37 => ?_) (fun h37 => ?_)
          · skip
            refine E_iinc4 (q := 65) dX6_birthIn_62 (nI_inc _) rfl rfl ?_
            refine E_goto (q := 19) dX6_birthIn_65 (by decide) ?_
            rw [if_pos ((nI_z (by omega)).mp h37), hbv] at ih
            exact V_sub (by repeat (first | exact subL_nil | refine subL_s ?_ | refine subL_n ?_)) ih
          · skip
            refine E_iload3 (q := 41) dX6_birthIn_40 rfl ?_
            refine E_if_lt (tgt := 59) (q := 44) dX6_birthIn_41 (by decide) rfl (fun h41 => ?_) (fun h41 => ?_)
            · skip
              exact absurd h41 (nI_pos (by omega))
            · skip
              refine E_iload2 (q := 45) dX6_birthIn_44 rfl ?_
              refine E_iload5 (q := 47) dX6_birthIn_45 rfl ?_
              refine E_iload3 (q := 48) dX6_birthIn_47 rfl ?_
              refine E_icmp_leN (tgt := 55) (q := 51) dX6_birthIn_48 (by decide) rfl (by omega) (by omega) (fun h48 => ?_) (fun h48 => ?_)
              · skip
                refine E_iconst (v := nI 0) (q := 56) dX6_birthIn_55 (by decide) rfl ?_
                skip
                refine E_icmp_neN (tgt := 62) (q := 59) dX6_birthIn_56 (by decide) rfl (by omega) (by omega) (fun h56 => ?_) (fun h56 => ?_)
                · first | exact absurd h56 (by decide) | exact absurd (by decide) h56
                · skip
                  refine E_iload5 (q := 61) dX6_birthIn_59 rfl ?_
                  refine E_istore3 (q := 62) dX6_birthIn_61 rfl rfl ?_
                  refine E_iinc4 (q := 65) dX6_birthIn_62 (nI_inc _) rfl rfl ?_
                  refine E_goto (q := 19) dX6_birthIn_65 (by decide) ?_
                  have hb0 : bAt A.2 w k ≠ 0 := fun z => h37 (by rw [z]; rfl)
                  rw [if_neg hb0, if_neg hz, if_pos (by omega), bV_pos hb0] at ih
                  exact V_sub (by repeat (first | exact subL_nil | refine subL_s ?_ | refine subL_n ?_)) ih
              · skip
                refine E_iconst (v := nI 1) (q := 52) dX6_birthIn_51 (by decide) rfl ?_
                refine E_goto (q := 56) dX6_birthIn_52 (by decide) ?_
                skip
                refine E_icmp_neN (tgt := 62) (q := 59) dX6_birthIn_56 (by decide) rfl (by omega) (by omega) (fun h56 => ?_) (fun h56 => ?_)
                · skip
                  refine E_iinc4 (q := 65) dX6_birthIn_62 (nI_inc _) rfl rfl ?_
                  refine E_goto (q := 19) dX6_birthIn_65 (by decide) ?_
                  have hb0 : bAt A.2 w k ≠ 0 := fun z => h37 (by rw [z]; rfl)
                  rw [if_neg hb0, if_neg hz, if_neg (by omega), hbv] at ih
                  exact V_sub (by repeat (first | exact subL_nil | refine subL_s ?_ | refine subL_n ?_)) ih
                · first | exact absurd h56 (by decide) | exact absurd (by decide) h56
  refine E_aload0 (q := 1) dX6_birthIn_0 rfl ?_
  refine E_aload0 (q := 2) dX6_birthIn_1 rfl ?_
  refine E_iload1 (q := 3) dX6_birthIn_2 rfl ?_
  refine C_V1I (q := 6) lk_X6_87 (sp_X6_isVerT h ((VerA_nI (by omega)).mpr ⟨hw, ht⟩)) rc_X6 dX6_birthIn_3 (by decide) (Nat.le_of_ble_eq_true rfl) rfl ?_
  refine C_V1I (q := 9) lk_X6_128 (sp_X6_failsT) rc_X6 dX6_birthIn_6 (by decide) (Nat.le_of_ble_eq_true rfl) rfl ?_
  refine E_if_eq (tgt := 14) (q := 12) dX6_birthIn_9 (by decide) rfl (fun h9 => ?_) (fun h9 => ?_)
  · skip
    refine E_iconst (v := -1) (q := 15) dX6_birthIn_14 (by decide) rfl ?_
    refine E_istore3 (q := 16) dX6_birthIn_15 rfl rfl ?_
    refine E_iconst (v := nI 0) (q := 17) dX6_birthIn_16 (by decide) rfl ?_
    refine E_istore4 (q := 19) dX6_birthIn_17 rfl rfl ?_
    exact hmain
  · first | exact absurd h9 (by decide) | exact absurd (by decide) h9
theorem sp_X6_deadCount {w : Nat} (h : RI M wx A) (hw : w < 22) (ht : th A w) : Spec D 12 yX6_deadCount cfX6_deadCount [.ref (ad 157), .int (nI (w))] (wl D ad M) 0 0 (PI (ahdV A w (fun p => nI (deadL A p w).length) (nI 0)) (wl D ad (upd2 M 157 4 (nI 0)))) := by
  refine Spec.of (by decide) rfl (Nat.le_of_ble_eq_true rfl) rfl ?_
  have hlt := WFT.lt h.2.2.1 h.2.2.2.1 hw ht
  cases hz : ahd A w with
  | zero =>
    refine E_aload0 (q := 1) dX6_deadCount_0 rfl ?_
    refine E_aload0 (q := 2) dX6_deadCount_1 rfl ?_
    refine E_iload1 (q := 3) dX6_deadCount_2 rfl ?_
    refine C_V1I (q := 6) lk_X6_87 (sp_X6_isVerT h ((VerA_nI (by omega)).mpr ⟨hw, ht⟩)) rc_X6 dX6_deadCount_3 (by decide) (Nat.le_of_ble_eq_true rfl) rfl ?_
    refine C_V1I (q := 9) lk_X6_128 (sp_X6_failsT) rc_X6 dX6_deadCount_6 (by decide) (Nat.le_of_ble_eq_true rfl) rfl ?_
    refine E_if_eq (tgt := 14) (q := 12) dX6_deadCount_9 (by decide) rfl (fun h9 => ?_) (fun h9 => ?_)
    · skip
      refine E_aload0 (q := 15) dX6_deadCount_14 rfl ?_
      refine E_iload1 (q := 16) dX6_deadCount_15 rfl ?_
      refine C_V1I (q := 19) lk_X6_110 (sp_X6_beforeOf h.fl.1 h.fl.2.1 h.2.2.1 hw ht) rc_X6 dX6_deadCount_16 (by decide) (Nat.le_of_ble_eq_true rfl) rfl ?_
      rw [hz, oI_0]
      refine E_istore2 (q := 20) dX6_deadCount_19 rfl rfl ?_
      refine E_iconst (v := nI 0) (q := 21) dX6_deadCount_20 (by decide) rfl ?_
      refine E_istore3 (q := 22) dX6_deadCount_21 rfl rfl ?_
      refine E_iconst (v := nI 0) (q := 23) dX6_deadCount_22 (by decide) rfl ?_
      refine E_istore4 (q := 25) dX6_deadCount_23 rfl rfl ?_
      refine E_iload4 (q := 27) dX6_deadCount_25 rfl ?_
      refine E_bipush (v := nI 12) (q := 29) dX6_deadCount_27 (by decide) rfl ?_
      refine E_icmp_geN (tgt := 61) (q := 32) dX6_deadCount_29 (by decide) rfl (by omega) (by omega) (fun h29 => ?_) (fun h29 => ?_)
      · first | exact absurd h29 (by decide) | exact absurd (by decide) h29
      · skip
        refine E_iload2 (q := 33) dX6_deadCount_32 rfl ?_
        refine E_if_lt (tgt := 61) (q := 36) dX6_deadCount_33 (by decide) rfl (fun h33 => ?_) (fun h33 => ?_)
        · skip
          refine E_iload3 (q := 62) dX6_deadCount_61 rfl ?_
          exact E_ireturn rfl rfl dX6_deadCount_62 (PI_of (by unfold ahdV; rw [hz]) rfl)
        · skip
          exact absurd (by decide) h33
    · first | exact absurd h9 (by decide) | exact absurd (by decide) h9
  | succ p =>
    have hp := hlt.2 p hz
    have hmain : V D cfX6_deadCount (rmOf 12 0 0) (QM D (PI (ahdV A w (fun p => nI (deadL A p w).length) (nI 0)) (wl D ad (upd2 M 157 4 (nI 0)))) 0 0) 0 0 25 [some (.ref (ad 157)), some (.int (nI (w))), some (.int (nI (p))), some (.int (nI (0))), some (.int (nI (0)))] [] (wl D ad (upd2 M 157 4 (nI 0))) := by
      refine upto0 (n := 12) (P := fun i => V D cfX6_deadCount (rmOf 12 0 0) (QM D (PI (ahdV A w (fun p => nI (deadL A p w).length) (nI 0)) (wl D ad (upd2 M 157 4 (nI 0)))) 0 0) 0 0 25 [some (.ref (ad 157)), some (.int (nI (w))), some (.int (nI (p))), some (.int (nI (nsum (av A p (fun x => if (own x).testBit w = true then 0 else 1)) i))), some (.int (nI (i)))] [] (wl D ad (upd2 M 157 4 (nI 0)))) ?_ ?_
      · skip
        refine E_iload4 (q := 27) dX6_deadCount_25 rfl ?_
        refine E_bipush (v := nI 12) (q := 29) dX6_deadCount_27 (by decide) rfl ?_
        refine E_icmp_geN (tgt := 61) (q := 32) dX6_deadCount_29 (by decide) rfl (by omega) (by omega) (fun h29 => ?_) (fun h29 => ?_)
        · skip
          refine E_iload3 (q := 62) dX6_deadCount_61 rfl ?_
          exact E_ireturn rfl rfl dX6_deadCount_62 (PI_of (by unfold ahdV; rw [hz, av_sum h.2.2.2.2 p]; simp only [deadL]; rw [← fsum_len]; exact congrArg nI (fsum_congr fun x _ => by cases (own x).testBit p <;> cases (own x).testBit w <;> rfl)) rfl)
        · skip
          exact absurd h29 (by omega)
      · intro i hi ih
        rw [nsum_s] at ih
        rcases av_case h.2.2.2.2 p (fun x => if (own x).testBit w = true then 0 else 1) i with ⟨e0, e1⟩ | ⟨x, hx, e1, e2, e3, e4, e5, e6⟩
        · rw [e1] at ih
          refine E_iload4 (q := 27) dX6_deadCount_25 rfl ?_
          refine E_bipush (v := nI 12) (q := 29) dX6_deadCount_27 (by decide) rfl ?_
          refine E_icmp_geN (tgt := 61) (q := 32) dX6_deadCount_29 (by decide) rfl (by omega) (by omega) (fun h29 => ?_) (fun h29 => ?_)
          · skip
            exact absurd h29 (by omega)
          · skip
            refine E_iload2 (q := 33) dX6_deadCount_32 rfl ?_
            refine E_if_lt (tgt := 61) (q := 36) dX6_deadCount_33 (by decide) rfl (fun h33 => ?_) (fun h33 => ?_)
            · skip
              exact absurd h33 (nI_pos (by omega))
            · skip
              refine E_iload3 (q := 37) dX6_deadCount_36 rfl ?_
              refine E_aload0 (q := 38) dX6_deadCount_37 rfl ?_
              refine E_iload1 (q := 39) dX6_deadCount_38 rfl ?_
              refine E_iload2 (q := 40) dX6_deadCount_39 rfl ?_
              refine E_iload4 (q := 42) dX6_deadCount_40 rfl ?_
              refine C_V3I (q := 45) lk_X6_156 (sp_X6_isDead h.fl hw (by omega) hi) rc_X6 dX6_deadCount_42 (by decide) (Nat.le_of_ble_eq_true rfl) rfl ?_
              refine E_if_eq (tgt := 52) (q := 48) dX6_deadCount_45 (by decide) rfl (fun h45 => ?_) (fun h45 => ?_)
              · skip
                refine E_iconst (v := nI 0) (q := 53) dX6_deadCount_52 (by decide) rfl ?_
                refine E_iaddN (q := 54) dX6_deadCount_53 rfl ?_
                refine E_istore3 (q := 55) dX6_deadCount_54 rfl rfl ?_
                refine E_iinc4 (q := 58) dX6_deadCount_55 (nI_inc _) rfl rfl ?_
                refine E_goto (q := 25) dX6_deadCount_58 (by decide) ?_
                exact ih
              · skip
                exact absurd e0 (zI_n h45).1
        · rw [e6] at ih
          refine E_iload4 (q := 27) dX6_deadCount_25 rfl ?_
          refine E_bipush (v := nI 12) (q := 29) dX6_deadCount_27 (by decide) rfl ?_
          refine E_icmp_geN (tgt := 61) (q := 32) dX6_deadCount_29 (by decide) rfl (by omega) (by omega) (fun h29 => ?_) (fun h29 => ?_)
          · skip
            exact absurd h29 (by omega)
          · skip
            refine E_iload2 (q := 33) dX6_deadCount_32 rfl ?_
            refine E_if_lt (tgt := 61) (q := 36) dX6_deadCount_33 (by decide) rfl (fun h33 => ?_) (fun h33 => ?_)
            · skip
              exact absurd h33 (nI_pos (by omega))
            · skip
              refine E_iload3 (q := 37) dX6_deadCount_36 rfl ?_
              refine E_aload0 (q := 38) dX6_deadCount_37 rfl ?_
              refine E_iload1 (q := 39) dX6_deadCount_38 rfl ?_
              refine E_iload2 (q := 40) dX6_deadCount_39 rfl ?_
              refine E_iload4 (q := 42) dX6_deadCount_40 rfl ?_
              refine C_V3I (q := 45) lk_X6_156 (sp_X6_isDead h.fl hw (by omega) hi) rc_X6 dX6_deadCount_42 (by decide) (Nat.le_of_ble_eq_true rfl) rfl ?_
              refine E_if_eq (tgt := 52) (q := 48) dX6_deadCount_45 (by decide) rfl (fun h45 => ?_) (fun h45 => ?_)
              · skip
                refine E_iconst (v := nI 0) (q := 53) dX6_deadCount_52 (by decide) rfl ?_
                refine E_iaddN (q := 54) dX6_deadCount_53 rfl ?_
                refine E_istore3 (q := 55) dX6_deadCount_54 rfl rfl ?_
                refine E_iinc4 (q := 58) dX6_deadCount_55 (nI_inc _) rfl rfl ?_
                refine E_goto (q := 25) dX6_deadCount_58 (by decide) ?_
                rw [if_pos (Classical.byContradiction fun z => zI_0 h45 ⟨e5, e3 ▸ z⟩)] at ih
                exact ih
              · skip
                refine E_iconst (v := nI 1) (q := 49) dX6_deadCount_48 (by decide) rfl ?_
                refine E_goto (q := 53) dX6_deadCount_49 (by decide) ?_
                refine E_iaddN (q := 54) dX6_deadCount_53 rfl ?_
                refine E_istore3 (q := 55) dX6_deadCount_54 rfl rfl ?_
                refine E_iinc4 (q := 58) dX6_deadCount_55 (nI_inc _) rfl rfl ?_
                refine E_goto (q := 25) dX6_deadCount_58 (by decide) ?_
                rw [if_neg (e3 ▸ (zI_n h45).2)] at ih
                exact ih
    refine E_aload0 (q := 1) dX6_deadCount_0 rfl ?_
    refine E_aload0 (q := 2) dX6_deadCount_1 rfl ?_
    refine E_iload1 (q := 3) dX6_deadCount_2 rfl ?_
    refine C_V1I (q := 6) lk_X6_87 (sp_X6_isVerT h ((VerA_nI (by omega)).mpr ⟨hw, ht⟩)) rc_X6 dX6_deadCount_3 (by decide) (Nat.le_of_ble_eq_true rfl) rfl ?_
    refine C_V1I (q := 9) lk_X6_128 (sp_X6_failsT) rc_X6 dX6_deadCount_6 (by decide) (Nat.le_of_ble_eq_true rfl) rfl ?_
    refine E_if_eq (tgt := 14) (q := 12) dX6_deadCount_9 (by decide) rfl (fun h9 => ?_) (fun h9 => ?_)
    · skip
      refine E_aload0 (q := 15) dX6_deadCount_14 rfl ?_
      refine E_iload1 (q := 16) dX6_deadCount_15 rfl ?_
      refine C_V1I (q := 19) lk_X6_110 (sp_X6_beforeOf h.fl.1 h.fl.2.1 h.2.2.1 hw ht) rc_X6 dX6_deadCount_16 (by decide) (Nat.le_of_ble_eq_true rfl) rfl ?_
      rw [hz, oI_s]
      refine E_istore2 (q := 20) dX6_deadCount_19 rfl rfl ?_
      refine E_iconst (v := nI 0) (q := 21) dX6_deadCount_20 (by decide) rfl ?_
      refine E_istore3 (q := 22) dX6_deadCount_21 rfl rfl ?_
      refine E_iconst (v := nI 0) (q := 23) dX6_deadCount_22 (by decide) rfl ?_
      refine E_istore4 (q := 25) dX6_deadCount_23 rfl rfl ?_
      exact hmain
    · first | exact absurd h9 (by decide) | exact absurd (by decide) h9
theorem sp_X6_byDeadBlocks {s : Nat} (h : RI M wx A) (hs : s < 16) (ht : th A s) : Spec D 12 yX6_byDeadBlocks cfX6_byDeadBlocks [.ref (ad 157), .int (nI (s))] (wl D ad M) 0 0 (PI (nI (fsum (fun x => if (own x).testBit s = true then (if (own x).testBit (bhd A s) = true then 0 else if snc A s < x.1 then siz x else 0) else 0) A.2)) (wl D ad (upd2 M 157 4 (nI 0)))) := by
  refine Spec.of (by decide) rfl (Nat.le_of_ble_eq_true rfl) rfl ?_
  have hlt := WFT.lt h.2.2.1 h.2.2.2.1 (w := s) (by omega) ht
  have hT := h.2.2.1.1.1
  have hbh : bhd A s < 22 := by
    unfold bhd
    cases hx : (rowL A (home A s))[plc A s + 1]? with
    | none => have := (h.2.2.hv6 hs ht).1; simp only; omega
    | some t => have := (plc_of hx).2.1; simp only; omega
  have hmain : ∀ (t : Nat), t ≤ aT A → ∀ o, t = snc A s → V D cfX6_byDeadBlocks (rmOf 12 0 0) (QM D (PI (nI (fsum (fun x => if (own x).testBit s = true then (if (own x).testBit (bhd A s) = true then 0 else if snc A s < x.1 then siz x else 0) else 0) A.2)) (wl D ad (upd2 M 157 4 (nI 0)))) 0 0) 0 0 48 [some (.ref (ad 157)), some (.int (nI (s))), some (.int (nI (bhd A s))), some (.int (o)), some (.int (nI (t))), some (.int (nI (0))), some (.int (nI (0)))] [] (wl D ad (upd2 M 157 4 (nI 0))) := by
    intro t htT o et
    subst et
    refine upto0 (n := 12) (P := fun i => V D cfX6_byDeadBlocks (rmOf 12 0 0) (QM D (PI (nI (fsum (fun x => if (own x).testBit s = true then (if (own x).testBit (bhd A s) = true then 0 else if snc A s < x.1 then siz x else 0) else 0) A.2)) (wl D ad (upd2 M 157 4 (nI 0)))) 0 0) 0 0 48 [some (.ref (ad 157)), some (.int (nI (s))), some (.int (nI (bhd A s))), some (.int (o)), some (.int (nI (snc A s))), some (.int (nI (nsum (av A s (fun x => if (own x).testBit (bhd A s) = true then 0 else if snc A s < x.1 then siz x else 0)) i))), some (.int (nI (i)))] [] (wl D ad (upd2 M 157 4 (nI 0)))) ?_ ?_
    · skip
      refine E_iload6 (q := 50) dX6_byDeadBlocks_48 rfl ?_
      refine E_bipush (v := nI 12) (q := 52) dX6_byDeadBlocks_50 (by decide) rfl ?_
      refine E_icmp_geN (tgt := 100) (q := 55) dX6_byDeadBlocks_52 (by decide) rfl (by omega) (by omega) (fun h52 => ?_) (fun h52 => ?_)
      · skip
        refine E_iload5 (q := 102) dX6_byDeadBlocks_100 rfl ?_
        exact E_ireturn rfl rfl dX6_byDeadBlocks_102 (PI_of (congrArg nI (av_sum h.2.2.2.2 s _)) rfl)
      · skip
        exact absurd h52 (by omega)
    · intro i hi ih
      have hb := h.bt s i
      rw [nsum_s] at ih
      rcases av_case h.2.2.2.2 s (fun x => if (own x).testBit (bhd A s) = true then 0 else if snc A s < x.1 then siz x else 0) i with ⟨e0, e1⟩ | ⟨x, hx, e1, e2, e3, e4, e5, e6⟩
      · rw [e1] at ih
        refine E_iload6 (q := 50) dX6_byDeadBlocks_48 rfl ?_
        refine E_bipush (v := nI 12) (q := 52) dX6_byDeadBlocks_50 (by decide) rfl ?_
        refine E_icmp_geN (tgt := 100) (q := 55) dX6_byDeadBlocks_52 (by decide) rfl (by omega) (by omega) (fun h52 => ?_) (fun h52 => ?_)
        · skip
          exact absurd h52 (by omega)
        · skip
          refine E_iload5 (q := 57) dX6_byDeadBlocks_55 rfl ?_
          refine E_aload0 (q := 58) dX6_byDeadBlocks_57 rfl ?_
          refine E_iload2 (q := 59) dX6_byDeadBlocks_58 rfl ?_
          refine E_iload1 (q := 60) dX6_byDeadBlocks_59 rfl ?_
          refine E_iload6 (q := 62) dX6_byDeadBlocks_60 rfl ?_
          refine C_V3I (q := 65) lk_X6_156 (sp_X6_isDead h.fl hbh (by omega) hi) rc_X6 dX6_byDeadBlocks_62 (by decide) (Nat.le_of_ble_eq_true rfl) rfl ?_
          refine E_if_eq (tgt := 90) (q := 68) dX6_byDeadBlocks_65 (by decide) rfl (fun h65 => ?_) (fun h65 => ?_)
          · skip
            refine E_iconst (v := nI 0) (q := 91) dX6_byDeadBlocks_90 (by decide) rfl ?_
            refine E_iaddN (q := 92) dX6_byDeadBlocks_91 rfl ?_
            refine E_istore5 (q := 94) dX6_byDeadBlocks_92 rfl rfl ?_
            refine E_iinc6 (q := 97) dX6_byDeadBlocks_94 (nI_inc _) rfl rfl ?_
            refine E_goto (q := 48) dX6_byDeadBlocks_97 (by decide) ?_
            exact ih
          · skip
            exact absurd e0 (zI_n h65).1
      · rw [e6] at ih
        refine E_iload6 (q := 50) dX6_byDeadBlocks_48 rfl ?_
        refine E_bipush (v := nI 12) (q := 52) dX6_byDeadBlocks_50 (by decide) rfl ?_
        refine E_icmp_geN (tgt := 100) (q := 55) dX6_byDeadBlocks_52 (by decide) rfl (by omega) (by omega) (fun h52 => ?_) (fun h52 => ?_)
        · skip
          exact absurd h52 (by omega)
        · skip
          refine E_iload5 (q := 57) dX6_byDeadBlocks_55 rfl ?_
          refine E_aload0 (q := 58) dX6_byDeadBlocks_57 rfl ?_
          refine E_iload2 (q := 59) dX6_byDeadBlocks_58 rfl ?_
          refine E_iload1 (q := 60) dX6_byDeadBlocks_59 rfl ?_
          refine E_iload6 (q := 62) dX6_byDeadBlocks_60 rfl ?_
          refine C_V3I (q := 65) lk_X6_156 (sp_X6_isDead h.fl hbh (by omega) hi) rc_X6 dX6_byDeadBlocks_62 (by decide) (Nat.le_of_ble_eq_true rfl) rfl ?_
          refine E_if_eq (tgt := 90) (q := 68) dX6_byDeadBlocks_65 (by decide) rfl (fun h65 => ?_) (fun h65 => ?_)
          · skip
            refine E_iconst (v := nI 0) (q := 91) dX6_byDeadBlocks_90 (by decide) rfl ?_
            refine E_iaddN (q := 92) dX6_byDeadBlocks_91 rfl ?_
            refine E_istore5 (q := 94) dX6_byDeadBlocks_92 rfl rfl ?_
            refine E_iinc6 (q := 97) dX6_byDeadBlocks_94 (nI_inc _) rfl rfl ?_
            refine E_goto (q := 48) dX6_byDeadBlocks_97 (by decide) ?_
            rw [if_pos (Classical.byContradiction fun z => zI_0 h65 ⟨e5, e3 ▸ z⟩)] at ih
            exact ih
          · skip
            refine E_aload0 (q := 69) dX6_byDeadBlocks_68 rfl ?_
            refine E_iload1 (q := 70) dX6_byDeadBlocks_69 rfl ?_
            refine E_iload6 (q := 72) dX6_byDeadBlocks_70 rfl ?_
            refine C_V2I (q := 75) lk_X6_77 (sp_X6_birthA h.fl (by omega) (by omega)) rc_X6 dX6_byDeadBlocks_72 (by decide) (Nat.le_of_ble_eq_true rfl) rfl ?_
            refine E_iload4 (q := 77) dX6_byDeadBlocks_75 rfl ?_
            refine E_icmp_leN (tgt := 90) (q := 80) dX6_byDeadBlocks_77 (by decide) rfl (by omega) (by omega) (fun h77 => ?_) (fun h77 => ?_)
            · skip
              refine E_iconst (v := nI 0) (q := 91) dX6_byDeadBlocks_90 (by decide) rfl ?_
              refine E_iaddN (q := 92) dX6_byDeadBlocks_91 rfl ?_
              refine E_istore5 (q := 94) dX6_byDeadBlocks_92 rfl rfl ?_
              refine E_iinc6 (q := 97) dX6_byDeadBlocks_94 (nI_inc _) rfl rfl ?_
              refine E_goto (q := 48) dX6_byDeadBlocks_97 (by decide) ?_
              rw [if_neg (e3 ▸ (zI_n h65).2), if_neg (by omega)] at ih
              exact ih
            · skip
              refine E_aload0 (q := 81) dX6_byDeadBlocks_80 rfl ?_
              refine E_iload1 (q := 82) dX6_byDeadBlocks_81 rfl ?_
              refine E_iload6 (q := 84) dX6_byDeadBlocks_82 rfl ?_
              refine C_V2I (q := 87) lk_X6_80 (sp_X6_unitsA h.fl (by omega) (by omega)) rc_X6 dX6_byDeadBlocks_84 (by decide) (Nat.le_of_ble_eq_true rfl) rfl ?_
              refine E_goto (q := 91) dX6_byDeadBlocks_87 (by decide) ?_
              refine E_iaddN (q := 92) dX6_byDeadBlocks_91 rfl ?_
              refine E_istore5 (q := 94) dX6_byDeadBlocks_92 rfl rfl ?_
              refine E_iinc6 (q := 97) dX6_byDeadBlocks_94 (nI_inc _) rfl rfl ?_
              refine E_goto (q := 48) dX6_byDeadBlocks_97 (by decide) ?_
              rw [if_neg (e3 ▸ (zI_n h65).2), if_pos (by omega), ← e2] at ih
              exact ih
  cases hz : ahd A s with
  | zero =>
    refine E_aload0 (q := 1) dX6_byDeadBlocks_0 rfl ?_
    refine E_aload0 (q := 2) dX6_byDeadBlocks_1 rfl ?_
    refine E_iload1 (q := 3) dX6_byDeadBlocks_2 rfl ?_
    refine C_V1I (q := 6) lk_X6_70 (sp_X6_isSnpT h ((SnpA_nI (by omega)).mpr ⟨hs, ht⟩)) rc_X6 dX6_byDeadBlocks_3 (by decide) (Nat.le_of_ble_eq_true rfl) rfl ?_
    refine C_V1I (q := 9) lk_X6_128 (sp_X6_failsT) rc_X6 dX6_byDeadBlocks_6 (by decide) (Nat.le_of_ble_eq_true rfl) rfl ?_
    refine E_if_eq (tgt := 14) (q := 12) dX6_byDeadBlocks_9 (by decide) rfl (fun h9 => ?_) (fun h9 => ?_)
    · skip
      refine E_aload0 (q := 15) dX6_byDeadBlocks_14 rfl ?_
      refine E_iload1 (q := 16) dX6_byDeadBlocks_15 rfl ?_
      refine C_V1I (q := 19) lk_X6_135 (sp_X6_behindOf h.fl hs ht) rc_X6 dX6_byDeadBlocks_16 (by decide) (Nat.le_of_ble_eq_true rfl) rfl ?_
      refine E_istore2 (q := 20) dX6_byDeadBlocks_19 rfl rfl ?_
      refine E_aload0 (q := 21) dX6_byDeadBlocks_20 rfl ?_
      refine E_iload1 (q := 22) dX6_byDeadBlocks_21 rfl ?_
      refine C_V1I (q := 25) lk_X6_110 (sp_X6_beforeOf h.fl.1 h.fl.2.1 h.2.2.1 (by omega) ht) rc_X6 dX6_byDeadBlocks_22 (by decide) (Nat.le_of_ble_eq_true rfl) rfl ?_
      rw [hz, oI_0]
      refine E_istore3 (q := 26) dX6_byDeadBlocks_25 rfl rfl ?_
      refine E_iload3 (q := 27) dX6_byDeadBlocks_26 rfl ?_
      refine E_if_ge (tgt := 34) (q := 30) dX6_byDeadBlocks_27 (by decide) rfl (fun h27 => ?_) (fun h27 => ?_)
      · skip
        exact absurd h27 (by decide)
      · skip
        refine E_iconst (v := nI 0) (q := 31) dX6_byDeadBlocks_30 (by decide) rfl ?_
        refine E_goto (q := 40) dX6_byDeadBlocks_31 (by decide) ?_
        refine E_istore4 (q := 42) dX6_byDeadBlocks_40 rfl rfl ?_
        refine E_iconst (v := nI 0) (q := 43) dX6_byDeadBlocks_42 (by decide) rfl ?_
        refine E_istore5 (q := 45) dX6_byDeadBlocks_43 rfl rfl ?_
        refine E_iconst (v := nI 0) (q := 46) dX6_byDeadBlocks_45 (by decide) rfl ?_
        refine E_istore6 (q := 48) dX6_byDeadBlocks_46 rfl rfl ?_
        exact hmain 0 (Nat.zero_le _) (-1) (by rw [snc, hz])
    · first | exact absurd h9 (by decide) | exact absurd (by decide) h9
  | succ p =>
    have hp := hlt.2 p hz
    have hst := (h.2.2.1.2.2.2.2.1 p hp.1 hp.2).2.2.2.1
    refine E_aload0 (q := 1) dX6_byDeadBlocks_0 rfl ?_
    refine E_aload0 (q := 2) dX6_byDeadBlocks_1 rfl ?_
    refine E_iload1 (q := 3) dX6_byDeadBlocks_2 rfl ?_
    refine C_V1I (q := 6) lk_X6_70 (sp_X6_isSnpT h ((SnpA_nI (by omega)).mpr ⟨hs, ht⟩)) rc_X6 dX6_byDeadBlocks_3 (by decide) (Nat.le_of_ble_eq_true rfl) rfl ?_
    refine C_V1I (q := 9) lk_X6_128 (sp_X6_failsT) rc_X6 dX6_byDeadBlocks_6 (by decide) (Nat.le_of_ble_eq_true rfl) rfl ?_
    refine E_if_eq (tgt := 14) (q := 12) dX6_byDeadBlocks_9 (by decide) rfl (fun h9 => ?_) (fun h9 => ?_)
    · skip
      refine E_aload0 (q := 15) dX6_byDeadBlocks_14 rfl ?_
      refine E_iload1 (q := 16) dX6_byDeadBlocks_15 rfl ?_
      refine C_V1I (q := 19) lk_X6_135 (sp_X6_behindOf h.fl hs ht) rc_X6 dX6_byDeadBlocks_16 (by decide) (Nat.le_of_ble_eq_true rfl) rfl ?_
      refine E_istore2 (q := 20) dX6_byDeadBlocks_19 rfl rfl ?_
      refine E_aload0 (q := 21) dX6_byDeadBlocks_20 rfl ?_
      refine E_iload1 (q := 22) dX6_byDeadBlocks_21 rfl ?_
      refine C_V1I (q := 25) lk_X6_110 (sp_X6_beforeOf h.fl.1 h.fl.2.1 h.2.2.1 (by omega) ht) rc_X6 dX6_byDeadBlocks_22 (by decide) (Nat.le_of_ble_eq_true rfl) rfl ?_
      rw [hz, oI_s]
      refine E_istore3 (q := 26) dX6_byDeadBlocks_25 rfl rfl ?_
      refine E_iload3 (q := 27) dX6_byDeadBlocks_26 rfl ?_
      refine E_if_ge (tgt := 34) (q := 30) dX6_byDeadBlocks_27 (by decide) rfl (fun h27 => ?_) (fun h27 => ?_)
      · skip
        refine E_aload0 (q := 35) dX6_byDeadBlocks_34 rfl ?_
        refine E_iload3 (q := 36) dX6_byDeadBlocks_35 rfl ?_
        refine E_iconst (v := nI 2) (q := 37) dX6_byDeadBlocks_36 (by decide) rfl ?_
        refine C_V2I (q := 40) lk_X6_67 (sp_X6_snpT h.fl hp.1 hp.2) rc_X6 dX6_byDeadBlocks_37 (by decide) (Nat.le_of_ble_eq_true rfl) rfl ?_
        refine E_istore4 (q := 42) dX6_byDeadBlocks_40 rfl rfl ?_
        refine E_iconst (v := nI 0) (q := 43) dX6_byDeadBlocks_42 (by decide) rfl ?_
        refine E_istore5 (q := 45) dX6_byDeadBlocks_43 rfl rfl ?_
        refine E_iconst (v := nI 0) (q := 46) dX6_byDeadBlocks_45 (by decide) rfl ?_
        refine E_istore6 (q := 48) dX6_byDeadBlocks_46 rfl rfl ?_
        exact hmain (stm A p) hst (nI p) (by rw [snc, hz])
      · skip
        exact absurd (nI_ge0 (by omega)) h27
    · first | exact absurd h9 (by decide) | exact absurd (by decide) h9
end MODEL
