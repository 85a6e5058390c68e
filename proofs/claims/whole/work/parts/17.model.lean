
/-! THE REFERENCE over a pool: sums over all blocks, searches -/
section MODEL
variable {D : va_G} {ad : Nat → Nat} {M : Mem} {wx : Nat} {ws : va_W} {A : AS}
theorem nsum_s (f : Nat → Nat) (n : Nat) : nsum f (n + 1) = nsum f n + f n := rfl
def gvs (A : AS) (S : Nat) (f : Blk → Nat) (v : Nat) : Nat := nsum (gv A S f v) 12
theorem gvs_th {S : Nat} {f : Blk → Nat} {v : Nat} (h : WFB A) (hv : ¬ th A v) : gvs A S f v = 0 := nsum_zero fun a _ => gv_th h S f hv a
theorem gvs_full (h : WFB A) (f : Blk → Nat) : nsum (gvs A FULL22 f) 22 = fsum f A.2 := gv_full h f
theorem gvs_0 {S : Nat} {f : Blk → Nat} {v : Nat} (h : ∀ x, x ∈ A.2 → (own x).testBit v = true → f x = 0) : gvs A S f v = 0 := nsum_zero fun a _ => by
  unfold gv
  cases hx : blkAt A.2 v a with
  | none => rfl
  | some x =>
    have h1 := blkAt_some hx
    simp only
    split
    · exact h x h1.1 h1.2.2
    · rfl
theorem sp_X6_allU (h : RI M wx A) : Spec D 7 yX6_all cfX6_all [.ref (ad 157), .int (nI (1))] (wl D ad M) 0 0 (PI (nI (fsum siz A.2)) (wl D ad M)) := by
  refine Spec.of (by decide) rfl (Nat.le_of_ble_eq_true rfl) rfl ?_
  refine E_iconst (v := nI 0) (q := 1) dX6_all_0 (by decide) rfl ?_
  refine E_istore2 (q := 2) dX6_all_1 rfl rfl ?_
  refine E_iconst (v := nI 0) (q := 3) dX6_all_2 (by decide) rfl ?_
  refine E_istore3 (q := 4) dX6_all_3 rfl rfl ?_
  refine upto0 (n := 22) (P := fun i => V D cfX6_all (rmOf 7 0 0) (QM D (PI (nI (fsum siz A.2)) (wl D ad M)) 0 0) 0 0 4 [some (.ref (ad 157)), some (.int (nI (1))), some (.int (nI (nsum (gvs A FULL22 siz) i))), some (.int (nI (i))), none] [] (wl D ad M)) ?_ ?_
  · skip
    refine E_iload3 (q := 5) dX6_all_4 rfl ?_
    refine E_bipush (v := nI 22) (q := 7) dX6_all_5 (by decide) rfl ?_
    refine E_icmp_geN (tgt := 86) (q := 10) dX6_all_7 (by decide) rfl (by omega) (by omega) (fun h7 => ?_) (fun h7 => ?_)
    · skip
      refine E_iload2 (q := 87) dX6_all_86 rfl ?_
      exact E_ireturn rfl rfl dX6_all_87 (PI_of (congrArg nI (gvs_full h.2.2.2.2 siz)) rfl)
    · skip
      exact absurd h7 (by omega)
  · intro i hi ih
    have hin : V D cfX6_all (rmOf 7 0 0) (QM D (PI (nI (fsum siz A.2)) (wl D ad M)) 0 0) 0 0 24 [some (.ref (ad 157)), some (.int (nI (1))), some (.int (nI (nsum (gvs A FULL22 siz) i + nsum (gv A FULL22 siz i) 0))), some (.int (nI (i))), some (.int (nI (0)))] [] (wl D ad M) := by
      refine upto0 (n := 12) (P := fun j => V D cfX6_all (rmOf 7 0 0) (QM D (PI (nI (fsum siz A.2)) (wl D ad M)) 0 0) 0 0 24 [some (.ref (ad 157)), some (.int (nI (1))), some (.int (nI (nsum (gvs A FULL22 siz) i + nsum (gv A FULL22 siz i) j))), some (.int (nI (i))), some (.int (nI (j)))] [] (wl D ad M)) ?_ ?_
      · skip
        refine E_iload4 (q := 26) dX6_all_24 rfl ?_
        refine E_bipush (v := nI 12) (q := 28) dX6_all_26 (by decide) rfl ?_
        refine E_icmp_geN (tgt := 80) (q := 31) dX6_all_28 (by decide) rfl (by omega) (by omega) (fun h28 => ?_) (fun h28 => ?_)
        · skip
          refine E_iinc3 (q := 83) dX6_all_80 (nI_inc _) rfl rfl ?_
          refine E_goto (q := 4) dX6_all_83 (by decide) ?_
          exact V_sub (by repeat (first | exact subL_nil | refine subL_s ?_ | refine subL_n ?_)) ih
        · skip
          exact absurd h28 (by omega)
      · intro j hj ih2
        rcases gv_case h.2.2.2.2 FULL22 siz i j with ⟨e0, e1⟩ | ⟨x, hx, e1, e2, e3, e4, e5, e6⟩
        · rw [nsum_s (gv A FULL22 siz i) j, e1, Nat.add_zero] at ih2
          refine E_iload4 (q := 26) dX6_all_24 rfl ?_
          refine E_bipush (v := nI 12) (q := 28) dX6_all_26 (by decide) rfl ?_
          refine E_icmp_geN (tgt := 80) (q := 31) dX6_all_28 (by decide) rfl (by omega) (by omega) (fun h28 => ?_) (fun h28 => ?_)
          · skip
            exact absurd h28 (by omega)
          · skip
            refine E_aload0 (q := 32) dX6_all_31 rfl ?_
            refine E_iload3 (q := 33) dX6_all_32 rfl ?_
            refine E_iload4 (q := 35) dX6_all_33 rfl ?_
            refine C_V2I (q := 38) lk_X6_77 (sp_X6_birthA h (by omega) (by omega)) rc_X6 dX6_all_35 (by decide) (Nat.le_of_ble_eq_true rfl) rfl ?_
            refine E_if_eq (tgt := 74) (q := 41) dX6_all_38 (by decide) rfl (fun h38 => ?_) (fun h38 => ?_)
            · skip
              refine E_iinc4 (q := 77) dX6_all_74 (nI_inc _) rfl rfl ?_
              refine E_goto (q := 24) dX6_all_77 (by decide) ?_
              exact ih2
            · skip
              exact absurd (by rw [e0]; decide) h38
        · have hb := h.bt i j
          rw [own_full h.2.2.2.2 hx, ← e3] at e6
          refine E_iload4 (q := 26) dX6_all_24 rfl ?_
          refine E_bipush (v := nI 12) (q := 28) dX6_all_26 (by decide) rfl ?_
          refine E_icmp_geN (tgt := 80) (q := 31) dX6_all_28 (by decide) rfl (by omega) (by omega) (fun h28 => ?_) (fun h28 => ?_)
          · skip
            exact absurd h28 (by omega)
          · skip
            refine E_aload0 (q := 32) dX6_all_31 rfl ?_
            refine E_iload3 (q := 33) dX6_all_32 rfl ?_
            refine E_iload4 (q := 35) dX6_all_33 rfl ?_
            refine C_V2I (q := 38) lk_X6_77 (sp_X6_birthA h (by omega) (by omega)) rc_X6 dX6_all_35 (by decide) (Nat.le_of_ble_eq_true rfl) rfl ?_
            refine E_if_eq (tgt := 74) (q := 41) dX6_all_38 (by decide) rfl (fun h38 => ?_) (fun h38 => ?_)
            · skip
              exact absurd ((nI_z (by omega)).mp h38) e5
            · skip
              refine E_aload0 (q := 42) dX6_all_41 rfl ?_
              refine E_iload3 (q := 43) dX6_all_42 rfl ?_
              refine E_aload0 (q := 44) dX6_all_43 rfl ?_
              refine E_iload3 (q := 45) dX6_all_44 rfl ?_
              refine E_iload4 (q := 47) dX6_all_45 rfl ?_
              refine C_V2I (q := 50) lk_X6_77 (sp_X6_birthA h (by omega) (by omega)) rc_X6 dX6_all_47 (by decide) (Nat.le_of_ble_eq_true rfl) rfl ?_
              refine C_V2I (q := 53) lk_X6_98 (sp_X6_isFirstA h (by omega) (by omega) (by omega)) rc_X6 dX6_all_50 (by decide) (Nat.le_of_ble_eq_true rfl) rfl ?_
              refine E_if_eq (tgt := 74) (q := 56) dX6_all_53 (by decide) rfl (fun h53 => ?_) (fun h53 => ?_)
              · skip
                refine E_iinc4 (q := 77) dX6_all_74 (nI_inc _) rfl rfl ?_
                refine E_goto (q := 24) dX6_all_77 (by decide) ?_
                rw [nsum_s (gv A FULL22 siz i) j, e6, if_neg (fun z => zI_0 h53 z.2), Nat.add_zero] at ih2
                exact ih2
              · skip
                refine E_iload2 (q := 57) dX6_all_56 rfl ?_
                refine E_iload1 (q := 58) dX6_all_57 rfl ?_
                refine E_if_eq (tgt := 71) (q := 61) dX6_all_58 (by decide) rfl (fun h58 => ?_) (fun h58 => ?_)
                · first | exact absurd h58 (by decide) | exact absurd (by decide) h58
                · skip
                  refine E_aload0 (q := 62) dX6_all_61 rfl ?_
                  refine E_iload3 (q := 63) dX6_all_62 rfl ?_
                  refine E_iload4 (q := 65) dX6_all_63 rfl ?_
                  refine C_V2I (q := 68) lk_X6_80 (sp_X6_unitsA h (by omega) (by omega)) rc_X6 dX6_all_65 (by decide) (Nat.le_of_ble_eq_true rfl) rfl ?_
                  refine E_goto (q := 72) dX6_all_68 (by decide) ?_
                  refine E_iaddN (q := 73) dX6_all_72 rfl ?_
                  refine E_istore2 (q := 74) dX6_all_73 rfl rfl ?_
                  refine E_iinc4 (q := 77) dX6_all_74 (nI_inc _) rfl rfl ?_
                  refine E_goto (q := 24) dX6_all_77 (by decide) ?_
                  rw [nsum_s (gv A FULL22 siz i) j, e6, if_pos ⟨e3 ▸ e4, zI_n h53⟩, ← Nat.add_assoc, ← e2] at ih2
                  exact ih2
    refine E_iload3 (q := 5) dX6_all_4 rfl ?_
    refine E_bipush (v := nI 22) (q := 7) dX6_all_5 (by decide) rfl ?_
    refine E_icmp_geN (tgt := 86) (q := 10) dX6_all_7 (by decide) rfl (by omega) (by omega) (fun h7 => ?_) (fun h7 => ?_)
    · skip
      exact absurd h7 (by omega)
    · skip
      refine E_aload0 (q := 11) dX6_all_10 rfl ?_
      refine E_iload3 (q := 12) dX6_all_11 rfl ?_
      refine C_V1I (q := 15) lk_X6_87 (sp_X6_isVerN h.1 h.2.1 h.2.2.1 (by omega)) rc_X6 dX6_all_12 (by decide) (Nat.le_of_ble_eq_true rfl) rfl ?_
      refine E_if_ne (tgt := 21) (q := 18) dX6_all_15 (by decide) rfl (fun h15 => ?_) (fun h15 => ?_)
      · skip
        refine E_iconst (v := nI 0) (q := 22) dX6_all_21 (by decide) rfl ?_
        refine E_istore4 (q := 24) dX6_all_22 rfl rfl ?_
        exact hin
      · skip
        refine E_goto (q := 80) dX6_all_18 (by decide) ?_
        refine E_iinc3 (q := 83) dX6_all_80 (nI_inc _) rfl rfl ?_
        refine E_goto (q := 4) dX6_all_83 (by decide) ?_
        rw [nsum_s (gvs A FULL22 siz) i, gvs_th h.2.2.2.2 (zI_0 h15), Nat.add_zero] at ih
        exact ih
theorem sp_X6_allN (h : RI M wx A) : Spec D 7 yX6_all cfX6_all [.ref (ad 157), .int (nI (0))] (wl D ad M) 0 0 (PI (nI (A.2.length)) (wl D ad M)) := by
  refine Spec.of (by decide) rfl (Nat.le_of_ble_eq_true rfl) rfl ?_
  refine E_iconst (v := nI 0) (q := 1) dX6_all_0 (by decide) rfl ?_
  refine E_istore2 (q := 2) dX6_all_1 rfl rfl ?_
  refine E_iconst (v := nI 0) (q := 3) dX6_all_2 (by decide) rfl ?_
  refine E_istore3 (q := 4) dX6_all_3 rfl rfl ?_
  refine upto0 (n := 22) (P := fun i => V D cfX6_all (rmOf 7 0 0) (QM D (PI (nI (A.2.length)) (wl D ad M)) 0 0) 0 0 4 [some (.ref (ad 157)), some (.int (nI (0))), some (.int (nI (nsum (gvs A FULL22 (fun _ => 1)) i))), some (.int (nI (i))), none] [] (wl D ad M)) ?_ ?_
  · skip
    refine E_iload3 (q := 5) dX6_all_4 rfl ?_
    refine E_bipush (v := nI 22) (q := 7) dX6_all_5 (by decide) rfl ?_
    refine E_icmp_geN (tgt := 86) (q := 10) dX6_all_7 (by decide) rfl (by omega) (by omega) (fun h7 => ?_) (fun h7 => ?_)
    · skip
      refine E_iload2 (q := 87) dX6_all_86 rfl ?_
      exact E_ireturn rfl rfl dX6_all_87 (PI_of (congrArg nI ((gvs_full h.2.2.2.2 (fun _ => 1)).trans (fsum_one A.2))) rfl)
    · skip
      exact absurd h7 (by omega)
  · intro i hi ih
    have hin : V D cfX6_all (rmOf 7 0 0) (QM D (PI (nI (A.2.length)) (wl D ad M)) 0 0) 0 0 24 [some (.ref (ad 157)), some (.int (nI (0))), some (.int (nI (nsum (gvs A FULL22 (fun _ => 1)) i + nsum (gv A FULL22 (fun _ => 1) i) 0))), some (.int (nI (i))), some (.int (nI (0)))] [] (wl D ad M) := by
      refine upto0 (n := 12) (P := fun j => V D cfX6_all (rmOf 7 0 0) (QM D (PI (nI (A.2.length)) (wl D ad M)) 0 0) 0 0 24 [some (.ref (ad 157)), some (.int (nI (0))), some (.int (nI (nsum (gvs A FULL22 (fun _ => 1)) i + nsum (gv A FULL22 (fun _ => 1) i) j))), some (.int (nI (i))), some (.int (nI (j)))] [] (wl D ad M)) ?_ ?_
      · skip
        refine E_iload4 (q := 26) dX6_all_24 rfl ?_
        refine E_bipush (v := nI 12) (q := 28) dX6_all_26 (by decide) rfl ?_
        refine E_icmp_geN (tgt := 80) (q := 31) dX6_all_28 (by decide) rfl (by omega) (by omega) (fun h28 => ?_) (fun h28 => ?_)
        · skip
          refine E_iinc3 (q := 83) dX6_all_80 (nI_inc _) rfl rfl ?_
          refine E_goto (q := 4) dX6_all_83 (by decide) ?_
          exact V_sub (by repeat (first | exact subL_nil | refine subL_s ?_ | refine subL_n ?_)) ih
        · skip
          exact absurd h28 (by omega)
      · intro j hj ih2
        rcases gv_case h.2.2.2.2 FULL22 (fun _ => 1) i j with ⟨e0, e1⟩ | ⟨x, hx, e1, e2, e3, e4, e5, e6⟩
        · rw [nsum_s (gv A FULL22 (fun _ => 1) i) j, e1, Nat.add_zero] at ih2
          refine E_iload4 (q := 26) dX6_all_24 rfl ?_
          refine E_bipush (v := nI 12) (q := 28) dX6_all_26 (by decide) rfl ?_
          refine E_icmp_geN (tgt := 80) (q := 31) dX6_all_28 (by decide) rfl (by omega) (by omega) (fun h28 => ?_) (fun h28 => ?_)
          · skip
            exact absurd h28 (by omega)
          · skip
            refine E_aload0 (q := 32) dX6_all_31 rfl ?_
            refine E_iload3 (q := 33) dX6_all_32 rfl ?_
            refine E_iload4 (q := 35) dX6_all_33 rfl ?_
            refine C_V2I (q := 38) lk_X6_77 (sp_X6_birthA h (by omega) (by omega)) rc_X6 dX6_all_35 (by decide) (Nat.le_of_ble_eq_true rfl) rfl ?_
            refine E_if_eq (tgt := 74) (q := 41) dX6_all_38 (by decide) rfl (fun h38 => ?_) (fun h38 => ?_)
            · skip
              refine E_iinc4 (q := 77) dX6_all_74 (nI_inc _) rfl rfl ?_
              refine E_goto (q := 24) dX6_all_77 (by decide) ?_
              exact ih2
            · skip
              exact absurd (by rw [e0]; decide) h38
        · have hb := h.bt i j
          rw [own_full h.2.2.2.2 hx, ← e3] at e6
          refine E_iload4 (q := 26) dX6_all_24 rfl ?_
          refine E_bipush (v := nI 12) (q := 28) dX6_all_26 (by decide) rfl ?_
          refine E_icmp_geN (tgt := 80) (q := 31) dX6_all_28 (by decide) rfl (by omega) (by omega) (fun h28 => ?_) (fun h28 => ?_)
          · skip
            exact absurd h28 (by omega)
          · skip
            refine E_aload0 (q := 32) dX6_all_31 rfl ?_
            refine E_iload3 (q := 33) dX6_all_32 rfl ?_
            refine E_iload4 (q := 35) dX6_all_33 rfl ?_
            refine C_V2I (q := 38) lk_X6_77 (sp_X6_birthA h (by omega) (by omega)) rc_X6 dX6_all_35 (by decide) (Nat.le_of_ble_eq_true rfl) rfl ?_
            refine E_if_eq (tgt := 74) (q := 41) dX6_all_38 (by decide) rfl (fun h38 => ?_) (fun h38 => ?_)
            · skip
              exact absurd ((nI_z (by omega)).mp h38) e5
            · skip
              refine E_aload0 (q := 42) dX6_all_41 rfl ?_
              refine E_iload3 (q := 43) dX6_all_42 rfl ?_
              refine E_aload0 (q := 44) dX6_all_43 rfl ?_
              refine E_iload3 (q := 45) dX6_all_44 rfl ?_
              refine E_iload4 (q := 47) dX6_all_45 rfl ?_
              refine C_V2I (q := 50) lk_X6_77 (sp_X6_birthA h (by omega) (by omega)) rc_X6 dX6_all_47 (by decide) (Nat.le_of_ble_eq_true rfl) rfl ?_
              refine C_V2I (q := 53) lk_X6_98 (sp_X6_isFirstA h (by omega) (by omega) (by omega)) rc_X6 dX6_all_50 (by decide) (Nat.le_of_ble_eq_true rfl) rfl ?_
              refine E_if_eq (tgt := 74) (q := 56) dX6_all_53 (by decide) rfl (fun h53 => ?_) (fun h53 => ?_)
              · skip
                refine E_iinc4 (q := 77) dX6_all_74 (nI_inc _) rfl rfl ?_
                refine E_goto (q := 24) dX6_all_77 (by decide) ?_
                rw [nsum_s (gv A FULL22 (fun _ => 1) i) j, e6, if_neg (fun z => zI_0 h53 z.2), Nat.add_zero] at ih2
                exact ih2
              · skip
                refine E_iload2 (q := 57) dX6_all_56 rfl ?_
                refine E_iload1 (q := 58) dX6_all_57 rfl ?_
                refine E_if_eq (tgt := 71) (q := 61) dX6_all_58 (by decide) rfl (fun h58 => ?_) (fun h58 => ?_)
                · skip
                  refine E_iconst (v := nI 1) (q := 72) dX6_all_71 (by decide) rfl ?_
                  refine E_iaddN (q := 73) dX6_all_72 rfl ?_
                  refine E_istore2 (q := 74) dX6_all_73 rfl rfl ?_
                  refine E_iinc4 (q := 77) dX6_all_74 (nI_inc _) rfl rfl ?_
                  refine E_goto (q := 24) dX6_all_77 (by decide) ?_
                  rw [nsum_s (gv A FULL22 (fun _ => 1) i) j, e6, if_pos ⟨e3 ▸ e4, zI_n h53⟩, ← Nat.add_assoc] at ih2
                  exact ih2
                · first | exact absurd h58 (by decide) | exact absurd (by decide) h58
    refine E_iload3 (q := 5) dX6_all_4 rfl ?_
    refine E_bipush (v := nI 22) (q := 7) dX6_all_5 (by decide) rfl ?_
    refine E_icmp_geN (tgt := 86) (q := 10) dX6_all_7 (by decide) rfl (by omega) (by omega) (fun h7 => ?_) (fun h7 => ?_)
    · skip
      exact absurd h7 (by omega)
    · skip
      refine E_aload0 (q := 11) dX6_all_10 rfl ?_
      refine E_iload3 (q := 12) dX6_all_11 rfl ?_
      refine C_V1I (q := 15) lk_X6_87 (sp_X6_isVerN h.1 h.2.1 h.2.2.1 (by omega)) rc_X6 dX6_all_12 (by decide) (Nat.le_of_ble_eq_true rfl) rfl ?_
      refine E_if_ne (tgt := 21) (q := 18) dX6_all_15 (by decide) rfl (fun h15 => ?_) (fun h15 => ?_)
      · skip
        refine E_iconst (v := nI 0) (q := 22) dX6_all_21 (by decide) rfl ?_
        refine E_istore4 (q := 24) dX6_all_22 rfl rfl ?_
        exact hin
      · skip
        refine E_goto (q := 80) dX6_all_18 (by decide) ?_
        refine E_iinc3 (q := 83) dX6_all_80 (nI_inc _) rfl rfl ?_
        refine E_goto (q := 4) dX6_all_83 (by decide) ?_
        rw [nsum_s (gvs A FULL22 (fun _ => 1)) i, gvs_th h.2.2.2.2 (zI_0 h15), Nat.add_zero] at ih
        exact ih
/-- the size of a block that only versions of m have -/
def hbF (m : Nat) (x : Blk) : Nat := if andn (own x) m = 0 then siz x else 0
theorem sp_X6_heldBy {m : Nat} (h : RI M wx A) (hm : m < 2 ^ 31) : Spec D 7 yX6_heldBy cfX6_heldBy [.ref (ad 157), .int (nI (m))] (wl D ad M) 0 0 (PI (nI (fsum (hbF m) A.2)) (wl D ad M)) := by
  refine Spec.of (by decide) rfl (Nat.le_of_ble_eq_true rfl) rfl ?_
  refine E_iconst (v := nI 0) (q := 1) dX6_heldBy_0 (by decide) rfl ?_
  refine E_istore2 (q := 2) dX6_heldBy_1 rfl rfl ?_
  refine E_iconst (v := nI 0) (q := 3) dX6_heldBy_2 (by decide) rfl ?_
  refine E_istore3 (q := 4) dX6_heldBy_3 rfl rfl ?_
  refine upto0 (n := 22) (P := fun i => V D cfX6_heldBy (rmOf 7 0 0) (QM D (PI (nI (fsum (hbF m) A.2)) (wl D ad M)) 0 0) 0 0 4 [some (.ref (ad 157)), some (.int (nI (m))), some (.int (nI (nsum (gvs A FULL22 (hbF m)) i))), some (.int (nI (i))), none] [] (wl D ad M)) ?_ ?_
  · skip
    refine E_iload3 (q := 5) dX6_heldBy_4 rfl ?_
    refine E_bipush (v := nI 22) (q := 7) dX6_heldBy_5 (by decide) rfl ?_
    refine E_icmp_geN (tgt := 111) (q := 10) dX6_heldBy_7 (by decide) rfl (by omega) (by omega) (fun h7 => ?_) (fun h7 => ?_)
    · skip
      refine E_iload2 (q := 112) dX6_heldBy_111 rfl ?_
      exact E_ireturn rfl rfl dX6_heldBy_112 (PI_of (congrArg nI (gvs_full h.2.2.2.2 (hbF m))) rfl)
    · skip
      exact absurd h7 (by omega)
  · intro i hi ih
    have hin : V D cfX6_heldBy (rmOf 7 0 0) (QM D (PI (nI (fsum (hbF m) A.2)) (wl D ad M)) 0 0) 0 0 32 [some (.ref (ad 157)), some (.int (nI (m))), some (.int (nI (nsum (gvs A FULL22 (hbF m)) i + nsum (gv A FULL22 (hbF m) i) 0))), some (.int (nI (i))), some (.int (nI (0)))] [] (wl D ad M) := by
      refine upto0 (n := 12) (P := fun j => V D cfX6_heldBy (rmOf 7 0 0) (QM D (PI (nI (fsum (hbF m) A.2)) (wl D ad M)) 0 0) 0 0 32 [some (.ref (ad 157)), some (.int (nI (m))), some (.int (nI (nsum (gvs A FULL22 (hbF m)) i + nsum (gv A FULL22 (hbF m) i) j))), some (.int (nI (i))), some (.int (nI (j)))] [] (wl D ad M)) ?_ ?_
      · skip
        refine E_iload4 (q := 34) dX6_heldBy_32 rfl ?_
        refine E_bipush (v := nI 12) (q := 36) dX6_heldBy_34 (by decide) rfl ?_
        refine E_icmp_geN (tgt := 105) (q := 39) dX6_heldBy_36 (by decide) rfl (by omega) (by omega) (fun h36 => ?_) (fun h36 => ?_)
        · skip
          refine E_iinc3 (q := 108) dX6_heldBy_105 (nI_inc _) rfl rfl ?_
          refine E_goto (q := 4) dX6_heldBy_108 (by decide) ?_
          exact V_sub (by repeat (first | exact subL_nil | refine subL_s ?_ | refine subL_n ?_)) ih
        · skip
          exact absurd h36 (by omega)
      · intro j hj ih2
        rcases gv_case h.2.2.2.2 FULL22 (hbF m) i j with ⟨e0, e1⟩ | ⟨x, hx, e1, e2, e3, e4, e5, e6⟩
        · rw [nsum_s (gv A FULL22 (hbF m) i) j, e1, Nat.add_zero] at ih2
          refine E_iload4 (q := 34) dX6_heldBy_32 rfl ?_
          refine E_bipush (v := nI 12) (q := 36) dX6_heldBy_34 (by decide) rfl ?_
          refine E_icmp_geN (tgt := 105) (q := 39) dX6_heldBy_36 (by decide) rfl (by omega) (by omega) (fun h36 => ?_) (fun h36 => ?_)
          · skip
            exact absurd h36 (by omega)
          · skip
            refine E_aload0 (q := 40) dX6_heldBy_39 rfl ?_
            refine E_iload3 (q := 41) dX6_heldBy_40 rfl ?_
            refine E_iload4 (q := 43) dX6_heldBy_41 rfl ?_
            refine C_V2I (q := 46) lk_X6_77 (sp_X6_birthA h (by omega) (by omega)) rc_X6 dX6_heldBy_43 (by decide) (Nat.le_of_ble_eq_true rfl) rfl ?_
            refine E_if_eq (tgt := 99) (q := 49) dX6_heldBy_46 (by decide) rfl (fun h46 => ?_) (fun h46 => ?_)
            · skip
              refine E_iinc4 (q := 102) dX6_heldBy_99 (nI_inc _) rfl rfl ?_
              refine E_goto (q := 32) dX6_heldBy_102 (by decide) ?_
              exact ih2
            · skip
              exact absurd (by rw [e0]; decide) h46
        · have hb := h.bt i j
          have hlo := h.2.2.2.2.own_lt (bAt A.2 i j)
          have hla : andn (own x) m < 2 ^ 31 := Nat.lt_of_le_of_lt andn_le (by omega)
          rw [own_full h.2.2.2.2 hx, ← e3] at e6
          refine E_iload4 (q := 34) dX6_heldBy_32 rfl ?_
          refine E_bipush (v := nI 12) (q := 36) dX6_heldBy_34 (by decide) rfl ?_
          refine E_icmp_geN (tgt := 105) (q := 39) dX6_heldBy_36 (by decide) rfl (by omega) (by omega) (fun h36 => ?_) (fun h36 => ?_)
          · skip
            exact absurd h36 (by omega)
          · skip
            refine E_aload0 (q := 40) dX6_heldBy_39 rfl ?_
            refine E_iload3 (q := 41) dX6_heldBy_40 rfl ?_
            refine E_iload4 (q := 43) dX6_heldBy_41 rfl ?_
            refine C_V2I (q := 46) lk_X6_77 (sp_X6_birthA h (by omega) (by omega)) rc_X6 dX6_heldBy_43 (by decide) (Nat.le_of_ble_eq_true rfl) rfl ?_
            refine E_if_eq (tgt := 99) (q := 49) dX6_heldBy_46 (by decide) rfl (fun h46 => ?_) (fun h46 => ?_)
            · skip
              exact absurd ((nI_z (by omega)).mp h46) e5
            · skip
              refine E_aload0 (q := 50) dX6_heldBy_49 rfl ?_
              refine E_iload3 (q := 51) dX6_heldBy_50 rfl ?_
              refine E_aload0 (q := 52) dX6_heldBy_51 rfl ?_
              refine E_iload3 (q := 53) dX6_heldBy_52 rfl ?_
              refine E_iload4 (q := 55) dX6_heldBy_53 rfl ?_
              refine C_V2I (q := 58) lk_X6_77 (sp_X6_birthA h (by omega) (by omega)) rc_X6 dX6_heldBy_55 (by decide) (Nat.le_of_ble_eq_true rfl) rfl ?_
              refine C_V2I (q := 61) lk_X6_98 (sp_X6_isFirstA h (by omega) (by omega) (by omega)) rc_X6 dX6_heldBy_58 (by decide) (Nat.le_of_ble_eq_true rfl) rfl ?_
              refine E_if_ne (tgt := 67) (q := 64) dX6_heldBy_61 (by decide) rfl (fun h61 => ?_) (fun h61 => ?_)
              · skip
                refine E_iload2 (q := 68) dX6_heldBy_67 rfl ?_
                refine E_aload0 (q := 69) dX6_heldBy_68 rfl ?_
                refine E_aload0 (q := 70) dX6_heldBy_69 rfl ?_
                refine E_iload3 (q := 71) dX6_heldBy_70 rfl ?_
                refine E_iload4 (q := 73) dX6_heldBy_71 rfl ?_
                refine C_V2I (q := 76) lk_X6_77 (sp_X6_birthA h (by omega) (by omega)) rc_X6 dX6_heldBy_73 (by decide) (Nat.le_of_ble_eq_true rfl) rfl ?_
                refine C_V1I (q := 79) lk_X6_94 (sp_X6_holdersA h (by omega) (by omega)) rc_X6 dX6_heldBy_76 (by decide) (Nat.le_of_ble_eq_true rfl) rfl ?_
                refine E_iload1 (q := 80) dX6_heldBy_79 rfl ?_
                refine E_iconst (v := -1) (q := 81) dX6_heldBy_80 (by decide) rfl ?_
                refine E_ixor (q := 82) dX6_heldBy_81 rfl ?_
                refine E_iand (q := 83) dX6_heldBy_82 rfl ?_
                refine V_int (nI_andn _ _) ?_
                rw [e3]
                refine E_if_ne (tgt := 96) (q := 86) dX6_heldBy_83 (by decide) rfl (fun h83 => ?_) (fun h83 => ?_)
                · skip
                  refine E_iconst (v := nI 0) (q := 97) dX6_heldBy_96 (by decide) rfl ?_
                  refine E_iaddN (q := 98) dX6_heldBy_97 rfl ?_
                  refine E_istore2 (q := 99) dX6_heldBy_98 rfl rfl ?_
                  refine E_iinc4 (q := 102) dX6_heldBy_99 (nI_inc _) rfl rfl ?_
                  refine E_goto (q := 32) dX6_heldBy_102 (by decide) ?_
                  rw [nsum_s (gv A FULL22 (hbF m) i) j, e6, if_pos ⟨e3 ▸ e4, zI_n h61⟩, hbF, if_neg (fun z => h83 ((nI_z hla).mpr z)), ← Nat.add_assoc] at ih2
                  exact ih2
                · skip
                  refine E_aload0 (q := 87) dX6_heldBy_86 rfl ?_
                  refine E_iload3 (q := 88) dX6_heldBy_87 rfl ?_
                  refine E_iload4 (q := 90) dX6_heldBy_88 rfl ?_
                  refine C_V2I (q := 93) lk_X6_80 (sp_X6_unitsA h (by omega) (by omega)) rc_X6 dX6_heldBy_90 (by decide) (Nat.le_of_ble_eq_true rfl) rfl ?_
                  refine E_goto (q := 97) dX6_heldBy_93 (by decide) ?_
                  refine E_iaddN (q := 98) dX6_heldBy_97 rfl ?_
                  refine E_istore2 (q := 99) dX6_heldBy_98 rfl rfl ?_
                  refine E_iinc4 (q := 102) dX6_heldBy_99 (nI_inc _) rfl rfl ?_
                  refine E_goto (q := 32) dX6_heldBy_102 (by decide) ?_
                  rw [nsum_s (gv A FULL22 (hbF m) i) j, e6, if_pos ⟨e3 ▸ e4, zI_n h61⟩, hbF, if_pos ((nI_z hla).mp h83), ← Nat.add_assoc, ← e2] at ih2
                  exact ih2
              · skip
                refine E_goto (q := 99) dX6_heldBy_64 (by decide) ?_
                refine E_iinc4 (q := 102) dX6_heldBy_99 (nI_inc _) rfl rfl ?_
                refine E_goto (q := 32) dX6_heldBy_102 (by decide) ?_
                rw [nsum_s (gv A FULL22 (hbF m) i) j, e6, if_neg (fun z => zI_0 h61 z.2), Nat.add_zero] at ih2
                exact ih2
    refine E_iload3 (q := 5) dX6_heldBy_4 rfl ?_
    refine E_bipush (v := nI 22) (q := 7) dX6_heldBy_5 (by decide) rfl ?_
    refine E_icmp_geN (tgt := 111) (q := 10) dX6_heldBy_7 (by decide) rfl (by omega) (by omega) (fun h7 => ?_) (fun h7 => ?_)
    · skip
      exact absurd h7 (by omega)
    · skip
      refine E_iload1 (q := 11) dX6_heldBy_10 rfl ?_
      refine E_iload3 (q := 12) dX6_heldBy_11 rfl ?_
      refine C_S2I (q := 15) lk_X6_101 (sp_X6_has hm (by omega)) dX6_heldBy_12 (by decide) (Nat.le_of_ble_eq_true rfl) rfl ?_
      refine E_if_eq (tgt := 105) (q := 18) dX6_heldBy_15 (by decide) rfl (fun h15 => ?_) (fun h15 => ?_)
      · skip
        refine E_iinc3 (q := 108) dX6_heldBy_105 (nI_inc _) rfl rfl ?_
        refine E_goto (q := 4) dX6_heldBy_108 (by decide) ?_
        rw [nsum_s (gvs A FULL22 (hbF m)) i, gvs_0 (f := hbF m) (fun x hx hb => if_neg (fun z => zI_0 h15 ((andn_0 (Nat.lt_trans (h.2.2.2.2.2 x hx).2.2.2.2.2.2.1 (by decide))).mp z i hb))), Nat.add_zero] at ih
        exact ih
      · skip
        refine E_aload0 (q := 19) dX6_heldBy_18 rfl ?_
        refine E_iload3 (q := 20) dX6_heldBy_19 rfl ?_
        refine C_V1I (q := 23) lk_X6_87 (sp_X6_isVerN h.1 h.2.1 h.2.2.1 (by omega)) rc_X6 dX6_heldBy_20 (by decide) (Nat.le_of_ble_eq_true rfl) rfl ?_
        refine E_if_ne (tgt := 29) (q := 26) dX6_heldBy_23 (by decide) rfl (fun h23 => ?_) (fun h23 => ?_)
        · skip
          refine E_iconst (v := nI 0) (q := 30) dX6_heldBy_29 (by decide) rfl ?_
          refine E_istore4 (q := 32) dX6_heldBy_30 rfl rfl ?_
          exact hin
        · skip
          refine E_goto (q := 105) dX6_heldBy_26 (by decide) ?_
          refine E_iinc3 (q := 108) dX6_heldBy_105 (nI_inc _) rfl rfl ?_
          refine E_goto (q := 4) dX6_heldBy_108 (by decide) ?_
          rw [nsum_s (gvs A FULL22 (hbF m)) i, gvs_th h.2.2.2.2 (zI_0 h23), Nat.add_zero] at ih
          exact ih
theorem sp_X6_listOf {v f : Nat} (h : RI M wx A) (hv : v < 6) (ht : th A (16 + v)) (hf : f ≤ (rowL A v).length) : Spec D 3 yX6_listOf cfX6_listOf [.ref (ad 157), .int (nI (v)), .int (nI (f))] (wl D ad M) 0 0 (PI (nI (mkR (rowL A v) f (rowL A v).length)) (wl D ad M)) := by
  refine Spec.of (by decide) rfl (Nat.le_of_ble_eq_true rfl) rfl ?_
  have hl := rowL_len A v
  have hmain : ∀ k, k ≤ (rowL A v).length → f ≤ k → V D cfX6_listOf (rmOf 3 0 0) (QM D (PI (nI (mkR (rowL A v) f (rowL A v).length)) (wl D ad M)) 0 0) 0 0 5 [some (.ref (ad 157)), some (.int (nI (v))), some (.int (nI (f))), some (.int (nI (mkR (rowL A v) f k))), some (.int (nI (k)))] [] (wl D ad M) := by
    refine upto (n := (rowL A v).length) (P := fun k => f ≤ k → V D cfX6_listOf (rmOf 3 0 0) (QM D (PI (nI (mkR (rowL A v) f (rowL A v).length)) (wl D ad M)) 0 0) 0 0 5 [some (.ref (ad 157)), some (.int (nI (v))), some (.int (nI (f))), some (.int (nI (mkR (rowL A v) f k))), some (.int (nI (k)))] [] (wl D ad M)) ?_ ?_
    · intro _
      refine E_iload4 (q := 7) dX6_listOf_5 rfl ?_
      refine E_aload0 (q := 8) dX6_listOf_7 rfl ?_
      refine E_iload1 (q := 9) dX6_listOf_8 rfl ?_
      refine E_iconst (v := nI 4) (q := 10) dX6_listOf_9 (by decide) rfl ?_
      refine C_V2I (q := 13) lk_X6_64 (sp_X6_volM h hv ht) rc_X6 dX6_listOf_10 (by decide) (Nat.le_of_ble_eq_true rfl) rfl ?_
      refine E_icmp_geN (tgt := 36) (q := 16) dX6_listOf_13 (by decide) rfl (by omega) (by omega) (fun h13 => ?_) (fun h13 => ?_)
      · skip
        refine E_iload3 (q := 37) dX6_listOf_36 rfl ?_
        exact E_ireturn rfl rfl dX6_listOf_37 (PI_of rfl rfl)
      · skip
        exact absurd h13 (Nat.lt_irrefl _)
    · intro k hk ih hfk
      obtain ⟨t, hg⟩ : ∃ t, (rowL A v)[k]? = some t := ⟨_, List.getElem?_eq_getElem hk⟩
      have h16 := (mem_rowL.mp (List.mem_of_getElem? hg)).1
      refine E_iload4 (q := 7) dX6_listOf_5 rfl ?_
      refine E_aload0 (q := 8) dX6_listOf_7 rfl ?_
      refine E_iload1 (q := 9) dX6_listOf_8 rfl ?_
      refine E_iconst (v := nI 4) (q := 10) dX6_listOf_9 (by decide) rfl ?_
      refine C_V2I (q := 13) lk_X6_64 (sp_X6_volM h hv ht) rc_X6 dX6_listOf_10 (by decide) (Nat.le_of_ble_eq_true rfl) rfl ?_
      refine E_icmp_geN (tgt := 36) (q := 16) dX6_listOf_13 (by decide) rfl (by omega) (by omega) (fun h13 => ?_) (fun h13 => ?_)
      · skip
        exact absurd h13 (by omega)
      · skip
        refine E_iload3 (q := 17) dX6_listOf_16 rfl ?_
        refine E_iconst (v := nI 1) (q := 18) dX6_listOf_17 (by decide) rfl ?_
        refine E_aload0 (q := 19) dX6_listOf_18 rfl ?_
        refine E_iload1 (q := 20) dX6_listOf_19 rfl ?_
        refine E_iconst (v := nI 5) (q := 21) dX6_listOf_20 (by decide) rfl ?_
        refine E_iload4 (q := 23) dX6_listOf_21 rfl ?_
        refine E_iaddN (q := 24) dX6_listOf_23 rfl ?_
        refine C_V2I (q := 27) lk_X6_64 (sp_X6_volL h hv ht hg) rc_X6 dX6_listOf_24 (by decide) (Nat.le_of_ble_eq_true rfl) rfl ?_
        refine E_ishl (q := 28) dX6_listOf_27 rfl ?_
        refine V_int (one_shl (by omega)) ?_
        refine E_iorN (q := 29) dX6_listOf_28 (by rw [nI_or, mkR_s hfk hg h16]) rfl ?_
        refine E_istore3 (q := 30) dX6_listOf_29 rfl rfl ?_
        refine E_iinc4 (q := 33) dX6_listOf_30 (nI_inc _) rfl rfl ?_
        refine E_goto (q := 5) dX6_listOf_33 (by decide) ?_
        exact ih (by omega)
  refine E_iconst (v := nI 0) (q := 1) dX6_listOf_0 (by decide) rfl ?_
  refine E_istore3 (q := 2) dX6_listOf_1 rfl rfl ?_
  refine E_iload2 (q := 3) dX6_listOf_2 rfl ?_
  refine E_istore4 (q := 5) dX6_listOf_3 rfl rfl ?_
  have q := hmain f hf (Nat.le_refl _)
  rw [mkR_0] at q
  exact q
theorem sp_X6_goesWith {v a : Nat} (h : RI M wx A) (hv : v < 6) (ha : a < 12) : Spec D 6 yX6_goesWith cfX6_goesWith [.ref (ad 157), .int (nI (v)), .int (nI (a))] (wl D ad M) 0 0 (PI (nI (aln A (16 + v) a)) (wl D ad M)) := by
  refine Spec.of (by decide) rfl (Nat.le_of_ble_eq_true rfl) rfl ?_
  rcases aln_case h.2.2.2.2 (16 + v) a with ⟨e0, e1⟩ | ⟨x, hx, e1, e2, e3, e4, e5, e6⟩
  · rw [e1]
    refine E_aload0 (q := 1) dX6_goesWith_0 rfl ?_
    refine E_bipush (v := nI 16) (q := 3) dX6_goesWith_1 (by decide) rfl ?_
    refine E_iload1 (q := 4) dX6_goesWith_3 rfl ?_
    refine E_iaddN (q := 5) dX6_goesWith_4 rfl ?_
    refine E_iload2 (q := 6) dX6_goesWith_5 rfl ?_
    refine C_V2I (q := 9) lk_X6_77 (sp_X6_birthA h (by omega) (by omega)) rc_X6 dX6_goesWith_6 (by decide) (Nat.le_of_ble_eq_true rfl) rfl ?_
    refine E_istore3 (q := 10) dX6_goesWith_9 rfl rfl ?_
    refine E_iload3 (q := 11) dX6_goesWith_10 rfl ?_
    refine E_if_eq (tgt := 40) (q := 14) dX6_goesWith_11 (by decide) rfl (fun h11 => ?_) (fun h11 => ?_)
    · skip
      refine E_iconst (v := nI 0) (q := 41) dX6_goesWith_40 (by decide) rfl ?_
      exact E_ireturn rfl rfl dX6_goesWith_41 (PI_of rfl rfl)
    · skip
      exact absurd (by rw [e0]; decide) h11
  · have hb := h.bt (16 + v) a
    have hp : 2 ^ (16 + v) < 2 ^ 32 := Nat.pow_lt_pow_right (by decide) (by omega)
    have hlo := h.2.2.2.2.own_lt (bAt A.2 (16 + v) a)
    rw [← e3] at e6
    refine E_aload0 (q := 1) dX6_goesWith_0 rfl ?_
    refine E_bipush (v := nI 16) (q := 3) dX6_goesWith_1 (by decide) rfl ?_
    refine E_iload1 (q := 4) dX6_goesWith_3 rfl ?_
    refine E_iaddN (q := 5) dX6_goesWith_4 rfl ?_
    refine E_iload2 (q := 6) dX6_goesWith_5 rfl ?_
    refine C_V2I (q := 9) lk_X6_77 (sp_X6_birthA h (by omega) (by omega)) rc_X6 dX6_goesWith_6 (by decide) (Nat.le_of_ble_eq_true rfl) rfl ?_
    refine E_istore3 (q := 10) dX6_goesWith_9 rfl rfl ?_
    refine E_iload3 (q := 11) dX6_goesWith_10 rfl ?_
    refine E_if_eq (tgt := 40) (q := 14) dX6_goesWith_11 (by decide) rfl (fun h11 => ?_) (fun h11 => ?_)
    · skip
      exact absurd ((nI_z (by omega)).mp h11) e5
    · skip
      refine E_aload0 (q := 15) dX6_goesWith_14 rfl ?_
      refine E_iload3 (q := 16) dX6_goesWith_15 rfl ?_
      refine C_V1I (q := 19) lk_X6_94 (sp_X6_holdersA h (by omega) (by omega)) rc_X6 dX6_goesWith_16 (by decide) (Nat.le_of_ble_eq_true rfl) rfl ?_
      refine E_iconst (v := nI 1) (q := 20) dX6_goesWith_19 (by decide) rfl ?_
      refine E_bipush (v := nI 16) (q := 22) dX6_goesWith_20 (by decide) rfl ?_
      refine E_iload1 (q := 23) dX6_goesWith_22 rfl ?_
      refine E_iaddN (q := 24) dX6_goesWith_23 rfl ?_
      refine E_ishl (q := 25) dX6_goesWith_24 rfl ?_
      refine V_int (one_shl (by omega)) ?_
      refine E_icmp_ne (tgt := 40) (q := 28) dX6_goesWith_25 (by decide) rfl (fun h25 => ?_) (fun h25 => ?_)
      · skip
        refine E_iconst (v := nI 0) (q := 41) dX6_goesWith_40 (by decide) rfl ?_
        exact E_ireturn rfl rfl dX6_goesWith_41 (PI_of (by rw [e6, if_neg (fun z => h25 (congrArg nI z))]) rfl)
      · skip
        refine E_aload0 (q := 29) dX6_goesWith_28 rfl ?_
        refine E_bipush (v := nI 16) (q := 31) dX6_goesWith_29 (by decide) rfl ?_
        refine E_iload1 (q := 32) dX6_goesWith_31 rfl ?_
        refine E_iaddN (q := 33) dX6_goesWith_32 rfl ?_
        refine E_iload2 (q := 34) dX6_goesWith_33 rfl ?_
        refine C_V2I (q := 37) lk_X6_80 (sp_X6_unitsA h (by omega) (by omega)) rc_X6 dX6_goesWith_34 (by decide) (Nat.le_of_ble_eq_true rfl) rfl ?_
        refine E_goto (q := 41) dX6_goesWith_37 (by decide) ?_
        exact E_ireturn rfl rfl dX6_goesWith_41 (PI_of (by rw [e6, if_pos (nI_inj (by omega) hp h25), e2]) rfl)
/-- the block at a of w is dead in u -/
def deadP (A : AS) (u w a : Nat) : Prop := bAt A.2 w a ≠ 0 ∧ ¬ (ownB A.2 (bAt A.2 w a)).testBit u = true
theorem sp_X6_isDead {u w a : Nat} (h : RI M wx A) (hu : u < 22) (hw : w < 22) (ha : a < 12) : Spec D 3 yX6_isDead cfX6_isDead [.ref (ad 157), .int (nI (u)), .int (nI (w)), .int (nI (a))] (wl D ad M) 0 0 (PI (zI (deadP A u w a)) (wl D ad M)) := by
  refine Spec.of (by decide) rfl (Nat.le_of_ble_eq_true rfl) rfl ?_
  have hb := h.bt w a
  refine E_aload0 (q := 1) dX6_isDead_0 rfl ?_
  refine E_iload2 (q := 2) dX6_isDead_1 rfl ?_
  refine E_iload3 (q := 3) dX6_isDead_2 rfl ?_
  refine C_V2I (q := 6) lk_X6_77 (sp_X6_birthA h (by omega) (by omega)) rc_X6 dX6_isDead_3 (by decide) (Nat.le_of_ble_eq_true rfl) rfl ?_
  refine E_if_eq (tgt := 27) (q := 9) dX6_isDead_6 (by decide) rfl (fun h6 => ?_) (fun h6 => ?_)
  · skip
    refine E_iconst (v := nI 0) (q := 28) dX6_isDead_27 (by decide) rfl ?_
    exact E_zreturn rfl rfl rfl dX6_isDead_28 (PI_of (zI_f (fun z => z.1 ((nI_z (by omega)).mp h6))) rfl)
  · skip
    have hb0 : bAt A.2 w a ≠ 0 := fun z => h6 (by rw [z]; decide)
    refine E_aload0 (q := 10) dX6_isDead_9 rfl ?_
    refine E_iload1 (q := 11) dX6_isDead_10 rfl ?_
    refine E_aload0 (q := 12) dX6_isDead_11 rfl ?_
    refine E_iload2 (q := 13) dX6_isDead_12 rfl ?_
    refine E_iload3 (q := 14) dX6_isDead_13 rfl ?_
    refine C_V2I (q := 17) lk_X6_77 (sp_X6_birthA h (by omega) (by omega)) rc_X6 dX6_isDead_14 (by decide) (Nat.le_of_ble_eq_true rfl) rfl ?_
    refine C_V2I (q := 20) lk_X6_90 (sp_X6_hasBlockA h (by omega) (by omega) (by omega)) rc_X6 dX6_isDead_17 (by decide) (Nat.le_of_ble_eq_true rfl) rfl ?_
    refine E_if_ne (tgt := 27) (q := 23) dX6_isDead_20 (by decide) rfl (fun h20 => ?_) (fun h20 => ?_)
    · skip
      refine E_iconst (v := nI 0) (q := 28) dX6_isDead_27 (by decide) rfl ?_
      exact E_zreturn rfl rfl rfl dX6_isDead_28 (PI_of (zI_f (fun z => z.2 (zI_n h20))) rfl)
    · skip
      refine E_iconst (v := nI 1) (q := 24) dX6_isDead_23 (by decide) rfl ?_
      refine E_goto (q := 28) dX6_isDead_24 (by decide) ?_
      exact E_zreturn rfl rfl rfl dX6_isDead_28 (PI_of (zI_t ⟨hb0, zI_0 h20⟩) rfl)
theorem sp_X6_why {s : Nat} (h : RI M wx A) (hs : s < 16) (ht : th A s) : Spec D 5 yX6_why cfX6_why [.ref (ad 157), .int (nI (s))] (wl D ad M) 0 0 (PI (nI (whyN A s)) (wl D ad M)) := by
  refine Spec.of (by decide) rfl (Nat.le_of_ble_eq_true rfl) rfl ?_
  have h4 := h.2.2.1.2.2.1 s hs
  have hc : clo A s < 2 ^ 31 := bset_lt32 (by decide)
  refine E_aload0 (q := 1) dX6_why_0 rfl ?_
  refine E_iload1 (q := 2) dX6_why_1 rfl ?_
  refine C_V1I (q := 5) lk_X6_132 (sp_X6_clones h hs) rc_X6 dX6_why_2 (by decide) (Nat.le_of_ble_eq_true rfl) rfl ?_
  refine E_if_eq (tgt := 12) (q := 8) dX6_why_5 (by decide) rfl (fun h5 => ?_) (fun h5 => ?_)
  · skip
    refine E_aload0 (q := 13) dX6_why_12 rfl ?_
    refine E_iload1 (q := 14) dX6_why_13 rfl ?_
    refine E_iconst (v := nI 3) (q := 15) dX6_why_14 (by decide) rfl ?_
    refine C_V2I (q := 18) lk_X6_67 (sp_X6_snpH h hs ht) rc_X6 dX6_why_15 (by decide) (Nat.le_of_ble_eq_true rfl) rfl ?_
    refine E_iconst (v := nI 1) (q := 19) dX6_why_18 (by decide) rfl ?_
    refine E_icmp_neN (tgt := 26) (q := 22) dX6_why_19 (by decide) rfl (by omega) (by omega) (fun h19 => ?_) (fun h19 => ?_)
    · skip
      refine E_iconst (v := nI 0) (q := 27) dX6_why_26 (by decide) rfl ?_
      exact E_ireturn rfl rfl dX6_why_27 (PI_of (by rw [whyN, if_neg (fun z => z ((nI_z hc).mp h5)), if_neg h19]) rfl)
    · skip
      refine E_iconst (v := nI 2) (q := 23) dX6_why_22 (by decide) rfl ?_
      refine E_goto (q := 27) dX6_why_23 (by decide) ?_
      exact E_ireturn rfl rfl dX6_why_27 (PI_of (by rw [whyN, if_neg (fun z => z ((nI_z hc).mp h5)), if_pos h19]) rfl)
  · skip
    refine E_iconst (v := nI 1) (q := 9) dX6_why_8 (by decide) rfl ?_
    refine E_goto (q := 27) dX6_why_9 (by decide) ?_
    exact E_ireturn rfl rfl dX6_why_27 (PI_of (by rw [whyN, if_pos (fun z => h5 ((nI_z hc).mpr z))]) rfl)
theorem sp_X6_findS {p : Int32} (h : RI M wx A) : Spec D 4 yX6_find cfX6_find [.ref (ad 157), .int (nI (1)), .int (p)] (wl D ad M) 0 0 (PI (fnd (fun k => p ≠ 0 ∧ th A k ∧ nI (snm A k) = p) 16) (wl D ad M)) := by
  refine Spec.of (by decide) rfl (Nat.le_of_ble_eq_true rfl) rfl ?_
  refine E_iconst (v := nI 0) (q := 1) dX6_find_0 (by decide) rfl ?_
  refine E_istore3 (q := 2) dX6_find_1 rfl rfl ?_
  refine (upto0 (n := 16) (P := fun i => (∀ k, k < i → ¬ (p ≠ 0 ∧ th A k ∧ nI (snm A k) = p)) → V D cfX6_find (rmOf 4 0 0) (QM D (PI (fnd (fun k => p ≠ 0 ∧ th A k ∧ nI (snm A k) = p) 16) (wl D ad M)) 0 0) 0 0 2 [some (.ref (ad 157)), some (.int (nI (1))), some (.int (p)), some (.int (nI (i))), none] [] (wl D ad M)) ?_ ?_) (fun j hj => absurd hj (by omega))
  · intro hno
    refine E_iload3 (q := 3) dX6_find_2 rfl ?_
    refine E_iload1 (q := 4) dX6_find_3 rfl ?_
    refine E_if_eq (tgt := 12) (q := 7) dX6_find_4 (by decide) rfl (fun h4 => ?_) (fun h4 => ?_)
    · first | exact absurd h4 (by decide) | exact absurd (by decide) h4
    · skip
      refine E_bipush (v := nI 16) (q := 9) dX6_find_7 (by decide) rfl ?_
      refine E_goto (q := 14) dX6_find_9 (by decide) ?_
      refine E_icmp_geN (tgt := 89) (q := 17) dX6_find_14 (by decide) rfl (by omega) (by omega) (fun h14 => ?_) (fun h14 => ?_)
      · skip
        refine E_iconst (v := -1) (q := 90) dX6_find_89 (by decide) rfl ?_
        exact E_ireturn rfl rfl dX6_find_90 (PI_of (fnd_miss hno).symm rfl)
      · skip
        exact absurd h14 (by omega)
  · intro i hi ih hno
    refine E_iload3 (q := 3) dX6_find_2 rfl ?_
    refine E_iload1 (q := 4) dX6_find_3 rfl ?_
    refine E_if_eq (tgt := 12) (q := 7) dX6_find_4 (by decide) rfl (fun h4 => ?_) (fun h4 => ?_)
    · first | exact absurd h4 (by decide) | exact absurd (by decide) h4
    · skip
      refine E_bipush (v := nI 16) (q := 9) dX6_find_7 (by decide) rfl ?_
      refine E_goto (q := 14) dX6_find_9 (by decide) ?_
      refine E_icmp_geN (tgt := 89) (q := 17) dX6_find_14 (by decide) rfl (by omega) (by omega) (fun h14 => ?_) (fun h14 => ?_)
      · skip
        exact absurd h14 (by omega)
      · skip
        refine E_iload2 (q := 18) dX6_find_17 rfl ?_
        refine E_if_eq (tgt := 89) (q := 21) dX6_find_18 (by decide) rfl (fun h18 => ?_) (fun h18 => ?_)
        · skip
          refine E_iconst (v := -1) (q := 90) dX6_find_89 (by decide) rfl ?_
          exact E_ireturn rfl rfl dX6_find_90 (PI_of (fnd_miss (fun k _ z => z.1 h18)).symm rfl)
        · skip
          refine E_iload1 (q := 22) dX6_find_21 rfl ?_
          refine E_if_eq (tgt := 51) (q := 25) dX6_find_22 (by decide) rfl (fun h22 => ?_) (fun h22 => ?_)
          · first | exact absurd h22 (by decide) | exact absurd (by decide) h22
          · skip
            refine E_aload0 (q := 26) dX6_find_25 rfl ?_
            refine E_iload3 (q := 27) dX6_find_26 rfl ?_
            refine C_V1I (q := 30) lk_X6_70 (sp_X6_isSnpN h.1 h.2.1 h.2.2.1 (by omega)) rc_X6 dX6_find_27 (by decide) (Nat.le_of_ble_eq_true rfl) rfl ?_
            refine E_if_eq (tgt := 47) (q := 33) dX6_find_30 (by decide) rfl (fun h30 => ?_) (fun h30 => ?_)
            · skip
              refine E_iconst (v := nI 0) (q := 48) dX6_find_47 (by decide) rfl ?_
              refine E_goto (q := 74) dX6_find_48 (by decide) ?_
              refine E_istore4 (q := 76) dX6_find_74 rfl rfl ?_
              refine E_iload4 (q := 78) dX6_find_76 rfl ?_
              refine E_if_eq (tgt := 83) (q := 81) dX6_find_78 (by decide) rfl (fun h78 => ?_) (fun h78 => ?_)
              · skip
                refine E_iinc3 (q := 86) dX6_find_83 (nI_inc _) rfl rfl ?_
                refine E_goto (q := 2) dX6_find_86 (by decide) ?_
                exact V_sub (by repeat (first | exact subL_nil | refine subL_s ?_ | refine subL_n ?_)) (ih (no_lt hno (fun z => zI_0 h30 z.2.1)))
              · first | exact absurd h78 (by decide) | exact absurd (by decide) h78
            · skip
              refine E_aload0 (q := 34) dX6_find_33 rfl ?_
              refine E_iload3 (q := 35) dX6_find_34 rfl ?_
              refine E_iconst (v := nI 4) (q := 36) dX6_find_35 (by decide) rfl ?_
              refine C_V2I (q := 39) lk_X6_67 (sp_X6_snpN h hi (zI_n h30)) rc_X6 dX6_find_36 (by decide) (Nat.le_of_ble_eq_true rfl) rfl ?_
              refine E_iload2 (q := 40) dX6_find_39 rfl ?_
              refine E_icmp_ne (tgt := 47) (q := 43) dX6_find_40 (by decide) rfl (fun h40 => ?_) (fun h40 => ?_)
              · skip
                refine E_iconst (v := nI 0) (q := 48) dX6_find_47 (by decide) rfl ?_
                refine E_goto (q := 74) dX6_find_48 (by decide) ?_
                refine E_istore4 (q := 76) dX6_find_74 rfl rfl ?_
                refine E_iload4 (q := 78) dX6_find_76 rfl ?_
                refine E_if_eq (tgt := 83) (q := 81) dX6_find_78 (by decide) rfl (fun h78 => ?_) (fun h78 => ?_)
                · skip
                  refine E_iinc3 (q := 86) dX6_find_83 (nI_inc _) rfl rfl ?_
                  refine E_goto (q := 2) dX6_find_86 (by decide) ?_
                  exact V_sub (by repeat (first | exact subL_nil | refine subL_s ?_ | refine subL_n ?_)) (ih (no_lt hno (fun z => h40 z.2.2)))
                · first | exact absurd h78 (by decide) | exact absurd (by decide) h78
              · skip
                refine E_iconst (v := nI 1) (q := 44) dX6_find_43 (by decide) rfl ?_
                refine E_goto (q := 74) dX6_find_44 (by decide) ?_
                refine E_istore4 (q := 76) dX6_find_74 rfl rfl ?_
                refine E_iload4 (q := 78) dX6_find_76 rfl ?_
                refine E_if_eq (tgt := 83) (q := 81) dX6_find_78 (by decide) rfl (fun h78 => ?_) (fun h78 => ?_)
                · first | exact absurd h78 (by decide) | exact absurd (by decide) h78
                · skip
                  refine E_iload3 (q := 82) dX6_find_81 rfl ?_
                  exact E_ireturn rfl rfl dX6_find_82 (PI_of (fnd_hit hi hno ⟨h18, zI_n h30, h40⟩).symm rfl)
theorem sp_X6_findV {p : Int32} (h : RI M wx A) : Spec D 4 yX6_find cfX6_find [.ref (ad 157), .int (nI (0)), .int (p)] (wl D ad M) 0 0 (PI (fnd (fun k => p ≠ 0 ∧ th A (16 + k) ∧ nI (vnm A k) = p) 6) (wl D ad M)) := by
  refine Spec.of (by decide) rfl (Nat.le_of_ble_eq_true rfl) rfl ?_
  refine E_iconst (v := nI 0) (q := 1) dX6_find_0 (by decide) rfl ?_
  refine E_istore3 (q := 2) dX6_find_1 rfl rfl ?_
  refine (upto0 (n := 6) (P := fun i => (∀ k, k < i → ¬ (p ≠ 0 ∧ th A (16 + k) ∧ nI (vnm A k) = p)) → V D cfX6_find (rmOf 4 0 0) (QM D (PI (fnd (fun k => p ≠ 0 ∧ th A (16 + k) ∧ nI (vnm A k) = p) 6) (wl D ad M)) 0 0) 0 0 2 [some (.ref (ad 157)), some (.int (nI (0))), some (.int (p)), some (.int (nI (i))), none] [] (wl D ad M)) ?_ ?_) (fun j hj => absurd hj (by omega))
  · intro hno
    refine E_iload3 (q := 3) dX6_find_2 rfl ?_
    refine E_iload1 (q := 4) dX6_find_3 rfl ?_
    refine E_if_eq (tgt := 12) (q := 7) dX6_find_4 (by decide) rfl (fun h4 => ?_) (fun h4 => ?_)
    · skip
      refine E_bipush (v := nI 6) (q := 14) dX6_find_12 (by decide) rfl ?_
      refine E_icmp_geN (tgt := 89) (q := 17) dX6_find_14 (by decide) rfl (by omega) (by omega) (fun h14 => ?_) (fun h14 => ?_)
      · skip
        refine E_iconst (v := -1) (q := 90) dX6_find_89 (by decide) rfl ?_
        exact E_ireturn rfl rfl dX6_find_90 (PI_of (fnd_miss hno).symm rfl)
      · skip
        exact absurd h14 (by omega)
    · first | exact absurd h4 (by decide) | exact absurd (by decide) h4
  · intro i hi ih hno
    refine E_iload3 (q := 3) dX6_find_2 rfl ?_
    refine E_iload1 (q := 4) dX6_find_3 rfl ?_
    refine E_if_eq (tgt := 12) (q := 7) dX6_find_4 (by decide) rfl (fun h4 => ?_) (fun h4 => ?_)
    · skip
      refine E_bipush (v := nI 6) (q := 14) dX6_find_12 (by decide) rfl ?_
      refine E_icmp_geN (tgt := 89) (q := 17) dX6_find_14 (by decide) rfl (by omega) (by omega) (fun h14 => ?_) (fun h14 => ?_)
      · skip
        exact absurd h14 (by omega)
      · skip
        refine E_iload2 (q := 18) dX6_find_17 rfl ?_
        refine E_if_eq (tgt := 89) (q := 21) dX6_find_18 (by decide) rfl (fun h18 => ?_) (fun h18 => ?_)
        · skip
          refine E_iconst (v := -1) (q := 90) dX6_find_89 (by decide) rfl ?_
          exact E_ireturn rfl rfl dX6_find_90 (PI_of (fnd_miss (fun k _ z => z.1 h18)).symm rfl)
        · skip
          refine E_iload1 (q := 22) dX6_find_21 rfl ?_
          refine E_if_eq (tgt := 51) (q := 25) dX6_find_22 (by decide) rfl (fun h22 => ?_) (fun h22 => ?_)
          · skip
            refine E_aload0 (q := 52) dX6_find_51 rfl ?_
            refine E_iload3 (q := 53) dX6_find_52 rfl ?_
            refine C_V1I (q := 56) lk_X6_74 (sp_X6_isVolN h.1 h.2.1 h.2.2.1 (by omega)) rc_X6 dX6_find_53 (by decide) (Nat.le_of_ble_eq_true rfl) rfl ?_
            refine E_if_eq (tgt := 73) (q := 59) dX6_find_56 (by decide) rfl (fun h56 => ?_) (fun h56 => ?_)
            · skip
              refine E_iconst (v := nI 0) (q := 74) dX6_find_73 (by decide) rfl ?_
              refine E_istore4 (q := 76) dX6_find_74 rfl rfl ?_
              refine E_iload4 (q := 78) dX6_find_76 rfl ?_
              refine E_if_eq (tgt := 83) (q := 81) dX6_find_78 (by decide) rfl (fun h78 => ?_) (fun h78 => ?_)
              · skip
                refine E_iinc3 (q := 86) dX6_find_83 (nI_inc _) rfl rfl ?_
                refine E_goto (q := 2) dX6_find_86 (by decide) ?_
                exact V_sub (by repeat (first | exact subL_nil | refine subL_s ?_ | refine subL_n ?_)) (ih (no_lt hno (fun z => zI_0 h56 z.2.1)))
              · first | exact absurd h78 (by decide) | exact absurd (by decide) h78
            · skip
              refine E_aload0 (q := 60) dX6_find_59 rfl ?_
              refine E_iload3 (q := 61) dX6_find_60 rfl ?_
              refine E_iconst (v := nI 3) (q := 62) dX6_find_61 (by decide) rfl ?_
              refine C_V2I (q := 65) lk_X6_64 (sp_X6_volN h hi (zI_n h56)) rc_X6 dX6_find_62 (by decide) (Nat.le_of_ble_eq_true rfl) rfl ?_
              refine E_iload2 (q := 66) dX6_find_65 rfl ?_
              refine E_icmp_ne (tgt := 73) (q := 69) dX6_find_66 (by decide) rfl (fun h66 => ?_) (fun h66 => ?_)
              · skip
                refine E_iconst (v := nI 0) (q := 74) dX6_find_73 (by decide) rfl ?_
                refine E_istore4 (q := 76) dX6_find_74 rfl rfl ?_
                refine E_iload4 (q := 78) dX6_find_76 rfl ?_
                refine E_if_eq (tgt := 83) (q := 81) dX6_find_78 (by decide) rfl (fun h78 => ?_) (fun h78 => ?_)
                · skip
                  refine E_iinc3 (q := 86) dX6_find_83 (nI_inc _) rfl rfl ?_
                  refine E_goto (q := 2) dX6_find_86 (by decide) ?_
                  exact V_sub (by repeat (first | exact subL_nil | refine subL_s ?_ | refine subL_n ?_)) (ih (no_lt hno (fun z => h66 z.2.2)))
                · first | exact absurd h78 (by decide) | exact absurd (by decide) h78
              · skip
                refine E_iconst (v := nI 1) (q := 70) dX6_find_69 (by decide) rfl ?_
                refine E_goto (q := 74) dX6_find_70 (by decide) ?_
                refine E_istore4 (q := 76) dX6_find_74 rfl rfl ?_
                refine E_iload4 (q := 78) dX6_find_76 rfl ?_
                refine E_if_eq (tgt := 83) (q := 81) dX6_find_78 (by decide) rfl (fun h78 => ?_) (fun h78 => ?_)
                · first | exact absurd h78 (by decide) | exact absurd (by decide) h78
                · skip
                  refine E_iload3 (q := 82) dX6_find_81 rfl ?_
                  exact E_ireturn rfl rfl dX6_find_82 (PI_of (fnd_hit hi hno ⟨h18, zI_n h56, h66⟩).symm rfl)
          · first | exact absurd h22 (by decide) | exact absurd (by decide) h22
    · first | exact absurd h4 (by decide) | exact absurd (by decide) h4
end MODEL
