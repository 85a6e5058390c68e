
/-! THE REFERENCE: the fewest snapshots to destroy -/
section MODEL
variable {D : va_G} {ad : Nat → Nat} {M : Mem} {ws : va_W} {A : AS} {m k o z : Nat} {N : Nat → Nat}
def HeldI (M : Mem) (k : Nat) (N : Nat → Nat) : Prop := M 157 7 = nI k ∧ ∃ S U : Nat → Nat, (∀ j, j < k → M 160 j = nI (S j) ∧ M 161 j = nI (U j) ∧ S j < 2 ^ 16 ∧ U j ≤ 9) ∧ ∀ m, m < 2 ^ 16 → nsum (fun j => if andn (S j) m = 0 then U j else 0) k = N m
theorem HeldI.push (h : HeldI M k N) (ho : o < 2 ^ 16) (hz : z ≤ 9) : HeldI (upd2 (upd2 (upd2 M 160 k (nI o)) 161 k (nI z)) 157 7 (nI (k + 1))) (k + 1) (fun m => N m + if andn o m = 0 then z else 0) := by
  obtain ⟨h1, S, U, h2, h3⟩ := h
  refine ⟨upd2_same, fun j => if j = k then o else S j, fun j => if j = k then z else U j, fun j hj => ?_, fun m hm => ?_⟩
  · dsimp only
    rw [upd2_row (show (160 : Nat) ≠ 157 by decide), upd2_row (show (160 : Nat) ≠ 161 by decide), upd2_row (show (161 : Nat) ≠ 157 by decide)]
    by_cases e : j = k
    · subst e
      rw [if_pos rfl, if_pos rfl, upd2_same, upd2_same]
      exact ⟨rfl, rfl, ho, hz⟩
    · rw [if_neg e, if_neg e, upd2_ne (by omega), upd2_ne (by omega), upd2_row (show (161 : Nat) ≠ 160 by decide)]
      exact h2 j (by omega)
  · show nsum _ (k + 1) = _
    rw [nsum_s]
    simp only [↓reduceIte]
    refine congrArg (· + _) ((nsum_congr fun j hj => ?_).trans (h3 m hm))
    rw [if_neg (show ¬ j = k by omega), if_neg (show ¬ j = k by omega)]
theorem HeldI.cg {N' : Nat → Nat} (h : HeldI M k N) (e : ∀ m, m < 2 ^ 16 → N m = N' m) : HeldI M k N' := by
  obtain ⟨h1, S, U, h2, h3⟩ := h
  exact ⟨h1, S, U, h2, fun m hm => (h3 m hm).trans (e m hm)⟩
def FrH (M M' : Mem) : Prop := (∀ c, c ≠ 157 → c ≠ 160 → c ≠ 161 → M' c = M c) ∧ ∀ j, j ≠ 7 → M' 157 j = M 157 j
theorem FrH.rf : FrH M M := ⟨fun _ _ _ _ => rfl, fun _ _ => rfl⟩
theorem FrH.tr {M1 M2 : Mem} (h : FrH M M1) (h2 : FrH M1 M2) : FrH M M2 := ⟨fun c a d e => (h2.1 c a d e).trans (h.1 c a d e), fun j a => (h2.2 j a).trans (h.2 j a)⟩
theorem FrH.ri {M1 : Mem} (h : FrH M M1) (hI : RI M 158 A) : RI M1 158 A := hI.cg (h.1 158 (by decide) (by decide) (by decide)) (h.2 3 (by decide))
theorem FrH.push {x y w : Int32} : FrH M (upd2 (upd2 (upd2 M 160 k x) 161 k y) 157 7 w) := ⟨fun c a d e => by rw [upd2_row a, upd2_row e, upd2_row d], fun j a => by rw [upd2_ne (by omega), upd2_row (by decide), upd2_row (by decide)]⟩
theorem sp_X6_freed (hI : HeldI M k N) (hm : m < 2 ^ 16) (hk : k ≤ 192) : Spec D 1 yX6_freed cfX6_freed [.ref (ad 157), .int (nI (m))] (wl D ad M) 0 0 (PI (nI (N m)) (wl D ad M)) := by
  refine Spec.of (by decide) rfl (Nat.le_of_ble_eq_true rfl) rfl ?_
  obtain ⟨h1, S, U, h2, h3⟩ := hI
  have hm3 := h3 m hm
  have hb : ∀ j, j ≤ k → nsum (fun j => if andn (S j) m = 0 then U j else 0) j ≤ 9 * j := by
    intro j
    induction j with
    | zero => intro _; exact Nat.le_refl _
    | succ j ih =>
      intro hj
      rw [nsum_s]
      have := ih (by omega)
      have := (h2 j (by omega)).2.2.2
      split <;> omega
  refine E_iconst (v := nI 0) (q := 1) dX6_freed_0 (by decide) rfl ?_
  refine E_istore2 (q := 2) dX6_freed_1 rfl rfl ?_
  refine E_iconst (v := nI 0) (q := 3) dX6_freed_2 (by decide) rfl ?_
  refine E_istore3 (q := 4) dX6_freed_3 rfl rfl ?_
  refine upto0 (n := k) (P := fun i => V D cfX6_freed (rmOf 1 0 0) (QM D (PI (nI (N m)) (wl D ad M)) 0 0) 0 0 4 [some (.ref (ad 157)), some (.int (nI (m))), some (.int (nI (nsum (fun j => if andn (S j) m = 0 then U j else 0) i))), some (.int (nI (i)))] [] (wl D ad M)) ?_ ?_
  · skip
    refine E_iload3 (q := 5) dX6_freed_4 rfl ?_
    refine E_aload0 (q := 6) dX6_freed_5 rfl ?_
    refine G_X6_heldMany (q := 9) fl_X6_162 dX6_freed_6 rfl ?_
    refine V_int h1 ?_
    refine E_icmp_geN (tgt := 44) (q := 12) dX6_freed_9 (by decide) rfl (by omega) (by omega) (fun h9 => ?_) (fun h9 => ?_)
    · skip
      refine E_iload2 (q := 45) dX6_freed_44 rfl ?_
      exact E_ireturn rfl rfl dX6_freed_45 (PI_of (congrArg nI hm3) rfl)
    · skip
      exact absurd h9 (by omega)
  · intro i hi ih
    obtain ⟨e1, e2, e3, e4⟩ := h2 i hi
    have hbi := hb i (by omega)
    rw [nsum_s] at ih
    have hsl : andn (S i) m < 2 ^ 31 := Nat.lt_of_le_of_lt andn_le (by omega)
    refine E_iload3 (q := 5) dX6_freed_4 rfl ?_
    refine E_aload0 (q := 6) dX6_freed_5 rfl ?_
    refine G_X6_heldMany (q := 9) fl_X6_162 dX6_freed_6 rfl ?_
    refine V_int h1 ?_
    refine E_icmp_geN (tgt := 44) (q := 12) dX6_freed_9 (by decide) rfl (by omega) (by omega) (fun h9 => ?_) (fun h9 => ?_)
    · skip
      exact absurd h9 (by omega)
    · skip
      refine E_iload2 (q := 13) dX6_freed_12 rfl ?_
      refine E_aload0 (q := 14) dX6_freed_13 rfl ?_
      refine G_X6_heldSets (q := 17) fl_X6_19 dX6_freed_14 rfl ?_
      refine E_iload3 (q := 18) dX6_freed_17 rfl ?_
      refine E_ialdN (q := 19) sk_160 (by omega) (by decide) dX6_freed_18 rfl ?_
      refine V_int e1 ?_
      refine E_iload1 (q := 20) dX6_freed_19 rfl ?_
      refine E_iconst (v := -1) (q := 21) dX6_freed_20 (by decide) rfl ?_
      refine E_ixor (q := 22) dX6_freed_21 rfl ?_
      refine E_iand (q := 23) dX6_freed_22 rfl ?_
      refine V_int (show _ = nI (andn (S i) m) from nI_andn _ _) ?_
      refine E_if_ne (tgt := 35) (q := 26) dX6_freed_23 (by decide) rfl (fun h23 => ?_) (fun h23 => ?_)
      · skip
        refine E_iconst (v := nI 0) (q := 36) dX6_freed_35 (by decide) rfl ?_
        refine E_iaddN (q := 37) dX6_freed_36 rfl ?_
        refine E_istore2 (q := 38) dX6_freed_37 rfl rfl ?_
        refine E_iinc3 (q := 41) dX6_freed_38 (nI_inc _) rfl rfl ?_
        refine E_goto (q := 4) dX6_freed_41 (by decide) ?_
        rw [if_neg (fun z => h23 ((nI_z hsl).mpr z))] at ih
        exact ih
      · skip
        refine E_aload0 (q := 27) dX6_freed_26 rfl ?_
        refine G_X6_heldUnits (q := 30) fl_X6_22 dX6_freed_27 rfl ?_
        refine E_iload3 (q := 31) dX6_freed_30 rfl ?_
        refine E_ialdN (q := 32) sk_161 (by omega) (by decide) dX6_freed_31 rfl ?_
        refine V_int e2 ?_
        refine E_goto (q := 36) dX6_freed_32 (by decide) ?_
        refine E_iaddN (q := 37) dX6_freed_36 rfl ?_
        refine E_istore2 (q := 38) dX6_freed_37 rfl rfl ?_
        refine E_iinc3 (q := 41) dX6_freed_38 (nI_inc _) rfl rfl ?_
        refine E_goto (q := 4) dX6_freed_41 (by decide) ?_
        rw [if_pos ((nI_z hsl).mp h23)] at ih
        exact ih
def HQ (D : va_G) (ad : Nat → Nat) (M : Mem) (A : AS) : va_W → Prop := fun w => ∃ M', w = wl D ad M' ∧ ((∃ k, k ≤ 192 ∧ HeldI M' k (fr A)) ∧ FrH M M')
theorem hbF_16 (h : WF A) {x : Blk} (hx : x ∈ A.2) {m : Nat} (hm : m < 2 ^ 16) (ho : 2 ^ 16 ≤ own x) : hbF m x = 0 := by
  rw [hbF_sb h hx, if_neg (dB_ff fun z => ?_)]
  have := sbb_lt hm z
  omega
theorem bit_ge {o s : Nat} (hs : 16 ≤ s) (h : o.testBit s = true) : 2 ^ 16 ≤ o := Nat.le_of_not_lt fun c => by
  rw [Nat.testBit_lt_two_pow (Nat.lt_of_lt_of_le c (Nat.pow_le_pow_right (by decide) hs))] at h
  cases h
theorem gvs_16 (h : WF A) {m : Nat} (hm : m < 2 ^ 16) : nsum (gvs A FULL22 (hbF m)) 16 = fr A m := by
  have h1 := gvs_full h.2.2 (hbF m)
  have h2 : ∀ s, 16 ≤ s → gvs A FULL22 (hbF m) s = 0 := fun s hs => gvs_0 fun x hx hb => hbF_16 h hx hm (bit_ge hs hb)
  rw [show (22 : Nat) = 16 + 1 + 1 + 1 + 1 + 1 + 1 from rfl, nsum_s, nsum_s, nsum_s, nsum_s, nsum_s, nsum_s, h2 _ (by decide), h2 _ (by decide), h2 _ (by decide), h2 _ (by decide), h2 _ (by decide), h2 _ (by decide)] at h1
  exact h1
theorem sp_X6_layHeld (h : RI M 158 A) : Spec D 8 yX6_layHeld cfX6_layHeld [.ref (ad 157)] (wl D ad M) 0 0 (PY (HQ D ad M A)) := by
  refine Spec.of (by decide) rfl (Nat.le_of_ble_eq_true rfl) rfl ?_
  have hA := h.2.2
  have hB := hA.2.2
  have h0 := h
  have hout : ∀ M2 k, HeldI M2 k (fun m => nsum (gvs A FULL22 (hbF m)) 0) → k ≤ 12 * 0 → FrH M M2 → V D cfX6_layHeld (rmOf 8 0 0) (QM D (PY (HQ D ad M A)) 0 0) 0 0 7 [some (.ref (ad 157)), some (.int (nI (0))), none, none] [] (wl D ad M2) := by
    refine upto0 (n := 16) (P := fun s => ∀ M2 k, HeldI M2 k (fun m => nsum (gvs A FULL22 (hbF m)) s) → k ≤ 12 * s → FrH M M2 → V D cfX6_layHeld (rmOf 8 0 0) (QM D (PY (HQ D ad M A)) 0 0) 0 0 7 [some (.ref (ad 157)), some (.int (nI (s))), none, none] [] (wl D ad M2)) ?_ ?_
    · intro M2 k o2 hk f2
      refine E_iload1 (q := 8) dX6_layHeld_7 rfl ?_
      refine E_bipush (v := nI 16) (q := 10) dX6_layHeld_8 (by decide) rfl ?_
      refine E_icmp_geN (tgt := 122) (q := 13) dX6_layHeld_10 (by decide) rfl (by omega) (by omega) (fun h10 => ?_) (fun h10 => ?_)
      · skip
        exact E_vreturn rfl rfl dX6_layHeld_122 ⟨rfl, M2, rfl, ⟨k, by omega, o2.cg fun m hm => gvs_16 hA hm⟩, f2⟩
      · skip
        exact absurd h10 (by omega)
    · intro s hs ih M2 k o2 hk f2
      have hin : th A s → ∀ M2 k, HeldI M2 k (fun m => nsum (gvs A FULL22 (hbF m)) s + nsum (gv A FULL22 (hbF m) s) 0) → k ≤ 12 * s + 0 → FrH M M2 → V D cfX6_layHeld (rmOf 8 0 0) (QM D (PY (HQ D ad M A)) 0 0) 0 0 15 [some (.ref (ad 157)), some (.int (nI (s))), some (.int (nI (0))), none] [] (wl D ad M2) := by
        intro hts
        refine upto0 (n := 12) (P := fun a => ∀ M2 k, HeldI M2 k (fun m => nsum (gvs A FULL22 (hbF m)) s + nsum (gv A FULL22 (hbF m) s) a) → k ≤ 12 * s + a → FrH M M2 → V D cfX6_layHeld (rmOf 8 0 0) (QM D (PY (HQ D ad M A)) 0 0) 0 0 15 [some (.ref (ad 157)), some (.int (nI (s))), some (.int (nI (a))), none] [] (wl D ad M2)) ?_ ?_
        · intro M2 k o2 hk f2
          refine E_iload2 (q := 16) dX6_layHeld_15 rfl ?_
          refine E_bipush (v := nI 12) (q := 18) dX6_layHeld_16 (by decide) rfl ?_
          refine E_icmp_geN (tgt := 116) (q := 21) dX6_layHeld_18 (by decide) rfl (by omega) (by omega) (fun h18 => ?_) (fun h18 => ?_)
          · skip
            refine E_iinc1 (q := 119) dX6_layHeld_116 (nI_inc _) rfl rfl ?_
            refine E_goto (q := 7) dX6_layHeld_119 (by decide) ?_
            exact V_sub (by repeat (first | exact subL_nil | refine subL_s ?_ | refine subL_n ?_)) (ih M2 k o2 (by omega) f2)
          · skip
            exact absurd h18 (by omega)
        · intro a ha ih2 M2 k o2 hk f2
          have h : RI M2 158 A := f2.ri h0
          have hb := h.bt s a
          have hsame : (∀ m, m < 2 ^ 16 → gv A FULL22 (hbF m) s a = 0) → V D cfX6_layHeld (rmOf 8 0 0) (QM D (PY (HQ D ad M A)) 0 0) 0 0 15 [some (.ref (ad 157)), some (.int (nI (s))), some (.int (nI (a + 1))), none] [] (wl D ad M2) := fun hz => ih2 M2 k (o2.cg fun m hm => by rw [nsum_s (gv A FULL22 (hbF m) s) a, hz m hm, Nat.add_zero]) (by omega) f2
          cases hx0 : blkAt A.2 s a with
          | none =>
            have e0 := (bAt_none hx0).1
            have hz : ∀ m, m < 2 ^ 16 → gv A FULL22 (hbF m) s a = 0 := fun m hm => by unfold gv; rw [hx0]
            refine E_iload2 (q := 16) dX6_layHeld_15 rfl ?_
            refine E_bipush (v := nI 12) (q := 18) dX6_layHeld_16 (by decide) rfl ?_
            refine E_icmp_geN (tgt := 116) (q := 21) dX6_layHeld_18 (by decide) rfl (by omega) (by omega) (fun h18 => ?_) (fun h18 => ?_)
            · skip
              exact absurd h18 (by omega)
            · skip
              refine E_aload0 (q := 22) dX6_layHeld_21 rfl ?_
              refine E_iload1 (q := 23) dX6_layHeld_22 rfl ?_
              refine C_V1I (q := 26) lk_X6_70 (sp_X6_isSnpN h.1 h.2.1 h.2.2.1 (by omega)) rc_X6 dX6_layHeld_23 (by decide) (Nat.le_of_ble_eq_true rfl) rfl ?_
              refine E_if_eq (tgt := 116) (q := 29) dX6_layHeld_26 (by decide) rfl (fun h26 => ?_) (fun h26 => ?_)
              · skip
                exact absurd hts (zI_0 h26)
              · skip
                refine E_aload0 (q := 30) dX6_layHeld_29 rfl ?_
                refine E_iload1 (q := 31) dX6_layHeld_30 rfl ?_
                refine E_iload2 (q := 32) dX6_layHeld_31 rfl ?_
                refine C_V2I (q := 35) lk_X6_77 (sp_X6_birthA h (by omega) (by omega)) rc_X6 dX6_layHeld_32 (by decide) (Nat.le_of_ble_eq_true rfl) rfl ?_
                refine E_if_eq (tgt := 110) (q := 38) dX6_layHeld_35 (by decide) rfl (fun h35 => ?_) (fun h35 => ?_)
                · skip
                  refine E_iinc2 (q := 113) dX6_layHeld_110 (nI_inc _) rfl rfl ?_
                  refine E_goto (q := 15) dX6_layHeld_113 (by decide) ?_
                  exact V_sub (by repeat (first | exact subL_nil | refine subL_s ?_ | refine subL_n ?_)) (hsame hz)
                · skip
                  exact absurd (by rw [e0]; decide) h35
          | some x =>
            have hx1 := blkAt_some hx0
            have hx := hx1.1
            have e1 := (bAt_some hx0).1
            have e2 := (bAt_some hx0).2
            have e5 := hB.bpos hx0
            have e3 : ownB A.2 (bAt A.2 s a) = own x := by rw [e1, ownB_mem hB.1 hx]
            have ho22 := (hB.2 x hx).2.2.2.2.2.2.1
            have hz9 := (hB.2 x hx).2.2.2.1
            have hgv : ∀ m, gv A FULL22 (hbF m) s a = if fst (own x) s then hbF m x else 0 := fun m => by
              unfold gv
              rw [hx0]
              dsimp only
              rw [own_full hB hx]
            by_cases hf : own x % 2 ^ s = 0
            · by_cases h16 : own x < 2 ^ 16
              · have hnew : HeldI (upd2 (upd2 (upd2 M2 160 k (nI (own x))) 161 k (nI (siz x))) 157 7 (nI (k + 1))) (k + 1) (fun m => nsum (gvs A FULL22 (hbF m)) s + nsum (gv A FULL22 (hbF m) s) (a + 1)) := (o2.push h16 hz9).cg fun m hm => by
                  rw [nsum_s (gv A FULL22 (hbF m) s) a, hgv, if_pos (show fst (own x) s from ⟨hx1.2.2, hf⟩), ← Nat.add_assoc]
                  rfl
                have hk2 : M2 157 7 = nI k := o2.1
                refine E_iload2 (q := 16) dX6_layHeld_15 rfl ?_
                refine E_bipush (v := nI 12) (q := 18) dX6_layHeld_16 (by decide) rfl ?_
                refine E_icmp_geN (tgt := 116) (q := 21) dX6_layHeld_18 (by decide) rfl (by omega) (by omega) (fun h18 => ?_) (fun h18 => ?_)
                · skip
                  exact absurd h18 (by omega)
                · skip
                  refine E_aload0 (q := 22) dX6_layHeld_21 rfl ?_
                  refine E_iload1 (q := 23) dX6_layHeld_22 rfl ?_
                  refine C_V1I (q := 26) lk_X6_70 (sp_X6_isSnpN h.1 h.2.1 h.2.2.1 (by omega)) rc_X6 dX6_layHeld_23 (by decide) (Nat.le_of_ble_eq_true rfl) rfl ?_
                  refine E_if_eq (tgt := 116) (q := 29) dX6_layHeld_26 (by decide) rfl (fun h26 => ?_) (fun h26 => ?_)
                  · skip
                    exact absurd hts (zI_0 h26)
                  · skip
                    refine E_aload0 (q := 30) dX6_layHeld_29 rfl ?_
                    refine E_iload1 (q := 31) dX6_layHeld_30 rfl ?_
                    refine E_iload2 (q := 32) dX6_layHeld_31 rfl ?_
                    refine C_V2I (q := 35) lk_X6_77 (sp_X6_birthA h (by omega) (by omega)) rc_X6 dX6_layHeld_32 (by decide) (Nat.le_of_ble_eq_true rfl) rfl ?_
                    refine E_if_eq (tgt := 110) (q := 38) dX6_layHeld_35 (by decide) rfl (fun h35 => ?_) (fun h35 => ?_)
                    · skip
                      exact absurd ((nI_z (by omega)).mp h35) e5
                    · skip
                      refine E_aload0 (q := 39) dX6_layHeld_38 rfl ?_
                      refine E_iload1 (q := 40) dX6_layHeld_39 rfl ?_
                      refine E_aload0 (q := 41) dX6_layHeld_40 rfl ?_
                      refine E_iload1 (q := 42) dX6_layHeld_41 rfl ?_
                      refine E_iload2 (q := 43) dX6_layHeld_42 rfl ?_
                      refine C_V2I (q := 46) lk_X6_77 (sp_X6_birthA h (by omega) (by omega)) rc_X6 dX6_layHeld_43 (by decide) (Nat.le_of_ble_eq_true rfl) rfl ?_
                      refine C_V2I (q := 49) lk_X6_98 (sp_X6_isFirstA h (by omega) (by omega) (by omega)) rc_X6 dX6_layHeld_46 (by decide) (Nat.le_of_ble_eq_true rfl) rfl ?_
                      refine E_if_ne (tgt := 55) (q := 52) dX6_layHeld_49 (by decide) rfl (fun h49 => ?_) (fun h49 => ?_)
                      · skip
                        refine E_aload0 (q := 56) dX6_layHeld_55 rfl ?_
                        refine E_aload0 (q := 57) dX6_layHeld_56 rfl ?_
                        refine E_iload1 (q := 58) dX6_layHeld_57 rfl ?_
                        refine E_iload2 (q := 59) dX6_layHeld_58 rfl ?_
                        refine C_V2I (q := 62) lk_X6_77 (sp_X6_birthA h (by omega) (by omega)) rc_X6 dX6_layHeld_59 (by decide) (Nat.le_of_ble_eq_true rfl) rfl ?_
                        refine C_V1I (q := 65) lk_X6_94 (sp_X6_holdersA h (by omega) (by omega)) rc_X6 dX6_layHeld_62 (by decide) (Nat.le_of_ble_eq_true rfl) rfl ?_
                        refine E_istore3 (q := 66) dX6_layHeld_65 rfl rfl ?_
                        rw [e3]
                        refine E_iload3 (q := 67) dX6_layHeld_66 rfl ?_
                        refine E_ldc (q := 69) dX6_layHeld_67 cn_X6_165 rfl ?_
                        refine V_int (show _ = nI 65536 by decide) ?_
                        refine E_icmp_ltN (tgt := 75) (q := 72) dX6_layHeld_69 (by decide) rfl (by omega) (by omega) (fun h69 => ?_) (fun h69 => ?_)
                        · skip
                          refine E_aload0 (q := 76) dX6_layHeld_75 rfl ?_
                          refine G_X6_heldSets (q := 79) fl_X6_19 dX6_layHeld_76 rfl ?_
                          refine E_aload0 (q := 80) dX6_layHeld_79 rfl ?_
                          refine G_X6_heldMany (q := 83) fl_X6_162 dX6_layHeld_80 rfl ?_
                          refine V_int hk2 ?_
                          refine E_iload3 (q := 84) dX6_layHeld_83 rfl ?_
                          refine E_iastN (q := 85) sk_160 (by omega) (by decide) dX6_layHeld_84 rfl ?_
                          refine E_aload0 (q := 86) dX6_layHeld_85 rfl ?_
                          refine G_X6_heldUnits (q := 89) fl_X6_22 dX6_layHeld_86 rfl ?_
                          refine E_aload0 (q := 90) dX6_layHeld_89 rfl ?_
                          refine G_X6_heldMany (q := 93) fl_X6_162 dX6_layHeld_90 rfl ?_
                          refine V_int (show _ = nI k by rw [upd2_row (by decide)]; exact hk2) ?_
                          refine E_aload0 (q := 94) dX6_layHeld_93 rfl ?_
                          refine E_iload1 (q := 95) dX6_layHeld_94 rfl ?_
                          refine E_iload2 (q := 96) dX6_layHeld_95 rfl ?_
                          refine C_V2I (q := 99) lk_X6_80 (sp_X6_unitsA h (by omega) (by omega)) rc_X6 dX6_layHeld_96 (by decide) (Nat.le_of_ble_eq_true rfl) rfl ?_
                          rw [e2]
                          refine E_iastN (q := 100) sk_161 (by omega) (by decide) dX6_layHeld_99 rfl ?_
                          refine E_aload0 (q := 101) dX6_layHeld_100 rfl ?_
                          refine E_dup (q := 102) dX6_layHeld_101 rfl rfl ?_
                          refine G_X6_heldMany (q := 105) fl_X6_162 dX6_layHeld_102 rfl ?_
                          refine V_int (show _ = nI k by rw [upd2_row (by decide), upd2_row (by decide)]; exact hk2) ?_
                          refine E_iconst (v := nI 1) (q := 106) dX6_layHeld_105 (by decide) rfl ?_
                          refine E_iaddN (q := 107) dX6_layHeld_106 rfl ?_
                          refine P_X6_heldMany (q := 110) fl_X6_162 dX6_layHeld_107 rfl ?_
                          refine E_iinc2 (q := 113) dX6_layHeld_110 (nI_inc _) rfl rfl ?_
                          refine E_goto (q := 15) dX6_layHeld_113 (by decide) ?_
                          exact V_sub (by repeat (first | exact subL_nil | refine subL_s ?_ | refine subL_n ?_)) (ih2 _ (k + 1) hnew (by omega) (f2.tr FrH.push))
                        · skip
                          exact absurd h69 (by omega)
                      · skip
                        exact absurd hf (by rw [e3] at h49; exact zI_0 h49)
              · have hz : ∀ m, m < 2 ^ 16 → gv A FULL22 (hbF m) s a = 0 := fun m hm => by rw [hgv, hbF_16 hA hx hm (by omega), ite_self]
                refine E_iload2 (q := 16) dX6_layHeld_15 rfl ?_
                refine E_bipush (v := nI 12) (q := 18) dX6_layHeld_16 (by decide) rfl ?_
                refine E_icmp_geN (tgt := 116) (q := 21) dX6_layHeld_18 (by decide) rfl (by omega) (by omega) (fun h18 => ?_) (fun h18 => ?_)
                · skip
                  exact absurd h18 (by omega)
                · skip
                  refine E_aload0 (q := 22) dX6_layHeld_21 rfl ?_
                  refine E_iload1 (q := 23) dX6_layHeld_22 rfl ?_
                  refine C_V1I (q := 26) lk_X6_70 (sp_X6_isSnpN h.1 h.2.1 h.2.2.1 (by omega)) rc_X6 dX6_layHeld_23 (by decide) (Nat.le_of_ble_eq_true rfl) rfl ?_
                  refine E_if_eq (tgt := 116) (q := 29) dX6_layHeld_26 (by decide) rfl (fun h26 => ?_) (fun h26 => ?_)
                  · skip
                    exact absurd hts (zI_0 h26)
                  · skip
                    refine E_aload0 (q := 30) dX6_layHeld_29 rfl ?_
                    refine E_iload1 (q := 31) dX6_layHeld_30 rfl ?_
                    refine E_iload2 (q := 32) dX6_layHeld_31 rfl ?_
                    refine C_V2I (q := 35) lk_X6_77 (sp_X6_birthA h (by omega) (by omega)) rc_X6 dX6_layHeld_32 (by decide) (Nat.le_of_ble_eq_true rfl) rfl ?_
                    refine E_if_eq (tgt := 110) (q := 38) dX6_layHeld_35 (by decide) rfl (fun h35 => ?_) (fun h35 => ?_)
                    · skip
                      exact absurd ((nI_z (by omega)).mp h35) e5
                    · skip
                      refine E_aload0 (q := 39) dX6_layHeld_38 rfl ?_
                      refine E_iload1 (q := 40) dX6_layHeld_39 rfl ?_
                      refine E_aload0 (q := 41) dX6_layHeld_40 rfl ?_
                      refine E_iload1 (q := 42) dX6_layHeld_41 rfl ?_
                      refine E_iload2 (q := 43) dX6_layHeld_42 rfl ?_
                      refine C_V2I (q := 46) lk_X6_77 (sp_X6_birthA h (by omega) (by omega)) rc_X6 dX6_layHeld_43 (by decide) (Nat.le_of_ble_eq_true rfl) rfl ?_
                      refine C_V2I (q := 49) lk_X6_98 (sp_X6_isFirstA h (by omega) (by omega) (by omega)) rc_X6 dX6_layHeld_46 (by decide) (Nat.le_of_ble_eq_true rfl) rfl ?_
                      refine E_if_ne (tgt := 55) (q := 52) dX6_layHeld_49 (by decide) rfl (fun h49 => ?_) (fun h49 => ?_)
                      · skip
                        refine E_aload0 (q := 56) dX6_layHeld_55 rfl ?_
                        refine E_aload0 (q := 57) dX6_layHeld_56 rfl ?_
                        refine E_iload1 (q := 58) dX6_layHeld_57 rfl ?_
                        refine E_iload2 (q := 59) dX6_layHeld_58 rfl ?_
                        refine C_V2I (q := 62) lk_X6_77 (sp_X6_birthA h (by omega) (by omega)) rc_X6 dX6_layHeld_59 (by decide) (Nat.le_of_ble_eq_true rfl) rfl ?_
                        refine C_V1I (q := 65) lk_X6_94 (sp_X6_holdersA h (by omega) (by omega)) rc_X6 dX6_layHeld_62 (by decide) (Nat.le_of_ble_eq_true rfl) rfl ?_
                        refine E_istore3 (q := 66) dX6_layHeld_65 rfl rfl ?_
                        rw [e3]
                        refine E_iload3 (q := 67) dX6_layHeld_66 rfl ?_
                        refine E_ldc (q := 69) dX6_layHeld_67 cn_X6_165 rfl ?_
                        refine V_int (show _ = nI 65536 by decide) ?_
                        refine E_icmp_ltN (tgt := 75) (q := 72) dX6_layHeld_69 (by decide) rfl (by omega) (by omega) (fun h69 => ?_) (fun h69 => ?_)
                        · skip
                          exact absurd h69 (by omega)
                        · skip
                          refine E_goto (q := 110) dX6_layHeld_72 (by decide) ?_
                          refine E_iinc2 (q := 113) dX6_layHeld_110 (nI_inc _) rfl rfl ?_
                          refine E_goto (q := 15) dX6_layHeld_113 (by decide) ?_
                          exact V_sub (by repeat (first | exact subL_nil | refine subL_s ?_ | refine subL_n ?_)) (hsame hz)
                      · skip
                        exact absurd hf (by rw [e3] at h49; exact zI_0 h49)
            · have hz : ∀ m, m < 2 ^ 16 → gv A FULL22 (hbF m) s a = 0 := fun m hm => by rw [hgv, if_neg (fun z => hf z.2)]
              refine E_iload2 (q := 16) dX6_layHeld_15 rfl ?_
              refine E_bipush (v := nI 12) (q := 18) dX6_layHeld_16 (by decide) rfl ?_
              refine E_icmp_geN (tgt := 116) (q := 21) dX6_layHeld_18 (by decide) rfl (by omega) (by omega) (fun h18 => ?_) (fun h18 => ?_)
              · skip
                exact absurd h18 (by omega)
              · skip
                refine E_aload0 (q := 22) dX6_layHeld_21 rfl ?_
                refine E_iload1 (q := 23) dX6_layHeld_22 rfl ?_
                refine C_V1I (q := 26) lk_X6_70 (sp_X6_isSnpN h.1 h.2.1 h.2.2.1 (by omega)) rc_X6 dX6_layHeld_23 (by decide) (Nat.le_of_ble_eq_true rfl) rfl ?_
                refine E_if_eq (tgt := 116) (q := 29) dX6_layHeld_26 (by decide) rfl (fun h26 => ?_) (fun h26 => ?_)
                · skip
                  exact absurd hts (zI_0 h26)
                · skip
                  refine E_aload0 (q := 30) dX6_layHeld_29 rfl ?_
                  refine E_iload1 (q := 31) dX6_layHeld_30 rfl ?_
                  refine E_iload2 (q := 32) dX6_layHeld_31 rfl ?_
                  refine C_V2I (q := 35) lk_X6_77 (sp_X6_birthA h (by omega) (by omega)) rc_X6 dX6_layHeld_32 (by decide) (Nat.le_of_ble_eq_true rfl) rfl ?_
                  refine E_if_eq (tgt := 110) (q := 38) dX6_layHeld_35 (by decide) rfl (fun h35 => ?_) (fun h35 => ?_)
                  · skip
                    exact absurd ((nI_z (by omega)).mp h35) e5
                  · skip
                    refine E_aload0 (q := 39) dX6_layHeld_38 rfl ?_
                    refine E_iload1 (q := 40) dX6_layHeld_39 rfl ?_
                    refine E_aload0 (q := 41) dX6_layHeld_40 rfl ?_
                    refine E_iload1 (q := 42) dX6_layHeld_41 rfl ?_
                    refine E_iload2 (q := 43) dX6_layHeld_42 rfl ?_
                    refine C_V2I (q := 46) lk_X6_77 (sp_X6_birthA h (by omega) (by omega)) rc_X6 dX6_layHeld_43 (by decide) (Nat.le_of_ble_eq_true rfl) rfl ?_
                    refine C_V2I (q := 49) lk_X6_98 (sp_X6_isFirstA h (by omega) (by omega) (by omega)) rc_X6 dX6_layHeld_46 (by decide) (Nat.le_of_ble_eq_true rfl) rfl ?_
                    refine E_if_ne (tgt := 55) (q := 52) dX6_layHeld_49 (by decide) rfl (fun h49 => ?_) (fun h49 => ?_)
                    · skip
                      exact absurd (by rw [e3] at h49; exact zI_n h49) hf
                    · skip
                      refine E_goto (q := 110) dX6_layHeld_52 (by decide) ?_
                      refine E_iinc2 (q := 113) dX6_layHeld_110 (nI_inc _) rfl rfl ?_
                      refine E_goto (q := 15) dX6_layHeld_113 (by decide) ?_
                      exact V_sub (by repeat (first | exact subL_nil | refine subL_s ?_ | refine subL_n ?_)) (hsame hz)
      have h : RI M2 158 A := f2.ri h0
      by_cases hts : th A s
      · skip
        refine E_iload1 (q := 8) dX6_layHeld_7 rfl ?_
        refine E_bipush (v := nI 16) (q := 10) dX6_layHeld_8 (by decide) rfl ?_
        refine E_icmp_geN (tgt := 122) (q := 13) dX6_layHeld_10 (by decide) rfl (by omega) (by omega) (fun h10 => ?_) (fun h10 => ?_)
        · skip
          exact absurd h10 (by omega)
        · skip
          refine E_iconst (v := nI 0) (q := 14) dX6_layHeld_13 (by decide) rfl ?_
          refine E_istore2 (q := 15) dX6_layHeld_14 rfl rfl ?_
          exact hin hts M2 k (o2.cg fun m _ => rfl) (by omega) f2
      · skip
        refine E_iload1 (q := 8) dX6_layHeld_7 rfl ?_
        refine E_bipush (v := nI 16) (q := 10) dX6_layHeld_8 (by decide) rfl ?_
        refine E_icmp_geN (tgt := 122) (q := 13) dX6_layHeld_10 (by decide) rfl (by omega) (by omega) (fun h10 => ?_) (fun h10 => ?_)
        · skip
          exact absurd h10 (by omega)
        · skip
          refine E_iconst (v := nI 0) (q := 14) dX6_layHeld_13 (by decide) rfl ?_
          refine E_istore2 (q := 15) dX6_layHeld_14 rfl rfl ?_
          refine E_iload2 (q := 16) dX6_layHeld_15 rfl ?_
          refine E_bipush (v := nI 12) (q := 18) dX6_layHeld_16 (by decide) rfl ?_
          refine E_icmp_geN (tgt := 116) (q := 21) dX6_layHeld_18 (by decide) rfl (by omega) (by omega) (fun h18 => ?_) (fun h18 => ?_)
          · first | exact absurd h18 (by decide) | exact absurd (by decide) h18
          · skip
            refine E_aload0 (q := 22) dX6_layHeld_21 rfl ?_
            refine E_iload1 (q := 23) dX6_layHeld_22 rfl ?_
            refine C_V1I (q := 26) lk_X6_70 (sp_X6_isSnpN h.1 h.2.1 h.2.2.1 (by omega)) rc_X6 dX6_layHeld_23 (by decide) (Nat.le_of_ble_eq_true rfl) rfl ?_
            refine E_if_eq (tgt := 116) (q := 29) dX6_layHeld_26 (by decide) rfl (fun h26 => ?_) (fun h26 => ?_)
            · skip
              refine E_iinc1 (q := 119) dX6_layHeld_116 (nI_inc _) rfl rfl ?_
              refine E_goto (q := 7) dX6_layHeld_119 (by decide) ?_
              exact V_sub (by repeat (first | exact subL_nil | refine subL_s ?_ | refine subL_n ?_)) (ih M2 k (o2.cg fun m _ => by rw [nsum_s (gvs A FULL22 (hbF m)) s, gvs_th hB hts, Nat.add_zero]) (by omega) f2)
            · skip
              exact absurd (zI_n h26) hts
  refine E_aload0 (q := 1) dX6_layHeld_0 rfl ?_
  refine E_iconst (v := nI 0) (q := 2) dX6_layHeld_1 (by decide) rfl ?_
  refine P_X6_heldMany (q := 5) fl_X6_162 dX6_layHeld_2 rfl ?_
  refine E_iconst (v := nI 0) (q := 6) dX6_layHeld_5 (by decide) rfl ?_
  refine E_istore1 (q := 7) dX6_layHeld_6 rfl rfl ?_
  exact hout (upd2 M 157 7 (nI 0)) 0 ⟨upd2_same, fun _ => 0, fun _ => 0, fun j hj => absurd hj (by omega), fun m _ => rfl⟩ (by omega) ⟨fun c a _ _ => upd2_row a, fun j a => upd2_ne (by omega)⟩
noncomputable def fewV (A : AS) (q : Int32) : Int32 := if dB (nI 1 ≤ q ∧ q ≤ nI 999) = true then ftf A q.toNatClampNeg else -2
def StI (A : AS) (g i : Nat) (fo : Int32) (few most : Nat) : Prop := (fo = -1 ∧ few = 17 ∧ most = 0 ∧ ∀ y, y < i → ¬ GoodF A g y) ∨ ∃ x, x < i ∧ fo = nI x ∧ GoodF A g x ∧ few = popN x ∧ most = fr A x ∧ ∀ y, y < i → GoodF A g y → y = x ∨ BetF A x y
theorem StI.skip {g i few most : Nat} {fo : Int32} (h : StI A g i fo few most) (hn : GoodF A g i → ∃ x, few = popN x ∧ most = fr A x ∧ (fo = nI x) ∧ GoodF A g x ∧ BetF A x i) : StI A g (i + 1) fo few most := by
  rcases h with ⟨h1, h2, h3, h4⟩ | ⟨x, h1, h2, h3, h4, h5, h6⟩
  · refine Or.inl ⟨h1, h2, h3, fun y hy hg => ?_⟩
    by_cases e : y = i
    · subst e
      obtain ⟨x, _, _, q3, q4, _⟩ := hn hg
      exact absurd (q3.symm.trans h1) (nI_nm1 (by have := q4.lt; omega))
    · exact h4 y (by omega) hg
  · refine Or.inr ⟨x, by omega, h2, h3, h4, h5, fun y hy hg => ?_⟩
    by_cases e : y = i
    · subst e
      obtain ⟨x', q1, q2, q3, q4, q5⟩ := hn hg
      have : x' = x := nI_inj (by have := q4.lt; omega) (by have := h3.lt; omega) (q3.symm.trans h2)
      exact Or.inr (this ▸ q5)
    · exact h6 y (by omega) hg
theorem StI.take {g i few most : Nat} {fo : Int32} (h : StI A g i fo few most) (hg : GoodF A g i) (hb : popN i < few ∨ (popN i = few ∧ most < fr A i)) : StI A g (i + 1) (nI i) (popN i) (fr A i) := by
  refine Or.inr ⟨i, Nat.lt_succ_self _, rfl, hg, rfl, rfl, fun y hy hgy => ?_⟩
  by_cases e : y = i
  · exact Or.inl e
  · right
    rcases h with ⟨h1, h2, h3, h4⟩ | ⟨x, h1, h2, h3, h4, h5, h6⟩
    · exact absurd hgy (h4 y (by omega))
    · rcases h6 y (by omega) hgy with q | q
      · subst q; unfold BetF; omega
      · unfold BetF at q ⊢; omega
theorem StI.end {g : Nat} {few most : Nat} {fo : Int32} (h : StI A g 65536 fo few most) : fo = ftf A g := by
  rcases h with ⟨h1, h2, h3, h4⟩ | ⟨x, h1, h2, h3, h4, h5, h6⟩
  · rw [h1]; exact ftf_no fun x hx => h4 x hx.lt hx
  · rw [h2]; exact ftf_is ⟨h3, fun y hy => h6 y hy.lt hy⟩
theorem popN_16 {x : Nat} (h : x < 2 ^ 16) : popN x ≤ 16 := by
  have h1 : popN (mkR (List.range 16) 0 16) = 16 := by
    have e : mkR (List.range 16) 0 16 = bset (fun _ => True) 16 := bset_congr fun k hk => ⟨fun _ => trivial, fun _ => ⟨k, Nat.zero_le _, hk, by rw [List.getElem?_range hk]⟩⟩
    rw [e, popN_bset _ (by decide)]
    exact (nsum_congr (g := fun _ => 1) fun k _ => if_pos (dB_t trivial)).trans (by decide)
  rw [← h1]
  exact popN_mono fun k hk => mkR_bit.mpr ⟨lt16_bit h hk, k, Nat.zero_le _, lt16_bit h hk, by rw [List.getElem?_range (lt16_bit h hk)]⟩
def FQ (D : va_G) (ad : Nat → Nat) (M : Mem) : va_W → Prop := fun w => ∃ M', w = wl D ad M' ∧ ((∀ c, c ≠ 157 → c ≠ 160 → c ≠ 161 → M' c = M c) ∧ M' 157 4 = nI 0 ∧ ∀ j, j ≠ 4 → j ≠ 7 → M' 157 j = M 157 j)
theorem StI.bd {g i few most : Nat} {fo : Int32} (h : WF A) (hs : StI A g i fo few most) : few ≤ 17 ∧ most ≤ 2376 := by
  rcases hs with ⟨h1, h2, h3, h4⟩ | ⟨x', h1, h2, h3, h4, h5, h6⟩
  · omega
  · have := popN_16 h3.lt; have := fr_le h x'; omega
theorem StI.more {g i few most : Nat} {fo : Int32} (h : StI A g i fo few most) (hi : i < 2 ^ 16) (hb : few < popN i ∨ (popN i = few ∧ fr A i ≤ most)) : StI A g (i + 1) fo few most := by
  refine h.skip fun hg => ?_
  have hp := popN_16 hi
  rcases h with ⟨h1, h2, h3, h4⟩ | ⟨x, h1, h2, h3, h4, h5, h6⟩
  · have hz : popN i = 17 := by
      rcases hb with q | q
      · omega
      · omega
    omega
  · exact ⟨x, h4, h5, h2, h3, by unfold BetF; omega⟩
theorem sp_X6_fewestToFreeB {q : Int32} (hq : ¬ (nI 1 ≤ q ∧ q ≤ nI 999)) : Spec D 14 yX6_fewestToFree cfX6_fewestToFree [.ref (ad 157), .int (q)] (wl D ad M) 0 0 (PI (-2) (wl D ad (upd2 M 157 4 (nI 0)))) := by
  refine Spec.of (by decide) rfl (Nat.le_of_ble_eq_true rfl) rfl ?_
  have hz : zI (nI 1 ≤ q ∧ q ≤ nI 999) = nI 0 := (zI_f hq).symm
  refine E_aload0 (q := 1) dX6_fewestToFree_0 rfl ?_
  refine E_iconst (v := nI 0) (q := 2) dX6_fewestToFree_1 (by decide) rfl ?_
  refine P_X6_thrown (q := 5) fl_X6_43 dX6_fewestToFree_2 rfl ?_
  refine E_iload1 (q := 6) dX6_fewestToFree_5 rfl ?_
  refine E_iconst (v := nI 1) (q := 7) dX6_fewestToFree_6 (by decide) rfl ?_
  refine E_sipush (v := nI 999) (q := 10) dX6_fewestToFree_7 (by decide) rfl ?_
  refine C_S3I (q := 13) lk_X6_60 (sp_X6_inRange) dX6_fewestToFree_10 (by decide) (Nat.le_of_ble_eq_true rfl) rfl ?_
  refine V_int hz ?_
  refine E_if_ne (tgt := 19) (q := 16) dX6_fewestToFree_13 (by decide) rfl (fun h13 => ?_) (fun h13 => ?_)
  · first | exact absurd h13 (by decide) | exact absurd (by decide) h13
  · skip
    refine E_bipush (v := -2) (q := 18) dX6_fewestToFree_16 (by decide) rfl ?_
    exact E_ireturn rfl rfl dX6_fewestToFree_18 (PI_of rfl rfl)
theorem sp_X6_fewestToFreeG {g : Nat} (h : RI M 158 A) (hg1 : 1 ≤ g) (hg2 : g ≤ 999) : Spec D 14 yX6_fewestToFree cfX6_fewestToFree [.ref (ad 157), .int (nI (g))] (wl D ad M) 0 0 (PX (fun y w => y = ftf A g ∧ FQ D ad M w)) := by
  refine Spec.of (by decide) rfl (Nat.le_of_ble_eq_true rfl) rfl ?_
  have hA := h.2.2
  have h1 : RI (upd2 M 157 4 (nI 0)) 158 A := h.fl
  have hz : zI (nI 1 ≤ nI g ∧ nI g ≤ nI 999) = nI 1 := (zI_t ⟨nI_le hg1 (by omega), nI_le hg2 (by omega)⟩).symm
  have hmain : ∀ M2 k, k ≤ 192 → HeldI M2 k (fr A) → FrH (upd2 M 157 4 (nI 0)) M2 → V D cfX6_fewestToFree (rmOf 14 0 0) (QM D (PX (fun y w => y = ftf A g ∧ FQ D ad M w)) 0 0) 0 0 27 [some (.ref (ad 157)), some (.int (nI (g))), some (.int (nI (bset (fun s => th A s ∧ whyN A s = 0) 0))), some (.int (nI (0))), none, none, none, none] [] (wl D ad M2) := by
    intro M2 k hk o2 f2
    have h : RI M2 158 A := f2.ri h1
    have hml := mayM_lt (A := A)
    have hloop : ∀ fo few most, StI A g 1 fo few most → V D cfX6_fewestToFree (rmOf 14 0 0) (QM D (PX (fun y w => y = ftf A g ∧ FQ D ad M w)) 0 0) 0 0 77 [some (.ref (ad 157)), some (.int (nI (g))), some (.int (nI (mayM A))), some (.int (fo)), some (.int (nI (few))), some (.int (nI (most))), some (.int (nI (1))), none] [] (wl D ad M2) := by
      refine upto (n := 65536) (P := fun x => 1 ≤ x → ∀ fo few most, StI A g x fo few most → V D cfX6_fewestToFree (rmOf 14 0 0) (QM D (PX (fun y w => y = ftf A g ∧ FQ D ad M w)) 0 0) 0 0 77 [some (.ref (ad 157)), some (.int (nI (g))), some (.int (nI (mayM A))), some (.int (fo)), some (.int (nI (few))), some (.int (nI (most))), some (.int (nI (x))), none] [] (wl D ad M2)) ?_ ?_ 1 (by decide) (Nat.le_refl 1)
      · intro _ fo few most hs
        refine E_iload6 (q := 79) dX6_fewestToFree_77 rfl ?_
        refine E_ldc (q := 81) dX6_fewestToFree_79 cn_X6_165 rfl ?_
        refine V_int (show _ = nI 65536 by decide) ?_
        refine E_icmp_geN (tgt := 160) (q := 84) dX6_fewestToFree_81 (by decide) rfl (by omega) (by omega) (fun h81 => ?_) (fun h81 => ?_)
        · skip
          refine E_iload3 (q := 161) dX6_fewestToFree_160 rfl ?_
          exact E_ireturn rfl rfl dX6_fewestToFree_161 ⟨_, rfl, hs.end, M2, rfl, fun c a b d => by rw [f2.1 c a b d, upd2_row a], by rw [f2.2 4 (by decide), upd2_same], fun j a b => by rw [f2.2 j b, upd2_ne (by omega)]⟩
        · skip
          exact absurd h81 (by omega)
      · intro x hx ih hx1' fo few most hs
        have hx1 : x ≠ 0 := by omega
        have hpx := popN_16 (show x < 2 ^ 16 by omega)
        have hfx := fr_le hA x
        have hal : andn x (mayM A) < 2 ^ 31 := Nat.lt_of_le_of_lt andn_le (by omega)
        have hfm := hs.bd hA
        have hsub : nI (andn x (mayM A)) = 0 ↔ sb x (mayM A) := (nI_z hal).trans (andn_0 (by omega))
        refine E_iload6 (q := 79) dX6_fewestToFree_77 rfl ?_
        refine E_ldc (q := 81) dX6_fewestToFree_79 cn_X6_165 rfl ?_
        refine V_int (show _ = nI 65536 by decide) ?_
        refine E_icmp_geN (tgt := 160) (q := 84) dX6_fewestToFree_81 (by decide) rfl (by omega) (by omega) (fun h81 => ?_) (fun h81 => ?_)
        · skip
          exact absurd h81 (by omega)
        · skip
          refine E_iload6 (q := 86) dX6_fewestToFree_84 rfl ?_
          refine E_iload2 (q := 87) dX6_fewestToFree_86 rfl ?_
          refine E_iconst (v := -1) (q := 88) dX6_fewestToFree_87 (by decide) rfl ?_
          refine E_ixor (q := 89) dX6_fewestToFree_88 rfl ?_
          refine E_iand (q := 90) dX6_fewestToFree_89 rfl ?_
          refine V_int (show _ = nI (andn x (mayM A)) from nI_andn _ _) ?_
          refine E_if_ne (tgt := 154) (q := 93) dX6_fewestToFree_90 (by decide) rfl (fun h90 => ?_) (fun h90 => ?_)
          · skip
            refine E_iinc6 (q := 157) dX6_fewestToFree_154 (nI_inc _) rfl rfl ?_
            refine E_goto (q := 77) dX6_fewestToFree_157 (by decide) ?_
            exact V_sub (by repeat (first | exact subL_nil | refine subL_s ?_ | refine subL_n ?_)) (ih (by omega) _ _ _ (hs.skip fun z => absurd (hsub.mpr z.2.1) h90))
          · skip
            refine E_iload6 (q := 95) dX6_fewestToFree_93 rfl ?_
            refine C_S1I (q := 98) lk_X6_121 (sp_X6_bits (by omega)) dX6_fewestToFree_95 (by decide) (Nat.le_of_ble_eq_true rfl) rfl ?_
            refine E_iload4 (q := 100) dX6_fewestToFree_98 rfl ?_
            refine E_icmp_leN (tgt := 106) (q := 103) dX6_fewestToFree_100 (by decide) rfl (by omega) (by omega) (fun h100 => ?_) (fun h100 => ?_)
            · skip
              refine E_aload0 (q := 107) dX6_fewestToFree_106 rfl ?_
              refine E_iload6 (q := 109) dX6_fewestToFree_107 rfl ?_
              refine C_V1I (q := 112) lk_X6_169 (sp_X6_freed o2 (by omega) hk) rc_X6 dX6_fewestToFree_109 (by decide) (Nat.le_of_ble_eq_true rfl) rfl ?_
              refine E_istore7 (q := 114) dX6_fewestToFree_112 rfl rfl ?_
              refine E_iload7 (q := 116) dX6_fewestToFree_114 rfl ?_
              refine E_iload1 (q := 117) dX6_fewestToFree_116 rfl ?_
              refine E_icmp_ltN (tgt := 154) (q := 120) dX6_fewestToFree_117 (by decide) rfl (by omega) (by omega) (fun h117 => ?_) (fun h117 => ?_)
              · skip
                refine E_iinc6 (q := 157) dX6_fewestToFree_154 (nI_inc _) rfl rfl ?_
                refine E_goto (q := 77) dX6_fewestToFree_157 (by decide) ?_
                exact V_sub (by repeat (first | exact subL_nil | refine subL_s ?_ | refine subL_n ?_)) (ih (by omega) _ _ _ (hs.skip fun z => by have := z.2.2; omega))
              · skip
                refine E_iload6 (q := 122) dX6_fewestToFree_120 rfl ?_
                refine C_S1I (q := 125) lk_X6_121 (sp_X6_bits (by omega)) dX6_fewestToFree_122 (by decide) (Nat.le_of_ble_eq_true rfl) rfl ?_
                refine E_iload4 (q := 127) dX6_fewestToFree_125 rfl ?_
                refine E_icmp_neN (tgt := 140) (q := 130) dX6_fewestToFree_127 (by decide) rfl (by omega) (by omega) (fun h127 => ?_) (fun h127 => ?_)
                · skip
                  refine E_iload6 (q := 142) dX6_fewestToFree_140 rfl ?_
                  refine E_istore3 (q := 143) dX6_fewestToFree_142 rfl rfl ?_
                  refine E_iload6 (q := 145) dX6_fewestToFree_143 rfl ?_
                  refine C_S1I (q := 148) lk_X6_121 (sp_X6_bits (by omega)) dX6_fewestToFree_145 (by decide) (Nat.le_of_ble_eq_true rfl) rfl ?_
                  refine E_istore4 (q := 150) dX6_fewestToFree_148 rfl rfl ?_
                  refine E_iload7 (q := 152) dX6_fewestToFree_150 rfl ?_
                  refine E_istore5 (q := 154) dX6_fewestToFree_152 rfl rfl ?_
                  refine E_iinc6 (q := 157) dX6_fewestToFree_154 (nI_inc _) rfl rfl ?_
                  refine E_goto (q := 77) dX6_fewestToFree_157 (by decide) ?_
                  exact V_sub (by repeat (first | exact subL_nil | refine subL_s ?_ | refine subL_n ?_)) (ih (by omega) _ _ _ (hs.take ⟨fun z => hx1 z, hsub.mp h90, by omega⟩ (by omega)))
                · skip
                  refine E_iload7 (q := 132) dX6_fewestToFree_130 rfl ?_
                  refine E_iload5 (q := 134) dX6_fewestToFree_132 rfl ?_
                  refine E_icmp_gtN (tgt := 140) (q := 137) dX6_fewestToFree_134 (by decide) rfl (by omega) (by omega) (fun h134 => ?_) (fun h134 => ?_)
                  · skip
                    refine E_iload6 (q := 142) dX6_fewestToFree_140 rfl ?_
                    refine E_istore3 (q := 143) dX6_fewestToFree_142 rfl rfl ?_
                    refine E_iload6 (q := 145) dX6_fewestToFree_143 rfl ?_
                    refine C_S1I (q := 148) lk_X6_121 (sp_X6_bits (by omega)) dX6_fewestToFree_145 (by decide) (Nat.le_of_ble_eq_true rfl) rfl ?_
                    refine E_istore4 (q := 150) dX6_fewestToFree_148 rfl rfl ?_
                    refine E_iload7 (q := 152) dX6_fewestToFree_150 rfl ?_
                    refine E_istore5 (q := 154) dX6_fewestToFree_152 rfl rfl ?_
                    refine E_iinc6 (q := 157) dX6_fewestToFree_154 (nI_inc _) rfl rfl ?_
                    refine E_goto (q := 77) dX6_fewestToFree_157 (by decide) ?_
                    exact V_sub (by repeat (first | exact subL_nil | refine subL_s ?_ | refine subL_n ?_)) (ih (by omega) _ _ _ (hs.take ⟨fun z => hx1 z, hsub.mp h90, by omega⟩ (by omega)))
                  · skip
                    refine E_goto (q := 154) dX6_fewestToFree_137 (by decide) ?_
                    refine E_iinc6 (q := 157) dX6_fewestToFree_154 (nI_inc _) rfl rfl ?_
                    refine E_goto (q := 77) dX6_fewestToFree_157 (by decide) ?_
                    exact V_sub (by repeat (first | exact subL_nil | refine subL_s ?_ | refine subL_n ?_)) (ih (by omega) _ _ _ (hs.more (by omega) (by omega)))
            · skip
              refine E_goto (q := 154) dX6_fewestToFree_103 (by decide) ?_
              refine E_iinc6 (q := 157) dX6_fewestToFree_154 (nI_inc _) rfl rfl ?_
              refine E_goto (q := 77) dX6_fewestToFree_157 (by decide) ?_
              exact V_sub (by repeat (first | exact subL_nil | refine subL_s ?_ | refine subL_n ?_)) (ih (by omega) _ _ _ (hs.more (by omega) (by omega)))
    have hS1 : StI A g 1 (-1) 17 0 := Or.inl ⟨rfl, rfl, rfl, fun y hy hg => hg.1 (by omega)⟩
    refine upto0 (n := 16) (P := fun j => V D cfX6_fewestToFree (rmOf 14 0 0) (QM D (PX (fun y w => y = ftf A g ∧ FQ D ad M w)) 0 0) 0 0 27 [some (.ref (ad 157)), some (.int (nI (g))), some (.int (nI (bset (fun s => th A s ∧ whyN A s = 0) j))), some (.int (nI (j))), none, none, none, none] [] (wl D ad M2)) ?_ ?_
    · skip
      refine E_iload3 (q := 28) dX6_fewestToFree_27 rfl ?_
      refine E_bipush (v := nI 16) (q := 30) dX6_fewestToFree_28 (by decide) rfl ?_
      refine E_icmp_geN (tgt := 65) (q := 33) dX6_fewestToFree_30 (by decide) rfl (by omega) (by omega) (fun h30 => ?_) (fun h30 => ?_)
      · skip
        refine E_iconst (v := -1) (q := 66) dX6_fewestToFree_65 (by decide) rfl ?_
        refine E_istore3 (q := 67) dX6_fewestToFree_66 rfl rfl ?_
        refine E_bipush (v := nI 17) (q := 69) dX6_fewestToFree_67 (by decide) rfl ?_
        refine E_istore4 (q := 71) dX6_fewestToFree_69 rfl rfl ?_
        refine E_iconst (v := nI 0) (q := 72) dX6_fewestToFree_71 (by decide) rfl ?_
        refine E_istore5 (q := 74) dX6_fewestToFree_72 rfl rfl ?_
        refine E_iconst (v := nI 1) (q := 75) dX6_fewestToFree_74 (by decide) rfl ?_
        refine E_istore6 (q := 77) dX6_fewestToFree_75 rfl rfl ?_
        exact V_sub (by repeat (first | exact subL_nil | refine subL_s ?_ | refine subL_n ?_)) (hloop _ _ _ hS1)
      · skip
        exact absurd h30 (by omega)
    · intro j hj ih
      refine E_iload3 (q := 28) dX6_fewestToFree_27 rfl ?_
      refine E_bipush (v := nI 16) (q := 30) dX6_fewestToFree_28 (by decide) rfl ?_
      refine E_icmp_geN (tgt := 65) (q := 33) dX6_fewestToFree_30 (by decide) rfl (by omega) (by omega) (fun h30 => ?_) (fun h30 => ?_)
      · skip
        exact absurd h30 (by omega)
      · skip
        refine E_iload2 (q := 34) dX6_fewestToFree_33 rfl ?_
        refine E_aload0 (q := 35) dX6_fewestToFree_34 rfl ?_
        refine E_iload3 (q := 36) dX6_fewestToFree_35 rfl ?_
        refine C_V1I (q := 39) lk_X6_70 (sp_X6_isSnpN h.1 h.2.1 h.2.2.1 (by omega)) rc_X6 dX6_fewestToFree_36 (by decide) (Nat.le_of_ble_eq_true rfl) rfl ?_
        refine E_if_eq (tgt := 56) (q := 42) dX6_fewestToFree_39 (by decide) rfl (fun h39 => ?_) (fun h39 => ?_)
        · skip
          refine E_iconst (v := nI 0) (q := 57) dX6_fewestToFree_56 (by decide) rfl ?_
          refine E_iorN (q := 58) dX6_fewestToFree_57 (bset_off (n := j) (fun z => zI_0 h39 z.1)) rfl ?_
          refine E_istore2 (q := 59) dX6_fewestToFree_58 rfl rfl ?_
          refine E_iinc3 (q := 62) dX6_fewestToFree_59 (nI_inc _) rfl rfl ?_
          refine E_goto (q := 27) dX6_fewestToFree_62 (by decide) ?_
          exact ih
        · skip
          refine E_aload0 (q := 43) dX6_fewestToFree_42 rfl ?_
          refine E_iload3 (q := 44) dX6_fewestToFree_43 rfl ?_
          refine C_V1I (q := 47) lk_X6_159 (sp_X6_why h hj (zI_n h39)) rc_X6 dX6_fewestToFree_44 (by decide) (Nat.le_of_ble_eq_true rfl) rfl ?_
          refine E_if_ne (tgt := 56) (q := 50) dX6_fewestToFree_47 (by decide) rfl (fun h47 => ?_) (fun h47 => ?_)
          · skip
            refine E_iconst (v := nI 0) (q := 57) dX6_fewestToFree_56 (by decide) rfl ?_
            refine E_iorN (q := 58) dX6_fewestToFree_57 (bset_off (n := j) (fun z => h47 (by rw [z.2]; rfl))) rfl ?_
            refine E_istore2 (q := 59) dX6_fewestToFree_58 rfl rfl ?_
            refine E_iinc3 (q := 62) dX6_fewestToFree_59 (nI_inc _) rfl rfl ?_
            refine E_goto (q := 27) dX6_fewestToFree_62 (by decide) ?_
            exact ih
          · skip
            refine E_iconst (v := nI 1) (q := 51) dX6_fewestToFree_50 (by decide) rfl ?_
            refine E_iload3 (q := 52) dX6_fewestToFree_51 rfl ?_
            refine E_ishl (q := 53) dX6_fewestToFree_52 rfl ?_
            refine V_int (one_shl (by omega)) ?_
            refine E_goto (q := 57) dX6_fewestToFree_53 (by decide) ?_
            refine E_iorN (q := 58) dX6_fewestToFree_57 (bset_on (n := j) ⟨zI_n h39, (nI_z (by unfold whyN; (repeat' split) <;> omega)).mp h47⟩) rfl ?_
            refine E_istore2 (q := 59) dX6_fewestToFree_58 rfl rfl ?_
            refine E_iinc3 (q := 62) dX6_fewestToFree_59 (nI_inc _) rfl rfl ?_
            refine E_goto (q := 27) dX6_fewestToFree_62 (by decide) ?_
            exact ih
  refine E_aload0 (q := 1) dX6_fewestToFree_0 rfl ?_
  refine E_iconst (v := nI 0) (q := 2) dX6_fewestToFree_1 (by decide) rfl ?_
  refine P_X6_thrown (q := 5) fl_X6_43 dX6_fewestToFree_2 rfl ?_
  refine E_iload1 (q := 6) dX6_fewestToFree_5 rfl ?_
  refine E_iconst (v := nI 1) (q := 7) dX6_fewestToFree_6 (by decide) rfl ?_
  refine E_sipush (v := nI 999) (q := 10) dX6_fewestToFree_7 (by decide) rfl ?_
  refine C_S3I (q := 13) lk_X6_60 (sp_X6_inRange) dX6_fewestToFree_10 (by decide) (Nat.le_of_ble_eq_true rfl) rfl ?_
  refine V_int hz ?_
  refine E_if_ne (tgt := 19) (q := 16) dX6_fewestToFree_13 (by decide) rfl (fun h13 => ?_) (fun h13 => ?_)
  · skip
    refine E_aload0 (q := 20) dX6_fewestToFree_19 rfl ?_
    refine C_V0Y (q := 23) lk_X6_166 (sp_X6_layHeld h1) rc_X6 dX6_fewestToFree_20 (by decide) (Nat.le_of_ble_eq_true rfl) rfl ?_
    refine kkEW ?_
    rintro M2 ⟨⟨k, hk, o2⟩, f2⟩
    refine E_iconst (v := nI 0) (q := 24) dX6_fewestToFree_23 (by decide) rfl ?_
    refine E_istore2 (q := 25) dX6_fewestToFree_24 rfl rfl ?_
    refine E_iconst (v := nI 0) (q := 26) dX6_fewestToFree_25 (by decide) rfl ?_
    refine E_istore3 (q := 27) dX6_fewestToFree_26 rfl rfl ?_
    exact hmain M2 k hk o2 f2
  · first | exact absurd h13 (by decide) | exact absurd (by decide) h13
end MODEL
