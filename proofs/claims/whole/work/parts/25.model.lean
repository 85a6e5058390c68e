
/-! THE REFERENCE: what its methods answer, the last ones -/
section VALS
variable {A : AS}
theorem mod_and {m u : Nat} : m &&& (2 ^ u - 1) = m % 2 ^ u := Nat.and_two_pow_sub_one_eq_mod ..
/-- the versions of a volume, as bits -/
noncomputable def volS (A : AS) (v : Nat) : Nat := rowM A v ||| 2 ^ (16 + v)
theorem volS_lt {v : Nat} (hv : v < 6) : volS A v < 2 ^ 22 := Nat.or_lt_two_pow (Nat.lt_trans rowM_lt (by decide)) (Nat.pow_lt_pow_right (by decide) (by omega))
noncomputable def besV (A : AS) (v : Nat) : Nat := fsum (fun x => if own x &&& volS A v = 0 then 0 else besF A v x) A.2
theorem besF_le {v : Nat} {x : Blk} : besF A v x ≤ siz x := by
  unfold besF
  split
  · exact Nat.le_refl _
  · split
    · exact Nat.zero_le _
    · exact Nat.le_refl _
noncomputable def shrV (A : AS) : UInt64 := if fsum siz A.2 = 0 then 0 else FP.ddiv (FP.i2d (nI (nsum (fun v => if dB (th A v) = true then sumA A v else 0) 22))) (FP.i2d (nI (fsum siz A.2)))
theorem gvs_S {S : Nat} {f : Blk → Nat} {u : Nat} (hu : ¬ S.testBit u = true) : gvs A S f u = 0 := nsum_zero fun a _ => by
  unfold gv
  cases hx : blkAt A.2 u a with
  | none => rfl
  | some x =>
    simp only
    rw [if_neg]
    rintro ⟨q, -⟩
    exact hu (and_bit.mp q).2
theorem gvs_sum (h : WFB A) (S : Nat) (f : Blk → Nat) : nsum (gvs A S f) 22 = fsum (fun x => if own x &&& S = 0 then 0 else f x) A.2 := gv_sum h S f
end VALS
section MODEL
variable {D : va_G} {ad : Nat → Nat} {M : Mem} {wx : Nat} {ws : va_W} {A : AS}
theorem sp_X6_besideOrigin {v : Nat} (h : RI M wx A) (hv : v < 6) (ht : th A (16 + v)) : Spec D 12 yX6_besideOrigin cfX6_besideOrigin [.ref (ad 157), .int (nI (v))] (wl D ad M) 0 0 (PI (nI (besV A v)) (wl D ad (upd2 M 157 4 (nI 0)))) := by
  refine Spec.of (by decide) rfl (Nat.le_of_ble_eq_true rfl) rfl ?_
  have hS22 := volS_lt (A := A) hv
  have hSl : volS A v < 2 ^ 31 := Nat.lt_trans hS22 (by decide)
  have ho16 := (h.2.2.1.2.2.2.1 v hv ht).2.1
  have hmain : V D cfX6_besideOrigin (rmOf 12 0 0) (QM D (PI (nI (besV A v)) (wl D ad (upd2 M 157 4 (nI 0)))) 0 0) 0 0 33 [some (.ref (ad 157)), some (.int (nI (v))), some (.int (nI (volS A v))), some (.int (nI (0))), some (.int (nI (0))), none, none] [] (wl D ad (upd2 M 157 4 (nI 0))) := by
    refine upto0 (n := 22) (P := fun i => V D cfX6_besideOrigin (rmOf 12 0 0) (QM D (PI (nI (besV A v)) (wl D ad (upd2 M 157 4 (nI 0)))) 0 0) 0 0 33 [some (.ref (ad 157)), some (.int (nI (v))), some (.int (nI (volS A v))), some (.int (nI (nsum (gvs A (volS A v) (besF A v)) i))), some (.int (nI (i))), none, none] [] (wl D ad (upd2 M 157 4 (nI 0)))) ?_ ?_
    · skip
      refine E_iload4 (q := 35) dX6_besideOrigin_33 rfl ?_
      refine E_bipush (v := nI 22) (q := 37) dX6_besideOrigin_35 (by decide) rfl ?_
      refine E_icmp_geN (tgt := 144) (q := 40) dX6_besideOrigin_37 (by decide) rfl (by omega) (by omega) (fun h37 => ?_) (fun h37 => ?_)
      · skip
        refine E_iload3 (q := 145) dX6_besideOrigin_144 rfl ?_
        exact E_ireturn rfl rfl dX6_besideOrigin_145 (PI_of (congrArg nI (gvs_sum h.2.2.2.2 _ _)) rfl)
      · skip
        exact absurd h37 (by omega)
    · intro i hi ih
      rw [nsum_s (gvs A (volS A v) (besF A v)) i] at ih
      by_cases hS : (volS A v).testBit i = true
      · cases hz : org A v with
        | zero =>
          skip
          have hin : V D cfX6_besideOrigin (rmOf 12 0 0) (QM D (PI (nI (besV A v)) (wl D ad (upd2 M 157 4 (nI 0)))) 0 0) 0 0 43 [some (.ref (ad 157)), some (.int (nI (v))), some (.int (nI (volS A v))), some (.int (nI (nsum (gvs A (volS A v) (besF A v)) i + nsum (gv A (volS A v) (besF A v) i) 0))), some (.int (nI (i))), some (.int (nI (0))), none] [] (wl D ad (upd2 M 157 4 (nI 0))) := by
            refine upto0 (n := 12) (P := fun j => V D cfX6_besideOrigin (rmOf 12 0 0) (QM D (PI (nI (besV A v)) (wl D ad (upd2 M 157 4 (nI 0)))) 0 0) 0 0 43 [some (.ref (ad 157)), some (.int (nI (v))), some (.int (nI (volS A v))), some (.int (nI (nsum (gvs A (volS A v) (besF A v)) i + nsum (gv A (volS A v) (besF A v) i) j))), some (.int (nI (i))), some (.int (nI (j))), none] [] (wl D ad (upd2 M 157 4 (nI 0)))) ?_ ?_
            · skip
              refine E_iload5 (q := 45) dX6_besideOrigin_43 rfl ?_
              refine E_bipush (v := nI 12) (q := 47) dX6_besideOrigin_45 (by decide) rfl ?_
              refine E_icmp_geN (tgt := 138) (q := 50) dX6_besideOrigin_47 (by decide) rfl (by omega) (by omega) (fun h47 => ?_) (fun h47 => ?_)
              · skip
                refine E_iinc4 (q := 141) dX6_besideOrigin_138 (nI_inc _) rfl rfl ?_
                refine E_goto (q := 33) dX6_besideOrigin_141 (by decide) ?_
                exact V_sub (by repeat (first | exact subL_nil | refine subL_s ?_ | refine subL_n ?_)) ih
              · skip
                exact absurd h47 (by omega)
            · intro j hj ih2
              have hb := h.bt i j
              have hp2 : 1 ≤ 2 ^ i := Nat.one_le_two_pow
              rw [nsum_s (gv A (volS A v) (besF A v) i) j] at ih2
              rcases gv_case h.2.2.2.2 (volS A v) (besF A v) i j with ⟨e0, e1⟩ | ⟨x, hx, e1, e2, e3, e4, e5, e6⟩
              · rw [e1] at ih2
                refine E_iload5 (q := 45) dX6_besideOrigin_43 rfl ?_
                refine E_bipush (v := nI 12) (q := 47) dX6_besideOrigin_45 (by decide) rfl ?_
                refine E_icmp_geN (tgt := 138) (q := 50) dX6_besideOrigin_47 (by decide) rfl (by omega) (by omega) (fun h47 => ?_) (fun h47 => ?_)
                · skip
                  exact absurd h47 (by omega)
                · skip
                  refine E_iload2 (q := 51) dX6_besideOrigin_50 rfl ?_
                  refine E_iload4 (q := 53) dX6_besideOrigin_51 rfl ?_
                  refine C_S2I (q := 56) lk_X6_101 (sp_X6_has hSl (by omega)) dX6_besideOrigin_53 (by decide) (Nat.le_of_ble_eq_true rfl) rfl ?_
                  refine E_if_eq (tgt := 138) (q := 59) dX6_besideOrigin_56 (by decide) rfl (fun h56 => ?_) (fun h56 => ?_)
                  · skip
                    exact absurd hS (zI_0 h56)
                  · skip
                    refine E_aload0 (q := 60) dX6_besideOrigin_59 rfl ?_
                    refine E_iload4 (q := 62) dX6_besideOrigin_60 rfl ?_
                    refine E_iload5 (q := 64) dX6_besideOrigin_62 rfl ?_
                    refine C_V2I (q := 67) lk_X6_77 (sp_X6_birthA h.fl (by omega) (by omega)) rc_X6 dX6_besideOrigin_64 (by decide) (Nat.le_of_ble_eq_true rfl) rfl ?_
                    refine E_istore6 (q := 69) dX6_besideOrigin_67 rfl rfl ?_
                    refine E_iload6 (q := 71) dX6_besideOrigin_69 rfl ?_
                    refine E_if_eq (tgt := 132) (q := 74) dX6_besideOrigin_71 (by decide) rfl (fun h71 => ?_) (fun h71 => ?_)
                    · skip
                      refine E_iinc5 (q := 135) dX6_besideOrigin_132 (nI_inc _) rfl rfl ?_
                      refine E_goto (q := 43) dX6_besideOrigin_135 (by decide) ?_
                      exact V_sub (by repeat (first | exact subL_nil | refine subL_s ?_ | refine subL_n ?_)) ih2
                    · skip
                      exact absurd (by rw [e0]; decide) h71
              · have hml : (own x &&& volS A v) % 2 ^ i < 2 ^ 32 := Nat.lt_of_le_of_lt (Nat.mod_le _ _) (Nat.lt_of_le_of_lt Nat.and_le_right (by omega))
                rw [e6] at ih2
                refine E_iload5 (q := 45) dX6_besideOrigin_43 rfl ?_
                refine E_bipush (v := nI 12) (q := 47) dX6_besideOrigin_45 (by decide) rfl ?_
                refine E_icmp_geN (tgt := 138) (q := 50) dX6_besideOrigin_47 (by decide) rfl (by omega) (by omega) (fun h47 => ?_) (fun h47 => ?_)
                · skip
                  exact absurd h47 (by omega)
                · skip
                  refine E_iload2 (q := 51) dX6_besideOrigin_50 rfl ?_
                  refine E_iload4 (q := 53) dX6_besideOrigin_51 rfl ?_
                  refine C_S2I (q := 56) lk_X6_101 (sp_X6_has hSl (by omega)) dX6_besideOrigin_53 (by decide) (Nat.le_of_ble_eq_true rfl) rfl ?_
                  refine E_if_eq (tgt := 138) (q := 59) dX6_besideOrigin_56 (by decide) rfl (fun h56 => ?_) (fun h56 => ?_)
                  · skip
                    exact absurd hS (zI_0 h56)
                  · skip
                    refine E_aload0 (q := 60) dX6_besideOrigin_59 rfl ?_
                    refine E_iload4 (q := 62) dX6_besideOrigin_60 rfl ?_
                    refine E_iload5 (q := 64) dX6_besideOrigin_62 rfl ?_
                    refine C_V2I (q := 67) lk_X6_77 (sp_X6_birthA h.fl (by omega) (by omega)) rc_X6 dX6_besideOrigin_64 (by decide) (Nat.le_of_ble_eq_true rfl) rfl ?_
                    refine E_istore6 (q := 69) dX6_besideOrigin_67 rfl rfl ?_
                    refine E_iload6 (q := 71) dX6_besideOrigin_69 rfl ?_
                    refine E_if_eq (tgt := 132) (q := 74) dX6_besideOrigin_71 (by decide) rfl (fun h71 => ?_) (fun h71 => ?_)
                    · skip
                      exact absurd ((nI_z (by omega)).mp h71) e5
                    · skip
                      refine E_aload0 (q := 75) dX6_besideOrigin_74 rfl ?_
                      refine E_iload6 (q := 77) dX6_besideOrigin_75 rfl ?_
                      refine C_V1I (q := 80) lk_X6_94 (sp_X6_holdersA h.fl (by omega) (by omega)) rc_X6 dX6_besideOrigin_77 (by decide) (Nat.le_of_ble_eq_true rfl) rfl ?_
                      refine E_iload2 (q := 81) dX6_besideOrigin_80 rfl ?_
                      refine E_iand (q := 82) dX6_besideOrigin_81 rfl ?_
                      refine V_int (nI_and _ _) ?_
                      refine E_iconst (v := nI 1) (q := 83) dX6_besideOrigin_82 (by decide) rfl ?_
                      refine E_iload4 (q := 85) dX6_besideOrigin_83 rfl ?_
                      refine E_ishl (q := 86) dX6_besideOrigin_85 rfl ?_
                      refine V_int (one_shl (by omega)) ?_
                      refine E_iconst (v := nI 1) (q := 87) dX6_besideOrigin_86 (by decide) rfl ?_
                      refine E_isubN (q := 88) dX6_besideOrigin_87 (by omega) rfl ?_
                      refine E_iand (q := 89) dX6_besideOrigin_88 rfl ?_
                      refine V_int (show _ = nI ((own x &&& volS A v) % 2 ^ i) by rw [nI_and, mod_and, e3]) ?_
                      refine E_if_eq (tgt := 95) (q := 92) dX6_besideOrigin_89 (by decide) rfl (fun h89 => ?_) (fun h89 => ?_)
                      · skip
                        refine E_iload3 (q := 96) dX6_besideOrigin_95 rfl ?_
                        refine E_aload0 (q := 97) dX6_besideOrigin_96 rfl ?_
                        refine E_iload1 (q := 98) dX6_besideOrigin_97 rfl ?_
                        refine C_V1I (q := 101) lk_X6_107 (sp_X6_origin h.fl.1 h.fl.2.1 hv ht) rc_X6 dX6_besideOrigin_98 (by decide) (Nat.le_of_ble_eq_true rfl) rfl ?_
                        rw [hz, oI_0]
                        refine E_if_lt (tgt := 118) (q := 104) dX6_besideOrigin_101 (by decide) rfl (fun h101 => ?_) (fun h101 => ?_)
                        · skip
                          refine E_aload0 (q := 119) dX6_besideOrigin_118 rfl ?_
                          refine E_iload4 (q := 121) dX6_besideOrigin_119 rfl ?_
                          refine E_iload5 (q := 123) dX6_besideOrigin_121 rfl ?_
                          refine C_V2I (q := 126) lk_X6_80 (sp_X6_unitsA h.fl (by omega) (by omega)) rc_X6 dX6_besideOrigin_123 (by decide) (Nat.le_of_ble_eq_true rfl) rfl ?_
                          refine E_goto (q := 130) dX6_besideOrigin_126 (by decide) ?_
                          refine E_iaddN (q := 131) dX6_besideOrigin_130 rfl ?_
                          refine E_istore3 (q := 132) dX6_besideOrigin_131 rfl rfl ?_
                          refine E_iinc5 (q := 135) dX6_besideOrigin_132 (nI_inc _) rfl rfl ?_
                          refine E_goto (q := 43) dX6_besideOrigin_135 (by decide) ?_
                          rw [if_pos ⟨and_bit.mpr ⟨e4, hS⟩, nI_inj hml (by decide) h89⟩, show besF A v x = siz x by unfold besF; rw [hz]] at ih2
                          rw [← Nat.add_assoc, ← e2] at ih2
                          exact V_sub (by repeat (first | exact subL_nil | refine subL_s ?_ | refine subL_n ?_)) ih2
                        · skip
                          exact absurd (by decide) h101
                      · skip
                        refine E_goto (q := 132) dX6_besideOrigin_92 (by decide) ?_
                        refine E_iinc5 (q := 135) dX6_besideOrigin_132 (nI_inc _) rfl rfl ?_
                        refine E_goto (q := 43) dX6_besideOrigin_135 (by decide) ?_
                        rw [if_neg (fun z => h89 (congrArg nI z.2))] at ih2
                        exact V_sub (by repeat (first | exact subL_nil | refine subL_s ?_ | refine subL_n ?_)) ih2
          refine E_iload4 (q := 35) dX6_besideOrigin_33 rfl ?_
          refine E_bipush (v := nI 22) (q := 37) dX6_besideOrigin_35 (by decide) rfl ?_
          refine E_icmp_geN (tgt := 144) (q := 40) dX6_besideOrigin_37 (by decide) rfl (by omega) (by omega) (fun h37 => ?_) (fun h37 => ?_)
          · skip
            exact absurd h37 (by omega)
          · skip
            refine E_iconst (v := nI 0) (q := 41) dX6_besideOrigin_40 (by decide) rfl ?_
            refine E_istore5 (q := 43) dX6_besideOrigin_41 rfl rfl ?_
            exact V_sub (by repeat (first | exact subL_nil | refine subL_s ?_ | refine subL_n ?_)) hin
        | succ o =>
          skip
          have hin : V D cfX6_besideOrigin (rmOf 12 0 0) (QM D (PI (nI (besV A v)) (wl D ad (upd2 M 157 4 (nI 0)))) 0 0) 0 0 43 [some (.ref (ad 157)), some (.int (nI (v))), some (.int (nI (volS A v))), some (.int (nI (nsum (gvs A (volS A v) (besF A v)) i + nsum (gv A (volS A v) (besF A v) i) 0))), some (.int (nI (i))), some (.int (nI (0))), none] [] (wl D ad (upd2 M 157 4 (nI 0))) := by
            refine upto0 (n := 12) (P := fun j => V D cfX6_besideOrigin (rmOf 12 0 0) (QM D (PI (nI (besV A v)) (wl D ad (upd2 M 157 4 (nI 0)))) 0 0) 0 0 43 [some (.ref (ad 157)), some (.int (nI (v))), some (.int (nI (volS A v))), some (.int (nI (nsum (gvs A (volS A v) (besF A v)) i + nsum (gv A (volS A v) (besF A v) i) j))), some (.int (nI (i))), some (.int (nI (j))), none] [] (wl D ad (upd2 M 157 4 (nI 0)))) ?_ ?_
            · skip
              refine E_iload5 (q := 45) dX6_besideOrigin_43 rfl ?_
              refine E_bipush (v := nI 12) (q := 47) dX6_besideOrigin_45 (by decide) rfl ?_
              refine E_icmp_geN (tgt := 138) (q := 50) dX6_besideOrigin_47 (by decide) rfl (by omega) (by omega) (fun h47 => ?_) (fun h47 => ?_)
              · skip
                refine E_iinc4 (q := 141) dX6_besideOrigin_138 (nI_inc _) rfl rfl ?_
                refine E_goto (q := 33) dX6_besideOrigin_141 (by decide) ?_
                exact V_sub (by repeat (first | exact subL_nil | refine subL_s ?_ | refine subL_n ?_)) ih
              · skip
                exact absurd h47 (by omega)
            · intro j hj ih2
              have hb := h.bt i j
              have hp2 : 1 ≤ 2 ^ i := Nat.one_le_two_pow
              rw [nsum_s (gv A (volS A v) (besF A v) i) j] at ih2
              rcases gv_case h.2.2.2.2 (volS A v) (besF A v) i j with ⟨e0, e1⟩ | ⟨x, hx, e1, e2, e3, e4, e5, e6⟩
              · rw [e1] at ih2
                refine E_iload5 (q := 45) dX6_besideOrigin_43 rfl ?_
                refine E_bipush (v := nI 12) (q := 47) dX6_besideOrigin_45 (by decide) rfl ?_
                refine E_icmp_geN (tgt := 138) (q := 50) dX6_besideOrigin_47 (by decide) rfl (by omega) (by omega) (fun h47 => ?_) (fun h47 => ?_)
                · skip
                  exact absurd h47 (by omega)
                · skip
                  refine E_iload2 (q := 51) dX6_besideOrigin_50 rfl ?_
                  refine E_iload4 (q := 53) dX6_besideOrigin_51 rfl ?_
                  refine C_S2I (q := 56) lk_X6_101 (sp_X6_has hSl (by omega)) dX6_besideOrigin_53 (by decide) (Nat.le_of_ble_eq_true rfl) rfl ?_
                  refine E_if_eq (tgt := 138) (q := 59) dX6_besideOrigin_56 (by decide) rfl (fun h56 => ?_) (fun h56 => ?_)
                  · skip
                    exact absurd hS (zI_0 h56)
                  · skip
                    refine E_aload0 (q := 60) dX6_besideOrigin_59 rfl ?_
                    refine E_iload4 (q := 62) dX6_besideOrigin_60 rfl ?_
                    refine E_iload5 (q := 64) dX6_besideOrigin_62 rfl ?_
                    refine C_V2I (q := 67) lk_X6_77 (sp_X6_birthA h.fl (by omega) (by omega)) rc_X6 dX6_besideOrigin_64 (by decide) (Nat.le_of_ble_eq_true rfl) rfl ?_
                    refine E_istore6 (q := 69) dX6_besideOrigin_67 rfl rfl ?_
                    refine E_iload6 (q := 71) dX6_besideOrigin_69 rfl ?_
                    refine E_if_eq (tgt := 132) (q := 74) dX6_besideOrigin_71 (by decide) rfl (fun h71 => ?_) (fun h71 => ?_)
                    · skip
                      refine E_iinc5 (q := 135) dX6_besideOrigin_132 (nI_inc _) rfl rfl ?_
                      refine E_goto (q := 43) dX6_besideOrigin_135 (by decide) ?_
                      exact V_sub (by repeat (first | exact subL_nil | refine subL_s ?_ | refine subL_n ?_)) ih2
                    · skip
                      exact absurd (by rw [e0]; decide) h71
              · have hml : (own x &&& volS A v) % 2 ^ i < 2 ^ 32 := Nat.lt_of_le_of_lt (Nat.mod_le _ _) (Nat.lt_of_le_of_lt Nat.and_le_right (by omega))
                rw [e6] at ih2
                refine E_iload5 (q := 45) dX6_besideOrigin_43 rfl ?_
                refine E_bipush (v := nI 12) (q := 47) dX6_besideOrigin_45 (by decide) rfl ?_
                refine E_icmp_geN (tgt := 138) (q := 50) dX6_besideOrigin_47 (by decide) rfl (by omega) (by omega) (fun h47 => ?_) (fun h47 => ?_)
                · skip
                  exact absurd h47 (by omega)
                · skip
                  refine E_iload2 (q := 51) dX6_besideOrigin_50 rfl ?_
                  refine E_iload4 (q := 53) dX6_besideOrigin_51 rfl ?_
                  refine C_S2I (q := 56) lk_X6_101 (sp_X6_has hSl (by omega)) dX6_besideOrigin_53 (by decide) (Nat.le_of_ble_eq_true rfl) rfl ?_
                  refine E_if_eq (tgt := 138) (q := 59) dX6_besideOrigin_56 (by decide) rfl (fun h56 => ?_) (fun h56 => ?_)
                  · skip
                    exact absurd hS (zI_0 h56)
                  · skip
                    refine E_aload0 (q := 60) dX6_besideOrigin_59 rfl ?_
                    refine E_iload4 (q := 62) dX6_besideOrigin_60 rfl ?_
                    refine E_iload5 (q := 64) dX6_besideOrigin_62 rfl ?_
                    refine C_V2I (q := 67) lk_X6_77 (sp_X6_birthA h.fl (by omega) (by omega)) rc_X6 dX6_besideOrigin_64 (by decide) (Nat.le_of_ble_eq_true rfl) rfl ?_
                    refine E_istore6 (q := 69) dX6_besideOrigin_67 rfl rfl ?_
                    refine E_iload6 (q := 71) dX6_besideOrigin_69 rfl ?_
                    refine E_if_eq (tgt := 132) (q := 74) dX6_besideOrigin_71 (by decide) rfl (fun h71 => ?_) (fun h71 => ?_)
                    · skip
                      exact absurd ((nI_z (by omega)).mp h71) e5
                    · skip
                      refine E_aload0 (q := 75) dX6_besideOrigin_74 rfl ?_
                      refine E_iload6 (q := 77) dX6_besideOrigin_75 rfl ?_
                      refine C_V1I (q := 80) lk_X6_94 (sp_X6_holdersA h.fl (by omega) (by omega)) rc_X6 dX6_besideOrigin_77 (by decide) (Nat.le_of_ble_eq_true rfl) rfl ?_
                      refine E_iload2 (q := 81) dX6_besideOrigin_80 rfl ?_
                      refine E_iand (q := 82) dX6_besideOrigin_81 rfl ?_
                      refine V_int (nI_and _ _) ?_
                      refine E_iconst (v := nI 1) (q := 83) dX6_besideOrigin_82 (by decide) rfl ?_
                      refine E_iload4 (q := 85) dX6_besideOrigin_83 rfl ?_
                      refine E_ishl (q := 86) dX6_besideOrigin_85 rfl ?_
                      refine V_int (one_shl (by omega)) ?_
                      refine E_iconst (v := nI 1) (q := 87) dX6_besideOrigin_86 (by decide) rfl ?_
                      refine E_isubN (q := 88) dX6_besideOrigin_87 (by omega) rfl ?_
                      refine E_iand (q := 89) dX6_besideOrigin_88 rfl ?_
                      refine V_int (show _ = nI ((own x &&& volS A v) % 2 ^ i) by rw [nI_and, mod_and, e3]) ?_
                      refine E_if_eq (tgt := 95) (q := 92) dX6_besideOrigin_89 (by decide) rfl (fun h89 => ?_) (fun h89 => ?_)
                      · skip
                        refine E_iload3 (q := 96) dX6_besideOrigin_95 rfl ?_
                        refine E_aload0 (q := 97) dX6_besideOrigin_96 rfl ?_
                        refine E_iload1 (q := 98) dX6_besideOrigin_97 rfl ?_
                        refine C_V1I (q := 101) lk_X6_107 (sp_X6_origin h.fl.1 h.fl.2.1 hv ht) rc_X6 dX6_besideOrigin_98 (by decide) (Nat.le_of_ble_eq_true rfl) rfl ?_
                        rw [hz, oI_s]
                        refine E_if_lt (tgt := 118) (q := 104) dX6_besideOrigin_101 (by decide) rfl (fun h101 => ?_) (fun h101 => ?_)
                        · skip
                          exact absurd h101 (nI_pos (by omega))
                        · skip
                          refine E_aload0 (q := 105) dX6_besideOrigin_104 rfl ?_
                          refine E_aload0 (q := 106) dX6_besideOrigin_105 rfl ?_
                          refine E_iload1 (q := 107) dX6_besideOrigin_106 rfl ?_
                          refine C_V1I (q := 110) lk_X6_107 (sp_X6_origin h.fl.1 h.fl.2.1 hv ht) rc_X6 dX6_besideOrigin_107 (by decide) (Nat.le_of_ble_eq_true rfl) rfl ?_
                          rw [hz, oI_s]
                          refine E_iload6 (q := 112) dX6_besideOrigin_110 rfl ?_
                          refine C_V2I (q := 115) lk_X6_90 (sp_X6_hasBlockA h.fl (by omega) (by omega) (by omega)) rc_X6 dX6_besideOrigin_112 (by decide) (Nat.le_of_ble_eq_true rfl) rfl ?_
                          refine E_if_ne (tgt := 129) (q := 118) dX6_besideOrigin_115 (by decide) rfl (fun h115 => ?_) (fun h115 => ?_)
                          · skip
                            refine E_iconst (v := nI 0) (q := 130) dX6_besideOrigin_129 (by decide) rfl ?_
                            refine E_iaddN (q := 131) dX6_besideOrigin_130 rfl ?_
                            refine E_istore3 (q := 132) dX6_besideOrigin_131 rfl rfl ?_
                            refine E_iinc5 (q := 135) dX6_besideOrigin_132 (nI_inc _) rfl rfl ?_
                            refine E_goto (q := 43) dX6_besideOrigin_135 (by decide) ?_
                            rw [if_pos ⟨and_bit.mpr ⟨e4, hS⟩, nI_inj hml (by decide) h89⟩, show besF A v x = 0 by unfold besF; rw [hz]; exact if_pos (e3 ▸ zI_n h115)] at ih2
                            exact V_sub (by repeat (first | exact subL_nil | refine subL_s ?_ | refine subL_n ?_)) ih2
                          · skip
                            refine E_aload0 (q := 119) dX6_besideOrigin_118 rfl ?_
                            refine E_iload4 (q := 121) dX6_besideOrigin_119 rfl ?_
                            refine E_iload5 (q := 123) dX6_besideOrigin_121 rfl ?_
                            refine C_V2I (q := 126) lk_X6_80 (sp_X6_unitsA h.fl (by omega) (by omega)) rc_X6 dX6_besideOrigin_123 (by decide) (Nat.le_of_ble_eq_true rfl) rfl ?_
                            refine E_goto (q := 130) dX6_besideOrigin_126 (by decide) ?_
                            refine E_iaddN (q := 131) dX6_besideOrigin_130 rfl ?_
                            refine E_istore3 (q := 132) dX6_besideOrigin_131 rfl rfl ?_
                            refine E_iinc5 (q := 135) dX6_besideOrigin_132 (nI_inc _) rfl rfl ?_
                            refine E_goto (q := 43) dX6_besideOrigin_135 (by decide) ?_
                            rw [if_pos ⟨and_bit.mpr ⟨e4, hS⟩, nI_inj hml (by decide) h89⟩, show besF A v x = siz x by unfold besF; rw [hz]; exact if_neg (e3 ▸ zI_0 h115)] at ih2
                            rw [← Nat.add_assoc, ← e2] at ih2
                            exact V_sub (by repeat (first | exact subL_nil | refine subL_s ?_ | refine subL_n ?_)) ih2
                      · skip
                        refine E_goto (q := 132) dX6_besideOrigin_92 (by decide) ?_
                        refine E_iinc5 (q := 135) dX6_besideOrigin_132 (nI_inc _) rfl rfl ?_
                        refine E_goto (q := 43) dX6_besideOrigin_135 (by decide) ?_
                        rw [if_neg (fun z => h89 (congrArg nI z.2))] at ih2
                        exact V_sub (by repeat (first | exact subL_nil | refine subL_s ?_ | refine subL_n ?_)) ih2
          refine E_iload4 (q := 35) dX6_besideOrigin_33 rfl ?_
          refine E_bipush (v := nI 22) (q := 37) dX6_besideOrigin_35 (by decide) rfl ?_
          refine E_icmp_geN (tgt := 144) (q := 40) dX6_besideOrigin_37 (by decide) rfl (by omega) (by omega) (fun h37 => ?_) (fun h37 => ?_)
          · skip
            exact absurd h37 (by omega)
          · skip
            refine E_iconst (v := nI 0) (q := 41) dX6_besideOrigin_40 (by decide) rfl ?_
            refine E_istore5 (q := 43) dX6_besideOrigin_41 rfl rfl ?_
            exact V_sub (by repeat (first | exact subL_nil | refine subL_s ?_ | refine subL_n ?_)) hin
      · rw [gvs_S hS] at ih
        refine E_iload4 (q := 35) dX6_besideOrigin_33 rfl ?_
        refine E_bipush (v := nI 22) (q := 37) dX6_besideOrigin_35 (by decide) rfl ?_
        refine E_icmp_geN (tgt := 144) (q := 40) dX6_besideOrigin_37 (by decide) rfl (by omega) (by omega) (fun h37 => ?_) (fun h37 => ?_)
        · skip
          exact absurd h37 (by omega)
        · skip
          refine E_iconst (v := nI 0) (q := 41) dX6_besideOrigin_40 (by decide) rfl ?_
          refine E_istore5 (q := 43) dX6_besideOrigin_41 rfl rfl ?_
          refine E_iload5 (q := 45) dX6_besideOrigin_43 rfl ?_
          refine E_bipush (v := nI 12) (q := 47) dX6_besideOrigin_45 (by decide) rfl ?_
          refine E_icmp_geN (tgt := 138) (q := 50) dX6_besideOrigin_47 (by decide) rfl (by omega) (by omega) (fun h47 => ?_) (fun h47 => ?_)
          · first | exact absurd h47 (by decide) | exact absurd (by decide) h47
          · skip
            refine E_iload2 (q := 51) dX6_besideOrigin_50 rfl ?_
            refine E_iload4 (q := 53) dX6_besideOrigin_51 rfl ?_
            refine C_S2I (q := 56) lk_X6_101 (sp_X6_has hSl (by omega)) dX6_besideOrigin_53 (by decide) (Nat.le_of_ble_eq_true rfl) rfl ?_
            refine E_if_eq (tgt := 138) (q := 59) dX6_besideOrigin_56 (by decide) rfl (fun h56 => ?_) (fun h56 => ?_)
            · skip
              refine E_iinc4 (q := 141) dX6_besideOrigin_138 (nI_inc _) rfl rfl ?_
              refine E_goto (q := 33) dX6_besideOrigin_141 (by decide) ?_
              exact V_sub (by repeat (first | exact subL_nil | refine subL_s ?_ | refine subL_n ?_)) ih
            · skip
              exact absurd (zI_n h56) hS
  refine E_aload0 (q := 1) dX6_besideOrigin_0 rfl ?_
  refine E_aload0 (q := 2) dX6_besideOrigin_1 rfl ?_
  refine E_iload1 (q := 3) dX6_besideOrigin_2 rfl ?_
  refine C_V1I (q := 6) lk_X6_74 (sp_X6_isVolT h ((VolA_nI (by omega)).mpr ⟨hv, ht⟩)) rc_X6 dX6_besideOrigin_3 (by decide) (Nat.le_of_ble_eq_true rfl) rfl ?_
  refine C_V1I (q := 9) lk_X6_128 (sp_X6_failsT) rc_X6 dX6_besideOrigin_6 (by decide) (Nat.le_of_ble_eq_true rfl) rfl ?_
  refine E_if_eq (tgt := 14) (q := 12) dX6_besideOrigin_9 (by decide) rfl (fun h9 => ?_) (fun h9 => ?_)
  · skip
    refine E_aload0 (q := 15) dX6_besideOrigin_14 rfl ?_
    refine E_iload1 (q := 16) dX6_besideOrigin_15 rfl ?_
    refine E_iconst (v := nI 0) (q := 17) dX6_besideOrigin_16 (by decide) rfl ?_
    refine C_V2I (q := 20) lk_X6_150 (sp_X6_listOf h.fl hv ht (Nat.zero_le _)) rc_X6 dX6_besideOrigin_17 (by decide) (Nat.le_of_ble_eq_true rfl) rfl ?_
    refine V_int (congrArg nI (mkR_all A v)) ?_
    refine E_iconst (v := nI 1) (q := 21) dX6_besideOrigin_20 (by decide) rfl ?_
    refine E_bipush (v := nI 16) (q := 23) dX6_besideOrigin_21 (by decide) rfl ?_
    refine E_iload1 (q := 24) dX6_besideOrigin_23 rfl ?_
    refine E_iaddN (q := 25) dX6_besideOrigin_24 rfl ?_
    refine E_ishl (q := 26) dX6_besideOrigin_25 rfl ?_
    refine V_int (one_shl (by omega)) ?_
    refine E_ior (q := 27) dX6_besideOrigin_26 rfl ?_
    refine V_int (nI_or _ _) ?_
    refine E_istore2 (q := 28) dX6_besideOrigin_27 rfl rfl ?_
    refine E_iconst (v := nI 0) (q := 29) dX6_besideOrigin_28 (by decide) rfl ?_
    refine E_istore3 (q := 30) dX6_besideOrigin_29 rfl rfl ?_
    refine E_iconst (v := nI 0) (q := 31) dX6_besideOrigin_30 (by decide) rfl ?_
    refine E_istore4 (q := 33) dX6_besideOrigin_31 rfl rfl ?_
    exact hmain
  · first | exact absurd h9 (by decide) | exact absurd (by decide) h9
theorem sp_X6_deadBlock {w : Nat} {q : Int32} (h : RI M wx A) (hw : w < 22) (ht : th A w) : Spec D 12 yX6_deadBlock cfX6_deadBlock [.ref (ad 157), .int (nI (w)), .int (q)] (wl D ad M) 0 0 (PI (ahdV A w (fun p => nthV (deadL A p w) q) (-1)) (wl D ad (upd2 M 157 4 (nI 0)))) := by
  refine Spec.of (by decide) rfl (Nat.le_of_ble_eq_true rfl) rfl ?_
  have hlt := WFT.lt h.2.2.1 h.2.2.2.1 hw ht
  have hB := h.2.2.2.2
  cases hz : ahd A w with
  | zero =>
    refine E_aload0 (q := 1) dX6_deadBlock_0 rfl ?_
    refine E_aload0 (q := 2) dX6_deadBlock_1 rfl ?_
    refine E_iload1 (q := 3) dX6_deadBlock_2 rfl ?_
    refine C_V1I (q := 6) lk_X6_87 (sp_X6_isVerT h ((VerA_nI (by omega)).mpr ⟨hw, ht⟩)) rc_X6 dX6_deadBlock_3 (by decide) (Nat.le_of_ble_eq_true rfl) rfl ?_
    refine C_V1I (q := 9) lk_X6_128 (sp_X6_failsT) rc_X6 dX6_deadBlock_6 (by decide) (Nat.le_of_ble_eq_true rfl) rfl ?_
    refine E_if_eq (tgt := 14) (q := 12) dX6_deadBlock_9 (by decide) rfl (fun h9 => ?_) (fun h9 => ?_)
    · skip
      refine E_aload0 (q := 15) dX6_deadBlock_14 rfl ?_
      refine E_iload1 (q := 16) dX6_deadBlock_15 rfl ?_
      refine C_V1I (q := 19) lk_X6_110 (sp_X6_beforeOf h.fl.1 h.fl.2.1 h.2.2.1 hw ht) rc_X6 dX6_deadBlock_16 (by decide) (Nat.le_of_ble_eq_true rfl) rfl ?_
      rw [hz, oI_0]
      refine E_istore3 (q := 20) dX6_deadBlock_19 rfl rfl ?_
      refine E_iconst (v := nI 0) (q := 21) dX6_deadBlock_20 (by decide) rfl ?_
      refine E_istore4 (q := 23) dX6_deadBlock_21 rfl rfl ?_
      refine E_iload4 (q := 25) dX6_deadBlock_23 rfl ?_
      refine E_bipush (v := nI 12) (q := 27) dX6_deadBlock_25 (by decide) rfl ?_
      refine E_icmp_geN (tgt := 125) (q := 30) dX6_deadBlock_27 (by decide) rfl (by omega) (by omega) (fun h27 => ?_) (fun h27 => ?_)
      · first | exact absurd h27 (by decide) | exact absurd (by decide) h27
      · skip
        refine E_iload3 (q := 31) dX6_deadBlock_30 rfl ?_
        refine E_if_lt (tgt := 125) (q := 34) dX6_deadBlock_31 (by decide) rfl (fun h31 => ?_) (fun h31 => ?_)
        · skip
          refine E_iconst (v := -1) (q := 126) dX6_deadBlock_125 (by decide) rfl ?_
          exact E_ireturn rfl rfl dX6_deadBlock_126 (PI_of (by unfold ahdV; rw [hz]) rfl)
        · skip
          exact absurd (by decide) h31
    · first | exact absurd h9 (by decide) | exact absurd (by decide) h9
  | succ p =>
    have hp := hlt.2 p hz
    have hval : ahdV A w (fun p => nthV (deadL A p w) q) (-1) = nthV (deadL A p w) q := by unfold ahdV; rw [hz]
    have hdl : ∀ a, deadP A w p a ↔ ∃ x, x ∈ deadL A p w ∧ adr x = a ∧ bAt A.2 p a = x.1 := fun a => by
      constructor
      · rintro ⟨q1, q2⟩
        obtain ⟨x, -, e1, e2, -, e4, e5⟩ := hB.bt q1
        rw [e2, ownB_mem hB.1 e1] at q2
        exact ⟨x, List.mem_filter.mpr ⟨e1, by rw [e5]; simpa using q2⟩, e4, e2⟩
      · rintro ⟨x, q1, q2, q3⟩
        obtain ⟨e1, e2⟩ := List.mem_filter.mp q1
        have e3 : (own x).testBit p = true ∧ ¬ (own x).testBit w = true := by simpa using e2
        have := (hB.2 x e1).1
        exact ⟨by omega, by rw [q3, ownB_mem hB.1 e1]; exact e3.2⟩
    have hmain : V D cfX6_deadBlock (rmOf 12 0 0) (QM D (PI (ahdV A w (fun p => nthV (deadL A p w) q) (-1)) (wl D ad (upd2 M 157 4 (nI 0)))) 0 0) 0 0 23 [some (.ref (ad 157)), some (.int (nI (w))), some (.int (q)), some (.int (nI (p))), some (.int (nI (0))), none, none] [] (wl D ad (upd2 M 157 4 (nI 0))) := by
      refine (upto0 (n := 12) (P := fun i => (∀ a, a < i → ∀ k x, (deadL A p w)[k]? = some x → adr x = a → nI k ≠ q) → V D cfX6_deadBlock (rmOf 12 0 0) (QM D (PI (ahdV A w (fun p => nthV (deadL A p w) q) (-1)) (wl D ad (upd2 M 157 4 (nI 0)))) 0 0) 0 0 23 [some (.ref (ad 157)), some (.int (nI (w))), some (.int (q)), some (.int (nI (p))), some (.int (nI (i))), none, none] [] (wl D ad (upd2 M 157 4 (nI 0)))) ?_ ?_) (fun j hj => absurd hj (by omega))
      · intro hno
        refine E_iload4 (q := 25) dX6_deadBlock_23 rfl ?_
        refine E_bipush (v := nI 12) (q := 27) dX6_deadBlock_25 (by decide) rfl ?_
        refine E_icmp_geN (tgt := 125) (q := 30) dX6_deadBlock_27 (by decide) rfl (by omega) (by omega) (fun h27 => ?_) (fun h27 => ?_)
        · skip
          refine E_iconst (v := -1) (q := 126) dX6_deadBlock_125 (by decide) rfl ?_
          exact E_ireturn rfl rfl dX6_deadBlock_126 (PI_of (hval.trans (nthV_miss (fun k x hk _ z => hno (adr x) (hB.2 x (List.mem_filter.mp (List.mem_of_getElem? hk)).1).2.2.2.2.1 k x hk rfl z.symm))).symm rfl)
        · skip
          exact absurd h27 (by omega)
      · intro i hi ih hno
        have hin : ∀ (x : Blk) (k : Nat), (deadL A p w)[k]? = some x → bAt A.2 p i = x.1 → adr x = i → V D cfX6_deadBlock (rmOf 12 0 0) (QM D (PI (ahdV A w (fun p => nthV (deadL A p w) q) (-1)) (wl D ad (upd2 M 157 4 (nI 0)))) 0 0) 0 0 54 [some (.ref (ad 157)), some (.int (nI (w))), some (.int (q)), some (.int (nI (p))), some (.int (nI (i))), some (.int (nI (0))), some (.int (nI (0)))] [] (wl D ad (upd2 M 157 4 (nI 0))) := by
          intro x k hk hxi hai
          have hx := (List.mem_filter.mp (List.mem_of_getElem? hk)).1
          have hk31 : k < 2 ^ 31 := by
            have := (List.getElem?_eq_some_iff.mp hk).1
            have h2 : (deadL A p w).length ≤ A.2.length := List.length_filter_le _ _
            have := hB.len
            omega
          have hbi := h.bt p i
          refine upto0 (n := 12) (P := fun j => V D cfX6_deadBlock (rmOf 12 0 0) (QM D (PI (ahdV A w (fun p => nthV (deadL A p w) q) (-1)) (wl D ad (upd2 M 157 4 (nI 0)))) 0 0) 0 0 54 [some (.ref (ad 157)), some (.int (nI (w))), some (.int (q)), some (.int (nI (p))), some (.int (nI (i))), some (.int (nI (nsum (av A p (fun y => if (own y).testBit w = true then 0 else if y.1 < x.1 then 1 else 0)) j))), some (.int (nI (j)))] [] (wl D ad (upd2 M 157 4 (nI 0)))) ?_ ?_
          · skip
            refine E_iload6 (q := 56) dX6_deadBlock_54 rfl ?_
            refine E_bipush (v := nI 12) (q := 58) dX6_deadBlock_56 (by decide) rfl ?_
            refine E_icmp_geN (tgt := 105) (q := 61) dX6_deadBlock_58 (by decide) rfl (by omega) (by omega) (fun h58 => ?_) (fun h58 => ?_)
            · skip
              refine E_iload5 (q := 107) dX6_deadBlock_105 rfl ?_
              refine V_int (show _ = nI k by rw [av_sum hB p, dead_rank hB hk]) ?_
              refine E_iload2 (q := 108) dX6_deadBlock_107 rfl ?_
              refine E_icmp_ne (tgt := 119) (q := 111) dX6_deadBlock_108 (by decide) rfl (fun h108 => ?_) (fun h108 => ?_)
              · skip
                refine E_iinc4 (q := 122) dX6_deadBlock_119 (nI_inc _) rfl rfl ?_
                refine E_goto (q := 23) dX6_deadBlock_122 (by decide) ?_
                refine V_sub (by repeat (first | exact subL_nil | refine subL_s ?_ | refine subL_n ?_)) (ih (fun a ha k' y hk' hay => ?_))
                rcases Nat.lt_or_ge a i with z | z
                · exact hno a z k' y hk' hay
                · have hai' : a = i := by omega
                  have hy := (List.mem_filter.mp (List.mem_of_getElem? hk')).1
                  have e1 := (List.mem_filter.mp (List.mem_of_getElem? hk)).2
                  have e2 := (List.mem_filter.mp (List.mem_of_getElem? hk')).2
                  have e3 : (own x).testBit p = true ∧ ¬ (own x).testBit w = true := by simpa using e1
                  have e4 : (own y).testBit p = true ∧ ¬ (own y).testBit w = true := by simpa using e2
                  have e5 := blkAt_mem hB.1 hx hai e3.1
                  have e6 := blkAt_mem hB.1 hy (hay.trans hai') e4.1
                  rw [e5] at e6
                  have e7 : x = y := by simpa using e6
                  subst e7
                  have e8 : k' = k := by rw [← pw_rank (BPW.lt (bl := deadL A p w) (List.Pairwise.filter _ hB.1)) hk', ← pw_rank (BPW.lt (bl := deadL A p w) (List.Pairwise.filter _ hB.1)) hk]
                  rw [e8]; exact h108
              · skip
                refine E_aload0 (q := 112) dX6_deadBlock_111 rfl ?_
                refine E_iload3 (q := 113) dX6_deadBlock_112 rfl ?_
                refine E_iload4 (q := 115) dX6_deadBlock_113 rfl ?_
                refine C_V2I (q := 118) lk_X6_77 (sp_X6_birthA h.fl (by omega) (by omega)) rc_X6 dX6_deadBlock_115 (by decide) (Nat.le_of_ble_eq_true rfl) rfl ?_
                exact E_ireturn rfl rfl dX6_deadBlock_118 (PI_of (by rw [hval, hxi, ← h108]; exact (nthV_hit hk31 hk).symm) rfl)
            · skip
              exact absurd h58 (by omega)
          · intro j hj ih2
            have hbj := h.bt p j
            rw [nsum_s] at ih2
            rcases av_case hB p (fun y => if (own y).testBit w = true then 0 else if y.1 < x.1 then 1 else 0) j with ⟨e0, e1⟩ | ⟨y, hy, e1, e2, e3, e4, e5, e6⟩
            · rw [e1] at ih2
              refine E_iload6 (q := 56) dX6_deadBlock_54 rfl ?_
              refine E_bipush (v := nI 12) (q := 58) dX6_deadBlock_56 (by decide) rfl ?_
              refine E_icmp_geN (tgt := 105) (q := 61) dX6_deadBlock_58 (by decide) rfl (by omega) (by omega) (fun h58 => ?_) (fun h58 => ?_)
              · skip
                exact absurd h58 (by omega)
              · skip
                refine E_iload5 (q := 63) dX6_deadBlock_61 rfl ?_
                refine E_aload0 (q := 64) dX6_deadBlock_63 rfl ?_
                refine E_iload1 (q := 65) dX6_deadBlock_64 rfl ?_
                refine E_iload3 (q := 66) dX6_deadBlock_65 rfl ?_
                refine E_iload6 (q := 68) dX6_deadBlock_66 rfl ?_
                refine C_V3I (q := 71) lk_X6_156 (sp_X6_isDead h.fl hw (by omega) hj) rc_X6 dX6_deadBlock_68 (by decide) (Nat.le_of_ble_eq_true rfl) rfl ?_
                refine E_if_eq (tgt := 95) (q := 74) dX6_deadBlock_71 (by decide) rfl (fun h71 => ?_) (fun h71 => ?_)
                · skip
                  refine E_iconst (v := nI 0) (q := 96) dX6_deadBlock_95 (by decide) rfl ?_
                  refine E_iaddN (q := 97) dX6_deadBlock_96 rfl ?_
                  refine E_istore5 (q := 99) dX6_deadBlock_97 rfl rfl ?_
                  refine E_iinc6 (q := 102) dX6_deadBlock_99 (nI_inc _) rfl rfl ?_
                  refine E_goto (q := 54) dX6_deadBlock_102 (by decide) ?_
                  exact ih2
                · skip
                  exact absurd e0 (zI_n h71).1
            · rw [e6] at ih2
              refine E_iload6 (q := 56) dX6_deadBlock_54 rfl ?_
              refine E_bipush (v := nI 12) (q := 58) dX6_deadBlock_56 (by decide) rfl ?_
              refine E_icmp_geN (tgt := 105) (q := 61) dX6_deadBlock_58 (by decide) rfl (by omega) (by omega) (fun h58 => ?_) (fun h58 => ?_)
              · skip
                exact absurd h58 (by omega)
              · skip
                refine E_iload5 (q := 63) dX6_deadBlock_61 rfl ?_
                refine E_aload0 (q := 64) dX6_deadBlock_63 rfl ?_
                refine E_iload1 (q := 65) dX6_deadBlock_64 rfl ?_
                refine E_iload3 (q := 66) dX6_deadBlock_65 rfl ?_
                refine E_iload6 (q := 68) dX6_deadBlock_66 rfl ?_
                refine C_V3I (q := 71) lk_X6_156 (sp_X6_isDead h.fl hw (by omega) hj) rc_X6 dX6_deadBlock_68 (by decide) (Nat.le_of_ble_eq_true rfl) rfl ?_
                refine E_if_eq (tgt := 95) (q := 74) dX6_deadBlock_71 (by decide) rfl (fun h71 => ?_) (fun h71 => ?_)
                · skip
                  refine E_iconst (v := nI 0) (q := 96) dX6_deadBlock_95 (by decide) rfl ?_
                  refine E_iaddN (q := 97) dX6_deadBlock_96 rfl ?_
                  refine E_istore5 (q := 99) dX6_deadBlock_97 rfl rfl ?_
                  refine E_iinc6 (q := 102) dX6_deadBlock_99 (nI_inc _) rfl rfl ?_
                  refine E_goto (q := 54) dX6_deadBlock_102 (by decide) ?_
                  rw [if_pos (Classical.byContradiction fun z => zI_0 h71 ⟨e5, e3 ▸ z⟩)] at ih2
                  exact ih2
                · skip
                  refine E_aload0 (q := 75) dX6_deadBlock_74 rfl ?_
                  refine E_iload3 (q := 76) dX6_deadBlock_75 rfl ?_
                  refine E_iload6 (q := 78) dX6_deadBlock_76 rfl ?_
                  refine C_V2I (q := 81) lk_X6_77 (sp_X6_birthA h.fl (by omega) (by omega)) rc_X6 dX6_deadBlock_78 (by decide) (Nat.le_of_ble_eq_true rfl) rfl ?_
                  refine E_aload0 (q := 82) dX6_deadBlock_81 rfl ?_
                  refine E_iload3 (q := 83) dX6_deadBlock_82 rfl ?_
                  refine E_iload4 (q := 85) dX6_deadBlock_83 rfl ?_
                  refine C_V2I (q := 88) lk_X6_77 (sp_X6_birthA h.fl (by omega) (by omega)) rc_X6 dX6_deadBlock_85 (by decide) (Nat.le_of_ble_eq_true rfl) rfl ?_
                  refine E_icmp_geN (tgt := 95) (q := 91) dX6_deadBlock_88 (by decide) rfl (by omega) (by omega) (fun h88 => ?_) (fun h88 => ?_)
                  · skip
                    refine E_iconst (v := nI 0) (q := 96) dX6_deadBlock_95 (by decide) rfl ?_
                    refine E_iaddN (q := 97) dX6_deadBlock_96 rfl ?_
                    refine E_istore5 (q := 99) dX6_deadBlock_97 rfl rfl ?_
                    refine E_iinc6 (q := 102) dX6_deadBlock_99 (nI_inc _) rfl rfl ?_
                    refine E_goto (q := 54) dX6_deadBlock_102 (by decide) ?_
                    rw [if_neg (e3 ▸ (zI_n h71).2), if_neg (by omega)] at ih2
                    exact ih2
                  · skip
                    refine E_iconst (v := nI 1) (q := 92) dX6_deadBlock_91 (by decide) rfl ?_
                    refine E_goto (q := 96) dX6_deadBlock_92 (by decide) ?_
                    refine E_iaddN (q := 97) dX6_deadBlock_96 rfl ?_
                    refine E_istore5 (q := 99) dX6_deadBlock_97 rfl rfl ?_
                    refine E_iinc6 (q := 102) dX6_deadBlock_99 (nI_inc _) rfl rfl ?_
                    refine E_goto (q := 54) dX6_deadBlock_102 (by decide) ?_
                    rw [if_neg (e3 ▸ (zI_n h71).2), if_pos (by omega)] at ih2
                    exact ih2
        refine E_iload4 (q := 25) dX6_deadBlock_23 rfl ?_
        refine E_bipush (v := nI 12) (q := 27) dX6_deadBlock_25 (by decide) rfl ?_
        refine E_icmp_geN (tgt := 125) (q := 30) dX6_deadBlock_27 (by decide) rfl (by omega) (by omega) (fun h27 => ?_) (fun h27 => ?_)
        · skip
          exact absurd h27 (by omega)
        · skip
          refine E_iload3 (q := 31) dX6_deadBlock_30 rfl ?_
          refine E_if_lt (tgt := 125) (q := 34) dX6_deadBlock_31 (by decide) rfl (fun h31 => ?_) (fun h31 => ?_)
          · skip
            exact absurd h31 (nI_pos (by omega))
          · skip
            refine E_aload0 (q := 35) dX6_deadBlock_34 rfl ?_
            refine E_iload1 (q := 36) dX6_deadBlock_35 rfl ?_
            refine E_iload3 (q := 37) dX6_deadBlock_36 rfl ?_
            refine E_iload4 (q := 39) dX6_deadBlock_37 rfl ?_
            refine C_V3I (q := 42) lk_X6_156 (sp_X6_isDead h.fl hw (by omega) hi) rc_X6 dX6_deadBlock_39 (by decide) (Nat.le_of_ble_eq_true rfl) rfl ?_
            refine E_if_ne (tgt := 48) (q := 45) dX6_deadBlock_42 (by decide) rfl (fun h42 => ?_) (fun h42 => ?_)
            · skip
              refine E_iconst (v := nI 0) (q := 49) dX6_deadBlock_48 (by decide) rfl ?_
              refine E_istore5 (q := 51) dX6_deadBlock_49 rfl rfl ?_
              refine E_iconst (v := nI 0) (q := 52) dX6_deadBlock_51 (by decide) rfl ?_
              refine E_istore6 (q := 54) dX6_deadBlock_52 rfl rfl ?_
              obtain ⟨x, hx, hai, hxi⟩ := (hdl i).mp (zI_n h42)
              obtain ⟨k, hk⟩ := List.mem_iff_getElem?.mp hx
              exact hin x k hk hxi hai
            · skip
              refine E_goto (q := 119) dX6_deadBlock_45 (by decide) ?_
              refine E_iinc4 (q := 122) dX6_deadBlock_119 (nI_inc _) rfl rfl ?_
              refine E_goto (q := 23) dX6_deadBlock_122 (by decide) ?_
              refine V_sub (by repeat (first | exact subL_nil | refine subL_s ?_ | refine subL_n ?_)) (ih (fun a ha k x hk hax => ?_))
              rcases Nat.lt_or_ge a i with z | z
              · exact hno a z k x hk hax
              · have hxm := List.mem_of_getElem? hk
                have e1 := List.mem_filter.mp hxm
                have e2 : (own x).testBit p = true ∧ ¬ (own x).testBit w = true := by simpa using e1.2
                refine absurd ((hdl i).mpr ⟨x, hxm, by omega, ?_⟩) (zI_0 h42)
                exact (bAt_some (blkAt_mem hB.1 e1.1 (by omega) e2.1)).1
    refine E_aload0 (q := 1) dX6_deadBlock_0 rfl ?_
    refine E_aload0 (q := 2) dX6_deadBlock_1 rfl ?_
    refine E_iload1 (q := 3) dX6_deadBlock_2 rfl ?_
    refine C_V1I (q := 6) lk_X6_87 (sp_X6_isVerT h ((VerA_nI (by omega)).mpr ⟨hw, ht⟩)) rc_X6 dX6_deadBlock_3 (by decide) (Nat.le_of_ble_eq_true rfl) rfl ?_
    refine C_V1I (q := 9) lk_X6_128 (sp_X6_failsT) rc_X6 dX6_deadBlock_6 (by decide) (Nat.le_of_ble_eq_true rfl) rfl ?_
    refine E_if_eq (tgt := 14) (q := 12) dX6_deadBlock_9 (by decide) rfl (fun h9 => ?_) (fun h9 => ?_)
    · skip
      refine E_aload0 (q := 15) dX6_deadBlock_14 rfl ?_
      refine E_iload1 (q := 16) dX6_deadBlock_15 rfl ?_
      refine C_V1I (q := 19) lk_X6_110 (sp_X6_beforeOf h.fl.1 h.fl.2.1 h.2.2.1 hw ht) rc_X6 dX6_deadBlock_16 (by decide) (Nat.le_of_ble_eq_true rfl) rfl ?_
      rw [hz, oI_s]
      refine E_istore3 (q := 20) dX6_deadBlock_19 rfl rfl ?_
      refine E_iconst (v := nI 0) (q := 21) dX6_deadBlock_20 (by decide) rfl ?_
      refine E_istore4 (q := 23) dX6_deadBlock_21 rfl rfl ?_
      exact hmain
    · first | exact absurd h9 (by decide) | exact absurd (by decide) h9
end MODEL
