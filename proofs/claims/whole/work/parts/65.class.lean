
/-! THE CLASS: the fewest snapshots to destroy -/
section NUM
theorem nI_w (x : Nat) : nI (x + 4294967296) = nI x := by
  apply Int32.toBitVec_inj.mp
  show BitVec.ofNat 32 _ = BitVec.ofNat 32 _
  apply BitVec.eq_of_toNat_eq
  rw [BitVec.toNat_ofNat, BitVec.toNat_ofNat]
  omega
def wN (u s : Nat) : Int32 := nI (u * 65536) - nI s
theorem ti_small {x : Int} (h1 : -2147483648 ≤ x) (h2 : x < 2147483648) : x.bmod (2 ^ 32) = x := by
  rw [show ((2 : Nat) ^ 32) = 4294967296 by decide]
  unfold Int.bmod
  rcases Int.lt_or_le x 0 with c | c
  · have e : x % ((4294967296 : Nat) : Int) = x + 4294967296 := by omega
    rw [e, if_neg (by omega)]; omega
  · have e : x % ((4294967296 : Nat) : Int) = x := by omega
    rw [e, if_pos (by omega)]
theorem wN_ti {u s : Nat} (hu : u ≤ 2376) (hs : s < 65536) : (wN u s).toInt = (u : Int) * 65536 - s := by
  unfold wN
  rw [Int32.toInt_sub, nI_toInt (by omega), nI_toInt (by omega)]
  rw [ti_small (by omega) (by omega)]
  omega
theorem ti_add {a b : Int32} (h1 : -2147483648 ≤ a.toInt + b.toInt) (h2 : a.toInt + b.toInt < 2147483648) : (a + b).toInt = a.toInt + b.toInt := by
  rw [Int32.toInt_add]
  exact ti_small h1 h2
theorem wN_up {u s : Nat} (hs : s < 65536) : wN u s + nI 65536 - nI 1 = nI (u * 65536 + (65535 - s)) := by
  unfold wN
  rw [← nI_w (u * 65536), pk_sub (by omega), show ∀ a b, nI a + nI b = nI (a + b) from fun a b => (nI_add a b), pk_sub (by omega), show u * 65536 + 4294967296 - s + 65536 - 1 = u * 65536 + (65535 - s) + 4294967296 by omega, nI_w]
theorem wN_back {u s : Nat} : nI (u * 65536) - wN u s = nI s := by
  unfold wN
  rw [Int32.sub_eq_add_neg, Int32.neg_sub]
  rw [Int32.add_comm, Int32.sub_add_cancel]
end NUM
section ALD
variable {D : va_G} {ad : Nat → Nat} {M : Mem} {F : Cfg} {rm : Room} {Qf : QF} {k n pc q : Nat} {locs : List (Option Value)} {st : List Value} {ws : va_W}
theorem E_aaldA {a t i r : Nat} {rs : List Nat} (hs : sk[a]? = some (2, t, rs)) (ht : (TY D)[t]? = some (D.1 (100 + t), .array .int)) (hi : rs[i]? = some r) (hlen : rs.length < 1000) (hd : decode F.2.1 pc = .ok (.aaload, 1)) (hq : pc + 1 = q) (kk : V D F rm Qf k n q locs (.ref (ad r) :: st) (wl D ad M)) : V D F rm Qf k n pc locs (.int (nI i) :: .ref (ad a) :: st) (wl D ad M) := by
  subst hq
  intro p l e s m args below meth c A H lc ls C hlen0 hkc hnc hP hD hS hl
  have hil := (List.getElem?_eq_some_iff.mp hi).1
  have hin : vp_in (nI i) rs.length := vp_in_nI hil (by omega)
  have hlt : (nI i).toNatClampNeg < rs.length := Nat.not_le.mp fun z => hin (Or.inr z)
  have ev : va_rf ((fun j => (rs[j]?).map ad) i) = .ref (ad r) := by simp [hi, va_rf]
  have hK := C.2.2.2.2.2.2.2.2.1
  refine W.aald (v := .ref (ad r)) (ty := .array .int) C.1 C.2.1 (hP a _ (wl_get hs)) ((hK.2 t _ ht).1 rs.length (fun j => va_rf ((rs[j]?).map ad))) rfl (fun z => by cases z) (by show ¬ (nI i < 0 ∨ (arrV _ _ _).slots.size ≤ _); rw [arrV_size]; exact hin) (by show (arrV _ _ _).slots[_]? = _; rw [arrV_read _ _ hlt, nI_clamp (by omega), ev]) rfl rfl hd ?_
  exact kk p l e s m args below meth c A H lc ls C hlen0 hkc hnc hP hD hS hl
end ALD
section CLS
variable {D : va_G} {ad : Nat → Nat} {M : Mem} {ws : va_W} {A : AS}
theorem sp_X3_worth {u s : Nat} : Spec D 1 yX3_worth cfX3_worth [.int (nI (u)), .int (nI (s))] ws 0 0 (PI (wN u s) ws) := by
  refine Spec.of (by decide) rfl (Nat.le_of_ble_eq_true rfl) rfl ?_
  refine E_iload0 (q := 1) dX3_worth_0 rfl ?_
  refine E_ldc (q := 3) dX3_worth_1 cn_X3_78 rfl ?_
  refine V_int (show _ = nI 65536 by decide) ?_
  refine E_imulN (q := 4) dX3_worth_3 rfl ?_
  refine E_iload1 (q := 5) dX3_worth_4 rfl ?_
  refine E_isub (q := 6) dX3_worth_5 rfl ?_
  exact E_ireturn rfl rfl dX3_worth_6 (PI_of rfl rfl)
theorem sp_X3_unitsIn {u s : Nat} (hu : u ≤ 2376) (hs : s < 65536) : Spec D 1 yX3_unitsIn cfX3_unitsIn [.int (wN u s)] ws 0 0 (PI (nI u) ws) := by
  refine Spec.of (by decide) rfl (Nat.le_of_ble_eq_true rfl) rfl ?_
  refine E_iload0 (q := 1) dX3_unitsIn_0 rfl ?_
  refine E_ldc (q := 3) dX3_unitsIn_1 cn_X3_78 rfl ?_
  refine V_int (show _ = nI 65536 by decide) ?_
  refine E_iadd (q := 4) dX3_unitsIn_3 rfl ?_
  refine E_iconst (v := nI 1) (q := 5) dX3_unitsIn_4 (by decide) rfl ?_
  refine E_isub (q := 6) dX3_unitsIn_5 rfl ?_
  refine V_int (wN_up hs) ?_
  refine E_ldc (q := 8) dX3_unitsIn_6 cn_X3_78 rfl ?_
  refine V_int (show _ = nI 65536 by decide) ?_
  refine E_idiv (q := 9) dX3_unitsIn_8 (by decide) rfl ?_
  rw [pk_div (by omega) (by decide) (by omega)]
  exact E_ireturn rfl rfl dX3_unitsIn_9 (PI_of (congrArg nI (by omega)) rfl)
theorem sp_X3_setIn {u s : Nat} (hu : u ≤ 2376) (hs : s < 65536) : Spec D 2 yX3_setIn cfX3_setIn [.int (wN u s)] ws 0 0 (PI (nI s) ws) := by
  refine Spec.of (by decide) rfl (Nat.le_of_ble_eq_true rfl) rfl ?_
  refine E_iload0 (q := 1) dX3_setIn_0 rfl ?_
  refine C_S1I (q := 4) lk_X3_38 (sp_X3_unitsIn hu hs) dX3_setIn_1 (by decide) (Nat.le_of_ble_eq_true rfl) rfl ?_
  refine E_ldc (q := 6) dX3_setIn_4 cn_X3_78 rfl ?_
  refine V_int (show _ = nI 65536 by decide) ?_
  refine E_imulN (q := 7) dX3_setIn_6 rfl ?_
  refine E_iload0 (q := 8) dX3_setIn_7 rfl ?_
  refine E_isub (q := 9) dX3_setIn_8 rfl ?_
  refine V_int wN_back ?_
  exact E_ireturn rfl rfl dX3_setIn_9 (PI_of rfl rfl)
theorem best_get {i : Nat} (h : i < 17) : [138, 139, 140, 141, 142, 143, 144, 145, 146, 147, 148, 149, 150, 151, 152, 153, 154][i]? = some (138 + i) := by
  rcases (show i = 0 ∨ i = 1 ∨ i = 2 ∨ i = 3 ∨ i = 4 ∨ i = 5 ∨ i = 6 ∨ i = 7 ∨ i = 8 ∨ i = 9 ∨ i = 10 ∨ i = 11 ∨ i = 12 ∨ i = 13 ∨ i = 14 ∨ i = 15 ∨ i = 16 by omega) with rfl | rfl | rfl | rfl | rfl | rfl | rfl | rfl | rfl | rfl | rfl | rfl | rfl | rfl | rfl | rfl | rfl <;> rfl
def impF (M : Mem) (i r : Nat) (x : Int32) (e n : Nat) : Int32 := if r ≤ n ∧ n < e then (if M (138 + i) n < M (138 + (i - r)) (n - r) + x then M (138 + (i - r)) (n - r) + x else M (138 + i) n) else M (138 + i) n
def IMQ (D : va_G) (ad : Nat → Nat) (M : Mem) (i r : Nat) (x : Int32) : va_W → Prop := fun w => ∃ M', w = wl D ad M' ∧ ((∀ n, M' (138 + i) n = impF M i r x (i + 1) n) ∧ ∀ c, c ≠ 138 + i → M' c = M c)
theorem sp_X3_improve {i r : Nat} {x : Int32} (hr : 1 ≤ r) (hri : r ≤ i) (hi : i ≤ 16) : Spec D 2 yX3_improve cfX3_improve [.ref (ad 135), .int (nI (i)), .int (nI (r)), .int (x)] (wl D ad M) 0 0 (PY (IMQ D ad M i r x)) := by
  refine Spec.of (by decide) rfl (Nat.le_of_ble_eq_true rfl) rfl ?_
  have hk1 := sk_row (i := i) (by omega)
  have hk2 := sk_row (i := i - r) (by omega)
  have hmain : ∀ M2 : Mem, (∀ n, M2 (138 + i) n = impF M i r x r n) → (∀ c, c ≠ 138 + i → M2 c = M c) → V D cfX3_improve (rmOf 2 0 0) (QM D (PY (IMQ D ad M i r x)) 0 0) 0 0 3 [some (.ref (ad 135)), some (.int (nI (i))), some (.int (nI (r))), some (.int (x)), some (.int (nI (r)))] [] (wl D ad M2) := by
    refine upto (n := i + 1) (P := fun e => r ≤ e → ∀ M2 : Mem, (∀ n, M2 (138 + i) n = impF M i r x e n) → (∀ c, c ≠ 138 + i → M2 c = M c) → V D cfX3_improve (rmOf 2 0 0) (QM D (PY (IMQ D ad M i r x)) 0 0) 0 0 3 [some (.ref (ad 135)), some (.int (nI (i))), some (.int (nI (r))), some (.int (x)), some (.int (nI (e)))] [] (wl D ad M2)) ?_ ?_ r (by omega) (Nat.le_refl r)
    · intro _ M2 h1 h2
      refine E_iload4 (q := 5) dX3_improve_3 rfl ?_
      refine E_iload1 (q := 6) dX3_improve_5 rfl ?_
      refine E_icmp_gtN (tgt := 51) (q := 9) dX3_improve_6 (by decide) rfl (by omega) (by omega) (fun h6 => ?_) (fun h6 => ?_)
      · skip
        exact E_vreturn rfl rfl dX3_improve_51 ⟨rfl, M2, rfl, h1, h2⟩
      · skip
        exact absurd h6 (by omega)
    · intro e he ih hre M2 h1 h2
      have hc : M2 (138 + i) e = M (138 + i) e := by rw [h1, impF, if_neg (by omega)]
      have ht : M2 (138 + (i - r)) (e - r) = M (138 + (i - r)) (e - r) := by rw [h2 _ (by omega)]
      refine E_iload4 (q := 5) dX3_improve_3 rfl ?_
      refine E_iload1 (q := 6) dX3_improve_5 rfl ?_
      refine E_icmp_gtN (tgt := 51) (q := 9) dX3_improve_6 (by decide) rfl (by omega) (by omega) (fun h6 => ?_) (fun h6 => ?_)
      · skip
        exact absurd h6 (by omega)
      · skip
        refine E_aload0 (q := 10) dX3_improve_9 rfl ?_
        refine G_X3_best (q := 13) fl_X3_21 dX3_improve_10 rfl ?_
        refine E_iload1 (q := 14) dX3_improve_13 rfl ?_
        refine E_aaldA (q := 15) sk_137 rfl (best_get (by omega)) (by decide) dX3_improve_14 rfl ?_
        refine E_iload4 (q := 17) dX3_improve_15 rfl ?_
        refine E_aload0 (q := 18) dX3_improve_17 rfl ?_
        refine G_X3_best (q := 21) fl_X3_21 dX3_improve_18 rfl ?_
        refine E_iload1 (q := 22) dX3_improve_21 rfl ?_
        refine E_aaldA (q := 23) sk_137 rfl (best_get (by omega)) (by decide) dX3_improve_22 rfl ?_
        refine E_iload4 (q := 25) dX3_improve_23 rfl ?_
        refine E_ialdN (q := 26) hk1 (by omega) (by decide) dX3_improve_25 rfl ?_
        refine V_int hc ?_
        refine E_aload0 (q := 27) dX3_improve_26 rfl ?_
        refine G_X3_best (q := 30) fl_X3_21 dX3_improve_27 rfl ?_
        refine E_iload1 (q := 31) dX3_improve_30 rfl ?_
        refine E_iload2 (q := 32) dX3_improve_31 rfl ?_
        refine E_isubN (q := 33) dX3_improve_32 (by omega) rfl ?_
        refine E_aaldA (q := 34) sk_137 rfl (best_get (by omega)) (by decide) dX3_improve_33 rfl ?_
        refine E_iload4 (q := 36) dX3_improve_34 rfl ?_
        refine E_iload2 (q := 37) dX3_improve_36 rfl ?_
        refine E_isubN (q := 38) dX3_improve_37 (by omega) rfl ?_
        refine E_ialdN (q := 39) hk2 (by omega) (by decide) dX3_improve_38 rfl ?_
        refine V_int ht ?_
        refine E_iload3 (q := 40) dX3_improve_39 rfl ?_
        refine E_iadd (q := 41) dX3_improve_40 rfl ?_
        refine E_jmax (q := 44) lk_X3_73.2.1 dX3_improve_41 (by decide) (Nat.le_of_ble_eq_true rfl) rfl ?_
        refine E_iastN (q := 45) hk1 (by omega) (by decide) dX3_improve_44 rfl ?_
        refine E_iinc4 (q := 48) dX3_improve_45 (nI_inc _) rfl rfl ?_
        refine E_goto (q := 3) dX3_improve_48 (by decide) ?_
        refine ih (by omega) _ (fun n => ?_) (fun c hc' => by rw [upd2_row hc', h2 c hc'])
        by_cases en : n = e
        · subst en
          rw [upd2_same, impF, if_pos (show r ≤ n ∧ n < n + 1 from ⟨hre, by omega⟩)]
        · rw [upd2_ne (by omega), h1, impF, impF]
          by_cases c2 : r ≤ n ∧ n < e
          · rw [if_pos c2, if_pos (show r ≤ n ∧ n < e + 1 from ⟨c2.1, by omega⟩)]
          · rw [if_neg c2, if_neg (show ¬ (r ≤ n ∧ n < e + 1) by omega)]
  refine E_iload2 (q := 1) dX3_improve_0 rfl ?_
  refine E_istore4 (q := 3) dX3_improve_1 rfl rfl ?_
  exact hmain M (fun n => by rw [impF, if_neg (by omega)]) (fun _ _ => rfl)
def LnC (M : Mem) (L : List Nat) : Prop := M 135 1 = nI L.length ∧ ∀ i s, L[i]? = some s → M 136 i = nI s
theorem LnC.cg {M' : Mem} {L : List Nat} (h : LnC M L) (e1 : M' 135 = M 135) (e2 : M' 136 = M 136) : LnC M' L := ⟨by rw [e1]; exact h.1, fun i s hi => by rw [e2]; exact h.2 i s hi⟩
theorem LnC.push {L : List Nat} {s : Nat} (h : LnC M L) : LnC (upd2 (upd2 M 136 L.length (nI s)) 135 1 (nI (L.length + 1))) (L ++ [s]) := by
  refine ⟨by rw [upd2_same, List.length_append]; rfl, fun i t hi => ?_⟩
  rw [upd2_row (by decide)]
  by_cases e : i < L.length
  · rw [List.getElem?_append_left e] at hi
    rw [upd2_ne (by omega)]; exact h.2 i t hi
  · have hil := (List.getElem?_eq_some_iff.mp hi).1
    rw [List.length_append] at hil
    have hie : i = L.length := by have : [s].length = 1 := rfl; omega
    subst hie
    rw [List.getElem?_append_right (Nat.le_refl _), Nat.sub_self] at hi
    have : s = t := by simpa using hi
    rw [← this]; exact upd2_same
def FrP (M M' : Mem) : Prop := ∀ c, (c < 135 ∨ 154 < c) → M' c = M c
theorem FrP.rf : FrP M M := fun _ _ => rfl
theorem FrP.tr {M1 M2 : Mem} (h : FrP M M1) (h2 : FrP M1 M2) : FrP M M2 := fun c hc => (h2 c hc).trans (h c hc)
theorem FrP.si {M1 : Mem} (h : FrP M M1) (hI : SI M 1 A) : SI M1 1 A := hI.to fun c _ q => h c (by omega)
def LUQ (D : va_G) (ad : Nat → Nat) (M : Mem) (A : AS) : va_W → Prop := fun w => ∃ M', w = wl D ad M' ∧ (LnC M' (ln A) ∧ FrP M M')
theorem sp_X3_lineUp (h : SI M 1 A) : Spec D 6 yX3_lineUp cfX3_lineUp [.ref (ad 135), .ref (ad 1)] (wl D ad M) 0 0 (PY (LUQ D ad M A)) := by
  refine Spec.of (by decide) rfl (Nat.le_of_ble_eq_true rfl) rfl ?_
  have h0 := h
  have hmain : ∀ M2, LnC M2 (lnk A (16 * 0)) → FrP M M2 → V D cfX3_lineUp (rmOf 6 0 0) (QM D (PY (LUQ D ad M A)) 0 0) 0 0 7 [some (.ref (ad 135)), some (.ref (ad 1)), some (.int (nI (0))), none, none] [] (wl D ad M2) := by
    refine upto0 (n := 6) (P := fun v => ∀ M2, LnC M2 (lnk A (16 * v)) → FrP M M2 → V D cfX3_lineUp (rmOf 6 0 0) (QM D (PY (LUQ D ad M A)) 0 0) 0 0 7 [some (.ref (ad 135)), some (.ref (ad 1)), some (.int (nI (v))), none, none] [] (wl D ad M2)) ?_ ?_
    · intro M2 o2 f2
      refine E_iload2 (q := 8) dX3_lineUp_7 rfl ?_
      refine E_bipush (v := nI 6) (q := 10) dX3_lineUp_8 (by decide) rfl ?_
      refine E_icmp_geN (tgt := 89) (q := 13) dX3_lineUp_10 (by decide) rfl (by omega) (by omega) (fun h10 => ?_) (fun h10 => ?_)
      · skip
        exact E_vreturn rfl rfl dX3_lineUp_89 ⟨rfl, M2, rfl, o2, f2⟩
      · skip
        exact absurd h10 (by omega)
    · intro v hv ih M2 o2 f2
      have hin : ∀ M2, LnC M2 (lnk A (16 * v + 0)) → FrP M M2 → V D cfX3_lineUp (rmOf 6 0 0) (QM D (PY (LUQ D ad M A)) 0 0) 0 0 22 [some (.ref (ad 135)), some (.ref (ad 1)), some (.int (nI (v))), some (.int (nI (rowM A v))), some (.int (nI (0)))] [] (wl D ad M2) := by
        refine upto0 (n := 16) (P := fun s => ∀ M2, LnC M2 (lnk A (16 * v + s)) → FrP M M2 → V D cfX3_lineUp (rmOf 6 0 0) (QM D (PY (LUQ D ad M A)) 0 0) 0 0 22 [some (.ref (ad 135)), some (.ref (ad 1)), some (.int (nI (v))), some (.int (nI (rowM A v))), some (.int (nI (s)))] [] (wl D ad M2)) ?_ ?_
        · intro M2 o2 f2
          refine E_iload4 (q := 24) dX3_lineUp_22 rfl ?_
          refine E_bipush (v := nI 16) (q := 26) dX3_lineUp_24 (by decide) rfl ?_
          refine E_icmp_geN (tgt := 83) (q := 29) dX3_lineUp_26 (by decide) rfl (by omega) (by omega) (fun h26 => ?_) (fun h26 => ?_)
          · skip
            refine E_iinc2 (q := 86) dX3_lineUp_83 (nI_inc _) rfl rfl ?_
            refine E_goto (q := 7) dX3_lineUp_86 (by decide) ?_
            exact V_sub (by repeat (first | exact subL_nil | refine subL_s ?_ | refine subL_n ?_)) (ih M2 o2 f2)
          · skip
            exact absurd h26 (by omega)
        · intro s hs ih2 M2 o2 f2
          have h : SI M2 1 A := f2.si h0
          have hrl := rowM_lt (A := A) (v := v)
          have hd : (16 * v + s) / 16 = v ∧ (16 * v + s) % 16 = s := by omega
          have hlen := lnk_16 (A := A) (16 * v + s)
          by_cases hc : th A s ∧ home A s = v ∧ whyN A s = 0
          · have hcc : th A ((16 * v + s) % 16) ∧ home A ((16 * v + s) % 16) = (16 * v + s) / 16 ∧ whyN A ((16 * v + s) % 16) = 0 := by rw [hd.1, hd.2]; exact hc
            have h15 := lnk_15 hcc
            rw [hd.2] at h15
            have hnew := o2.push (s := s)
            rw [← h15.2] at hnew
            refine E_iload4 (q := 24) dX3_lineUp_22 rfl ?_
            refine E_bipush (v := nI 16) (q := 26) dX3_lineUp_24 (by decide) rfl ?_
            refine E_icmp_geN (tgt := 83) (q := 29) dX3_lineUp_26 (by decide) rfl (by omega) (by omega) (fun h26 => ?_) (fun h26 => ?_)
            · skip
              exact absurd h26 (by omega)
            · skip
              refine E_iload3 (q := 30) dX3_lineUp_29 rfl ?_
              refine E_iload4 (q := 32) dX3_lineUp_30 rfl ?_
              refine C_SN2I (q := 35) lk_X3_48 (sp_X5_contains (by omega) (by omega)) dX3_lineUp_32 (by decide) (Nat.le_of_ble_eq_true rfl) rfl ?_
              refine E_if_eq (tgt := 77) (q := 38) dX3_lineUp_35 (by decide) rfl (fun h35 => ?_) (fun h35 => ?_)
              · skip
                exact absurd (rowM_bit.mpr ⟨hs, hc.1, hc.2.1⟩) (zI_0 h35)
              · skip
                refine E_aload1 (q := 39) dX3_lineUp_38 rfl ?_
                refine E_iload4 (q := 41) dX3_lineUp_39 rfl ?_
                refine C_V1I (q := 44) lk_X3_52 (sp_X4_canDestroy h hs) (rc_X4 isSt_1) dX3_lineUp_41 (by decide) (Nat.le_of_ble_eq_true rfl) rfl ?_
                refine E_if_eq (tgt := 77) (q := 47) dX3_lineUp_44 (by decide) rfl (fun h44 => ?_) (fun h44 => ?_)
                · skip
                  exact absurd hc.2.2 (zI_0 h44)
                · skip
                  refine E_aload0 (q := 48) dX3_lineUp_47 rfl ?_
                  refine G_X3_length (q := 51) fl_X3_15 dX3_lineUp_48 rfl ?_
                  refine V_int o2.1 ?_
                  refine E_bipush (v := nI 16) (q := 53) dX3_lineUp_51 (by decide) rfl ?_
                  refine E_icmp_geN (tgt := 77) (q := 56) dX3_lineUp_53 (by decide) rfl (by omega) (by omega) (fun h53 => ?_) (fun h53 => ?_)
                  · skip
                    exact absurd h53 (by omega)
                  · skip
                    refine E_aload0 (q := 57) dX3_lineUp_56 rfl ?_
                    refine G_X3_line (q := 60) fl_X3_11 dX3_lineUp_57 rfl ?_
                    refine E_aload0 (q := 61) dX3_lineUp_60 rfl ?_
                    refine G_X3_length (q := 64) fl_X3_15 dX3_lineUp_61 rfl ?_
                    refine V_int o2.1 ?_
                    refine E_iload4 (q := 66) dX3_lineUp_64 rfl ?_
                    refine E_iastN (q := 67) sk_136 (by omega) (by decide) dX3_lineUp_66 rfl ?_
                    refine E_aload0 (q := 68) dX3_lineUp_67 rfl ?_
                    refine E_dup (q := 69) dX3_lineUp_68 rfl rfl ?_
                    refine G_X3_length (q := 72) fl_X3_15 dX3_lineUp_69 rfl ?_
                    refine V_int (show _ = nI (lnk A (16 * v + s)).length by rw [upd2_row (by decide)]; exact o2.1) ?_
                    refine E_iconst (v := nI 1) (q := 73) dX3_lineUp_72 (by decide) rfl ?_
                    refine E_iaddN (q := 74) dX3_lineUp_73 rfl ?_
                    refine P_X3_length (q := 77) fl_X3_15 dX3_lineUp_74 rfl ?_
                    refine E_iinc4 (q := 80) dX3_lineUp_77 (nI_inc _) rfl rfl ?_
                    refine E_goto (q := 22) dX3_lineUp_80 (by decide) ?_
                    exact ih2 _ hnew (f2.tr fun c hc => by rw [upd2_row (by omega), upd2_row (by omega)])
          · have hcc : ¬ (th A ((16 * v + s) % 16) ∧ home A ((16 * v + s) % 16) = (16 * v + s) / 16 ∧ whyN A ((16 * v + s) % 16) = 0) := by rw [hd.1, hd.2]; exact hc
            have hsk := lnk_skip hcc
            rw [show 16 * v + s + 1 = 16 * v + (s + 1) by omega] at hsk
            refine E_iload4 (q := 24) dX3_lineUp_22 rfl ?_
            refine E_bipush (v := nI 16) (q := 26) dX3_lineUp_24 (by decide) rfl ?_
            refine E_icmp_geN (tgt := 83) (q := 29) dX3_lineUp_26 (by decide) rfl (by omega) (by omega) (fun h26 => ?_) (fun h26 => ?_)
            · skip
              exact absurd h26 (by omega)
            · skip
              refine E_iload3 (q := 30) dX3_lineUp_29 rfl ?_
              refine E_iload4 (q := 32) dX3_lineUp_30 rfl ?_
              refine C_SN2I (q := 35) lk_X3_48 (sp_X5_contains (by omega) (by omega)) dX3_lineUp_32 (by decide) (Nat.le_of_ble_eq_true rfl) rfl ?_
              refine E_if_eq (tgt := 77) (q := 38) dX3_lineUp_35 (by decide) rfl (fun h35 => ?_) (fun h35 => ?_)
              · skip
                refine E_iinc4 (q := 80) dX3_lineUp_77 (nI_inc _) rfl rfl ?_
                refine E_goto (q := 22) dX3_lineUp_80 (by decide) ?_
                exact ih2 M2 (by rw [hsk]; exact o2) f2
              · skip
                refine E_aload1 (q := 39) dX3_lineUp_38 rfl ?_
                refine E_iload4 (q := 41) dX3_lineUp_39 rfl ?_
                refine C_V1I (q := 44) lk_X3_52 (sp_X4_canDestroy h hs) (rc_X4 isSt_1) dX3_lineUp_41 (by decide) (Nat.le_of_ble_eq_true rfl) rfl ?_
                refine E_if_eq (tgt := 77) (q := 47) dX3_lineUp_44 (by decide) rfl (fun h44 => ?_) (fun h44 => ?_)
                · skip
                  refine E_iinc4 (q := 80) dX3_lineUp_77 (nI_inc _) rfl rfl ?_
                  refine E_goto (q := 22) dX3_lineUp_80 (by decide) ?_
                  exact ih2 M2 (by rw [hsk]; exact o2) f2
                · skip
                  exact absurd ⟨(rowM_bit.mp (zI_n h35)).2.1, (rowM_bit.mp (zI_n h35)).2.2, zI_n h44⟩ hc
      have h : SI M2 1 A := f2.si h0
      refine E_iload2 (q := 8) dX3_lineUp_7 rfl ?_
      refine E_bipush (v := nI 6) (q := 10) dX3_lineUp_8 (by decide) rfl ?_
      refine E_icmp_geN (tgt := 89) (q := 13) dX3_lineUp_10 (by decide) rfl (by omega) (by omega) (fun h10 => ?_) (fun h10 => ?_)
      · skip
        exact absurd h10 (by omega)
      · skip
        refine E_aload1 (q := 14) dX3_lineUp_13 rfl ?_
        refine E_iload2 (q := 15) dX3_lineUp_14 rfl ?_
        refine C_V1I (q := 18) lk_X3_45 (sp_X4_rowOf h (by omega)) (rc_X4 isSt_1) dX3_lineUp_15 (by decide) (Nat.le_of_ble_eq_true rfl) rfl ?_
        refine E_istore3 (q := 19) dX3_lineUp_18 rfl rfl ?_
        refine E_iconst (v := nI 0) (q := 20) dX3_lineUp_19 (by decide) rfl ?_
        refine E_istore4 (q := 22) dX3_lineUp_20 rfl rfl ?_
        exact hin M2 o2 f2
  refine E_aload0 (q := 1) dX3_lineUp_0 rfl ?_
  refine E_iconst (v := nI 0) (q := 2) dX3_lineUp_1 (by decide) rfl ?_
  refine P_X3_length (q := 5) fl_X3_15 dX3_lineUp_2 rfl ?_
  refine E_iconst (v := nI 0) (q := 6) dX3_lineUp_5 (by decide) rfl ?_
  refine E_istore2 (q := 7) dX3_lineUp_6 rfl rfl ?_
  exact hmain (upd2 M 135 1 (nI 0)) ⟨upd2_same, fun i s hi => by simp [lnk] at hi⟩ (fun c hc => upd2_row (by omega))
theorem imp_ti {a b w : Int32} (h1 : -2147483648 ≤ b.toInt + w.toInt) (h2 : b.toInt + w.toInt < 2147483648) : (if a < b + w then b + w else a).toInt = if a.toInt < b.toInt + w.toInt then b.toInt + w.toInt else a.toInt := by
  have h := ti_add h1 h2
  by_cases c : a < b + w
  · rw [if_pos c, h, if_pos (by rw [← h]; exact Int32.lt_iff_toInt_lt.mp c)]
  · rw [if_neg c, if_neg (fun z => c (Int32.lt_iff_toInt_lt.mpr (by rw [h]; exact z)))]
def RB (A : AS) (M : Mem) (i : Nat) : Prop := ∀ i' n, i' < i → n ≤ i' → Bst A i' n (M (138 + i') n).toInt
def FBQ (D : va_G) (ad : Nat → Nat) (M : Mem) (A : AS) : va_W → Prop := fun w => ∃ M', w = wl D ad M' ∧ (RB A M' ((ln A).length + 1) ∧ LnC M' (ln A) ∧ FrP M M')
theorem wt_ti (h : WF A) {m S : Nat} (hm : m < 2 ^ 16) (hS : sb S m) : (wN (fr A S) S).toInt = Wt A S := wN_ti (fr_le h S) (sbb_lt hm hS)
theorem sp_X3_fillBest (h : SI M 1 A) (hC : WFC A) (hL : LnC M (ln A)) : Spec D 6 yX3_fillBest cfX3_fillBest [.ref (ad 135), .ref (ad 9)] (wl D ad M) 0 0 (PY (FBQ D ad M A)) := by
  refine Spec.of (by decide) rfl (Nat.le_of_ble_eq_true rfl) rfl ?_
  have h0 := h
  have hA := h.2.2
  have hb : IsBl 9 := h.1.blocks
  have hN : (ln A).length ≤ 16 := lnk_16 96
  have hk0 := sk_row (i := 0) (by omega)
  have hmain : ∀ M2, RB A M2 1 → LnC M2 (ln A) → FrP M M2 → V D cfX3_fillBest (rmOf 6 0 0) (QM D (PY (FBQ D ad M A)) 0 0) 0 0 11 [some (.ref (ad 135)), some (.ref (ad 9)), some (.int (nI (1))), none, none] [] (wl D ad M2) := by
    refine upto (n := (ln A).length + 1) (P := fun i => 1 ≤ i → ∀ M2, RB A M2 i → LnC M2 (ln A) → FrP M M2 → V D cfX3_fillBest (rmOf 6 0 0) (QM D (PY (FBQ D ad M A)) 0 0) 0 0 11 [some (.ref (ad 135)), some (.ref (ad 9)), some (.int (nI (i))), none, none] [] (wl D ad M2)) ?_ ?_ 1 (by omega) (Nat.le_refl 1)
    · intro _ M2 r2 l2 f2
      refine E_iload2 (q := 12) dX3_fillBest_11 rfl ?_
      refine E_aload0 (q := 13) dX3_fillBest_12 rfl ?_
      refine G_X3_length (q := 16) fl_X3_15 dX3_fillBest_13 rfl ?_
      refine V_int l2.1 ?_
      refine E_icmp_gtN (tgt := 114) (q := 19) dX3_fillBest_16 (by decide) rfl (by omega) (by omega) (fun h16 => ?_) (fun h16 => ?_)
      · skip
        exact E_vreturn rfl rfl dX3_fillBest_114 ⟨rfl, M2, rfl, r2, l2, f2⟩
      · skip
        exact absurd h16 (by omega)
    · intro i hi ih h1i M2 r2 l2 f2
      have hk1 := sk_row (i := i) (by omega)
      have hk2 := sk_row (i := i - 1) (by omega)
      have hruns : ∀ M4 : Mem, (∀ n, n ≤ i → Cnd A i 0 n (M4 (138 + i) n).toInt) → (∀ c, c ≠ 138 + i → M4 c = M2 c) → V D cfX3_fillBest (rmOf 6 0 0) (QM D (PY (FBQ D ad M A)) 0 0) 0 0 65 [some (.ref (ad 135)), some (.ref (ad 9)), some (.int (nI (i))), some (.int (nI (mkR (ln A) (i - 0) i))), some (.int (nI (0 + 1)))] [] (wl D ad M4) := by
        refine upto0 (n := i) (P := fun r => ∀ M4 : Mem, (∀ n, n ≤ i → Cnd A i r n (M4 (138 + i) n).toInt) → (∀ c, c ≠ 138 + i → M4 c = M2 c) → V D cfX3_fillBest (rmOf 6 0 0) (QM D (PY (FBQ D ad M A)) 0 0) 0 0 65 [some (.ref (ad 135)), some (.ref (ad 9)), some (.int (nI (i))), some (.int (nI (mkR (ln A) (i - r) i))), some (.int (nI (r + 1)))] [] (wl D ad M4)) ?_ ?_
        · intro M4 c4 e4
          refine E_iload4 (q := 67) dX3_fillBest_65 rfl ?_
          refine E_iload2 (q := 68) dX3_fillBest_67 rfl ?_
          refine E_icmp_gtN (tgt := 108) (q := 71) dX3_fillBest_68 (by decide) rfl (by omega) (by omega) (fun h68 => ?_) (fun h68 => ?_)
          · skip
            refine E_iinc2 (q := 111) dX3_fillBest_108 (nI_inc _) rfl rfl ?_
            refine E_goto (q := 11) dX3_fillBest_111 (by decide) ?_
            refine V_sub (by repeat (first | exact subL_nil | refine subL_s ?_ | refine subL_n ?_)) (ih (by omega) M4 (fun i' n h1 h2 => ?_) (l2.cg (e4 135 (by omega)) (e4 136 (by omega))) (f2.tr fun c hc => e4 c (by omega)))
            by_cases ei : i' = i
            · subst ei; exact (c4 n h2).end
            · rw [e4 _ (by omega)]; exact r2 i' n (by omega) h2
          · skip
            exact absurd h68 (by omega)
        · intro r hr ih2 M4 c4 e4
          obtain ⟨s, hs⟩ : ∃ s, (ln A)[i - (r + 1)]? = some s := ⟨_, List.getElem?_eq_getElem (by omega)⟩
          have hs16 := ((mem_ln hA).mp (List.mem_of_getElem? hs)).1
          have hline : M4 136 (i - (r + 1)) = nI s := by rw [e4 136 (by omega)]; exact l2.2 _ s hs
          have hd := mkR_down hA hr hs
          have hml := mkR_lt (L := ln A) (f := i - (r + 1)) (k := i)
          have hS4 : SI M4 1 A := (f2.tr fun c hc => e4 c (by omega)).si h0
          have hB4 : BlkIs M4 9 A.2 := hS4.bi
          have hwt : (wN (fr A (mkR (ln A) (i - (r + 1)) i)) (mkR (ln A) (i - (r + 1)) i)).toInt = Wt A (mkR (ln A) (i - (r + 1)) i) := wt_ti hA hml (fun k hk => hk)
          have hwb := Wt_bd hA (S := mkR (ln A) (i - (r + 1)) i) hml (fun k hk => hk)
          refine E_iload4 (q := 67) dX3_fillBest_65 rfl ?_
          refine E_iload2 (q := 68) dX3_fillBest_67 rfl ?_
          refine E_icmp_gtN (tgt := 108) (q := 71) dX3_fillBest_68 (by decide) rfl (by omega) (by omega) (fun h68 => ?_) (fun h68 => ?_)
          · skip
            exact absurd h68 (by omega)
          · skip
            refine E_iload3 (q := 72) dX3_fillBest_71 rfl ?_
            refine E_aload0 (q := 73) dX3_fillBest_72 rfl ?_
            refine G_X3_line (q := 76) fl_X3_11 dX3_fillBest_73 rfl ?_
            refine E_iload2 (q := 77) dX3_fillBest_76 rfl ?_
            refine E_iload4 (q := 79) dX3_fillBest_77 rfl ?_
            refine E_isubN (q := 80) dX3_fillBest_79 (by omega) rfl ?_
            refine E_ialdN (q := 81) sk_136 (by omega) (by decide) dX3_fillBest_80 rfl ?_
            refine V_int hline ?_
            refine C_SN1I (q := 84) lk_X3_57 (sp_X5_bit (by omega)) dX3_fillBest_81 (by decide) (Nat.le_of_ble_eq_true rfl) rfl ?_
            refine E_iorN (q := 85) dX3_fillBest_84 ((nI_or _ _).trans (congrArg nI hd)) rfl ?_
            refine E_istore3 (q := 86) dX3_fillBest_85 rfl rfl ?_
            refine E_aload0 (q := 87) dX3_fillBest_86 rfl ?_
            refine E_iload2 (q := 88) dX3_fillBest_87 rfl ?_
            refine E_iload4 (q := 90) dX3_fillBest_88 rfl ?_
            refine E_aload1 (q := 91) dX3_fillBest_90 rfl ?_
            refine E_iload3 (q := 92) dX3_fillBest_91 rfl ?_
            refine C_V1I (q := 95) lk_X3_60 (sp_X0_unitsOnlyOf hb hB4 hS4.bw (by omega)) (rc_X0 hb) dX3_fillBest_92 (by decide) (Nat.le_of_ble_eq_true rfl) rfl ?_
            refine E_iload3 (q := 96) dX3_fillBest_95 rfl ?_
            refine C_S2I (q := 99) lk_X3_65 (sp_X3_worth) dX3_fillBest_96 (by decide) (Nat.le_of_ble_eq_true rfl) rfl ?_
            refine C_V3Y (q := 102) lk_X3_69 (sp_X3_improve (by omega) (by omega) (by omega)) rc_X3 dX3_fillBest_99 (by decide) (Nat.le_of_ble_eq_true rfl) rfl ?_
            refine kkEW ?_
            rintro M5 ⟨g1, g2⟩
            refine E_iinc4 (q := 105) dX3_fillBest_102 (nI_inc _) rfl rfl ?_
            refine E_goto (q := 65) dX3_fillBest_105 (by decide) ?_
            refine ih2 M5 (fun n hn => ?_) (fun c hc => by rw [g2 c hc, e4 c hc])
            rw [g1, impF]
            by_cases cn : r + 1 ≤ n
            · have hbst : Bst A (i - (r + 1)) (n - (r + 1)) (M4 (138 + (i - (r + 1))) (n - (r + 1))).toInt := by rw [e4 _ (by omega)]; exact r2 _ _ (by omega) (by omega)
              have hbb := hbst.bd hA
              rw [if_pos (show r + 1 ≤ n ∧ n < i + 1 by omega), imp_ti (by rw [show fsum _ A.2 = fr A _ from rfl, hwt]; omega) (by rw [show fsum _ A.2 = fr A _ from rfl, hwt]; omega)]
              exact Cnd_imp hA hC (by omega) (by omega) cn (c4 n hn) hbst hwt
            · rw [if_neg (show ¬ (r + 1 ≤ n ∧ n < i + 1) by omega)]
              exact Cnd_skip hA (by omega) (by omega) (by omega) (c4 n hn)
      have hruns0 := hruns
      rw [show mkR (ln A) (i - 0) i = 0 from mkR_0 _ _] at hruns0
      have hcopy : ∀ M3 : Mem, (∀ n, M3 (138 + i) n = if n < 0 then M2 (138 + (i - 1)) n else M2 (138 + i) n) → (∀ c, c ≠ 138 + i → M3 c = M2 c) → V D cfX3_fillBest (rmOf 6 0 0) (QM D (PY (FBQ D ad M A)) 0 0) 0 0 21 [some (.ref (ad 135)), some (.ref (ad 9)), some (.int (nI (i))), some (.int (nI (0))), none] [] (wl D ad M3) := by
        refine upto0 (n := i) (P := fun e => ∀ M3 : Mem, (∀ n, M3 (138 + i) n = if n < e then M2 (138 + (i - 1)) n else M2 (138 + i) n) → (∀ c, c ≠ 138 + i → M3 c = M2 c) → V D cfX3_fillBest (rmOf 6 0 0) (QM D (PY (FBQ D ad M A)) 0 0) 0 0 21 [some (.ref (ad 135)), some (.ref (ad 9)), some (.int (nI (i))), some (.int (nI (e))), none] [] (wl D ad M3)) ?_ ?_
        · intro M3 c3 e3
          refine E_iload3 (q := 22) dX3_fillBest_21 rfl ?_
          refine E_iload2 (q := 23) dX3_fillBest_22 rfl ?_
          refine E_icmp_geN (tgt := 50) (q := 26) dX3_fillBest_23 (by decide) rfl (by omega) (by omega) (fun h23 => ?_) (fun h23 => ?_)
          · skip
            refine E_aload0 (q := 51) dX3_fillBest_50 rfl ?_
            refine G_X3_best (q := 54) fl_X3_21 dX3_fillBest_51 rfl ?_
            refine E_iload2 (q := 55) dX3_fillBest_54 rfl ?_
            refine E_aaldA (q := 56) sk_137 rfl (best_get (by omega)) (by decide) dX3_fillBest_55 rfl ?_
            refine E_iload2 (q := 57) dX3_fillBest_56 rfl ?_
            refine E_ldc (q := 59) dX3_fillBest_57 cn_X3_56 rfl ?_
            refine E_iastN (q := 60) hk1 (by omega) (by decide) dX3_fillBest_59 rfl ?_
            refine E_iconst (v := nI 0) (q := 61) dX3_fillBest_60 (by decide) rfl ?_
            refine E_istore3 (q := 62) dX3_fillBest_61 rfl rfl ?_
            refine E_iconst (v := nI 1) (q := 63) dX3_fillBest_62 (by decide) rfl ?_
            refine E_istore4 (q := 65) dX3_fillBest_63 rfl rfl ?_
            refine V_sub (by repeat (first | exact subL_nil | refine subL_s ?_ | refine subL_n ?_)) (hruns0 _ (fun n hn => ?_) (fun c hc => by rw [upd2_row hc, e3 c hc]))
            by_cases en : n = i
            · subst en
              rw [upd2_same]
              exact Cnd_0b hA h1i (by omega)
            · rw [upd2_ne (by omega), c3, if_pos (show n < i by omega)]
              have hq := Cnd_0a (r2 (i - 1) n (by omega) (by omega))
              rw [show i - 1 + 1 = i by omega] at hq
              exact hq
          · skip
            exact absurd h23 (by omega)
        · intro e he ih2 M3 c3 e3
          have hcell : M3 (138 + (i - 1)) e = M2 (138 + (i - 1)) e := by rw [e3 _ (by omega)]
          refine E_iload3 (q := 22) dX3_fillBest_21 rfl ?_
          refine E_iload2 (q := 23) dX3_fillBest_22 rfl ?_
          refine E_icmp_geN (tgt := 50) (q := 26) dX3_fillBest_23 (by decide) rfl (by omega) (by omega) (fun h23 => ?_) (fun h23 => ?_)
          · skip
            exact absurd h23 (by omega)
          · skip
            refine E_aload0 (q := 27) dX3_fillBest_26 rfl ?_
            refine G_X3_best (q := 30) fl_X3_21 dX3_fillBest_27 rfl ?_
            refine E_iload2 (q := 31) dX3_fillBest_30 rfl ?_
            refine E_aaldA (q := 32) sk_137 rfl (best_get (by omega)) (by decide) dX3_fillBest_31 rfl ?_
            refine E_iload3 (q := 33) dX3_fillBest_32 rfl ?_
            refine E_aload0 (q := 34) dX3_fillBest_33 rfl ?_
            refine G_X3_best (q := 37) fl_X3_21 dX3_fillBest_34 rfl ?_
            refine E_iload2 (q := 38) dX3_fillBest_37 rfl ?_
            refine E_iconst (v := nI 1) (q := 39) dX3_fillBest_38 (by decide) rfl ?_
            refine E_isubN (q := 40) dX3_fillBest_39 (by omega) rfl ?_
            refine E_aaldA (q := 41) sk_137 rfl (best_get (by omega)) (by decide) dX3_fillBest_40 rfl ?_
            refine E_iload3 (q := 42) dX3_fillBest_41 rfl ?_
            refine E_ialdN (q := 43) hk2 (by omega) (by decide) dX3_fillBest_42 rfl ?_
            refine V_int hcell ?_
            refine E_iastN (q := 44) hk1 (by omega) (by decide) dX3_fillBest_43 rfl ?_
            refine E_iinc3 (q := 47) dX3_fillBest_44 (nI_inc _) rfl rfl ?_
            refine E_goto (q := 21) dX3_fillBest_47 (by decide) ?_
            refine ih2 _ (fun n => ?_) (fun c hc => by rw [upd2_row hc, e3 c hc])
            by_cases en : n = e
            · subst en
              rw [upd2_same, if_pos (Nat.lt_succ_self n)]
            · rw [upd2_ne (by omega), c3]
              by_cases c2 : n < e
              · rw [if_pos c2, if_pos (show n < e + 1 by omega)]
              · rw [if_neg c2, if_neg (show ¬ n < e + 1 by omega)]
      refine E_iload2 (q := 12) dX3_fillBest_11 rfl ?_
      refine E_aload0 (q := 13) dX3_fillBest_12 rfl ?_
      refine G_X3_length (q := 16) fl_X3_15 dX3_fillBest_13 rfl ?_
      refine V_int l2.1 ?_
      refine E_icmp_gtN (tgt := 114) (q := 19) dX3_fillBest_16 (by decide) rfl (by omega) (by omega) (fun h16 => ?_) (fun h16 => ?_)
      · skip
        exact absurd h16 (by omega)
      · skip
        refine E_iconst (v := nI 0) (q := 20) dX3_fillBest_19 (by decide) rfl ?_
        refine E_istore3 (q := 21) dX3_fillBest_20 rfl rfl ?_
        exact hcopy M2 (fun n => by rw [if_neg (by omega)]) (fun _ _ => rfl)
  refine E_aload0 (q := 1) dX3_fillBest_0 rfl ?_
  refine G_X3_best (q := 4) fl_X3_21 dX3_fillBest_1 rfl ?_
  refine E_iconst (v := nI 0) (q := 5) dX3_fillBest_4 (by decide) rfl ?_
  refine E_aaldA (q := 6) sk_137 rfl (best_get (i := 0) (by omega)) (by decide) dX3_fillBest_5 rfl ?_
  refine E_iconst (v := nI 0) (q := 7) dX3_fillBest_6 (by decide) rfl ?_
  refine E_iconst (v := nI 0) (q := 8) dX3_fillBest_7 (by decide) rfl ?_
  refine E_iastN (q := 9) hk0 (by omega) (by decide) dX3_fillBest_8 rfl ?_
  refine E_iconst (v := nI 1) (q := 10) dX3_fillBest_9 (by decide) rfl ?_
  refine E_istore2 (q := 11) dX3_fillBest_10 rfl rfl ?_
  refine V_sub (by repeat (first | exact subL_nil | refine subL_s ?_ | refine subL_n ?_)) (hmain _ (fun i' n h1 h2 => ?_) (hL.cg (upd2_row (by decide)) (upd2_row (by decide))) (fun c hc => upd2_row (by omega)))
  have e1 : i' = 0 := by omega
  subst e1
  have e2 : n = 0 := by omega
  subst e2
  rw [upd2_same]
  exact Bst_0 hA
theorem Bst.wN (h0 : WF A) {i n : Nat} {v : Int32} (h : Bst A i n v.toInt) : ∃ S, sb S (mkR (ln A) 0 i) ∧ popN S = n ∧ S < 65536 ∧ fr A S ≤ 2376 ∧ v = wN (fr A S) S ∧ v.toInt = Wt A S := by
  obtain ⟨S, h1, h2, h3⟩ := h.is
  have h4 := sbb_lt mkR_lt h1
  have h5 := fr_le h0 S
  exact ⟨S, h1, h2, h4, h5, Int32.toInt_inj.mp (by rw [wN_ti h5 h4, h3]; rfl), h3⟩
theorem sp_X3_smallestSet {g : Nat} (h : SI M 1 A) (hC : WFC A) (hg1 : 1 ≤ g) (hg2 : g ≤ 999) : Spec D 8 yX3_smallestSet cfX3_smallestSet [.ref (ad 135), .ref (ad 1), .int (nI (g))] (wl D ad M) 0 0 (PX (fun y w => y = ftf A g ∧ ∃ M', w = wl D ad M' ∧ FrP M M')) := by
  refine Spec.of (by decide) rfl (Nat.le_of_ble_eq_true rfl) rfl ?_
  have hA := h.2.2
  have hN : (ln A).length ≤ 16 := lnk_16 96
  have hbl : IsBl 9 := h.1.blocks
  have hkN := sk_row (i := (ln A).length) (by omega)
  have hmain : ∀ M2, RB A M2 ((ln A).length + 1) → LnC M2 (ln A) → FrP M M2 → V D cfX3_smallestSet (rmOf 8 0 0) (QM D (PX (fun y w => y = ftf A g ∧ ∃ M', w = wl D ad M' ∧ FrP M M')) 0 0) 0 0 15 [some (.ref (ad 135)), some (.ref (ad 1)), some (.int (nI (g))), some (.int (nI (1)))] [] (wl D ad M2) := by
    intro M2 r2 l2 f2
    refine upto (n := (ln A).length + 1) (P := fun k => 1 ≤ k → (∀ j, 1 ≤ j → j < k → ∀ S', sb S' (mkR (ln A) 0 (ln A).length) → popN S' = j → fr A S' < g) → V D cfX3_smallestSet (rmOf 8 0 0) (QM D (PX (fun y w => y = ftf A g ∧ ∃ M', w = wl D ad M' ∧ FrP M M')) 0 0) 0 0 15 [some (.ref (ad 135)), some (.ref (ad 1)), some (.int (nI (g))), some (.int (nI (k)))] [] (wl D ad M2)) ?_ ?_ 1 (by omega) (Nat.le_refl 1) (fun j h1 h2 => by omega)
    · intro _ hlow
      refine E_iload3 (q := 16) dX3_smallestSet_15 rfl ?_
      refine E_aload0 (q := 17) dX3_smallestSet_16 rfl ?_
      refine G_X3_length (q := 20) fl_X3_15 dX3_smallestSet_17 rfl ?_
      refine V_int l2.1 ?_
      refine E_icmp_gtN (tgt := 62) (q := 23) dX3_smallestSet_20 (by decide) rfl (by omega) (by omega) (fun h20 => ?_) (fun h20 => ?_)
      · skip
        refine E_iconst (v := -1) (q := 63) dX3_smallestSet_62 (by decide) rfl ?_
        exact E_ireturn rfl rfl dX3_smallestSet_63 ⟨_, rfl, ftf_miss hA (fun k k1 k2 => hlow k k1 (by omega)), M2, rfl, f2⟩
      · skip
        exact absurd h20 (by omega)
    · intro k hk ih hk1 hlow
      have hB := r2 (ln A).length k (by omega) (by omega)
      obtain ⟨S, s1, s2, s3, s4, s5, s6⟩ := hB.wN hA
      rw [s6] at hB
      refine E_iload3 (q := 16) dX3_smallestSet_15 rfl ?_
      refine E_aload0 (q := 17) dX3_smallestSet_16 rfl ?_
      refine G_X3_length (q := 20) fl_X3_15 dX3_smallestSet_17 rfl ?_
      refine V_int l2.1 ?_
      refine E_icmp_gtN (tgt := 62) (q := 23) dX3_smallestSet_20 (by decide) rfl (by omega) (by omega) (fun h20 => ?_) (fun h20 => ?_)
      · skip
        exact absurd h20 (by omega)
      · skip
        refine E_aload0 (q := 24) dX3_smallestSet_23 rfl ?_
        refine G_X3_best (q := 27) fl_X3_21 dX3_smallestSet_24 rfl ?_
        refine E_aload0 (q := 28) dX3_smallestSet_27 rfl ?_
        refine G_X3_length (q := 31) fl_X3_15 dX3_smallestSet_28 rfl ?_
        refine V_int l2.1 ?_
        refine E_aaldA (q := 32) sk_137 rfl (best_get (by omega)) (by decide) dX3_smallestSet_31 rfl ?_
        refine E_iload3 (q := 33) dX3_smallestSet_32 rfl ?_
        refine E_ialdN (q := 34) hkN (by omega) (by decide) dX3_smallestSet_33 rfl ?_
        refine V_int s5 ?_
        refine C_S1I (q := 37) lk_X3_38 (sp_X3_unitsIn s4 s3) dX3_smallestSet_34 (by decide) (Nat.le_of_ble_eq_true rfl) rfl ?_
        refine E_iload2 (q := 38) dX3_smallestSet_37 rfl ?_
        refine E_icmp_ltN (tgt := 56) (q := 41) dX3_smallestSet_38 (by decide) rfl (by omega) (by omega) (fun h38 => ?_) (fun h38 => ?_)
        · skip
          refine E_iinc3 (q := 59) dX3_smallestSet_56 (nI_inc _) rfl rfl ?_
          refine E_goto (q := 15) dX3_smallestSet_59 (by decide) ?_
          refine ih (by omega) (fun j j1 j2 S' q1 q2 => ?_)
          by_cases ej : j = k
          · subst ej
            exact Bst_low hA hB (by unfold Wt; omega) S' q1 q2
          · exact hlow j j1 (by omega) S' q1 q2
        · skip
          refine E_aload0 (q := 42) dX3_smallestSet_41 rfl ?_
          refine G_X3_best (q := 45) fl_X3_21 dX3_smallestSet_42 rfl ?_
          refine E_aload0 (q := 46) dX3_smallestSet_45 rfl ?_
          refine G_X3_length (q := 49) fl_X3_15 dX3_smallestSet_46 rfl ?_
          refine V_int l2.1 ?_
          refine E_aaldA (q := 50) sk_137 rfl (best_get (by omega)) (by decide) dX3_smallestSet_49 rfl ?_
          refine E_iload3 (q := 51) dX3_smallestSet_50 rfl ?_
          refine E_ialdN (q := 52) hkN (by omega) (by decide) dX3_smallestSet_51 rfl ?_
          refine V_int s5 ?_
          refine C_S1I (q := 55) lk_X3_42 (sp_X3_setIn s4 s3) dX3_smallestSet_52 (by decide) (Nat.le_of_ble_eq_true rfl) rfl ?_
          exact E_ireturn rfl rfl dX3_smallestSet_55 ⟨_, rfl, ftf_hit hA hk1 s1 s2 (by omega) hB hlow, M2, rfl, f2⟩
  refine E_aload0 (q := 1) dX3_smallestSet_0 rfl ?_
  refine E_aload1 (q := 2) dX3_smallestSet_1 rfl ?_
  refine C_V1Y (q := 5) lk_X3_24 (sp_X3_lineUp h) rc_X3 dX3_smallestSet_2 (by decide) (Nat.le_of_ble_eq_true rfl) rfl ?_
  refine kkEW ?_
  rintro M1 ⟨l1, f1⟩
  refine E_aload0 (q := 6) dX3_smallestSet_5 rfl ?_
  refine E_aload1 (q := 7) dX3_smallestSet_6 rfl ?_
  refine G_X4_blocks (q := 10) isSt_1 fl_X3_28 dX3_smallestSet_7 rfl ?_
  refine C_V1Y (q := 13) lk_X3_34 (sp_X3_fillBest (f1.si h) hC l1) rc_X3 dX3_smallestSet_10 (by decide) (Nat.le_of_ble_eq_true rfl) rfl ?_
  refine kkEW ?_
  rintro M2 ⟨r2, l2, f2⟩
  refine E_iconst (v := nI 1) (q := 14) dX3_smallestSet_13 (by decide) rfl ?_
  refine E_istore3 (q := 15) dX3_smallestSet_14 rfl rfl ?_
  exact hmain M2 r2 l2 (f1.tr f2)
theorem sp_X5_fewestToFreeB {q : Int32} (hq : ¬ (nI 1 ≤ q ∧ q ≤ nI 999)) : Spec D 14 yX5_fewestToFree cfX5_fewestToFree [.ref (ad 0), .int (q)] (wl D ad M) 0 0 (PI (-2) (wl D ad M)) := by
  refine Spec.of (by decide) rfl (Nat.le_of_ble_eq_true rfl) rfl ?_
  refine E_iload1 (q := 1) dX5_fewestToFree_0 rfl ?_
  refine E_iconst (v := nI 1) (q := 2) dX5_fewestToFree_1 (by decide) rfl ?_
  refine E_icmp_lt (tgt := 12) (q := 5) dX5_fewestToFree_2 (by decide) rfl (fun h2 => ?_) (fun h2 => ?_)
  · skip
    refine E_bipush (v := -2) (q := 14) dX5_fewestToFree_12 (by decide) rfl ?_
    exact E_ireturn rfl rfl dX5_fewestToFree_14 (PI_of rfl rfl)
  · skip
    refine E_iload1 (q := 6) dX5_fewestToFree_5 rfl ?_
    refine E_sipush (v := nI 999) (q := 9) dX5_fewestToFree_6 (by decide) rfl ?_
    refine E_icmp_le (tgt := 15) (q := 12) dX5_fewestToFree_9 (by decide) rfl (fun h9 => ?_) (fun h9 => ?_)
    · skip
      exact absurd ⟨Int32.not_lt.mp h2, h9⟩ hq
    · skip
      refine E_bipush (v := -2) (q := 14) dX5_fewestToFree_12 (by decide) rfl ?_
      exact E_ireturn rfl rfl dX5_fewestToFree_14 (PI_of rfl rfl)
theorem sp_X5_fewestToFreeG {g : Nat} (h : SI M 1 A) (hC : WFC A) (hg1 : 1 ≤ g) (hg2 : g ≤ 999) : Spec D 14 yX5_fewestToFree cfX5_fewestToFree [.ref (ad 0), .int (nI (g))] (wl D ad M) 0 0 (PX (fun y w => y = ftf A g ∧ ∃ M', w = wl D ad M' ∧ FrP M M')) := by
  refine Spec.of (by decide) rfl (Nat.le_of_ble_eq_true rfl) rfl ?_
  refine E_iload1 (q := 1) dX5_fewestToFree_0 rfl ?_
  refine E_iconst (v := nI 1) (q := 2) dX5_fewestToFree_1 (by decide) rfl ?_
  refine E_icmp_ltN (tgt := 12) (q := 5) dX5_fewestToFree_2 (by decide) rfl (by omega) (by omega) (fun h2 => ?_) (fun h2 => ?_)
  · skip
    exact absurd h2 (by omega)
  · skip
    refine E_iload1 (q := 6) dX5_fewestToFree_5 rfl ?_
    refine E_sipush (v := nI 999) (q := 9) dX5_fewestToFree_6 (by decide) rfl ?_
    refine E_icmp_leN (tgt := 15) (q := 12) dX5_fewestToFree_9 (by decide) rfl (by omega) (by omega) (fun h9 => ?_) (fun h9 => ?_)
    · skip
      refine E_aload0 (q := 16) dX5_fewestToFree_15 rfl ?_
      refine G_X5_planner (q := 19) fl_X5_33 dX5_fewestToFree_16 rfl ?_
      refine E_aload0 (q := 20) dX5_fewestToFree_19 rfl ?_
      refine G_X5_store (q := 23) fl_X5_12 dX5_fewestToFree_20 rfl ?_
      refine E_iload1 (q := 24) dX5_fewestToFree_23 rfl ?_
      refine C_V2X (q := 27) lk_X5_234 (sp_X3_smallestSet h hC hg1 hg2) rc_X3 dX5_fewestToFree_24 (by decide) (Nat.le_of_ble_eq_true rfl) rfl ?_
      rintro y w hp
      exact E_ireturn rfl rfl dX5_fewestToFree_27 ⟨_, rfl, hp⟩
    · skip
      exact absurd h9 (by omega)
end CLS
