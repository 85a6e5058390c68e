
/-! THE CODE OF Integer: digits -/
section DIG
variable {D : va_G} {F : Cfg} {rm : Room} {Qf : QF} {k n pc q idx tO tT : Nat} {locs : List (Option Value)} {st : List Value} {ws : va_W}
theorem E_ineg {x : Int32} (hd : decode F.2.1 pc = .ok (.ineg, 1)) (hq : pc + 1 = q) (kk : V D F rm Qf k n q locs (.int (-x) :: st) ws) : V D F rm Qf k n pc locs (.int x :: st) ws := by
  subst hq
  intro p l e s m args below meth c A H lc ls C hlen hk hn hP hD hS hl
  exact lv_ineg C.1 C.2.1 hd (kk p l e s m args below meth c A H lc ls C hlen hk hn hP hD hS hl)
def StD (tO tT : Nat) : GF := fun s A => va_Z "java/lang/Integer" "DigitOnes" "[B" (.ref tO) A s s.heap ∧ va_T .byte tO 100 (fun j => .int (nI (48 + j % 10))) A s s.heap ∧ va_Z "java/lang/Integer" "DigitTens" "[B" (.ref tT) A s s.heap ∧ va_T .byte tT 100 (fun j => .int (nI (48 + j / 10))) A s s.heap
theorem E_openD (kk : ∀ tO tT : Nat, V D F rm (QG (StD tO tT) Qf) k n pc locs st ws) : V D F rm Qf k n pc locs st ws := by
  intro p l e s m args below meth c A H lc ls C h1 h2 h3 h4 h5 h6 h7
  obtain ⟨tO, tT, g⟩ := C.2.2.2.2.2.2.2.2.2.1.2.2.2.2.2.1
  intro T hT X
  obtain ⟨t, a1, b1⟩ := kk tO tT p l e s m args below meth c A H lc ls C h1 h2 h3 h4 h5 h6 h7 T hT X
  exact ⟨t, a1, b1 g⟩
theorem E_getO (hl : Cond.fieldLink F.1 idx "java/lang/Integer" "DigitOnes" "[B" ∈ lw_good) (hd : decode F.2.1 pc = .ok (.getstatic idx, 3)) (hq : pc + 3 = q) (kk : V D F rm (QG (StD tO tT) Qf) k n q locs (.ref tO :: st) ws) : V D F rm (QG (StD tO tT) Qf) k n pc locs st ws := by
  subst hq
  refine V_useG ?_
  intro p l e s m args below meth c A H lc ls C0 hG hlen hk hn hP hD hS hll
  exact va_gets C0.1 C0.2.1 hG.1 hS C0.2.2.2.2.1 (C0.2.2.2.2.2.1 _ hl) (fun _ h => h) hd (kk p l e s m args below meth c A H lc ls C0 hlen hk hn hP hD hS hll)
theorem E_getT (hl : Cond.fieldLink F.1 idx "java/lang/Integer" "DigitTens" "[B" ∈ lw_good) (hd : decode F.2.1 pc = .ok (.getstatic idx, 3)) (hq : pc + 3 = q) (kk : V D F rm (QG (StD tO tT) Qf) k n q locs (.ref tT :: st) ws) : V D F rm (QG (StD tO tT) Qf) k n pc locs st ws := by
  subst hq
  refine V_useG ?_
  intro p l e s m args below meth c A H lc ls C0 hG hlen hk hn hP hD hS hll
  exact va_gets C0.1 C0.2.1 hG.2.2.1 hS C0.2.2.2.2.1 (C0.2.2.2.2.2.1 _ hl) (fun _ h => h) hd (kk p l e s m args below meth c A H lc ls C0 hlen hk hn hP hD hS hll)
theorem E_digO {r : Nat} (hr : r < 100) (hd : decode F.2.1 pc = .ok (.baload, 1)) (hq : pc + 1 = q) (kk : V D F rm (QG (StD tO tT) Qf) k n q locs (.int (nI (48 + r % 10)) :: st) ws) : V D F rm (QG (StD tO tT) Qf) k n pc locs (.int (nI r) :: .ref tO :: st) ws := by
  subst hq
  refine V_useG ?_
  intro p l e s m args below meth c A H lc ls C0 hG hlen hk hn hP hD hS hll
  exact va_tb C0.1 C0.2.1 hG.2.1 hS (vp_in_nI hr (by omega)) (by rw [nI_clamp (by omega)]) hd (kk p l e s m args below meth c A H lc ls C0 hlen hk hn hP hD hS hll)
theorem E_digT {r : Nat} (hr : r < 100) (hd : decode F.2.1 pc = .ok (.baload, 1)) (hq : pc + 1 = q) (kk : V D F rm (QG (StD tO tT) Qf) k n q locs (.int (nI (48 + r / 10)) :: st) ws) : V D F rm (QG (StD tO tT) Qf) k n pc locs (.int (nI r) :: .ref tT :: st) ws := by
  subst hq
  refine V_useG ?_
  intro p l e s m args below meth c A H lc ls C0 hG hlen hk hn hP hD hS hll
  exact va_tb C0.1 C0.2.1 hG.2.2.2 hS (vp_in_nI hr (by omega)) (by rw [nI_clamp (by omega)]) hd (kk p l e s m args below meth c A H lc ls C0 hlen hk hn hP hD hS hll)
theorem dO_1 : Cond.fieldLink RJ6 83 "java/lang/Integer" "DigitOnes" "[B" ∈ lw_good := gdi 1340 (by decide +kernel) rfl
theorem dT_1 : Cond.fieldLink RJ6 87 "java/lang/Integer" "DigitTens" "[B" ∈ lw_good := gdi 1342 (by decide +kernel) rfl
end DIG
section SBM
variable {D : va_G} {ad : Nat → Nat} {M : Mem} {ws : va_W} {T : List Nat} {cap mn c v : Nat}
theorem p10 : ∀ i, i < 9 → nI 10 * -nI (10 ^ i) = -nI (10 ^ (i + 1)) := by decide +kernel
theorem dgEq {i : Nat} (h1 : 1 ≤ i) (h8 : i ≤ 8) (hl : i = 1 ∨ 10 ^ (i - 1) ≤ v) (hu : v < 10 ^ i) : sb_dg v = i := by
  rcases (show i = 1 ∨ i = 2 ∨ i = 3 ∨ i = 4 ∨ i = 5 ∨ i = 6 ∨ i = 7 ∨ i = 8 by omega) with rfl | rfl | rfl | rfl | rfl | rfl | rfl | rfl <;> simp at hl hu <;> unfold sb_dg <;> (repeat' split) <;> omega
theorem sp_J6_stringSize_0f7a4 (hv : v < 2 ^ 24) : Spec D 1 yJ6_stringSize_0f7a4 cfJ6_stringSize_0f7a4 [.int (nI (v))] ws 0 0 (PI (nI (sb_dg v)) ws) := by
  refine Spec.of (by decide) rfl (Nat.le_of_ble_eq_true rfl) rfl ?_
  have hp : ∀ i, i ≤ 8 → 10 ^ i ≤ 100000000 := fun i hi => Nat.pow_le_pow_right (n := 10) (by decide) hi
  have hmain : (1 = 1 ∨ 10 ^ (1 - 1) ≤ v) → V D cfJ6_stringSize_0f7a4 (rmOf 1 0 0) (QM D (PI (nI (sb_dg v)) ws) 0 0) 0 0 16 [some (.int (-nI v)), some (.int (nI (0))), some (.int (-nI (10 ^ 1))), some (.int (nI (1)))] [] ws := by
    refine upto (n := 8) (P := fun j => 1 ≤ j → (j = 1 ∨ 10 ^ (j - 1) ≤ v) → V D cfJ6_stringSize_0f7a4 (rmOf 1 0 0) (QM D (PI (nI (sb_dg v)) ws) 0 0) 0 0 16 [some (.int (-nI v)), some (.int (nI (0))), some (.int (-nI (10 ^ j))), some (.int (nI (j)))] [] ws) ?_ ?_ 1 (by decide) (Nat.le_refl 1)
    · intro _ hl
      have h8 : v < 10 ^ 8 := by have : (10 : Nat) ^ 8 = 100000000 := by decide
                                 omega
      refine E_iload3 (q := 17) dJ6_stringSize_0f7a4_16 rfl ?_
      refine E_bipush (v := nI 10) (q := 19) dJ6_stringSize_0f7a4_17 (by decide) rfl ?_
      refine E_icmp_geN (tgt := 42) (q := 22) dJ6_stringSize_0f7a4_19 (by decide) rfl (by omega) (by omega) (fun h19 => ?_) (fun h19 => ?_)
      · skip
        exact absurd h19 (by omega)
      · skip
        refine E_iload0 (q := 23) dJ6_stringSize_0f7a4_22 rfl ?_
        refine E_iload2 (q := 24) dJ6_stringSize_0f7a4_23 rfl ?_
        refine E_icmp_le (tgt := 31) (q := 27) dJ6_stringSize_0f7a4_24 (by decide) rfl (fun h24 => ?_) (fun h24 => ?_)
        · skip
          exact absurd ((sb_nle (by omega) (by decide)).mp h24) (by omega)
        · skip
          refine E_iload3 (q := 28) dJ6_stringSize_0f7a4_27 rfl ?_
          refine E_iload1 (q := 29) dJ6_stringSize_0f7a4_28 rfl ?_
          refine E_iaddN (q := 30) dJ6_stringSize_0f7a4_29 rfl ?_
          exact E_ireturn rfl rfl dJ6_stringSize_0f7a4_30 (PI_of (by rw [dgEq (by decide) (by decide) hl h8]) rfl)
    · intro j hj ih h1 hl
      have hpj := hp j (by omega)
      have hpn := p10 j (by omega)
      rw [← hpn] at ih
      by_cases hc : v < 10 ^ j
      · have hdg := dgEq h1 (by omega) hl hc
        refine E_iload3 (q := 17) dJ6_stringSize_0f7a4_16 rfl ?_
        refine E_bipush (v := nI 10) (q := 19) dJ6_stringSize_0f7a4_17 (by decide) rfl ?_
        refine E_icmp_geN (tgt := 42) (q := 22) dJ6_stringSize_0f7a4_19 (by decide) rfl (by omega) (by omega) (fun h19 => ?_) (fun h19 => ?_)
        · skip
          exact absurd h19 (by omega)
        · skip
          refine E_iload0 (q := 23) dJ6_stringSize_0f7a4_22 rfl ?_
          refine E_iload2 (q := 24) dJ6_stringSize_0f7a4_23 rfl ?_
          refine E_icmp_le (tgt := 31) (q := 27) dJ6_stringSize_0f7a4_24 (by decide) rfl (fun h24 => ?_) (fun h24 => ?_)
          · skip
            exact absurd ((sb_nle (by omega) (by omega)).mp h24) (by omega)
          · skip
            refine E_iload3 (q := 28) dJ6_stringSize_0f7a4_27 rfl ?_
            refine E_iload1 (q := 29) dJ6_stringSize_0f7a4_28 rfl ?_
            refine E_iaddN (q := 30) dJ6_stringSize_0f7a4_29 rfl ?_
            exact E_ireturn rfl rfl dJ6_stringSize_0f7a4_30 (PI_of (by rw [hdg]; rfl) rfl)
      · skip
        refine E_iload3 (q := 17) dJ6_stringSize_0f7a4_16 rfl ?_
        refine E_bipush (v := nI 10) (q := 19) dJ6_stringSize_0f7a4_17 (by decide) rfl ?_
        refine E_icmp_geN (tgt := 42) (q := 22) dJ6_stringSize_0f7a4_19 (by decide) rfl (by omega) (by omega) (fun h19 => ?_) (fun h19 => ?_)
        · skip
          exact absurd h19 (by omega)
        · skip
          refine E_iload0 (q := 23) dJ6_stringSize_0f7a4_22 rfl ?_
          refine E_iload2 (q := 24) dJ6_stringSize_0f7a4_23 rfl ?_
          refine E_icmp_le (tgt := 31) (q := 27) dJ6_stringSize_0f7a4_24 (by decide) rfl (fun h24 => ?_) (fun h24 => ?_)
          · skip
            refine E_bipush (v := nI 10) (q := 33) dJ6_stringSize_0f7a4_31 (by decide) rfl ?_
            refine E_iload2 (q := 34) dJ6_stringSize_0f7a4_33 rfl ?_
            refine E_imul (q := 35) dJ6_stringSize_0f7a4_34 rfl ?_
            refine E_istore2 (q := 36) dJ6_stringSize_0f7a4_35 rfl rfl ?_
            refine E_iinc3 (q := 39) dJ6_stringSize_0f7a4_36 (nI_inc _) rfl rfl ?_
            refine E_goto (q := 16) dJ6_stringSize_0f7a4_39 (by decide) ?_
            exact ih (by omega) (Or.inr (by rw [Nat.add_sub_cancel]; omega))
          · skip
            exact absurd ((sb_nle (by omega) (by omega)).mpr (Nat.le_of_not_lt hc)) h24
  refine E_iconst (v := nI 1) (q := 1) dJ6_stringSize_0f7a4_0 (by decide) rfl ?_
  refine E_istore1 (q := 2) dJ6_stringSize_0f7a4_1 rfl rfl ?_
  refine E_iload0 (q := 3) dJ6_stringSize_0f7a4_2 rfl ?_
  refine E_if_lt (tgt := 11) (q := 6) dJ6_stringSize_0f7a4_3 (by decide) rfl (fun h3 => ?_) (fun h3 => ?_)
  · skip
    exact absurd h3 (nI_pos (by omega))
  · skip
    refine E_iconst (v := nI 0) (q := 7) dJ6_stringSize_0f7a4_6 (by decide) rfl ?_
    refine E_istore1 (q := 8) dJ6_stringSize_0f7a4_7 rfl rfl ?_
    refine E_iload0 (q := 9) dJ6_stringSize_0f7a4_8 rfl ?_
    refine E_ineg (q := 10) dJ6_stringSize_0f7a4_9 rfl ?_
    refine E_istore0 (q := 11) dJ6_stringSize_0f7a4_10 rfl ?_
    refine E_bipush (v := -10) (q := 13) dJ6_stringSize_0f7a4_11 (by decide) rfl ?_
    refine E_istore2 (q := 14) dJ6_stringSize_0f7a4_13 rfl rfl ?_
    refine E_iconst (v := nI 1) (q := 15) dJ6_stringSize_0f7a4_14 (by decide) rfl ?_
    refine E_istore3 (q := 16) dJ6_stringSize_0f7a4_15 rfl rfl ?_
    exact hmain (Or.inl rfl)
end SBM
