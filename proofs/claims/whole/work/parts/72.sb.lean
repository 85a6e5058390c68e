
/-! THE CODE OF Integer: digits -/
section DIG
variable {D : va_G} {F : Cfg} {rm : Room} {Qf : QF} {k n pc q idx tO tT : Nat} {locs : List (Option Value)} {st : List Value} {ws : va_W}
theorem E_ineg {x : Int32} (hd : decode F.2.1 pc = .ok (.ineg, 1)) (hq : pc + 1 = q) (kk : V D F rm Qf k n q locs (.int (-x) :: st) ws) : V D F rm Qf k n pc locs (.int x :: st) ws := by
  subst hq
  intro p l e s m args below meth c A H lc ls C hlen hk hn hP hD hS hl
  exact lv_ineg C.1 C.2.1 hd (kk p l e s m args below meth c A H lc ls C hlen hk hn hP hD hS hl)
def StD (tO tT : Nat) : GF := fun s A => va_Z "java/lang/Integer" "DigitOnes" "[B" (.ref tO) A s s.heap ∧ va_T .byte tO 100 (fun j => .int (nI (48 + j % 10))) A s s.heap ∧ va_Z "java/lang/Integer" "DigitTens" "[B" (.ref tT) A s s.heap ∧ va_T .byte tT 100 (fun j => .int (nI (48 + j / 10))) A s s.heap
theorem E_openD (kk : ∀ tO tT : Nat, V D F rm (QG (StD tO tT) Qf) k n pc locs st ws) : V D F rm Qf k n pc locs st ws := by
  intro p l e s m args below meth c A H lc ls C h1 h2 h3 h4 h5 h6 h7
  obtain ⟨tO, tT, g⟩ := C.2.2.2.2.2.2.2.2.2.1.2.2.2.2.2.1
  intro T hT X
  obtain ⟨t, a1, b1⟩ := kk tO tT p l e s m args below meth c A H lc ls C h1 h2 h3 h4 h5 h6 h7 T hT X
  exact ⟨t, a1, b1 g⟩
theorem E_getO (hl : Cond.fieldLink F.1 idx "java/lang/Integer" "DigitOnes" "[B" ∈ lw_good) (hd : decode F.2.1 pc = .ok (.getstatic idx, 3)) (hq : pc + 3 = q) (kk : V D F rm (QG (StD tO tT) Qf) k n q locs (.ref tO :: st) ws) : V D F rm (QG (StD tO tT) Qf) k n pc locs st ws := by
  subst hq
  refine V_useG ?_
  intro p l e s m args below meth c A H lc ls C0 hG hlen hk hn hP hD hS hll
  exact va_gets C0.1 C0.2.1 hG.1 hS C0.2.2.2.2.1 (C0.2.2.2.2.2.1 _ hl) (fun _ h => h) hd (kk p l e s m args below meth c A H lc ls C0 hlen hk hn hP hD hS hll)
theorem E_getT (hl : Cond.fieldLink F.1 idx "java/lang/Integer" "DigitTens" "[B" ∈ lw_good) (hd : decode F.2.1 pc = .ok (.getstatic idx, 3)) (hq : pc + 3 = q) (kk : V D F rm (QG (StD tO tT) Qf) k n q locs (.ref tT :: st) ws) : V D F rm (QG (StD tO tT) Qf) k n pc locs st ws := by
  subst hq
  refine V_useG ?_
  intro p l e s m args below meth c A H lc ls C0 hG hlen hk hn hP hD hS hll
  exact va_gets C0.1 C0.2.1 hG.2.2.1 hS C0.2.2.2.2.1 (C0.2.2.2.2.2.1 _ hl) (fun _ h => h) hd (kk p l e s m args below meth c A H lc ls C0 hlen hk hn hP hD hS hll)
theorem E_digO {r : Nat} (hr : r < 100) (hd : decode F.2.1 pc = .ok (.baload, 1)) (hq : pc + 1 = q) (kk : V D F rm (QG (StD tO tT) Qf) k n q locs (.int (nI (48 + r % 10)) :: st) ws) : V D F rm (QG (StD tO tT) Qf) k n pc locs (.int (nI r) :: .ref tO :: st) ws := by
  subst hq
  refine V_useG ?_
  intro p l e s m args below meth c A H lc ls C0 hG hlen hk hn hP hD hS hll
  exact va_tb C0.1 C0.2.1 hG.2.1 hS (vp_in_nI hr (by omega)) (by rw [nI_clamp (by omega)]) hd (kk p l e s m args below meth c A H lc ls C0 hlen hk hn hP hD hS hll)
theorem E_digT {r : Nat} (hr : r < 100) (hd : decode F.2.1 pc = .ok (.baload, 1)) (hq : pc + 1 = q) (kk : V D F rm (QG (StD tO tT) Qf) k n q locs (.int (nI (48 + r / 10)) :: st) ws) : V D F rm (QG (StD tO tT) Qf) k n pc locs (.int (nI r) :: .ref tT :: st) ws := by
  subst hq
  refine V_useG ?_
  intro p l e s m args below meth c A H lc ls C0 hG hlen hk hn hP hD hS hll
  exact va_tb C0.1 C0.2.1 hG.2.2.2 hS (vp_in_nI hr (by omega)) (by rw [nI_clamp (by omega)]) hd (kk p l e s m args below meth c A H lc ls C0 hlen hk hn hP hD hS hll)
theorem dO_1 : Cond.fieldLink RJ6 83 "java/lang/Integer" "DigitOnes" "[B" ∈ lw_good := gdi 1340 (by decide +kernel) rfl
theorem dT_1 : Cond.fieldLink RJ6 87 "java/lang/Integer" "DigitTens" "[B" ∈ lw_good := gdi 1342 (by decide +kernel) rfl
end DIG
section SBM
variable {D : va_G} {ad : Nat → Nat} {M : Mem} {ws : va_W} {T : List Nat} {cap mn c v : Nat}
theorem p10 : ∀ i, i < 9 → nI 10 * -nI (10 ^ i) = -nI (10 ^ (i + 1)) := by decide +kernel
theorem dgEq {i : Nat} (h1 : 1 ≤ i) (h8 : i ≤ 8) (hl : i = 1 ∨ 10 ^ (i - 1) ≤ v) (hu : v < 10 ^ i) : sb_dg v = i := by
  rcases (show i = 1 ∨ i = 2 ∨ i = 3 ∨ i = 4 ∨ i = 5 ∨ i = 6 ∨ i = 7 ∨ i = 8 by omega) with rfl | rfl | rfl | rfl | rfl | rfl | rfl | rfl <;> simp at hl hu <;> unfold sb_dg <;> (repeat' split) <;> omega
theorem sp_J6_stringSize_0f7a4 (hv : v < 2 ^ 24) : Spec D 1 yJ6_stringSize_0f7a4 cfJ6_stringSize_0f7a4 [.int (nI (v))] ws 0 0 (PI (nI (sb_dg v)) ws) := by
  refine Spec.of (by decide) rfl (Nat.le_of_ble_eq_true rfl) rfl ?_
  have hp : ∀ i, i ≤ 8 → 10 ^ i ≤ 100000000 := fun i hi => Nat.pow_le_pow_right (n := 10) (by decide) hi
  have hmain : (1 = 1 ∨ 10 ^ (1 - 1) ≤ v) → V D cfJ6_stringSize_0f7a4 (rmOf 1 0 0) (QM D (PI (nI (sb_dg v)) ws) 0 0) 0 0 16 [some (.int (-nI v)), some (.int (nI (0))), some (.int (-nI (10 ^ 1))), some (.int (nI (1)))] [] ws := by
    refine upto (n := 8) (P := fun j => 1 ≤ j → (j = 1 ∨ 10 ^ (j - 1) ≤ v) → V D cfJ6_stringSize_0f7a4 (rmOf 1 0 0) (QM D (PI (nI (sb_dg v)) ws) 0 0) 0 0 16 [some (.int (-nI v)), some (.int (nI (0))), some (.int (-nI (10 ^ j))), some (.int (nI (j)))] [] ws) ?_ ?_ 1 (by decide) (Nat.le_refl 1)
    · intro _ hl
      have h8 : v < 10 ^ 8 := by have : (10 : Nat) ^ 8 = 100000000 := by decide
                                 omega
      refine E_iload3 (q := 17) dJ6_stringSize_0f7a4_16 rfl ?_
      refine E_bipush (v := nI 10) (q := 19) dJ6_stringSize_0f7a4_17 (by decide) rfl ?_
      refine E_icmp_geN (tgt := 42) (q := 22) dJ6_stringSize_0f7a4_19 (by decide) rfl (by omega) (by omega) (fun h19 => ?_) (fun h19 => ?_)
      · skip
        exact absurd h19 (by omega)
      · skip
        refine E_iload0 (q := 23) dJ6_stringSize_0f7a4_22 rfl ?_
        refine E_iload2 (q := 24) dJ6_stringSize_0f7a4_23 rfl ?_
        refine E_icmp_le (tgt := 31) (q := 27) dJ6_stringSize_0f7a4_24 (by decide) rfl (fun h24 => ?_) (fun h24 => ?_)
        · skip
          exact absurd ((sb_nle (by omega) (by decide)).mp h24) (by omega)
        · skip
          refine E_iload3 (q := 28) dJ6_stringSize_0f7a4_27 rfl ?_
          refine E_iload1 (q := 29) dJ6_stringSize_0f7a4_28 rfl ?_
          refine E_iaddN (q := 30) dJ6_stringSize_0f7a4_29 rfl ?_
          exact E_ireturn rfl rfl dJ6_stringSize_0f7a4_30 (PI_of (by rw [dgEq (by decide) (by decide) hl h8]) rfl)
    · intro j hj ih h1 hl
      have hpj := hp j (by omega)
      have hpn := p10 j (by omega)
      rw [← hpn] at ih
      by_cases hc : v < 10 ^ j
      · have hdg := dgEq h1 (by omega) hl hc
        refine E_iload3 (q := 17) dJ6_stringSize_0f7a4_16 rfl ?_
        refine E_bipush (v := nI 10) (q := 19) dJ6_stringSize_0f7a4_17 (by decide) rfl ?_
        refine E_icmp_geN (tgt := 42) (q := 22) dJ6_stringSize_0f7a4_19 (by decide) rfl (by omega) (by omega) (fun h19 => ?_) (fun h19 => ?_)
        · skip
          exact absurd h19 (by omega)
        · skip
          refine E_iload0 (q := 23) dJ6_stringSize_0f7a4_22 rfl ?_
          refine E_iload2 (q := 24) dJ6_stringSize_0f7a4_23 rfl ?_
          refine E_icmp_le (tgt := 31) (q := 27) dJ6_stringSize_0f7a4_24 (by decide) rfl (fun h24 => ?_) (fun h24 => ?_)
          · skip
            exact absurd ((sb_nle (by omega) (by omega)).mp h24) (by omega)
          · skip
            refine E_iload3 (q := 28) dJ6_stringSize_0f7a4_27 rfl ?_
            refine E_iload1 (q := 29) dJ6_stringSize_0f7a4_28 rfl ?_
            refine E_iaddN (q := 30) dJ6_stringSize_0f7a4_29 rfl ?_
            exact E_ireturn rfl rfl dJ6_stringSize_0f7a4_30 (PI_of (by rw [hdg]; rfl) rfl)
      · skip
        refine E_iload3 (q := 17) dJ6_stringSize_0f7a4_16 rfl ?_
        refine E_bipush (v := nI 10) (q := 19) dJ6_stringSize_0f7a4_17 (by decide) rfl ?_
        refine E_icmp_geN (tgt := 42) (q := 22) dJ6_stringSize_0f7a4_19 (by decide) rfl (by omega) (by omega) (fun h19 => ?_) (fun h19 => ?_)
        · skip
          exact absurd h19 (by omega)
        · skip
          refine E_iload0 (q := 23) dJ6_stringSize_0f7a4_22 rfl ?_
          refine E_iload2 (q := 24) dJ6_stringSize_0f7a4_23 rfl ?_
          refine E_icmp_le (tgt := 31) (q := 27) dJ6_stringSize_0f7a4_24 (by decide) rfl (fun h24 => ?_) (fun h24 => ?_)
          · skip
            refine E_bipush (v := nI 10) (q := 33) dJ6_stringSize_0f7a4_31 (by decide) rfl ?_
            refine E_iload2 (q := 34) dJ6_stringSize_0f7a4_33 rfl ?_
            refine E_imul (q := 35) dJ6_stringSize_0f7a4_34 rfl ?_
            refine E_istore2 (q := 36) dJ6_stringSize_0f7a4_35 rfl rfl ?_
            refine E_iinc3 (q := 39) dJ6_stringSize_0f7a4_36 (nI_inc _) rfl rfl ?_
            refine E_goto (q := 16) dJ6_stringSize_0f7a4_39 (by decide) ?_
            exact ih (by omega) (Or.inr (by rw [Nat.add_sub_cancel]; omega))
          · skip
            exact absurd ((sb_nle (by omega) (by omega)).mpr (Nat.le_of_not_lt hc)) h24
  refine E_iconst (v := nI 1) (q := 1) dJ6_stringSize_0f7a4_0 (by decide) rfl ?_
  refine E_istore1 (q := 2) dJ6_stringSize_0f7a4_1 rfl rfl ?_
  refine E_iload0 (q := 3) dJ6_stringSize_0f7a4_2 rfl ?_
  refine E_if_lt (tgt := 11) (q := 6) dJ6_stringSize_0f7a4_3 (by decide) rfl (fun h3 => ?_) (fun h3 => ?_)
  · skip
    exact absurd h3 (nI_pos (by omega))
  · skip
    refine E_iconst (v := nI 0) (q := 7) dJ6_stringSize_0f7a4_6 (by decide) rfl ?_
    refine E_istore1 (q := 8) dJ6_stringSize_0f7a4_7 rfl rfl ?_
    refine E_iload0 (q := 9) dJ6_stringSize_0f7a4_8 rfl ?_
    refine E_ineg (q := 10) dJ6_stringSize_0f7a4_9 rfl ?_
    refine E_istore0 (q := 11) dJ6_stringSize_0f7a4_10 rfl ?_
    refine E_bipush (v := -10) (q := 13) dJ6_stringSize_0f7a4_11 (by decide) rfl ?_
    refine E_istore2 (q := 14) dJ6_stringSize_0f7a4_13 rfl rfl ?_
    refine E_iconst (v := nI 1) (q := 15) dJ6_stringSize_0f7a4_14 (by decide) rfl ?_
    refine E_istore3 (q := 16) dJ6_stringSize_0f7a4_15 rfl rfl ?_
    exact hmain (Or.inl rfl)
def GcP (M M' : Mem) (cap v p : Nat) : Prop := (∀ c, c ≠ 156 → M' c = M c) ∧ (∀ j, (j < p - sb_dg v ∨ p ≤ j) → M' 156 j = M 156 j) ∧ (∀ i, i < sb_dg v → M' 156 (p - 1 - i) = nI (48 + v / 10 ^ i % 10)) ∧ ∀ j, j < cap → fits .byte (.int (M' 156 j)) = true
theorem st_fit {M2 : Mem} {a d : Nat} (h : ∀ j, j < cap → fits .byte (.int (M2 156 j)) = true) (hd : d < 10) : ∀ j, j < cap → fits .byte (.int (upd2 M2 156 a (nI (48 + d)) 156 j)) = true := fun j hj => by
  by_cases e : j = a
  · subst e; rw [upd2_same]; exact (byte128 (48 + d) (by omega)).2.2
  · rw [upd2_ne (by omega)]; exact h j hj
theorem gc1 {M2 : Mem} {w pos : Nat} (h9 : w < 10) (hp : 1 ≤ pos) (hf : ∀ j, j < cap → fits .byte (.int (M2 156 j)) = true) : GcP M2 (upd2 M2 156 (pos - 1) (nI (48 + w % 10))) cap w pos := by
  have hd : sb_dg w = 1 := if_pos h9
  refine ⟨fun c hc => upd2_row hc, fun j hj => by rw [hd] at hj; exact upd2_ne (by omega), fun i hi => ?_, st_fit hf (by omega)⟩
  rw [hd] at hi
  obtain rfl : i = 0 := by omega
  rw [Nat.sub_zero, upd2_same, Nat.pow_zero, Nat.div_one]
theorem gc2 {M2 : Mem} {w pos : Nat} (h9 : ¬ w < 10) (h100 : w < 100) (hp : 2 ≤ pos) (hf : ∀ j, j < cap → fits .byte (.int (M2 156 j)) = true) : GcP M2 (upd2 (upd2 M2 156 (pos - 1) (nI (48 + w % 10))) 156 (pos - 1 - 1) (nI (48 + w / 10))) cap w pos := by
  have hd : sb_dg w = 2 := by rw [sb_dg, if_neg h9, if_pos h100]
  refine ⟨fun c hc => by rw [upd2_row hc, upd2_row hc], fun j hj => by rw [hd] at hj; rw [upd2_ne (by omega), upd2_ne (by omega)], fun i hi => ?_, st_fit (st_fit hf (by omega)) (by omega)⟩
  rw [hd] at hi
  obtain rfl | rfl : i = 0 ∨ i = 1 := by omega
  · rw [Nat.sub_zero, upd2_ne (by omega), upd2_same, Nat.pow_zero, Nat.div_one]
  · rw [upd2_same, Nat.pow_one, show w / 10 % 10 = w / 10 by omega]
theorem gc3 {M2 M3 : Mem} {w pos : Nat} (h100 : ¬ w < 100) (hw : w < 2 ^ 31) (hp : sb_dg w ≤ pos) (h : GcP (upd2 (upd2 M2 156 (pos - 1) (nI (48 + w % 100 % 10))) 156 (pos - 1 - 1) (nI (48 + w % 100 / 10))) M3 cap (w / 100) (pos - 1 - 1)) : GcP M2 M3 cap w pos := by
  obtain ⟨h1, h2, h3, h4⟩ := h
  have hd := sb_dg100 (w := w) (by omega) hw
  have hd2 := (sb_dg_in (w / 100)).1
  refine ⟨fun c hc => by rw [h1 c hc, upd2_row hc, upd2_row hc], fun j hj => by rw [h2 j (by omega), upd2_ne (by omega), upd2_ne (by omega)], fun i hi => ?_, h4⟩
  match i, hi with
  | 0, _ => rw [Nat.sub_zero, h2 _ (by omega), upd2_ne (by omega), upd2_same, Nat.pow_zero, Nat.div_one, show w % 100 % 10 = w % 10 by omega]
  | 1, _ => rw [h2 _ (by omega), upd2_same, Nat.pow_one, show w % 100 / 10 = w / 10 % 10 by omega]
  | k + 2, hi =>
    rw [show pos - 1 - (k + 2) = pos - 1 - 1 - 1 - k by omega, h3 k (by omega), Nat.div_div_eq_div_mul, show 100 * 10 ^ k = 10 ^ (k + 2) by rw [show k + 2 = k + 1 + 1 from rfl, Nat.pow_succ, Nat.pow_succ]; omega]
theorem sp_J6_getChars_ba4f3 {p : Nat} (hv : v < 2 ^ 24) (hp : sb_dg v ≤ p) (hpc : p ≤ cap) (hcap : cap ≤ 10000) (hl : M 156 100000 = nI cap) (hf : ∀ j, j < cap → fits .byte (.int (M 156 j)) = true) : Spec D 1 yJ6_getChars_ba4f3 cfJ6_getChars_ba4f3 [.int (nI (v)), .int (nI (p)), .ref (ad 156)] (wl D ad M) 0 0 (PX (fun y w => y = nI (p - sb_dg v) ∧ ∃ M', w = wl D ad M' ∧ GcP M M' cap v p)) := by
  refine Spec.of (by decide) rfl (Nat.le_of_ble_eq_true rfl) rfl ?_
  refine E_openD (fun tO tT => ?_)
  have hmain : ∀ w, w < 2 ^ 24 → ∀ pos (M2 : Mem), sb_dg w ≤ pos → pos ≤ cap → M2 156 100000 = nI cap → (∀ j, j < cap → fits .byte (.int (M2 156 j)) = true) → (∀ M3, GcP M2 M3 cap w pos → GcP M M3 cap v p) → pos - sb_dg w = p - sb_dg v → V D cfJ6_getChars_ba4f3 (rmOf 1 0 0) (QG (StD tO tT) (QM D (PX (fun y w => y = nI (p - sb_dg v) ∧ ∃ M', w = wl D ad M' ∧ GcP M M' cap v p)) 0 0)) 0 0 22 [some (.int (-nI w)), none, some (.ref (ad 156)), none, none, some (.int (nI (pos))), some (.int (nI (0)))] [] (wl D ad M2) := by
    intro w
    induction w using Nat.strongRecOn with
    | ind w ihw =>
      intro hw pos M2 h1 h2 h3 h4 h5 h6
      have hdg := (sb_dg_in w).1
      have e1 : -(-nI w) = nI w := Int32.neg_neg
      by_cases h100 : w < 100
      · by_cases h9 : w < 10
        · have hd : sb_dg w = 1 := if_pos h9
          have hg := gc1 (cap := cap) (M2 := M2) (pos := pos) h9 (by omega) h4
          refine E_iload0 (q := 23) dJ6_getChars_ba4f3_22 rfl ?_
          refine E_bipush (v := -100) (q := 25) dJ6_getChars_ba4f3_23 (by decide) rfl ?_
          refine V_int (show (-100 : Int32) = -nI 100 by decide) ?_
          refine E_icmp_gt (tgt := 72) (q := 28) dJ6_getChars_ba4f3_25 (by decide) rfl (fun h25 => ?_) (fun h25 => ?_)
          · skip
            refine E_aload2 (q := 73) dJ6_getChars_ba4f3_72 rfl ?_
            refine E_iinc5 (q := 76) dJ6_getChars_ba4f3_73 (show nI pos + Int32.ofInt (-1) = nI (pos - 1) from sb_m1 (by omega)) rfl rfl ?_
            refine E_iload5 (q := 78) dJ6_getChars_ba4f3_76 rfl ?_
            refine E_getO (q := 81) dO_1 dJ6_getChars_ba4f3_78 rfl ?_
            refine E_iload0 (q := 82) dJ6_getChars_ba4f3_81 rfl ?_
            refine E_ineg (q := 83) dJ6_getChars_ba4f3_82 rfl ?_
            refine V_int e1 ?_
            refine E_digO (q := 84) h100 dJ6_getChars_ba4f3_83 rfl ?_
            refine E_bastB (q := 85) (i := pos - 1) h3 (by omega) (by omega) dJ6_getChars_ba4f3_84 rfl ?_
            rw [(byte128 (48 + w % 10) (by omega)).2.1]
            refine E_iload0 (q := 86) dJ6_getChars_ba4f3_85 rfl ?_
            refine E_bipush (v := -9) (q := 88) dJ6_getChars_ba4f3_86 (by decide) rfl ?_
            refine V_int (show (-9 : Int32) = -nI 9 by decide) ?_
            refine E_icmp_ge (tgt := 104) (q := 91) dJ6_getChars_ba4f3_88 (by decide) rfl (fun h88 => ?_) (fun h88 => ?_)
            · skip
              refine E_iload6 (q := 106) dJ6_getChars_ba4f3_104 rfl ?_
              refine E_if_eq (tgt := 118) (q := 109) dJ6_getChars_ba4f3_106 (by decide) rfl (fun h106 => ?_) (fun h106 => ?_)
              · skip
                refine E_iload5 (q := 120) dJ6_getChars_ba4f3_118 rfl ?_
                exact V_noG (E_ireturn rfl rfl dJ6_getChars_ba4f3_120 ⟨_, rfl, congrArg nI (by omega), _, rfl, h5 _ hg⟩)
              · first | exact absurd h106 (by decide) | exact absurd (by decide) h106
            · skip
              exact absurd ((sb_nle (by decide) (by omega)).mpr (by omega)) h88
          · skip
            exact absurd ((sb_nlt (by decide) (by omega)).mpr h100) h25
        · have hd : sb_dg w = 2 := by rw [sb_dg, if_neg h9, if_pos h100]
          have hg := gc2 (cap := cap) (M2 := M2) (pos := pos) h9 h100 (by omega) h4
          refine E_iload0 (q := 23) dJ6_getChars_ba4f3_22 rfl ?_
          refine E_bipush (v := -100) (q := 25) dJ6_getChars_ba4f3_23 (by decide) rfl ?_
          refine V_int (show (-100 : Int32) = -nI 100 by decide) ?_
          refine E_icmp_gt (tgt := 72) (q := 28) dJ6_getChars_ba4f3_25 (by decide) rfl (fun h25 => ?_) (fun h25 => ?_)
          · skip
            refine E_aload2 (q := 73) dJ6_getChars_ba4f3_72 rfl ?_
            refine E_iinc5 (q := 76) dJ6_getChars_ba4f3_73 (show nI pos + Int32.ofInt (-1) = nI (pos - 1) from sb_m1 (by omega)) rfl rfl ?_
            refine E_iload5 (q := 78) dJ6_getChars_ba4f3_76 rfl ?_
            refine E_getO (q := 81) dO_1 dJ6_getChars_ba4f3_78 rfl ?_
            refine E_iload0 (q := 82) dJ6_getChars_ba4f3_81 rfl ?_
            refine E_ineg (q := 83) dJ6_getChars_ba4f3_82 rfl ?_
            refine V_int e1 ?_
            refine E_digO (q := 84) h100 dJ6_getChars_ba4f3_83 rfl ?_
            refine E_bastB (q := 85) (i := pos - 1) h3 (by omega) (by omega) dJ6_getChars_ba4f3_84 rfl ?_
            rw [(byte128 (48 + w % 10) (by omega)).2.1]
            refine E_iload0 (q := 86) dJ6_getChars_ba4f3_85 rfl ?_
            refine E_bipush (v := -9) (q := 88) dJ6_getChars_ba4f3_86 (by decide) rfl ?_
            refine V_int (show (-9 : Int32) = -nI 9 by decide) ?_
            refine E_icmp_ge (tgt := 104) (q := 91) dJ6_getChars_ba4f3_88 (by decide) rfl (fun h88 => ?_) (fun h88 => ?_)
            · skip
              exact absurd ((sb_nle (by decide) (by omega)).mp h88) (by omega)
            · skip
              refine E_aload2 (q := 92) dJ6_getChars_ba4f3_91 rfl ?_
              refine E_iinc5 (q := 95) dJ6_getChars_ba4f3_92 (show nI (pos - 1) + Int32.ofInt (-1) = nI (pos - 1 - 1) from sb_m1 (by omega)) rfl rfl ?_
              refine E_iload5 (q := 97) dJ6_getChars_ba4f3_95 rfl ?_
              refine E_getT (q := 100) dT_1 dJ6_getChars_ba4f3_97 rfl ?_
              refine E_iload0 (q := 101) dJ6_getChars_ba4f3_100 rfl ?_
              refine E_ineg (q := 102) dJ6_getChars_ba4f3_101 rfl ?_
              refine V_int e1 ?_
              refine E_digT (q := 103) h100 dJ6_getChars_ba4f3_102 rfl ?_
              refine E_bastB (q := 104) (i := pos - 1 - 1) (by rw [upd2_ne (by omega)]; exact h3) (by omega) (by omega) dJ6_getChars_ba4f3_103 rfl ?_
              rw [(byte128 (48 + w / 10) (by omega)).2.1]
              refine E_iload6 (q := 106) dJ6_getChars_ba4f3_104 rfl ?_
              refine E_if_eq (tgt := 118) (q := 109) dJ6_getChars_ba4f3_106 (by decide) rfl (fun h106 => ?_) (fun h106 => ?_)
              · skip
                refine E_iload5 (q := 120) dJ6_getChars_ba4f3_118 rfl ?_
                exact V_noG (E_ireturn rfl rfl dJ6_getChars_ba4f3_120 ⟨_, rfl, congrArg nI (by omega), _, rfl, h5 _ hg⟩)
              · first | exact absurd h106 (by decide) | exact absurd (by decide) h106
          · skip
            exact absurd ((sb_nlt (by decide) (by omega)).mpr h100) h25
      · have hd := sb_dg100 (w := w) (by omega) (by omega)
        have hd2 := (sb_dg_in (w / 100)).1
        have hrec := ihw (w / 100) (by omega) (by omega) (pos - 1 - 1) (upd2 (upd2 M2 156 (pos - 1) (nI (48 + w % 100 % 10))) 156 (pos - 1 - 1) (nI (48 + w % 100 / 10))) (by omega) (by omega) (by rw [upd2_ne (by omega), upd2_ne (by omega)]; exact h3) (st_fit (st_fit h4 (by omega)) (by omega)) (fun M3 h => h5 M3 (gc3 h100 (by omega) h1 h)) (by omega)
        refine E_iload0 (q := 23) dJ6_getChars_ba4f3_22 rfl ?_
        refine E_bipush (v := -100) (q := 25) dJ6_getChars_ba4f3_23 (by decide) rfl ?_
        refine V_int (show (-100 : Int32) = -nI 100 by decide) ?_
        refine E_icmp_gt (tgt := 72) (q := 28) dJ6_getChars_ba4f3_25 (by decide) rfl (fun h25 => ?_) (fun h25 => ?_)
        · skip
          exact absurd ((sb_nlt (by decide) (by omega)).mp h25) h100
        · skip
          refine E_iload0 (q := 29) dJ6_getChars_ba4f3_28 rfl ?_
          refine E_bipush (v := nI 100) (q := 31) dJ6_getChars_ba4f3_29 (by decide) rfl ?_
          refine E_idiv (q := 32) dJ6_getChars_ba4f3_31 (by decide) rfl ?_
          refine V_int (show -nI w / nI 100 = -nI (w / 100) from sb_ndiv (by omega)) ?_
          refine E_istore3 (q := 33) dJ6_getChars_ba4f3_32 rfl rfl ?_
          refine E_iload3 (q := 34) dJ6_getChars_ba4f3_33 rfl ?_
          refine E_bipush (v := nI 100) (q := 36) dJ6_getChars_ba4f3_34 (by decide) rfl ?_
          refine E_imul (q := 37) dJ6_getChars_ba4f3_36 rfl ?_
          refine E_iload0 (q := 38) dJ6_getChars_ba4f3_37 rfl ?_
          refine E_isub (q := 39) dJ6_getChars_ba4f3_38 rfl ?_
          refine V_int (show -nI (w / 100) * nI 100 - -nI w = nI (w % 100) from sb_nrem (by omega)) ?_
          refine E_istore4 (q := 41) dJ6_getChars_ba4f3_39 rfl rfl ?_
          refine E_iload3 (q := 42) dJ6_getChars_ba4f3_41 rfl ?_
          refine E_istore0 (q := 43) dJ6_getChars_ba4f3_42 rfl ?_
          refine E_aload2 (q := 44) dJ6_getChars_ba4f3_43 rfl ?_
          refine E_iinc5 (q := 47) dJ6_getChars_ba4f3_44 (show nI pos + Int32.ofInt (-1) = nI (pos - 1) from sb_m1 (by omega)) rfl rfl ?_
          refine E_iload5 (q := 49) dJ6_getChars_ba4f3_47 rfl ?_
          refine E_getO (q := 52) dO_1 dJ6_getChars_ba4f3_49 rfl ?_
          refine E_iload4 (q := 54) dJ6_getChars_ba4f3_52 rfl ?_
          refine E_digO (q := 55) (Nat.mod_lt _ (by decide)) dJ6_getChars_ba4f3_54 rfl ?_
          refine E_bastB (q := 56) (i := pos - 1) h3 (by omega) (by omega) dJ6_getChars_ba4f3_55 rfl ?_
          rw [(byte128 (48 + w % 100 % 10) (by omega)).2.1]
          refine E_aload2 (q := 57) dJ6_getChars_ba4f3_56 rfl ?_
          refine E_iinc5 (q := 60) dJ6_getChars_ba4f3_57 (show nI (pos - 1) + Int32.ofInt (-1) = nI (pos - 1 - 1) from sb_m1 (by omega)) rfl rfl ?_
          refine E_iload5 (q := 62) dJ6_getChars_ba4f3_60 rfl ?_
          refine E_getT (q := 65) dT_1 dJ6_getChars_ba4f3_62 rfl ?_
          refine E_iload4 (q := 67) dJ6_getChars_ba4f3_65 rfl ?_
          refine E_digT (q := 68) (Nat.mod_lt _ (by decide)) dJ6_getChars_ba4f3_67 rfl ?_
          refine E_bastB (q := 69) (i := pos - 1 - 1) (by rw [upd2_ne (by omega)]; exact h3) (by omega) (by omega) dJ6_getChars_ba4f3_68 rfl ?_
          rw [(byte128 (48 + w % 100 / 10) (by omega)).2.1]
          refine E_goto (q := 22) dJ6_getChars_ba4f3_69 (by decide) ?_
          exact V_sub (by repeat (first | exact subL_nil | refine subL_s ?_ | refine subL_n ?_)) hrec
  refine E_iload1 (q := 1) dJ6_getChars_ba4f3_0 rfl ?_
  refine E_istore5 (q := 3) dJ6_getChars_ba4f3_1 rfl rfl ?_
  refine E_iload0 (q := 4) dJ6_getChars_ba4f3_3 rfl ?_
  refine E_if_ge (tgt := 11) (q := 7) dJ6_getChars_ba4f3_4 (by decide) rfl (fun h4 => ?_) (fun h4 => ?_)
  · skip
    refine E_iconst (v := nI 0) (q := 12) dJ6_getChars_ba4f3_11 (by decide) rfl ?_
    refine E_istore6 (q := 14) dJ6_getChars_ba4f3_12 rfl rfl ?_
    refine E_iload6 (q := 16) dJ6_getChars_ba4f3_14 rfl ?_
    refine E_if_ne (tgt := 22) (q := 19) dJ6_getChars_ba4f3_16 (by decide) rfl (fun h16 => ?_) (fun h16 => ?_)
    · first | exact absurd h16 (by decide) | exact absurd (by decide) h16
    · skip
      refine E_iload0 (q := 20) dJ6_getChars_ba4f3_19 rfl ?_
      refine E_ineg (q := 21) dJ6_getChars_ba4f3_20 rfl ?_
      refine E_istore0 (q := 22) dJ6_getChars_ba4f3_21 rfl ?_
      exact V_sub (by repeat (first | exact subL_nil | refine subL_s ?_ | refine subL_n ?_)) (hmain v hv p M hp hpc hl hf (fun M3 h => h) rfl)
  · skip
    exact absurd (nI_ge0 (by omega)) h4
end SBM
