
/-! THE CLASS: what it remembers; its changes -/
section CLS
variable {D : va_G} {ad : Nat → Nat} {M M' : Mem} {wx : Nat} {ws : va_W} {A B : AS} {b b2 : Nat} {bl : List Blk} {H : List AS}
def HistC (M : Mem) (H : List AS) : Prop := ∃ nx, nx < 8 ∧ M 131 1 = nI nx ∧ M 131 2 = nI H.length ∧ H.length ≤ 8 ∧ (∀ i B, H[i]? = some B → StoreIs M (27 + 13 * ((nx + 8 - H.length + i) % 8)) B ∧ WF B)
theorem HistC.congr (h : HistC M H) (e : ∀ c, 27 ≤ c → c ≤ 131 → M' c = M c) : HistC M' H := by
  obtain ⟨nx, h1, h2, h3, h4, h5⟩ := h
  refine ⟨nx, h1, by rw [e 131 (by omega) (by omega)]; exact h2, by rw [e 131 (by omega) (by omega)]; exact h3, h4, fun i B hB => ⟨(h5 i B hB).1.congr fun c c1 c2 => e c (by omega) ?_, (h5 i B hB).2⟩⟩
  have := Nat.mod_lt (nx + 8 - H.length + i) (show 0 < 8 by decide)
  omega
theorem HistC.push {nx : Nat} (h1 : nx < 8) (h4 : H.length ≤ 8) (h5 : ∀ i B, H[i]? = some B → StoreIs M (27 + 13 * ((nx + 8 - H.length + i) % 8)) B ∧ WF B) (hA : WF A) (hc : StoreIs M' (27 + 13 * nx) A) (e : ∀ c, (c < 27 + 13 * nx ∨ 27 + 13 * nx + 12 < c) → c ≠ 131 → M' c = M c) (e1 : M' 131 1 = nI ((nx + 1) % 8)) (e2 : M' 131 2 = nI (if H.length = 8 then 8 else H.length + 1)) : HistC M' (hpush H A) := by
  have hlen : (hpush H A).length = if H.length = 8 then 8 else H.length + 1 := by
    unfold hpush
    rw [List.length_append]
    by_cases c : H.length = 8
    · rw [if_pos c, if_pos c, List.length_tail, c]; rfl
    · rw [if_neg c, if_neg c]; rfl
  refine ⟨(nx + 1) % 8, Nat.mod_lt _ (by decide), e1, by rw [hlen]; exact e2, by rw [hlen]; split <;> omega, fun i B hi => ?_⟩
  have hil : i < (hpush H A).length := (List.getElem?_eq_some_iff.mp hi).1
  rw [hlen] at hil
  rw [hlen]
  have hget : (i = (if H.length = 8 then 7 else H.length) ∧ B = A) ∨ (i < (if H.length = 8 then 7 else H.length) ∧ H[if H.length = 8 then i + 1 else i]? = some B) := by
    unfold hpush at hi
    by_cases c : H.length = 8
    · rw [if_pos c] at hi hil ⊢
      rw [if_pos c]
      have ht : H.tail.length = 7 := by rw [List.length_tail, c]
      by_cases c2 : i < 7
      · rw [List.getElem?_append_left (by omega)] at hi
        rw [List.getElem?_tail] at hi
        exact Or.inr ⟨c2, hi⟩
      · rw [List.getElem?_append_right (by omega), ht, show i - 7 = 0 by omega] at hi
        exact Or.inl ⟨by omega, by simpa using hi.symm⟩
    · rw [if_neg c] at hi hil ⊢
      rw [if_neg c]
      by_cases c2 : i < H.length
      · rw [List.getElem?_append_left (by omega)] at hi
        exact Or.inr ⟨c2, hi⟩
      · rw [List.getElem?_append_right (by omega), show i - H.length = 0 by omega] at hi
        exact Or.inl ⟨by omega, by simpa using hi.symm⟩
  rcases hget with ⟨g1, rfl⟩ | ⟨g1, g2⟩
  · refine ⟨?_, hA⟩
    have : ((nx + 1) % 8 + 8 - (if H.length = 8 then 8 else H.length + 1) + i) % 8 = nx := by
      split at g1
      · next c => rw [if_pos c]; omega
      · next c => rw [if_neg c]; omega
    rw [this]; exact hc
  · obtain ⟨q1, q2⟩ := h5 _ B g2
    refine ⟨?_, q2⟩
    have hs : ((nx + 1) % 8 + 8 - (if H.length = 8 then 8 else H.length + 1) + i) % 8 = (nx + 8 - H.length + (if H.length = 8 then i + 1 else i)) % 8 := by
      split at g1
      · next c => rw [if_pos c, if_pos c]; omega
      · next c => rw [if_neg c, if_neg c]; omega
    have hne : (nx + 8 - H.length + (if H.length = 8 then i + 1 else i)) % 8 ≠ nx := by
      split at g1
      · next c => rw [if_pos c]; omega
      · next c => rw [if_neg c]; omega
    rw [hs]
    generalize (nx + 8 - H.length + (if H.length = 8 then i + 1 else i)) % 8 = sl at *
    have hsl : sl < 8 := by rw [← hs]; exact Nat.mod_lt _ (by decide)
    exact q1.congr fun c c1 c2 => e c (by omega) (by omega)
theorem kept_get {i : Nat} (h : i < 8) : [27, 40, 53, 66, 79, 92, 105, 118][i]? = some (27 + 13 * i) := by
  match i, h with
  | 0, _ => rfl
  | 1, _ => rfl
  | 2, _ => rfl
  | 3, _ => rfl
  | 4, _ => rfl
  | 5, _ => rfl
  | 6, _ => rfl
  | 7, _ => rfl
  | i + 8, h => exact absurd h (by omega)
theorem rem8 {a : Nat} (h : a < 16) : nI a - nI a / nI 8 * nI 8 = nI (a % 8) := by
  match a, h with
  | 0, _ => decide
  | 1, _ => decide
  | 2, _ => decide
  | 3, _ => decide
  | 4, _ => decide
  | 5, _ => decide
  | 6, _ => decide
  | 7, _ => decide
  | 8, _ => decide
  | 9, _ => decide
  | 10, _ => decide
  | 11, _ => decide
  | 12, _ => decide
  | 13, _ => decide
  | 14, _ => decide
  | 15, _ => decide
  | i + 16, h => exact absurd h (by omega)
def CW (D : va_G) (ad : Nat → Nat) (M : Mem) (H : List AS) (B : AS) : va_W → Prop := fun w => ∃ M', w = wl D ad M' ∧ StoreIs M' 1 B ∧ HistC M' H ∧ ∀ c, (c = 0 ∨ (14 ≤ c ∧ c < 27) ∨ 131 < c) → M' c = M c
theorem CW.step {M1 M2 : Mem} (h : HistC M1 H) (f1 : ∀ c, (c = 0 ∨ (14 ≤ c ∧ c < 27) ∨ 131 < c) → M1 c = M c) (hB : StoreIs M2 1 B) (f2 : ∀ c, (c < 1 ∨ 1 + 12 < c) → M2 c = M1 c) : CW D ad M H B (wl D ad M2) :=
  ⟨M2, rfl, hB, h.congr fun c c1 c2 => f2 c (by omega), fun c hc => by rw [f2 c (by omega), f1 c hc]⟩
theorem E_jmin {x y : Int32} {F : Cfg} {Qf : QF} {k n pc q idx d mc ms : Nat} {locs : List (Option Value)} {st : List Value} (hl : Cond.methodLink F.1 idx yJ9_min_7cf53 ∈ lw_good) (hd : decode F.2.1 pc = .ok (.invokestatic idx, 3)) (hd1 : 1 ≤ d) (hst : (st.map fun v => v.category).sum ≤ 8) (hq : pc + 3 = q) (kk : V D F (rmOf d mc ms) Qf k n q locs (.int (if y < x then y else x) :: st) ws) : V D F (rmOf d mc ms) Qf k n pc locs (.int y :: .int x :: st) ws := by
  subst hq
  intro p l e s m args below meth c A H lc ls C hlen hkc hnc hP hD hS hll
  have hts := C.2.2.2.2.2.1
  refine va_mmin C.1 C.2.1 (by rw [hll.1]; exact hlen ▸ C.2.2.1) C.2.2.2.2.1 (hts _ hl) (hts _ sm_J9_min_7cf53) (hts _ in_J9) (hts _ cd_J9_min_7cf53) hd1 ?_ hkc hnc hd (kk p l e s m args below meth c A H lc ls C hlen hkc hnc hP hD hS hll)
  show _ ≤ 40 * d
  omega
theorem E_jmax {x y : Int32} {F : Cfg} {Qf : QF} {k n pc q idx d mc ms : Nat} {locs : List (Option Value)} {st : List Value} (hl : Cond.methodLink F.1 idx yJ9_max_7cf53 ∈ lw_good) (hd : decode F.2.1 pc = .ok (.invokestatic idx, 3)) (hd1 : 1 ≤ d) (hst : (st.map fun v => v.category).sum ≤ 8) (hq : pc + 3 = q) (kk : V D F (rmOf d mc ms) Qf k n q locs (.int (if x < y then y else x) :: st) ws) : V D F (rmOf d mc ms) Qf k n pc locs (.int y :: .int x :: st) ws := by
  subst hq
  intro p l e s m args below meth c A H lc ls C hlen hkc hnc hP hD hS hll
  have hts := C.2.2.2.2.2.1
  refine va_mmax C.1 C.2.1 (by rw [hll.1]; exact hlen ▸ C.2.2.1) C.2.2.2.2.1 (hts _ hl) (hts _ sm_J9_max_7cf53) (hts _ in_J9) (hts _ cd_J9_max_7cf53) hd1 ?_ hkc hnc hd (kk p l e s m args below meth c A H lc ls C hlen hkc hnc hP hD hS hll)
  show _ ≤ 40 * d
  omega
theorem sp_X1_keep (h : SI M 1 A) (hH : HistC M H) : Spec D 3 yX1_keep cfX1_keep [.ref (ad 131), .ref (ad 1)] (wl D ad M) 0 0 (PY (CW D ad M (hpush H A) A)) := by
  refine Spec.of (by decide) rfl (Nat.le_of_ble_eq_true rfl) rfl ?_
  obtain ⟨nx, h1, h2, h3, h4, h5⟩ := hH
  have hks := isSt_kept h1
  have hmin : (if nI 8 < nI (H.length + 1) then nI 8 else nI (H.length + 1)) = nI (if H.length = 8 then 8 else H.length + 1) := by
    by_cases c : H.length = 8
    · rw [if_pos c, c]; rfl
    · rw [if_neg c, if_neg (fun z => by have := (nI_ltI (by omega) (by omega)).mp z; omega)]
  refine E_aload0 (q := 1) dX1_keep_0 rfl ?_
  refine G_X1_kept (q := 4) fl_X1_11 dX1_keep_1 rfl ?_
  refine E_aload0 (q := 5) dX1_keep_4 rfl ?_
  refine G_X1_next (q := 8) fl_X1_17 dX1_keep_5 rfl ?_
  refine V_int h2 ?_
  refine E_aald (q := 9) sk_132 rfl (kept_get h1) (by decide) dX1_keep_8 rfl ?_
  refine E_aload1 (q := 10) dX1_keep_9 rfl ?_
  refine C_V1Y (q := 13) lk_X1_25 (sp_X4_copyFrom hks isSt_1 (by omega) h.2.1 h.2.2) (rc_X4 hks) dX1_keep_10 (by decide) (Nat.le_of_ble_eq_true rfl) rfl ?_
  refine kkEW ?_
  rintro M1 ⟨hb1, hk1⟩
  refine E_aload0 (q := 14) dX1_keep_13 rfl ?_
  refine E_aload0 (q := 15) dX1_keep_14 rfl ?_
  refine G_X1_next (q := 18) fl_X1_17 dX1_keep_15 rfl ?_
  refine V_int (show _ = nI nx by rw [hk1 131 (by omega)]; exact h2) ?_
  refine E_iconst (v := nI 1) (q := 19) dX1_keep_18 (by decide) rfl ?_
  refine E_iaddN (q := 20) dX1_keep_19 rfl ?_
  refine E_bipush (v := nI 8) (q := 22) dX1_keep_20 (by decide) rfl ?_
  refine E_irem (q := 23) dX1_keep_22 (by decide) rfl ?_
  refine V_int (rem8 (by omega)) ?_
  refine P_X1_next (q := 26) fl_X1_17 dX1_keep_23 rfl ?_
  refine E_aload0 (q := 27) dX1_keep_26 rfl ?_
  refine E_aload0 (q := 28) dX1_keep_27 rfl ?_
  refine G_X1_length (q := 31) fl_X1_21 dX1_keep_28 rfl ?_
  refine V_int (show _ = nI H.length by rw [upd2_ne (by omega), hk1 131 (by omega)]; exact h3) ?_
  refine E_iconst (v := nI 1) (q := 32) dX1_keep_31 (by decide) rfl ?_
  refine E_iaddN (q := 33) dX1_keep_32 rfl ?_
  refine E_bipush (v := nI 8) (q := 35) dX1_keep_33 (by decide) rfl ?_
  refine E_jmin (q := 38) lk_X1_29.2.1 dX1_keep_35 (by decide) (Nat.le_of_ble_eq_true rfl) rfl ?_
  refine V_int hmin ?_
  refine P_X1_length (q := 41) fl_X1_21 dX1_keep_38 rfl ?_
  exact E_vreturn rfl rfl dX1_keep_41 ⟨rfl, _, rfl, h.2.1.congr (fun c c1 c2 => by rw [upd2_row (by omega), upd2_row (by omega), hk1 c (by omega)]), HistC.push h1 h4 h5 h.2.2 (hb1.congr fun c c1 c2 => by rw [upd2_row (by omega), upd2_row (by omega)]) (fun c c1 c2 => by rw [upd2_row (by omega), upd2_row (by omega), hk1 c c1]) (by rw [upd2_ne (by omega)]; exact upd2_same) upd2_same, fun c hc => by rw [upd2_row (by omega), upd2_row (by omega), hk1 c (by omega)]⟩

theorem HistC.pop (hH : HistC M (H ++ [B])) : ∃ nx, nx < 8 ∧ M 131 1 = nI nx ∧ M 131 2 = nI (H.length + 1) ∧ H.length < 8 ∧ StoreIs M (27 + 13 * ((nx + 7) % 8)) B ∧ WF B ∧ ∀ M' : Mem, (∀ c, 27 ≤ c → c < 131 → M' c = M c) → M' 131 1 = nI ((nx + 7) % 8) → M' 131 2 = nI H.length → HistC M' H := by
  obtain ⟨nx, h1, h2, h3, h4, h5⟩ := hH
  rw [List.length_append] at h3 h4 h5
  have h4 : H.length + 1 ≤ 8 := h4
  have hl := h5 H.length B (by rw [List.getElem?_append_right (Nat.le_refl _), Nat.sub_self]; rfl)
  refine ⟨nx, h1, h2, h3, by omega, ?_, hl.2, fun M' e e1 e2 => ⟨(nx + 7) % 8, Nat.mod_lt _ (by decide), e1, e2, by omega, fun i C hC => ?_⟩⟩
  · have := hl.1
    rw [show (nx + 8 - (H.length + [B].length) + H.length) % 8 = (nx + 7) % 8 by show (nx + 8 - (H.length + 1) + H.length) % 8 = _; omega] at this
    exact this
  · have hi := (List.getElem?_eq_some_iff.mp hC).1
    obtain ⟨g1, g2⟩ := h5 i C (by rw [List.getElem?_append_left hi]; exact hC)
    refine ⟨?_, g2⟩
    rw [show (nx + 8 - (H.length + [B].length) + i) % 8 = ((nx + 7) % 8 + 8 - H.length + i) % 8 by show (nx + 8 - (H.length + 1) + i) % 8 = _; omega] at g1
    have := Nat.mod_lt ((nx + 7) % 8 + 8 - H.length + i) (show 0 < 8 by decide)
    exact g1.congr fun c c1 c2 => e c (by omega) (by omega)
theorem sp_X1_giveBack (hH : HistC M (H ++ [B])) : Spec D 3 yX1_giveBack cfX1_giveBack [.ref (ad 131), .ref (ad 1)] (wl D ad M) 0 0 (PY (CW D ad M H B)) := by
  refine Spec.of (by decide) rfl (Nat.le_of_ble_eq_true rfl) rfl ?_
  obtain ⟨nx, h1, h2, h3, h4, h5, h6, h7⟩ := hH.pop
  have h8 : (nx + 7) % 8 < 8 := Nat.mod_lt _ (by decide)
  have hks := isSt_kept h8
  refine E_aload0 (q := 1) dX1_giveBack_0 rfl ?_
  refine E_aload0 (q := 2) dX1_giveBack_1 rfl ?_
  refine G_X1_next (q := 5) fl_X1_17 dX1_giveBack_2 rfl ?_
  refine V_int h2 ?_
  refine E_bipush (v := nI 8) (q := 7) dX1_giveBack_5 (by decide) rfl ?_
  refine E_iaddN (q := 8) dX1_giveBack_7 rfl ?_
  refine E_iconst (v := nI 1) (q := 9) dX1_giveBack_8 (by decide) rfl ?_
  refine E_isubN (q := 10) dX1_giveBack_9 (by omega) rfl ?_
  refine E_bipush (v := nI 8) (q := 12) dX1_giveBack_10 (by decide) rfl ?_
  refine E_irem (q := 13) dX1_giveBack_12 (by decide) rfl ?_
  refine V_int (rem8 (by omega)) ?_
  refine P_X1_next (q := 16) fl_X1_17 dX1_giveBack_13 rfl ?_
  refine E_aload0 (q := 17) dX1_giveBack_16 rfl ?_
  refine E_dup (q := 18) dX1_giveBack_17 rfl rfl ?_
  refine G_X1_length (q := 21) fl_X1_21 dX1_giveBack_18 rfl ?_
  refine V_int (show _ = nI (H.length + 1) by rw [upd2_ne (by omega)]; exact h3) ?_
  refine E_iconst (v := nI 1) (q := 22) dX1_giveBack_21 (by decide) rfl ?_
  refine E_isubN (q := 23) dX1_giveBack_22 (by omega) rfl ?_
  refine P_X1_length (q := 26) fl_X1_21 dX1_giveBack_23 rfl ?_
  refine E_aload1 (q := 27) dX1_giveBack_26 rfl ?_
  refine E_aload0 (q := 28) dX1_giveBack_27 rfl ?_
  refine G_X1_kept (q := 31) fl_X1_11 dX1_giveBack_28 rfl ?_
  refine E_aload0 (q := 32) dX1_giveBack_31 rfl ?_
  refine G_X1_next (q := 35) fl_X1_17 dX1_giveBack_32 rfl ?_
  refine V_int (show _ = nI ((nx + 7) % 8) by rw [upd2_ne (by omega)]; exact upd2_same) ?_
  refine E_aald (q := 36) sk_132 rfl (kept_get h8) (by decide) dX1_giveBack_35 rfl ?_
  refine C_V1Y (q := 39) lk_X1_25 (sp_X4_copyFrom isSt_1 hks (by omega) (h5.congr fun c c1 c2 => by rw [upd2_row (by omega), upd2_row (by omega)]) h6) (rc_X4 isSt_1) dX1_giveBack_36 (by decide) (Nat.le_of_ble_eq_true rfl) rfl ?_
  refine kkEW ?_
  rintro M1 ⟨hb1, hk1⟩
  exact E_vreturn rfl rfl dX1_giveBack_39 ⟨rfl, M1, rfl, hb1, h7 M1 (fun c c1 c2 => by rw [hk1 c (by omega), upd2_row (by omega), upd2_row (by omega)]) (by rw [hk1 131 (by omega), upd2_ne (by omega)]; exact upd2_same) (by rw [hk1 131 (by omega)]; exact upd2_same), fun c hc => by rw [hk1 c (by omega), upd2_row (by omega), upd2_row (by omega)]⟩
theorem gone_rel {g : Nat → Nat} : freedB A.2 g = fsum siz A.2 - fsum siz (relB A.2 g) := by
  have := rel_siz (bl := A.2) (g := g)
  omega
theorem gone_rem {m : Nat} : freedB A.2 (fun _ => m) = gone A (remA A m) := gone_rel
theorem gone_trm {v a : Nat} : freedB A.2 (fun c => if c = a then 2 ^ (16 + v) else 0) = gone A (trmA A v a) := gone_rel
theorem gone_rol {s : Nat} : freedB A.2 (fun _ => rowB A s ||| 2 ^ (16 + home A s)) = gone A (rolA A s) := by
  rw [gone_rel]
  unfold gone
  rw [show fsum siz (rolA A s).2 = fsum siz (relB A.2 (fun _ => rowB A s ||| 2 ^ (16 + home A s))) from lend_siz]
theorem wrI_cases {v a z : Nat} : wrI A v a z = -3 ∨ wrI A v a z = -5 ∨ wrI A v a z = nI 0 := by
  unfold wrI
  split
  · exact Or.inl rfl
  · split
    · exact Or.inr (Or.inl rfl)
    · exact Or.inr (Or.inr rfl)

theorem SI.to' (h : SI M b A) (hb : StoreIs M' b A) : SI M' b A := ⟨h.1, hb, h.2.2⟩
theorem sp_X5_newVolumeF (h : SI M 1 A) (hv : aV A = 6) : Spec D 10 yX5_newVolume cfX5_newVolume [.ref (ad 0)] (wl D ad M) 0 0 (PI (-3) (wl D ad M)) := by
  refine Spec.of (by decide) rfl (Nat.le_of_ble_eq_true rfl) rfl ?_
  refine E_aload0 (q := 1) dX5_newVolume_0 rfl ?_
  refine G_X5_store (q := 4) fl_X5_12 dX5_newVolume_1 rfl ?_
  refine G_X4_volumesCome (q := 7) isSt_1 fl_X5_116 dX5_newVolume_4 rfl ?_
  refine V_int (h.2.1.1.2.1.trans (congrArg nI hv)) ?_
  refine E_bipush (v := nI 6) (q := 9) dX5_newVolume_7 (by decide) rfl ?_
  refine E_icmp_ltN (tgt := 15) (q := 12) dX5_newVolume_9 (by decide) rfl (by omega) (by omega) (fun h9 => ?_) (fun h9 => ?_)
  · first | exact absurd h9 (by decide) | exact absurd (by decide) h9
  · skip
    refine E_bipush (v := -3) (q := 14) dX5_newVolume_12 (by decide) rfl ?_
    exact E_ireturn rfl rfl dX5_newVolume_14 (PI_of rfl rfl)
theorem sp_X5_newVolume (h : SI M 1 A) (hH : HistC M H) (hv : aV A < 6) : Spec D 10 yX5_newVolume cfX5_newVolume [.ref (ad 0)] (wl D ad M) 0 0 (PX (fun x w => x = nI (aV A) ∧ CW D ad M (hpush H A) (mkVol A 0 0) w)) := by
  refine Spec.of (by decide) rfl (Nat.le_of_ble_eq_true rfl) rfl ?_
  refine E_aload0 (q := 1) dX5_newVolume_0 rfl ?_
  refine G_X5_store (q := 4) fl_X5_12 dX5_newVolume_1 rfl ?_
  refine G_X4_volumesCome (q := 7) isSt_1 fl_X5_116 dX5_newVolume_4 rfl ?_
  refine V_int h.2.1.1.2.1 ?_
  refine E_bipush (v := nI 6) (q := 9) dX5_newVolume_7 (by decide) rfl ?_
  refine E_icmp_ltN (tgt := 15) (q := 12) dX5_newVolume_9 (by decide) rfl (by omega) (by omega) (fun h9 => ?_) (fun h9 => ?_)
  · skip
    refine E_aload0 (q := 16) dX5_newVolume_15 rfl ?_
    refine G_X5_history (q := 19) fl_X5_19 dX5_newVolume_16 rfl ?_
    refine E_aload0 (q := 20) dX5_newVolume_19 rfl ?_
    refine G_X5_store (q := 23) fl_X5_12 dX5_newVolume_20 rfl ?_
    refine C_V1Y (q := 26) lk_X5_244 (sp_X1_keep h hH) rc_X1 dX5_newVolume_23 (by decide) (Nat.le_of_ble_eq_true rfl) rfl ?_
    refine kkEW ?_
    rintro M1 ⟨hb1, hh1, hf1⟩
    refine E_aload0 (q := 27) dX5_newVolume_26 rfl ?_
    refine G_X5_store (q := 30) fl_X5_12 dX5_newVolume_27 rfl ?_
    refine E_iconst (v := nI 0) (q := 31) dX5_newVolume_30 (by decide) rfl ?_
    refine E_iconst (v := -1) (q := 32) dX5_newVolume_31 (by decide) rfl ?_
    refine C_V2X (q := 35) lk_X5_247 (sp_X4_addVolumeN (h.to' hb1) hv) (rc_X4 isSt_1) dX5_newVolume_32 (by decide) (Nat.le_of_ble_eq_true rfl) rfl ?_
    refine kkEI ?_
    rintro M2 ⟨hb2, hk2⟩
    exact E_ireturn rfl rfl dX5_newVolume_35 ⟨_, rfl, rfl, CW.step hh1 hf1 hb2 hk2⟩
  · skip
    omega
theorem sp_X5_writeV {p q r : Int32} (h : SI M 1 A) (hn : ¬ VolA A p) : Spec D 10 yX5_write cfX5_write [.ref (ad 0), .int (p), .int (q), .int (r)] (wl D ad M) 0 0 (PI (-1) (wl D ad M)) := by
  refine Spec.of (by decide) rfl (Nat.le_of_ble_eq_true rfl) rfl ?_
  refine E_aload0 (q := 1) dX5_write_0 rfl ?_
  refine G_X5_store (q := 4) fl_X5_12 dX5_write_1 rfl ?_
  refine E_iload1 (q := 5) dX5_write_4 rfl ?_
  refine E_iload2 (q := 6) dX5_write_5 rfl ?_
  refine E_iload3 (q := 7) dX5_write_6 rfl ?_
  refine C_V3I (q := 10) lk_X5_238 (sp_X4_writeAnswerV h hn) (rc_X4 isSt_1) dX5_write_7 (by decide) (Nat.le_of_ble_eq_true rfl) rfl ?_
  refine E_istore4 (q := 12) dX5_write_10 rfl rfl ?_
  refine E_iload4 (q := 14) dX5_write_12 rfl ?_
  refine E_if_ge (tgt := 20) (q := 17) dX5_write_14 (by decide) rfl (fun h14 => ?_) (fun h14 => ?_)
  · first | exact absurd h14 (by decide) | exact absurd (by decide) h14
  · skip
    refine E_iload4 (q := 19) dX5_write_17 rfl ?_
    exact E_ireturn rfl rfl dX5_write_19 (PI_of rfl rfl)
theorem sp_X5_writeB {p q r : Int32} (h : SI M 1 A) (hp : VolA A p) (hn : ¬ (AdrP q ∧ SizP r)) : Spec D 10 yX5_write cfX5_write [.ref (ad 0), .int (p), .int (q), .int (r)] (wl D ad M) 0 0 (PI (-2) (wl D ad M)) := by
  refine Spec.of (by decide) rfl (Nat.le_of_ble_eq_true rfl) rfl ?_
  refine E_aload0 (q := 1) dX5_write_0 rfl ?_
  refine G_X5_store (q := 4) fl_X5_12 dX5_write_1 rfl ?_
  refine E_iload1 (q := 5) dX5_write_4 rfl ?_
  refine E_iload2 (q := 6) dX5_write_5 rfl ?_
  refine E_iload3 (q := 7) dX5_write_6 rfl ?_
  refine C_V3I (q := 10) lk_X5_238 (sp_X4_writeAnswerB h hp hn) (rc_X4 isSt_1) dX5_write_7 (by decide) (Nat.le_of_ble_eq_true rfl) rfl ?_
  refine E_istore4 (q := 12) dX5_write_10 rfl rfl ?_
  refine E_iload4 (q := 14) dX5_write_12 rfl ?_
  refine E_if_ge (tgt := 20) (q := 17) dX5_write_14 (by decide) rfl (fun h14 => ?_) (fun h14 => ?_)
  · first | exact absurd h14 (by decide) | exact absurd (by decide) h14
  · skip
    refine E_iload4 (q := 19) dX5_write_17 rfl ?_
    exact E_ireturn rfl rfl dX5_write_19 (PI_of rfl rfl)
theorem sp_X5_writeR {v a z : Nat} (h : SI M 1 A) (hv : v < 6) (ht : th A (16 + v)) (ha : a < 12) (hz : 1 ≤ z ∧ z ≤ 9) (hne : wrI A v a z ≠ 0) : Spec D 10 yX5_write cfX5_write [.ref (ad 0), .int (nI (v)), .int (nI (a)), .int (nI (z))] (wl D ad M) 0 0 (PI (wrI A v a z) (wl D ad M)) := by
  refine Spec.of (by decide) rfl (Nat.le_of_ble_eq_true rfl) rfl ?_
  have hww : wwI A v a z = wrI A v a z := if_neg hne
  have hlt : wrI A v a z < 0 := by
    rcases wrI_cases (A := A) (v := v) (a := a) (z := z) with e | e | e
    · rw [e]; decide
    · rw [e]; decide
    · exact absurd e hne
  refine E_aload0 (q := 1) dX5_write_0 rfl ?_
  refine G_X5_store (q := 4) fl_X5_12 dX5_write_1 rfl ?_
  refine E_iload1 (q := 5) dX5_write_4 rfl ?_
  refine E_iload2 (q := 6) dX5_write_5 rfl ?_
  refine E_iload3 (q := 7) dX5_write_6 rfl ?_
  refine C_V3I (q := 10) lk_X5_238 (sp_X4_writeAnswer h hv ht ha hz) (rc_X4 isSt_1) dX5_write_7 (by decide) (Nat.le_of_ble_eq_true rfl) rfl ?_
  refine V_int hww ?_
  refine E_istore4 (q := 12) dX5_write_10 rfl rfl ?_
  refine E_iload4 (q := 14) dX5_write_12 rfl ?_
  refine E_if_ge (tgt := 20) (q := 17) dX5_write_14 (by decide) rfl (fun h14 => ?_) (fun h14 => ?_)
  · skip
    exact absurd hlt (Int32.not_lt.mpr h14)
  · skip
    refine E_iload4 (q := 19) dX5_write_17 rfl ?_
    exact E_ireturn rfl rfl dX5_write_19 (PI_of rfl rfl)
theorem sp_X5_write {v a z : Nat} (h : SI M 1 A) (hH : HistC M H) (hv : v < 6) (ht : th A (16 + v)) (ha : a < 12) (hz : 1 ≤ z ∧ z ≤ 9) (hT : aT A + 1 < 2 ^ 24) (hne : wrI A v a z = 0) : Spec D 10 yX5_write cfX5_write [.ref (ad 0), .int (nI (v)), .int (nI (a)), .int (nI (z))] (wl D ad M) 0 0 (PX (fun x w => x = nI (aT A + 1) ∧ CW D ad M (hpush H A) (mkBlk A v a z) w)) := by
  refine Spec.of (by decide) rfl (Nat.le_of_ble_eq_true rfl) rfl ?_
  have hww : wwI A v a z = nI (aT A + 1) := if_pos hne
  refine E_aload0 (q := 1) dX5_write_0 rfl ?_
  refine G_X5_store (q := 4) fl_X5_12 dX5_write_1 rfl ?_
  refine E_iload1 (q := 5) dX5_write_4 rfl ?_
  refine E_iload2 (q := 6) dX5_write_5 rfl ?_
  refine E_iload3 (q := 7) dX5_write_6 rfl ?_
  refine C_V3I (q := 10) lk_X5_238 (sp_X4_writeAnswer h hv ht ha hz) (rc_X4 isSt_1) dX5_write_7 (by decide) (Nat.le_of_ble_eq_true rfl) rfl ?_
  refine V_int hww ?_
  refine E_istore4 (q := 12) dX5_write_10 rfl rfl ?_
  refine E_iload4 (q := 14) dX5_write_12 rfl ?_
  refine E_if_ge (tgt := 20) (q := 17) dX5_write_14 (by decide) rfl (fun h14 => ?_) (fun h14 => ?_)
  · skip
    refine E_aload0 (q := 21) dX5_write_20 rfl ?_
    refine G_X5_history (q := 24) fl_X5_19 dX5_write_21 rfl ?_
    refine E_aload0 (q := 25) dX5_write_24 rfl ?_
    refine G_X5_store (q := 28) fl_X5_12 dX5_write_25 rfl ?_
    refine C_V1Y (q := 31) lk_X5_244 (sp_X1_keep h hH) rc_X1 dX5_write_28 (by decide) (Nat.le_of_ble_eq_true rfl) rfl ?_
    refine kkEW ?_
    rintro M1 ⟨hb1, hh1, hf1⟩
    refine E_aload0 (q := 32) dX5_write_31 rfl ?_
    refine G_X5_store (q := 35) fl_X5_12 dX5_write_32 rfl ?_
    refine E_iload1 (q := 36) dX5_write_35 rfl ?_
    refine E_iload2 (q := 37) dX5_write_36 rfl ?_
    refine E_iload3 (q := 38) dX5_write_37 rfl ?_
    refine C_V3Y (q := 41) lk_X5_250 (sp_X4_putBlock (h.to' hb1) hv ht ha hz hT) (rc_X4 isSt_1) dX5_write_38 (by decide) (Nat.le_of_ble_eq_true rfl) rfl ?_
    refine kkEW ?_
    rintro M2 ⟨hb2, hk2⟩
    refine E_iload4 (q := 43) dX5_write_41 rfl ?_
    exact E_ireturn rfl rfl dX5_write_43 ⟨_, rfl, rfl, CW.step hh1 hf1 hb2 hk2⟩
  · skip
    exact absurd (nI_ge0 (by omega)) h14
theorem sp_X5_trimV {p q : Int32} (h : SI M 1 A) (hn : ¬ VolA A p) : Spec D 10 yX5_trim cfX5_trim [.ref (ad 0), .int (p), .int (q)] (wl D ad M) 0 0 (PI (-1) (wl D ad M)) := by
  refine Spec.of (by decide) rfl (Nat.le_of_ble_eq_true rfl) rfl ?_
  refine E_aload0 (q := 1) dX5_trim_0 rfl ?_
  refine G_X5_store (q := 4) fl_X5_12 dX5_trim_1 rfl ?_
  refine E_iload1 (q := 5) dX5_trim_4 rfl ?_
  refine C_V1I (q := 8) lk_X5_254 (sp_X4_hasVolume h) (rc_X4 isSt_1) dX5_trim_5 (by decide) (Nat.le_of_ble_eq_true rfl) rfl ?_
  refine E_if_ne (tgt := 13) (q := 11) dX5_trim_8 (by decide) rfl (fun h8 => ?_) (fun h8 => ?_)
  · skip
    exact absurd (zI_n h8) hn
  · skip
    refine E_iconst (v := -1) (q := 12) dX5_trim_11 (by decide) rfl ?_
    exact E_ireturn rfl rfl dX5_trim_12 (PI_of rfl rfl)
theorem sp_X5_trimB {p q : Int32} (h : SI M 1 A) (hp : VolA A p) (hn : ¬ AdrP q) : Spec D 10 yX5_trim cfX5_trim [.ref (ad 0), .int (p), .int (q)] (wl D ad M) 0 0 (PI (-2) (wl D ad M)) := by
  refine Spec.of (by decide) rfl (Nat.le_of_ble_eq_true rfl) rfl ?_
  refine E_aload0 (q := 1) dX5_trim_0 rfl ?_
  refine G_X5_store (q := 4) fl_X5_12 dX5_trim_1 rfl ?_
  refine E_iload1 (q := 5) dX5_trim_4 rfl ?_
  refine C_V1I (q := 8) lk_X5_254 (sp_X4_hasVolume h) (rc_X4 isSt_1) dX5_trim_5 (by decide) (Nat.le_of_ble_eq_true rfl) rfl ?_
  refine E_if_ne (tgt := 13) (q := 11) dX5_trim_8 (by decide) rfl (fun h8 => ?_) (fun h8 => ?_)
  · skip
    refine E_iload2 (q := 14) dX5_trim_13 rfl ?_
    refine C_S1I (q := 17) lk_X5_257 (sp_X5_isAddress) dX5_trim_14 (by decide) (Nat.le_of_ble_eq_true rfl) rfl ?_
    refine E_if_ne (tgt := 23) (q := 20) dX5_trim_17 (by decide) rfl (fun h17 => ?_) (fun h17 => ?_)
    · skip
      exact absurd (zI_n h17) hn
    · skip
      refine E_bipush (v := -2) (q := 22) dX5_trim_20 (by decide) rfl ?_
      exact E_ireturn rfl rfl dX5_trim_22 (PI_of rfl rfl)
  · skip
    exact absurd hp (zI_0 h8)
theorem sp_X5_trimN {v a : Nat} (h : SI M 1 A) (hv : v < 6) (ht : th A (16 + v)) (ha : a < 12) (h0 : bAt A.2 (16 + v) a = 0) : Spec D 10 yX5_trim cfX5_trim [.ref (ad 0), .int (nI (v)), .int (nI (a))] (wl D ad M) 0 0 (PI (-4) (wl D ad M)) := by
  refine Spec.of (by decide) rfl (Nat.le_of_ble_eq_true rfl) rfl ?_
  have hno : ∀ x, x ∈ A.2 → ¬ atWA (16 + v) a x := by
    rcases at_cases A.2 (16 + v) a with ⟨_, hno⟩ | ⟨j, x, hf, hx⟩
    · exact hno
    · exact absurd h0 (h.2.2.2.2.bpos hx)
  refine E_aload0 (q := 1) dX5_trim_0 rfl ?_
  refine G_X5_store (q := 4) fl_X5_12 dX5_trim_1 rfl ?_
  refine E_iload1 (q := 5) dX5_trim_4 rfl ?_
  refine C_V1I (q := 8) lk_X5_254 (sp_X4_hasVolume h) (rc_X4 isSt_1) dX5_trim_5 (by decide) (Nat.le_of_ble_eq_true rfl) rfl ?_
  refine E_if_ne (tgt := 13) (q := 11) dX5_trim_8 (by decide) rfl (fun h8 => ?_) (fun h8 => ?_)
  · skip
    refine E_iload2 (q := 14) dX5_trim_13 rfl ?_
    refine C_S1I (q := 17) lk_X5_257 (sp_X5_isAddress) dX5_trim_14 (by decide) (Nat.le_of_ble_eq_true rfl) rfl ?_
    refine E_if_ne (tgt := 23) (q := 20) dX5_trim_17 (by decide) rfl (fun h17 => ?_) (fun h17 => ?_)
    · skip
      refine E_aload0 (q := 24) dX5_trim_23 rfl ?_
      refine G_X5_store (q := 27) fl_X5_12 dX5_trim_24 rfl ?_
      refine G_X4_blocks (q := 30) isSt_1 fl_X5_95 dX5_trim_27 rfl ?_
      refine E_bipush (v := nI 16) (q := 32) dX5_trim_30 (by decide) rfl ?_
      refine E_iload1 (q := 33) dX5_trim_32 rfl ?_
      refine E_iaddN (q := 34) dX5_trim_33 rfl ?_
      refine E_iload2 (q := 35) dX5_trim_34 rfl ?_
      refine C_V2I (q := 38) lk_X5_99 (sp_X0_indexAtN h.1.blocks h.bi h.bw (by omega) (by omega) hno) (rc_X0 isSt_1.blocks) dX5_trim_35 (by decide) (Nat.le_of_ble_eq_true rfl) rfl ?_
      refine E_iconst (v := -1) (q := 39) dX5_trim_38 (by decide) rfl ?_
      refine E_icmp_ne (tgt := 45) (q := 42) dX5_trim_39 (by decide) rfl (fun h39 => ?_) (fun h39 => ?_)
      · first | exact absurd h39 (by decide) | exact absurd (by decide) h39
      · skip
        refine E_bipush (v := -4) (q := 44) dX5_trim_42 (by decide) rfl ?_
        exact E_ireturn rfl rfl dX5_trim_44 (PI_of rfl rfl)
    · skip
      exact absurd ⟨a, ha, rfl⟩ (zI_0 h17)
  · skip
    exact absurd ((VolA_nI (by omega)).mpr ⟨hv, ht⟩) (zI_0 h8)
theorem sp_X5_trim {v a : Nat} (h : SI M 1 A) (hH : HistC M H) (hv : v < 6) (ht : th A (16 + v)) (ha : a < 12) (h0 : bAt A.2 (16 + v) a ≠ 0) : Spec D 10 yX5_trim cfX5_trim [.ref (ad 0), .int (nI (v)), .int (nI (a))] (wl D ad M) 0 0 (PX (fun x w => x = nI (gone A (trmA A v a)) ∧ CW D ad M (hpush H A) (trmA A v a) w)) := by
  refine Spec.of (by decide) rfl (Nat.le_of_ble_eq_true rfl) rfl ?_
  rcases at_cases A.2 (16 + v) a with ⟨hx, _⟩ | ⟨j, x, hf, hx⟩
  · exact absurd (bAt_none hx).1 h0
  have hj := (List.getElem?_eq_some_iff.mp hf.1).1
  have hjl := h.bw.1
  refine E_aload0 (q := 1) dX5_trim_0 rfl ?_
  refine G_X5_store (q := 4) fl_X5_12 dX5_trim_1 rfl ?_
  refine E_iload1 (q := 5) dX5_trim_4 rfl ?_
  refine C_V1I (q := 8) lk_X5_254 (sp_X4_hasVolume h) (rc_X4 isSt_1) dX5_trim_5 (by decide) (Nat.le_of_ble_eq_true rfl) rfl ?_
  refine E_if_ne (tgt := 13) (q := 11) dX5_trim_8 (by decide) rfl (fun h8 => ?_) (fun h8 => ?_)
  · skip
    refine E_iload2 (q := 14) dX5_trim_13 rfl ?_
    refine C_S1I (q := 17) lk_X5_257 (sp_X5_isAddress) dX5_trim_14 (by decide) (Nat.le_of_ble_eq_true rfl) rfl ?_
    refine E_if_ne (tgt := 23) (q := 20) dX5_trim_17 (by decide) rfl (fun h17 => ?_) (fun h17 => ?_)
    · skip
      refine E_aload0 (q := 24) dX5_trim_23 rfl ?_
      refine G_X5_store (q := 27) fl_X5_12 dX5_trim_24 rfl ?_
      refine G_X4_blocks (q := 30) isSt_1 fl_X5_95 dX5_trim_27 rfl ?_
      refine E_bipush (v := nI 16) (q := 32) dX5_trim_30 (by decide) rfl ?_
      refine E_iload1 (q := 33) dX5_trim_32 rfl ?_
      refine E_iaddN (q := 34) dX5_trim_33 rfl ?_
      refine E_iload2 (q := 35) dX5_trim_34 rfl ?_
      refine C_V2I (q := 38) lk_X5_99 (sp_X0_indexAtS h.1.blocks h.bi h.bw (by omega) (by omega) hf) (rc_X0 isSt_1.blocks) dX5_trim_35 (by decide) (Nat.le_of_ble_eq_true rfl) rfl ?_
      refine E_iconst (v := -1) (q := 39) dX5_trim_38 (by decide) rfl ?_
      refine E_icmp_ne (tgt := 45) (q := 42) dX5_trim_39 (by decide) rfl (fun h39 => ?_) (fun h39 => ?_)
      · skip
        refine E_aload0 (q := 46) dX5_trim_45 rfl ?_
        refine G_X5_history (q := 49) fl_X5_19 dX5_trim_46 rfl ?_
        refine E_aload0 (q := 50) dX5_trim_49 rfl ?_
        refine G_X5_store (q := 53) fl_X5_12 dX5_trim_50 rfl ?_
        refine C_V1Y (q := 56) lk_X5_244 (sp_X1_keep h hH) rc_X1 dX5_trim_53 (by decide) (Nat.le_of_ble_eq_true rfl) rfl ?_
        refine kkEW ?_
        rintro M1 ⟨hb1, hh1, hf1⟩
        refine E_aload0 (q := 57) dX5_trim_56 rfl ?_
        refine G_X5_store (q := 60) fl_X5_12 dX5_trim_57 rfl ?_
        refine G_X4_blocks (q := 63) isSt_1 fl_X5_95 dX5_trim_60 rfl ?_
        refine E_bipush (v := nI 16) (q := 65) dX5_trim_63 (by decide) rfl ?_
        refine E_iload1 (q := 66) dX5_trim_65 rfl ?_
        refine E_iaddN (q := 67) dX5_trim_66 rfl ?_
        refine E_iload2 (q := 68) dX5_trim_67 rfl ?_
        refine C_V2X (q := 71) lk_X5_260 (sp_X0_releaseAt isSt_1.blocks (h.to' hb1).bi h.2.2 (by omega) (by omega)) (rc_X0 isSt_1.blocks) dX5_trim_68 (by decide) (Nat.le_of_ble_eq_true rfl) rfl ?_
        refine kkEI ?_
        rintro M2 ⟨hb2, hk2⟩
        exact E_ireturn rfl rfl dX5_trim_71 ⟨_, rfl, (congrArg nI gone_trm), CW.step hh1 hf1 (hb1.trm (fun c c1 c2 => hk2 c (by omega)) hb2) (fun c hc => hk2 c (by omega))⟩
      · skip
        exact absurd h39 (nI_nm1 (by omega))
    · skip
      exact absurd ⟨a, ha, rfl⟩ (zI_0 h17)
  · skip
    exact absurd ((VolA_nI (by omega)).mpr ⟨hv, ht⟩) (zI_0 h8)
theorem sp_X5_takeV {p : Int32} (h : SI M 1 A) (hn : ¬ VolA A p) : Spec D 10 yX5_take cfX5_take [.ref (ad 0), .int (p)] (wl D ad M) 0 0 (PI (-1) (wl D ad M)) := by
  refine Spec.of (by decide) rfl (Nat.le_of_ble_eq_true rfl) rfl ?_
  refine E_aload0 (q := 1) dX5_take_0 rfl ?_
  refine G_X5_store (q := 4) fl_X5_12 dX5_take_1 rfl ?_
  refine E_iload1 (q := 5) dX5_take_4 rfl ?_
  refine C_V1I (q := 8) lk_X5_254 (sp_X4_hasVolume h) (rc_X4 isSt_1) dX5_take_5 (by decide) (Nat.le_of_ble_eq_true rfl) rfl ?_
  refine E_if_ne (tgt := 13) (q := 11) dX5_take_8 (by decide) rfl (fun h8 => ?_) (fun h8 => ?_)
  · skip
    exact absurd (zI_n h8) hn
  · skip
    refine E_iconst (v := -1) (q := 12) dX5_take_11 (by decide) rfl ?_
    exact E_ireturn rfl rfl dX5_take_12 (PI_of rfl rfl)
theorem sp_X5_takeF {p : Int32} (h : SI M 1 A) (hp : VolA A p) (hs : aS A = 16) : Spec D 10 yX5_take cfX5_take [.ref (ad 0), .int (p)] (wl D ad M) 0 0 (PI (-3) (wl D ad M)) := by
  refine Spec.of (by decide) rfl (Nat.le_of_ble_eq_true rfl) rfl ?_
  refine E_aload0 (q := 1) dX5_take_0 rfl ?_
  refine G_X5_store (q := 4) fl_X5_12 dX5_take_1 rfl ?_
  refine E_iload1 (q := 5) dX5_take_4 rfl ?_
  refine C_V1I (q := 8) lk_X5_254 (sp_X4_hasVolume h) (rc_X4 isSt_1) dX5_take_5 (by decide) (Nat.le_of_ble_eq_true rfl) rfl ?_
  refine E_if_ne (tgt := 13) (q := 11) dX5_take_8 (by decide) rfl (fun h8 => ?_) (fun h8 => ?_)
  · skip
    refine E_aload0 (q := 14) dX5_take_13 rfl ?_
    refine G_X5_store (q := 17) fl_X5_12 dX5_take_14 rfl ?_
    refine G_X4_snapshotsCome (q := 20) isSt_1 fl_X5_119 dX5_take_17 rfl ?_
    refine V_int (h.2.1.1.2.2.1.trans (congrArg nI hs)) ?_
    refine E_bipush (v := nI 16) (q := 22) dX5_take_20 (by decide) rfl ?_
    refine E_icmp_ltN (tgt := 28) (q := 25) dX5_take_22 (by decide) rfl (by omega) (by omega) (fun h22 => ?_) (fun h22 => ?_)
    · first | exact absurd h22 (by decide) | exact absurd (by decide) h22
    · skip
      refine E_bipush (v := -3) (q := 27) dX5_take_25 (by decide) rfl ?_
      exact E_ireturn rfl rfl dX5_take_27 (PI_of rfl rfl)
  · skip
    exact absurd hp (zI_0 h8)
theorem sp_X5_take {v : Nat} (h : SI M 1 A) (hH : HistC M H) (hv : v < 6) (ht : th A (16 + v)) (hs16 : aS A < 16) : Spec D 10 yX5_take cfX5_take [.ref (ad 0), .int (nI (v))] (wl D ad M) 0 0 (PX (fun x w => x = nI (aS A) ∧ CW D ad M (hpush H A) (mkSnp A v 0) w)) := by
  refine Spec.of (by decide) rfl (Nat.le_of_ble_eq_true rfl) rfl ?_
  refine E_aload0 (q := 1) dX5_take_0 rfl ?_
  refine G_X5_store (q := 4) fl_X5_12 dX5_take_1 rfl ?_
  refine E_iload1 (q := 5) dX5_take_4 rfl ?_
  refine C_V1I (q := 8) lk_X5_254 (sp_X4_hasVolume h) (rc_X4 isSt_1) dX5_take_5 (by decide) (Nat.le_of_ble_eq_true rfl) rfl ?_
  refine E_if_ne (tgt := 13) (q := 11) dX5_take_8 (by decide) rfl (fun h8 => ?_) (fun h8 => ?_)
  · skip
    refine E_aload0 (q := 14) dX5_take_13 rfl ?_
    refine G_X5_store (q := 17) fl_X5_12 dX5_take_14 rfl ?_
    refine G_X4_snapshotsCome (q := 20) isSt_1 fl_X5_119 dX5_take_17 rfl ?_
    refine V_int h.2.1.1.2.2.1 ?_
    refine E_bipush (v := nI 16) (q := 22) dX5_take_20 (by decide) rfl ?_
    refine E_icmp_ltN (tgt := 28) (q := 25) dX5_take_22 (by decide) rfl (by omega) (by omega) (fun h22 => ?_) (fun h22 => ?_)
    · skip
      refine E_aload0 (q := 29) dX5_take_28 rfl ?_
      refine G_X5_history (q := 32) fl_X5_19 dX5_take_29 rfl ?_
      refine E_aload0 (q := 33) dX5_take_32 rfl ?_
      refine G_X5_store (q := 36) fl_X5_12 dX5_take_33 rfl ?_
      refine C_V1Y (q := 39) lk_X5_244 (sp_X1_keep h hH) rc_X1 dX5_take_36 (by decide) (Nat.le_of_ble_eq_true rfl) rfl ?_
      refine kkEW ?_
      rintro M1 ⟨hb1, hh1, hf1⟩
      refine E_aload0 (q := 40) dX5_take_39 rfl ?_
      refine G_X5_store (q := 43) fl_X5_12 dX5_take_40 rfl ?_
      refine E_iconst (v := nI 0) (q := 44) dX5_take_43 (by decide) rfl ?_
      refine E_iload1 (q := 45) dX5_take_44 rfl ?_
      refine C_V2X (q := 48) lk_X5_263 (sp_X4_addSnapshot (h.to' hb1) hs16 hv) (rc_X4 isSt_1) dX5_take_45 (by decide) (Nat.le_of_ble_eq_true rfl) rfl ?_
      refine kkEI ?_
      rintro M2 ⟨hb2, hk2⟩
      exact E_ireturn rfl rfl dX5_take_48 ⟨_, rfl, rfl, CW.step hh1 hf1 hb2 hk2⟩
    · skip
      omega
  · skip
    exact absurd ((VolA_nI (by omega)).mpr ⟨hv, ht⟩) (zI_0 h8)
theorem sp_X5_cloneS {p : Int32} (h : SI M 1 A) (hn : ¬ SnpA A p) : Spec D 10 yX5_clone cfX5_clone [.ref (ad 0), .int (p)] (wl D ad M) 0 0 (PI (-1) (wl D ad M)) := by
  refine Spec.of (by decide) rfl (Nat.le_of_ble_eq_true rfl) rfl ?_
  refine E_aload0 (q := 1) dX5_clone_0 rfl ?_
  refine G_X5_store (q := 4) fl_X5_12 dX5_clone_1 rfl ?_
  refine E_iload1 (q := 5) dX5_clone_4 rfl ?_
  refine C_V1I (q := 8) lk_X5_266 (sp_X4_hasSnapshot h) (rc_X4 isSt_1) dX5_clone_5 (by decide) (Nat.le_of_ble_eq_true rfl) rfl ?_
  refine E_if_ne (tgt := 13) (q := 11) dX5_clone_8 (by decide) rfl (fun h8 => ?_) (fun h8 => ?_)
  · skip
    exact absurd (zI_n h8) hn
  · skip
    refine E_iconst (v := -1) (q := 12) dX5_clone_11 (by decide) rfl ?_
    exact E_ireturn rfl rfl dX5_clone_12 (PI_of rfl rfl)
theorem sp_X5_cloneF {p : Int32} (h : SI M 1 A) (hp : SnpA A p) (hv : aV A = 6) : Spec D 10 yX5_clone cfX5_clone [.ref (ad 0), .int (p)] (wl D ad M) 0 0 (PI (-3) (wl D ad M)) := by
  refine Spec.of (by decide) rfl (Nat.le_of_ble_eq_true rfl) rfl ?_
  refine E_aload0 (q := 1) dX5_clone_0 rfl ?_
  refine G_X5_store (q := 4) fl_X5_12 dX5_clone_1 rfl ?_
  refine E_iload1 (q := 5) dX5_clone_4 rfl ?_
  refine C_V1I (q := 8) lk_X5_266 (sp_X4_hasSnapshot h) (rc_X4 isSt_1) dX5_clone_5 (by decide) (Nat.le_of_ble_eq_true rfl) rfl ?_
  refine E_if_ne (tgt := 13) (q := 11) dX5_clone_8 (by decide) rfl (fun h8 => ?_) (fun h8 => ?_)
  · skip
    refine E_aload0 (q := 14) dX5_clone_13 rfl ?_
    refine G_X5_store (q := 17) fl_X5_12 dX5_clone_14 rfl ?_
    refine G_X4_volumesCome (q := 20) isSt_1 fl_X5_116 dX5_clone_17 rfl ?_
    refine V_int (h.2.1.1.2.1.trans (congrArg nI hv)) ?_
    refine E_bipush (v := nI 6) (q := 22) dX5_clone_20 (by decide) rfl ?_
    refine E_icmp_ltN (tgt := 28) (q := 25) dX5_clone_22 (by decide) rfl (by omega) (by omega) (fun h22 => ?_) (fun h22 => ?_)
    · first | exact absurd h22 (by decide) | exact absurd (by decide) h22
    · skip
      refine E_bipush (v := -3) (q := 27) dX5_clone_25 (by decide) rfl ?_
      exact E_ireturn rfl rfl dX5_clone_27 (PI_of rfl rfl)
  · skip
    exact absurd hp (zI_0 h8)
theorem sp_X5_cloneN {s : Nat} (h : SI M 1 A) (hs16 : s < 16) (ht : th A s) (hv : aV A < 6) (hc : aC A ≤ popN (clo A s)) : Spec D 10 yX5_clone cfX5_clone [.ref (ad 0), .int (nI (s))] (wl D ad M) 0 0 (PI (-4) (wl D ad M)) := by
  refine Spec.of (by decide) rfl (Nat.le_of_ble_eq_true rfl) rfl ?_
  refine E_aload0 (q := 1) dX5_clone_0 rfl ?_
  refine G_X5_store (q := 4) fl_X5_12 dX5_clone_1 rfl ?_
  refine E_iload1 (q := 5) dX5_clone_4 rfl ?_
  refine C_V1I (q := 8) lk_X5_266 (sp_X4_hasSnapshot h) (rc_X4 isSt_1) dX5_clone_5 (by decide) (Nat.le_of_ble_eq_true rfl) rfl ?_
  refine E_if_ne (tgt := 13) (q := 11) dX5_clone_8 (by decide) rfl (fun h8 => ?_) (fun h8 => ?_)
  · skip
    refine E_aload0 (q := 14) dX5_clone_13 rfl ?_
    refine G_X5_store (q := 17) fl_X5_12 dX5_clone_14 rfl ?_
    refine G_X4_volumesCome (q := 20) isSt_1 fl_X5_116 dX5_clone_17 rfl ?_
    refine V_int h.2.1.1.2.1 ?_
    refine E_bipush (v := nI 6) (q := 22) dX5_clone_20 (by decide) rfl ?_
    refine E_icmp_ltN (tgt := 28) (q := 25) dX5_clone_22 (by decide) rfl (by omega) (by omega) (fun h22 => ?_) (fun h22 => ?_)
    · skip
      refine E_aload0 (q := 29) dX5_clone_28 rfl ?_
      refine G_X5_store (q := 32) fl_X5_12 dX5_clone_29 rfl ?_
      refine E_iload1 (q := 33) dX5_clone_32 rfl ?_
      refine C_V1I (q := 36) lk_X5_269 (sp_X4_canBeCloned h hs16) (rc_X4 isSt_1) dX5_clone_33 (by decide) (Nat.le_of_ble_eq_true rfl) rfl ?_
      refine E_if_ne (tgt := 42) (q := 39) dX5_clone_36 (by decide) rfl (fun h36 => ?_) (fun h36 => ?_)
      · skip
        exact absurd (zI_n h36) (by omega)
      · skip
        refine E_bipush (v := -4) (q := 41) dX5_clone_39 (by decide) rfl ?_
        exact E_ireturn rfl rfl dX5_clone_41 (PI_of rfl rfl)
    · skip
      omega
  · skip
    exact absurd ((SnpA_nI (by omega)).mpr ⟨hs16, ht⟩) (zI_0 h8)
theorem sp_X5_clone {s : Nat} (h : SI M 1 A) (hH : HistC M H) (hs16 : s < 16) (ht : th A s) (hv : aV A < 6) (hc : popN (clo A s) < aC A) : Spec D 10 yX5_clone cfX5_clone [.ref (ad 0), .int (nI (s))] (wl D ad M) 0 0 (PX (fun x w => x = nI (aV A) ∧ CW D ad M (hpush H A) (mkVol A (s + 1) 0) w)) := by
  refine Spec.of (by decide) rfl (Nat.le_of_ble_eq_true rfl) rfl ?_
  refine E_aload0 (q := 1) dX5_clone_0 rfl ?_
  refine G_X5_store (q := 4) fl_X5_12 dX5_clone_1 rfl ?_
  refine E_iload1 (q := 5) dX5_clone_4 rfl ?_
  refine C_V1I (q := 8) lk_X5_266 (sp_X4_hasSnapshot h) (rc_X4 isSt_1) dX5_clone_5 (by decide) (Nat.le_of_ble_eq_true rfl) rfl ?_
  refine E_if_ne (tgt := 13) (q := 11) dX5_clone_8 (by decide) rfl (fun h8 => ?_) (fun h8 => ?_)
  · skip
    refine E_aload0 (q := 14) dX5_clone_13 rfl ?_
    refine G_X5_store (q := 17) fl_X5_12 dX5_clone_14 rfl ?_
    refine G_X4_volumesCome (q := 20) isSt_1 fl_X5_116 dX5_clone_17 rfl ?_
    refine V_int h.2.1.1.2.1 ?_
    refine E_bipush (v := nI 6) (q := 22) dX5_clone_20 (by decide) rfl ?_
    refine E_icmp_ltN (tgt := 28) (q := 25) dX5_clone_22 (by decide) rfl (by omega) (by omega) (fun h22 => ?_) (fun h22 => ?_)
    · skip
      refine E_aload0 (q := 29) dX5_clone_28 rfl ?_
      refine G_X5_store (q := 32) fl_X5_12 dX5_clone_29 rfl ?_
      refine E_iload1 (q := 33) dX5_clone_32 rfl ?_
      refine C_V1I (q := 36) lk_X5_269 (sp_X4_canBeCloned h hs16) (rc_X4 isSt_1) dX5_clone_33 (by decide) (Nat.le_of_ble_eq_true rfl) rfl ?_
      refine E_if_ne (tgt := 42) (q := 39) dX5_clone_36 (by decide) rfl (fun h36 => ?_) (fun h36 => ?_)
      · skip
        refine E_aload0 (q := 43) dX5_clone_42 rfl ?_
        refine G_X5_history (q := 46) fl_X5_19 dX5_clone_43 rfl ?_
        refine E_aload0 (q := 47) dX5_clone_46 rfl ?_
        refine G_X5_store (q := 50) fl_X5_12 dX5_clone_47 rfl ?_
        refine C_V1Y (q := 53) lk_X5_244 (sp_X1_keep h hH) rc_X1 dX5_clone_50 (by decide) (Nat.le_of_ble_eq_true rfl) rfl ?_
        refine kkEW ?_
        rintro M1 ⟨hb1, hh1, hf1⟩
        refine E_aload0 (q := 54) dX5_clone_53 rfl ?_
        refine G_X5_store (q := 57) fl_X5_12 dX5_clone_54 rfl ?_
        refine E_iconst (v := nI 0) (q := 58) dX5_clone_57 (by decide) rfl ?_
        refine E_iload1 (q := 59) dX5_clone_58 rfl ?_
        refine C_V2X (q := 62) lk_X5_247 (sp_X4_addVolumeS (h.to' hb1) hv hs16) (rc_X4 isSt_1) dX5_clone_59 (by decide) (Nat.le_of_ble_eq_true rfl) rfl ?_
        refine kkEI ?_
        rintro M2 ⟨hb2, hk2⟩
        exact E_ireturn rfl rfl dX5_clone_62 ⟨_, rfl, rfl, CW.step hh1 hf1 hb2 hk2⟩
      · skip
        exact absurd hc (zI_0 h36)
    · skip
      omega
  · skip
    exact absurd ((SnpA_nI (by omega)).mpr ⟨hs16, ht⟩) (zI_0 h8)
theorem sp_X5_promoteV {p : Int32} (h : SI M 1 A) (hn : ¬ VolA A p) : Spec D 10 yX5_promote cfX5_promote [.ref (ad 0), .int (p)] (wl D ad M) 0 0 (PI (-1) (wl D ad M)) := by
  refine Spec.of (by decide) rfl (Nat.le_of_ble_eq_true rfl) rfl ?_
  refine E_aload0 (q := 1) dX5_promote_0 rfl ?_
  refine G_X5_store (q := 4) fl_X5_12 dX5_promote_1 rfl ?_
  refine E_iload1 (q := 5) dX5_promote_4 rfl ?_
  refine C_V1I (q := 8) lk_X5_254 (sp_X4_hasVolume h) (rc_X4 isSt_1) dX5_promote_5 (by decide) (Nat.le_of_ble_eq_true rfl) rfl ?_
  refine E_if_ne (tgt := 13) (q := 11) dX5_promote_8 (by decide) rfl (fun h8 => ?_) (fun h8 => ?_)
  · skip
    exact absurd (zI_n h8) hn
  · skip
    refine E_iconst (v := -1) (q := 12) dX5_promote_11 (by decide) rfl ?_
    exact E_ireturn rfl rfl dX5_promote_12 (PI_of rfl rfl)
theorem sp_X5_promoteN {v : Nat} (h : SI M 1 A) (hv : v < 6) (ht : th A (16 + v)) (ho : org A v = 0) : Spec D 10 yX5_promote cfX5_promote [.ref (ad 0), .int (nI (v))] (wl D ad M) 0 0 (PI (-4) (wl D ad M)) := by
  refine Spec.of (by decide) rfl (Nat.le_of_ble_eq_true rfl) rfl ?_
  refine E_aload0 (q := 1) dX5_promote_0 rfl ?_
  refine G_X5_store (q := 4) fl_X5_12 dX5_promote_1 rfl ?_
  refine E_iload1 (q := 5) dX5_promote_4 rfl ?_
  refine C_V1I (q := 8) lk_X5_254 (sp_X4_hasVolume h) (rc_X4 isSt_1) dX5_promote_5 (by decide) (Nat.le_of_ble_eq_true rfl) rfl ?_
  refine E_if_ne (tgt := 13) (q := 11) dX5_promote_8 (by decide) rfl (fun h8 => ?_) (fun h8 => ?_)
  · skip
    refine E_aload0 (q := 14) dX5_promote_13 rfl ?_
    refine G_X5_store (q := 17) fl_X5_12 dX5_promote_14 rfl ?_
    refine G_X4_origins (q := 20) isSt_1 fl_X5_155 dX5_promote_17 rfl ?_
    refine E_iload1 (q := 21) dX5_promote_20 rfl ?_
    refine E_ialdN (q := 22) isSt_1.origins (by omega) (by decide) dX5_promote_21 rfl ?_
    refine V_int (show _ = (-1 : Int32) by rw [(h.2.1.2.2.2.1 v hv ht).2.1, ho, oI_0]) ?_
    refine E_iconst (v := -1) (q := 23) dX5_promote_22 (by decide) rfl ?_
    refine E_icmp_ne (tgt := 29) (q := 26) dX5_promote_23 (by decide) rfl (fun h23 => ?_) (fun h23 => ?_)
    · first | exact absurd h23 (by decide) | exact absurd (by decide) h23
    · skip
      refine E_bipush (v := -4) (q := 28) dX5_promote_26 (by decide) rfl ?_
      exact E_ireturn rfl rfl dX5_promote_28 (PI_of rfl rfl)
  · skip
    exact absurd ((VolA_nI (by omega)).mpr ⟨hv, ht⟩) (zI_0 h8)
theorem sp_X5_promote {v s : Nat} (h : SI M 1 A) (hH : HistC M H) (hv : v < 6) (ht : th A (16 + v)) (ho : org A v = s + 1) : Spec D 10 yX5_promote cfX5_promote [.ref (ad 0), .int (nI (v))] (wl D ad M) 0 0 (PX (fun x w => x = nI (plc A s + 1) ∧ CW D ad M (hpush H A) (proA A v) w)) := by
  refine Spec.of (by decide) rfl (Nat.le_of_ble_eq_true rfl) rfl ?_
  have hs16 := (pro_ne h.2.2 hv ht ho).2.1
  refine E_aload0 (q := 1) dX5_promote_0 rfl ?_
  refine G_X5_store (q := 4) fl_X5_12 dX5_promote_1 rfl ?_
  refine E_iload1 (q := 5) dX5_promote_4 rfl ?_
  refine C_V1I (q := 8) lk_X5_254 (sp_X4_hasVolume h) (rc_X4 isSt_1) dX5_promote_5 (by decide) (Nat.le_of_ble_eq_true rfl) rfl ?_
  refine E_if_ne (tgt := 13) (q := 11) dX5_promote_8 (by decide) rfl (fun h8 => ?_) (fun h8 => ?_)
  · skip
    refine E_aload0 (q := 14) dX5_promote_13 rfl ?_
    refine G_X5_store (q := 17) fl_X5_12 dX5_promote_14 rfl ?_
    refine G_X4_origins (q := 20) isSt_1 fl_X5_155 dX5_promote_17 rfl ?_
    refine E_iload1 (q := 21) dX5_promote_20 rfl ?_
    refine E_ialdN (q := 22) isSt_1.origins (by omega) (by decide) dX5_promote_21 rfl ?_
    refine V_int (show _ = nI s by rw [(h.2.1.2.2.2.1 v hv ht).2.1, ho, oI_s]) ?_
    refine E_iconst (v := -1) (q := 23) dX5_promote_22 (by decide) rfl ?_
    refine E_icmp_ne (tgt := 29) (q := 26) dX5_promote_23 (by decide) rfl (fun h23 => ?_) (fun h23 => ?_)
    · skip
      refine E_aload0 (q := 30) dX5_promote_29 rfl ?_
      refine G_X5_history (q := 33) fl_X5_19 dX5_promote_30 rfl ?_
      refine E_aload0 (q := 34) dX5_promote_33 rfl ?_
      refine G_X5_store (q := 37) fl_X5_12 dX5_promote_34 rfl ?_
      refine C_V1Y (q := 40) lk_X5_244 (sp_X1_keep h hH) rc_X1 dX5_promote_37 (by decide) (Nat.le_of_ble_eq_true rfl) rfl ?_
      refine kkEW ?_
      rintro M1 ⟨hb1, hh1, hf1⟩
      refine E_aload0 (q := 41) dX5_promote_40 rfl ?_
      refine G_X5_store (q := 44) fl_X5_12 dX5_promote_41 rfl ?_
      refine E_iload1 (q := 45) dX5_promote_44 rfl ?_
      refine C_V1X (q := 48) lk_X5_272 (sp_X4_moveOriginInto (h.to' hb1) hv ht ho) (rc_X4 isSt_1) dX5_promote_45 (by decide) (Nat.le_of_ble_eq_true rfl) rfl ?_
      refine kkEI ?_
      rintro M2 ⟨hb2, hk2⟩
      exact E_ireturn rfl rfl dX5_promote_48 ⟨_, rfl, rfl, CW.step hh1 hf1 hb2 hk2⟩
    · skip
      exact absurd h23 (nI_nm1 (by omega))
  · skip
    exact absurd ((VolA_nI (by omega)).mpr ⟨hv, ht⟩) (zI_0 h8)
theorem sp_X5_destroyOrRefuseN {m vs : Nat} (h : SI M 1 A) (hm : m < 2 ^ 31) (hy : ¬ ∀ s, s < 16 → m.testBit s = true → whyN A s = 0) : Spec D 8 yX5_destroyOrRefuse cfX5_destroyOrRefuse [.ref (ad 0), .int (nI (m)), .int (nI (vs))] (wl D ad M) 0 0 (PI (-4) (wl D ad M)) := by
  refine Spec.of (by decide) rfl (Nat.le_of_ble_eq_true rfl) rfl ?_
  refine E_aload0 (q := 1) dX5_destroyOrRefuse_0 rfl ?_
  refine G_X5_store (q := 4) fl_X5_12 dX5_destroyOrRefuse_1 rfl ?_
  refine E_iload1 (q := 5) dX5_destroyOrRefuse_4 rfl ?_
  refine C_V1I (q := 8) lk_X5_281 (sp_X4_canDestroyAll h hm) (rc_X4 isSt_1) dX5_destroyOrRefuse_5 (by decide) (Nat.le_of_ble_eq_true rfl) rfl ?_
  refine E_if_ne (tgt := 14) (q := 11) dX5_destroyOrRefuse_8 (by decide) rfl (fun h8 => ?_) (fun h8 => ?_)
  · skip
    exact absurd (zI_n h8) hy
  · skip
    refine E_bipush (v := -4) (q := 13) dX5_destroyOrRefuse_11 (by decide) rfl ?_
    exact E_ireturn rfl rfl dX5_destroyOrRefuse_13 (PI_of rfl rfl)
theorem sp_X5_destroyOrRefuse {m vs : Nat} (h : SI M 1 A) (hH : HistC M H) (hm : m < 2 ^ 31) (hvs : vs < 2 ^ 32) (hy : ∀ s, s < 16 → m.testBit s = true → whyN A s = 0) : Spec D 8 yX5_destroyOrRefuse cfX5_destroyOrRefuse [.ref (ad 0), .int (nI (m)), .int (nI (vs))] (wl D ad M) 0 0 (PX (fun x w => x = nI (gone A (remA A vs)) ∧ CW D ad M (hpush H A) (remA A vs) w)) := by
  refine Spec.of (by decide) rfl (Nat.le_of_ble_eq_true rfl) rfl ?_
  refine E_aload0 (q := 1) dX5_destroyOrRefuse_0 rfl ?_
  refine G_X5_store (q := 4) fl_X5_12 dX5_destroyOrRefuse_1 rfl ?_
  refine E_iload1 (q := 5) dX5_destroyOrRefuse_4 rfl ?_
  refine C_V1I (q := 8) lk_X5_281 (sp_X4_canDestroyAll h hm) (rc_X4 isSt_1) dX5_destroyOrRefuse_5 (by decide) (Nat.le_of_ble_eq_true rfl) rfl ?_
  refine E_if_ne (tgt := 14) (q := 11) dX5_destroyOrRefuse_8 (by decide) rfl (fun h8 => ?_) (fun h8 => ?_)
  · skip
    refine E_aload0 (q := 15) dX5_destroyOrRefuse_14 rfl ?_
    refine G_X5_history (q := 18) fl_X5_19 dX5_destroyOrRefuse_15 rfl ?_
    refine E_aload0 (q := 19) dX5_destroyOrRefuse_18 rfl ?_
    refine G_X5_store (q := 22) fl_X5_12 dX5_destroyOrRefuse_19 rfl ?_
    refine C_V1Y (q := 25) lk_X5_244 (sp_X1_keep h hH) rc_X1 dX5_destroyOrRefuse_22 (by decide) (Nat.le_of_ble_eq_true rfl) rfl ?_
    refine kkEW ?_
    rintro M1 ⟨hb1, hh1, hf1⟩
    refine E_aload0 (q := 26) dX5_destroyOrRefuse_25 rfl ?_
    refine G_X5_store (q := 29) fl_X5_12 dX5_destroyOrRefuse_26 rfl ?_
    refine E_iload2 (q := 30) dX5_destroyOrRefuse_29 rfl ?_
    refine C_V1X (q := 33) lk_X5_312 (sp_X4_remove (h.to' hb1) hvs) (rc_X4 isSt_1) dX5_destroyOrRefuse_30 (by decide) (Nat.le_of_ble_eq_true rfl) rfl ?_
    refine kkEI ?_
    rintro M2 ⟨hb2, hk2⟩
    exact E_ireturn rfl rfl dX5_destroyOrRefuse_33 ⟨_, rfl, (congrArg nI gone_rem), CW.step hh1 hf1 hb2 hk2⟩
  · skip
    exact absurd hy (zI_0 h8)
theorem sp_X5_destroyS {p : Int32} (h : SI M 1 A) (hn : ¬ SnpA A p) : Spec D 10 yX5_destroy cfX5_destroy [.ref (ad 0), .int (p)] (wl D ad M) 0 0 (PI (-1) (wl D ad M)) := by
  refine Spec.of (by decide) rfl (Nat.le_of_ble_eq_true rfl) rfl ?_
  refine E_aload0 (q := 1) dX5_destroy_0 rfl ?_
  refine G_X5_store (q := 4) fl_X5_12 dX5_destroy_1 rfl ?_
  refine E_iload1 (q := 5) dX5_destroy_4 rfl ?_
  refine C_V1I (q := 8) lk_X5_266 (sp_X4_hasSnapshot h) (rc_X4 isSt_1) dX5_destroy_5 (by decide) (Nat.le_of_ble_eq_true rfl) rfl ?_
  refine E_if_ne (tgt := 13) (q := 11) dX5_destroy_8 (by decide) rfl (fun h8 => ?_) (fun h8 => ?_)
  · skip
    exact absurd (zI_n h8) hn
  · skip
    refine E_iconst (v := -1) (q := 12) dX5_destroy_11 (by decide) rfl ?_
    exact E_ireturn rfl rfl dX5_destroy_12 (PI_of rfl rfl)
theorem sp_X5_destroyN {s : Nat} (h : SI M 1 A) (hs16 : s < 16) (ht : th A s) (hy : whyN A s ≠ 0) : Spec D 10 yX5_destroy cfX5_destroy [.ref (ad 0), .int (nI (s))] (wl D ad M) 0 0 (PI (-4) (wl D ad M)) := by
  refine Spec.of (by decide) rfl (Nat.le_of_ble_eq_true rfl) rfl ?_
  have hp := Nat.pow_lt_pow_right (a := 2) (by decide) hs16
  refine E_aload0 (q := 1) dX5_destroy_0 rfl ?_
  refine G_X5_store (q := 4) fl_X5_12 dX5_destroy_1 rfl ?_
  refine E_iload1 (q := 5) dX5_destroy_4 rfl ?_
  refine C_V1I (q := 8) lk_X5_266 (sp_X4_hasSnapshot h) (rc_X4 isSt_1) dX5_destroy_5 (by decide) (Nat.le_of_ble_eq_true rfl) rfl ?_
  refine E_if_ne (tgt := 13) (q := 11) dX5_destroy_8 (by decide) rfl (fun h8 => ?_) (fun h8 => ?_)
  · skip
    refine E_aload0 (q := 14) dX5_destroy_13 rfl ?_
    refine E_iload1 (q := 15) dX5_destroy_14 rfl ?_
    refine C_S1I (q := 18) lk_X5_200 (sp_X5_bit (by omega)) dX5_destroy_15 (by decide) (Nat.le_of_ble_eq_true rfl) rfl ?_
    refine E_iload1 (q := 19) dX5_destroy_18 rfl ?_
    refine C_S1I (q := 22) lk_X5_200 (sp_X5_bit (by omega)) dX5_destroy_19 (by decide) (Nat.le_of_ble_eq_true rfl) rfl ?_
    refine C_V2I (q := 25) lk_X5_275 (sp_X5_destroyOrRefuseN h (by omega) (fun z => hy (z s hs16 (pow_bit.mpr rfl)))) rc_X5 dX5_destroy_22 (by decide) (Nat.le_of_ble_eq_true rfl) rfl ?_
    exact E_ireturn rfl rfl dX5_destroy_25 (PI_of rfl rfl)
  · skip
    exact absurd ((SnpA_nI (by omega)).mpr ⟨hs16, ht⟩) (zI_0 h8)
theorem sp_X5_destroy {s : Nat} (h : SI M 1 A) (hH : HistC M H) (hs16 : s < 16) (ht : th A s) (hy : whyN A s = 0) : Spec D 10 yX5_destroy cfX5_destroy [.ref (ad 0), .int (nI (s))] (wl D ad M) 0 0 (PX (fun x w => x = nI (gone A (remA A (2 ^ s))) ∧ CW D ad M (hpush H A) (remA A (2 ^ s)) w)) := by
  refine Spec.of (by decide) rfl (Nat.le_of_ble_eq_true rfl) rfl ?_
  have hp := Nat.pow_lt_pow_right (a := 2) (by decide) hs16
  refine E_aload0 (q := 1) dX5_destroy_0 rfl ?_
  refine G_X5_store (q := 4) fl_X5_12 dX5_destroy_1 rfl ?_
  refine E_iload1 (q := 5) dX5_destroy_4 rfl ?_
  refine C_V1I (q := 8) lk_X5_266 (sp_X4_hasSnapshot h) (rc_X4 isSt_1) dX5_destroy_5 (by decide) (Nat.le_of_ble_eq_true rfl) rfl ?_
  refine E_if_ne (tgt := 13) (q := 11) dX5_destroy_8 (by decide) rfl (fun h8 => ?_) (fun h8 => ?_)
  · skip
    refine E_aload0 (q := 14) dX5_destroy_13 rfl ?_
    refine E_iload1 (q := 15) dX5_destroy_14 rfl ?_
    refine C_S1I (q := 18) lk_X5_200 (sp_X5_bit (by omega)) dX5_destroy_15 (by decide) (Nat.le_of_ble_eq_true rfl) rfl ?_
    refine E_iload1 (q := 19) dX5_destroy_18 rfl ?_
    refine C_S1I (q := 22) lk_X5_200 (sp_X5_bit (by omega)) dX5_destroy_19 (by decide) (Nat.le_of_ble_eq_true rfl) rfl ?_
    refine C_V2X (q := 25) lk_X5_275 (sp_X5_destroyOrRefuse h hH (by omega) (by omega) (fun t _ z => (pow_bit.mp z) ▸ hy)) rc_X5 dX5_destroy_22 (by decide) (Nat.le_of_ble_eq_true rfl) rfl ?_
    rintro y w hy2
    exact E_ireturn rfl rfl dX5_destroy_25 ⟨_, rfl, hy2⟩
  · skip
    exact absurd ((SnpA_nI (by omega)).mpr ⟨hs16, ht⟩) (zI_0 h8)
theorem sp_X5_destroySet0  : Spec D 10 yX5_destroySet cfX5_destroySet [.ref (ad 0), .int (nI (0))] (wl D ad M) 0 0 (PI (-2) (wl D ad M)) := by
  refine Spec.of (by decide) rfl (Nat.le_of_ble_eq_true rfl) rfl ?_
  refine E_iload1 (q := 1) dX5_destroySet_0 rfl ?_
  refine E_if_ne (tgt := 7) (q := 4) dX5_destroySet_1 (by decide) rfl (fun h1 => ?_) (fun h1 => ?_)
  · first | exact absurd h1 (by decide) | exact absurd (by decide) h1
  · skip
    refine E_bipush (v := -2) (q := 6) dX5_destroySet_4 (by decide) rfl ?_
    exact E_ireturn rfl rfl dX5_destroySet_6 (PI_of rfl rfl)
theorem sp_X5_destroySetS {q : Int32} (h : SI M 1 A) (h0 : q ≠ 0) (hq : ¬ q &&& (nI (snps A) ^^^ (-1)) = 0) : Spec D 10 yX5_destroySet cfX5_destroySet [.ref (ad 0), .int (q)] (wl D ad M) 0 0 (PI (-1) (wl D ad M)) := by
  refine Spec.of (by decide) rfl (Nat.le_of_ble_eq_true rfl) rfl ?_
  refine E_iload1 (q := 1) dX5_destroySet_0 rfl ?_
  refine E_if_ne (tgt := 7) (q := 4) dX5_destroySet_1 (by decide) rfl (fun h1 => ?_) (fun h1 => ?_)
  · skip
    refine E_iload1 (q := 8) dX5_destroySet_7 rfl ?_
    refine E_aload0 (q := 9) dX5_destroySet_8 rfl ?_
    refine G_X5_store (q := 12) fl_X5_12 dX5_destroySet_9 rfl ?_
    refine C_V0I (q := 15) lk_X5_138 (sp_X4_snapshotSet h) (rc_X4 isSt_1) dX5_destroySet_12 (by decide) (Nat.le_of_ble_eq_true rfl) rfl ?_
    refine E_iconst (v := -1) (q := 16) dX5_destroySet_15 (by decide) rfl ?_
    refine E_ixor (q := 17) dX5_destroySet_16 rfl ?_
    refine E_iand (q := 18) dX5_destroySet_17 rfl ?_
    refine E_if_eq (tgt := 23) (q := 21) dX5_destroySet_18 (by decide) rfl (fun h18 => ?_) (fun h18 => ?_)
    · skip
      exact absurd h18 hq
    · skip
      refine E_iconst (v := -1) (q := 22) dX5_destroySet_21 (by decide) rfl ?_
      exact E_ireturn rfl rfl dX5_destroySet_22 (PI_of rfl rfl)
  · skip
    exact absurd h1 h0
theorem sp_X5_destroySetN {m : Nat} (h : SI M 1 A) (h0 : m ≠ 0) (hm : m < 2 ^ 16) (hqm : nI m &&& (nI (snps A) ^^^ (-1)) = 0) (hy : ¬ ∀ s, s < 16 → m.testBit s = true → whyN A s = 0) : Spec D 10 yX5_destroySet cfX5_destroySet [.ref (ad 0), .int (nI (m))] (wl D ad M) 0 0 (PI (-4) (wl D ad M)) := by
  refine Spec.of (by decide) rfl (Nat.le_of_ble_eq_true rfl) rfl ?_
  refine E_iload1 (q := 1) dX5_destroySet_0 rfl ?_
  refine E_if_ne (tgt := 7) (q := 4) dX5_destroySet_1 (by decide) rfl (fun h1 => ?_) (fun h1 => ?_)
  · skip
    refine E_iload1 (q := 8) dX5_destroySet_7 rfl ?_
    refine E_aload0 (q := 9) dX5_destroySet_8 rfl ?_
    refine G_X5_store (q := 12) fl_X5_12 dX5_destroySet_9 rfl ?_
    refine C_V0I (q := 15) lk_X5_138 (sp_X4_snapshotSet h) (rc_X4 isSt_1) dX5_destroySet_12 (by decide) (Nat.le_of_ble_eq_true rfl) rfl ?_
    refine E_iconst (v := -1) (q := 16) dX5_destroySet_15 (by decide) rfl ?_
    refine E_ixor (q := 17) dX5_destroySet_16 rfl ?_
    refine E_iand (q := 18) dX5_destroySet_17 rfl ?_
    refine E_if_eq (tgt := 23) (q := 21) dX5_destroySet_18 (by decide) rfl (fun h18 => ?_) (fun h18 => ?_)
    · skip
      refine E_aload0 (q := 24) dX5_destroySet_23 rfl ?_
      refine E_iload1 (q := 25) dX5_destroySet_24 rfl ?_
      refine E_iload1 (q := 26) dX5_destroySet_25 rfl ?_
      refine C_V2I (q := 29) lk_X5_275 (sp_X5_destroyOrRefuseN h (by omega) hy) rc_X5 dX5_destroySet_26 (by decide) (Nat.le_of_ble_eq_true rfl) rfl ?_
      exact E_ireturn rfl rfl dX5_destroySet_29 (PI_of rfl rfl)
    · skip
      exact absurd hqm h18
  · skip
    exact absurd ((nI_z (by omega)).mp h1) h0
theorem sp_X5_destroySet {m : Nat} (h : SI M 1 A) (hH : HistC M H) (h0 : m ≠ 0) (hm : m < 2 ^ 16) (hqm : nI m &&& (nI (snps A) ^^^ (-1)) = 0) (hy : ∀ s, s < 16 → m.testBit s = true → whyN A s = 0) : Spec D 10 yX5_destroySet cfX5_destroySet [.ref (ad 0), .int (nI (m))] (wl D ad M) 0 0 (PX (fun x w => x = nI (gone A (remA A m)) ∧ CW D ad M (hpush H A) (remA A m) w)) := by
  refine Spec.of (by decide) rfl (Nat.le_of_ble_eq_true rfl) rfl ?_
  refine E_iload1 (q := 1) dX5_destroySet_0 rfl ?_
  refine E_if_ne (tgt := 7) (q := 4) dX5_destroySet_1 (by decide) rfl (fun h1 => ?_) (fun h1 => ?_)
  · skip
    refine E_iload1 (q := 8) dX5_destroySet_7 rfl ?_
    refine E_aload0 (q := 9) dX5_destroySet_8 rfl ?_
    refine G_X5_store (q := 12) fl_X5_12 dX5_destroySet_9 rfl ?_
    refine C_V0I (q := 15) lk_X5_138 (sp_X4_snapshotSet h) (rc_X4 isSt_1) dX5_destroySet_12 (by decide) (Nat.le_of_ble_eq_true rfl) rfl ?_
    refine E_iconst (v := -1) (q := 16) dX5_destroySet_15 (by decide) rfl ?_
    refine E_ixor (q := 17) dX5_destroySet_16 rfl ?_
    refine E_iand (q := 18) dX5_destroySet_17 rfl ?_
    refine E_if_eq (tgt := 23) (q := 21) dX5_destroySet_18 (by decide) rfl (fun h18 => ?_) (fun h18 => ?_)
    · skip
      refine E_aload0 (q := 24) dX5_destroySet_23 rfl ?_
      refine E_iload1 (q := 25) dX5_destroySet_24 rfl ?_
      refine E_iload1 (q := 26) dX5_destroySet_25 rfl ?_
      refine C_V2X (q := 29) lk_X5_275 (sp_X5_destroyOrRefuse h hH (by omega) (by omega) hy) rc_X5 dX5_destroySet_26 (by decide) (Nat.le_of_ble_eq_true rfl) rfl ?_
      rintro y w hy2
      exact E_ireturn rfl rfl dX5_destroySet_29 ⟨_, rfl, hy2⟩
    · skip
      exact absurd hqm h18
  · skip
    exact absurd ((nI_z (by omega)).mp h1) h0
theorem sp_X5_destroyVolumeV {p : Int32} (h : SI M 1 A) (hn : ¬ VolA A p) : Spec D 10 yX5_destroyVolume cfX5_destroyVolume [.ref (ad 0), .int (p)] (wl D ad M) 0 0 (PI (-1) (wl D ad M)) := by
  refine Spec.of (by decide) rfl (Nat.le_of_ble_eq_true rfl) rfl ?_
  refine E_aload0 (q := 1) dX5_destroyVolume_0 rfl ?_
  refine G_X5_store (q := 4) fl_X5_12 dX5_destroyVolume_1 rfl ?_
  refine E_iload1 (q := 5) dX5_destroyVolume_4 rfl ?_
  refine C_V1I (q := 8) lk_X5_254 (sp_X4_hasVolume h) (rc_X4 isSt_1) dX5_destroyVolume_5 (by decide) (Nat.le_of_ble_eq_true rfl) rfl ?_
  refine E_if_ne (tgt := 13) (q := 11) dX5_destroyVolume_8 (by decide) rfl (fun h8 => ?_) (fun h8 => ?_)
  · skip
    exact absurd (zI_n h8) hn
  · skip
    refine E_iconst (v := -1) (q := 12) dX5_destroyVolume_11 (by decide) rfl ?_
    exact E_ireturn rfl rfl dX5_destroyVolume_12 (PI_of rfl rfl)
theorem sp_X5_destroyVolumeN {v : Nat} (h : SI M 1 A) (hv : v < 6) (ht : th A (16 + v)) (hy : ¬ ∀ s, s < 16 → (rowM A v).testBit s = true → whyN A s = 0) : Spec D 10 yX5_destroyVolume cfX5_destroyVolume [.ref (ad 0), .int (nI (v))] (wl D ad M) 0 0 (PI (-4) (wl D ad M)) := by
  refine Spec.of (by decide) rfl (Nat.le_of_ble_eq_true rfl) rfl ?_
  have hrl := rowM_lt (A := A) (v := v)
  refine E_aload0 (q := 1) dX5_destroyVolume_0 rfl ?_
  refine G_X5_store (q := 4) fl_X5_12 dX5_destroyVolume_1 rfl ?_
  refine E_iload1 (q := 5) dX5_destroyVolume_4 rfl ?_
  refine C_V1I (q := 8) lk_X5_254 (sp_X4_hasVolume h) (rc_X4 isSt_1) dX5_destroyVolume_5 (by decide) (Nat.le_of_ble_eq_true rfl) rfl ?_
  refine E_if_ne (tgt := 13) (q := 11) dX5_destroyVolume_8 (by decide) rfl (fun h8 => ?_) (fun h8 => ?_)
  · skip
    refine E_aload0 (q := 14) dX5_destroyVolume_13 rfl ?_
    refine E_aload0 (q := 15) dX5_destroyVolume_14 rfl ?_
    refine G_X5_store (q := 18) fl_X5_12 dX5_destroyVolume_15 rfl ?_
    refine E_iload1 (q := 19) dX5_destroyVolume_18 rfl ?_
    refine C_V1I (q := 22) lk_X5_85 (sp_X4_rowOf h (by omega)) (rc_X4 isSt_1) dX5_destroyVolume_19 (by decide) (Nat.le_of_ble_eq_true rfl) rfl ?_
    refine E_aload0 (q := 23) dX5_destroyVolume_22 rfl ?_
    refine G_X5_store (q := 26) fl_X5_12 dX5_destroyVolume_23 rfl ?_
    refine E_iload1 (q := 27) dX5_destroyVolume_26 rfl ?_
    refine C_V1I (q := 30) lk_X5_219 (sp_X4_versionsOf h hv) (rc_X4 isSt_1) dX5_destroyVolume_27 (by decide) (Nat.le_of_ble_eq_true rfl) rfl ?_
    refine C_V2I (q := 33) lk_X5_275 (sp_X5_destroyOrRefuseN h (by omega) hy) rc_X5 dX5_destroyVolume_30 (by decide) (Nat.le_of_ble_eq_true rfl) rfl ?_
    exact E_ireturn rfl rfl dX5_destroyVolume_33 (PI_of rfl rfl)
  · skip
    exact absurd ((VolA_nI (by omega)).mpr ⟨hv, ht⟩) (zI_0 h8)
theorem sp_X5_destroyVolume {v : Nat} (h : SI M 1 A) (hH : HistC M H) (hv : v < 6) (ht : th A (16 + v)) (hy : ∀ s, s < 16 → (rowM A v).testBit s = true → whyN A s = 0) : Spec D 10 yX5_destroyVolume cfX5_destroyVolume [.ref (ad 0), .int (nI (v))] (wl D ad M) 0 0 (PX (fun x w => x = nI (gone A (remA A (volS A v))) ∧ CW D ad M (hpush H A) (remA A (volS A v)) w)) := by
  refine Spec.of (by decide) rfl (Nat.le_of_ble_eq_true rfl) rfl ?_
  have hrl := rowM_lt (A := A) (v := v)
  have hvl := volS_lt (A := A) hv
  refine E_aload0 (q := 1) dX5_destroyVolume_0 rfl ?_
  refine G_X5_store (q := 4) fl_X5_12 dX5_destroyVolume_1 rfl ?_
  refine E_iload1 (q := 5) dX5_destroyVolume_4 rfl ?_
  refine C_V1I (q := 8) lk_X5_254 (sp_X4_hasVolume h) (rc_X4 isSt_1) dX5_destroyVolume_5 (by decide) (Nat.le_of_ble_eq_true rfl) rfl ?_
  refine E_if_ne (tgt := 13) (q := 11) dX5_destroyVolume_8 (by decide) rfl (fun h8 => ?_) (fun h8 => ?_)
  · skip
    refine E_aload0 (q := 14) dX5_destroyVolume_13 rfl ?_
    refine E_aload0 (q := 15) dX5_destroyVolume_14 rfl ?_
    refine G_X5_store (q := 18) fl_X5_12 dX5_destroyVolume_15 rfl ?_
    refine E_iload1 (q := 19) dX5_destroyVolume_18 rfl ?_
    refine C_V1I (q := 22) lk_X5_85 (sp_X4_rowOf h (by omega)) (rc_X4 isSt_1) dX5_destroyVolume_19 (by decide) (Nat.le_of_ble_eq_true rfl) rfl ?_
    refine E_aload0 (q := 23) dX5_destroyVolume_22 rfl ?_
    refine G_X5_store (q := 26) fl_X5_12 dX5_destroyVolume_23 rfl ?_
    refine E_iload1 (q := 27) dX5_destroyVolume_26 rfl ?_
    refine C_V1I (q := 30) lk_X5_219 (sp_X4_versionsOf h hv) (rc_X4 isSt_1) dX5_destroyVolume_27 (by decide) (Nat.le_of_ble_eq_true rfl) rfl ?_
    refine C_V2X (q := 33) lk_X5_275 (sp_X5_destroyOrRefuse h hH (by omega) (by omega) hy) rc_X5 dX5_destroyVolume_30 (by decide) (Nat.le_of_ble_eq_true rfl) rfl ?_
    rintro y w hy2
    exact E_ireturn rfl rfl dX5_destroyVolume_33 ⟨_, rfl, hy2⟩
  · skip
    exact absurd ((VolA_nI (by omega)).mpr ⟨hv, ht⟩) (zI_0 h8)
theorem sp_X5_rollBackS {p : Int32} (h : SI M 1 A) (hn : ¬ SnpA A p) : Spec D 10 yX5_rollBack cfX5_rollBack [.ref (ad 0), .int (p)] (wl D ad M) 0 0 (PI (-1) (wl D ad M)) := by
  refine Spec.of (by decide) rfl (Nat.le_of_ble_eq_true rfl) rfl ?_
  refine E_aload0 (q := 1) dX5_rollBack_0 rfl ?_
  refine G_X5_store (q := 4) fl_X5_12 dX5_rollBack_1 rfl ?_
  refine E_iload1 (q := 5) dX5_rollBack_4 rfl ?_
  refine C_V1I (q := 8) lk_X5_266 (sp_X4_hasSnapshot h) (rc_X4 isSt_1) dX5_rollBack_5 (by decide) (Nat.le_of_ble_eq_true rfl) rfl ?_
  refine E_if_ne (tgt := 13) (q := 11) dX5_rollBack_8 (by decide) rfl (fun h8 => ?_) (fun h8 => ?_)
  · skip
    exact absurd (zI_n h8) hn
  · skip
    refine E_iconst (v := -1) (q := 12) dX5_rollBack_11 (by decide) rfl ?_
    exact E_ireturn rfl rfl dX5_rollBack_12 (PI_of rfl rfl)
theorem sp_X5_rollBackN {s : Nat} (h : SI M 1 A) (hs16 : s < 16) (ht : th A s) (hy : ¬ ∀ t, t < 16 → (rowB A s).testBit t = true → whyN A t = 0) : Spec D 10 yX5_rollBack cfX5_rollBack [.ref (ad 0), .int (nI (s))] (wl D ad M) 0 0 (PI (-4) (wl D ad M)) := by
  refine Spec.of (by decide) rfl (Nat.le_of_ble_eq_true rfl) rfl ?_
  have hrl := rowB_lt (A := A) (s := s)
  refine E_aload0 (q := 1) dX5_rollBack_0 rfl ?_
  refine G_X5_store (q := 4) fl_X5_12 dX5_rollBack_1 rfl ?_
  refine E_iload1 (q := 5) dX5_rollBack_4 rfl ?_
  refine C_V1I (q := 8) lk_X5_266 (sp_X4_hasSnapshot h) (rc_X4 isSt_1) dX5_rollBack_5 (by decide) (Nat.le_of_ble_eq_true rfl) rfl ?_
  refine E_if_ne (tgt := 13) (q := 11) dX5_rollBack_8 (by decide) rfl (fun h8 => ?_) (fun h8 => ?_)
  · skip
    refine E_aload0 (q := 14) dX5_rollBack_13 rfl ?_
    refine G_X5_store (q := 17) fl_X5_12 dX5_rollBack_14 rfl ?_
    refine E_aload0 (q := 18) dX5_rollBack_17 rfl ?_
    refine G_X5_store (q := 21) fl_X5_12 dX5_rollBack_18 rfl ?_
    refine E_iload1 (q := 22) dX5_rollBack_21 rfl ?_
    refine C_V1I (q := 25) lk_X5_278 (sp_X4_rowBehind h hs16 ht) (rc_X4 isSt_1) dX5_rollBack_22 (by decide) (Nat.le_of_ble_eq_true rfl) rfl ?_
    refine C_V1I (q := 28) lk_X5_281 (sp_X4_canDestroyAll h (by omega)) (rc_X4 isSt_1) dX5_rollBack_25 (by decide) (Nat.le_of_ble_eq_true rfl) rfl ?_
    refine E_if_ne (tgt := 34) (q := 31) dX5_rollBack_28 (by decide) rfl (fun h28 => ?_) (fun h28 => ?_)
    · skip
      exact absurd (zI_n h28) hy
    · skip
      refine E_bipush (v := -4) (q := 33) dX5_rollBack_31 (by decide) rfl ?_
      exact E_ireturn rfl rfl dX5_rollBack_33 (PI_of rfl rfl)
  · skip
    exact absurd ((SnpA_nI (by omega)).mpr ⟨hs16, ht⟩) (zI_0 h8)
theorem sp_X5_rollBack {s : Nat} (h : SI M 1 A) (hH : HistC M H) (hs16 : s < 16) (ht : th A s) (hy : ∀ t, t < 16 → (rowB A s).testBit t = true → whyN A t = 0) : Spec D 10 yX5_rollBack cfX5_rollBack [.ref (ad 0), .int (nI (s))] (wl D ad M) 0 0 (PX (fun x w => x = nI (gone A (rolA A s)) ∧ CW D ad M (hpush H A) (rolA A s) w)) := by
  refine Spec.of (by decide) rfl (Nat.le_of_ble_eq_true rfl) rfl ?_
  have hrl := rowB_lt (A := A) (s := s)
  refine E_aload0 (q := 1) dX5_rollBack_0 rfl ?_
  refine G_X5_store (q := 4) fl_X5_12 dX5_rollBack_1 rfl ?_
  refine E_iload1 (q := 5) dX5_rollBack_4 rfl ?_
  refine C_V1I (q := 8) lk_X5_266 (sp_X4_hasSnapshot h) (rc_X4 isSt_1) dX5_rollBack_5 (by decide) (Nat.le_of_ble_eq_true rfl) rfl ?_
  refine E_if_ne (tgt := 13) (q := 11) dX5_rollBack_8 (by decide) rfl (fun h8 => ?_) (fun h8 => ?_)
  · skip
    refine E_aload0 (q := 14) dX5_rollBack_13 rfl ?_
    refine G_X5_store (q := 17) fl_X5_12 dX5_rollBack_14 rfl ?_
    refine E_aload0 (q := 18) dX5_rollBack_17 rfl ?_
    refine G_X5_store (q := 21) fl_X5_12 dX5_rollBack_18 rfl ?_
    refine E_iload1 (q := 22) dX5_rollBack_21 rfl ?_
    refine C_V1I (q := 25) lk_X5_278 (sp_X4_rowBehind h hs16 ht) (rc_X4 isSt_1) dX5_rollBack_22 (by decide) (Nat.le_of_ble_eq_true rfl) rfl ?_
    refine C_V1I (q := 28) lk_X5_281 (sp_X4_canDestroyAll h (by omega)) (rc_X4 isSt_1) dX5_rollBack_25 (by decide) (Nat.le_of_ble_eq_true rfl) rfl ?_
    refine E_if_ne (tgt := 34) (q := 31) dX5_rollBack_28 (by decide) rfl (fun h28 => ?_) (fun h28 => ?_)
    · skip
      refine E_aload0 (q := 35) dX5_rollBack_34 rfl ?_
      refine G_X5_history (q := 38) fl_X5_19 dX5_rollBack_35 rfl ?_
      refine E_aload0 (q := 39) dX5_rollBack_38 rfl ?_
      refine G_X5_store (q := 42) fl_X5_12 dX5_rollBack_39 rfl ?_
      refine C_V1Y (q := 45) lk_X5_244 (sp_X1_keep h hH) rc_X1 dX5_rollBack_42 (by decide) (Nat.le_of_ble_eq_true rfl) rfl ?_
      refine kkEW ?_
      rintro M1 ⟨hb1, hh1, hf1⟩
      refine E_aload0 (q := 46) dX5_rollBack_45 rfl ?_
      refine G_X5_store (q := 49) fl_X5_12 dX5_rollBack_46 rfl ?_
      refine E_iload1 (q := 50) dX5_rollBack_49 rfl ?_
      refine C_V1X (q := 53) lk_X5_284 (sp_X4_returnTo (h.to' hb1) hs16 ht) (rc_X4 isSt_1) dX5_rollBack_50 (by decide) (Nat.le_of_ble_eq_true rfl) rfl ?_
      refine kkEI ?_
      rintro M2 ⟨hb2, hk2⟩
      exact E_ireturn rfl rfl dX5_rollBack_53 ⟨_, rfl, (congrArg nI gone_rol), CW.step hh1 hf1 hb2 hk2⟩
    · skip
      exact absurd hy (zI_0 h28)
  · skip
    exact absurd ((SnpA_nI (by omega)).mpr ⟨hs16, ht⟩) (zI_0 h8)
theorem StoreIs.hldS {s x m : Nat} (h : StoreIs M b A) (e : hdM (hldA A s x) = m) : StoreIs (upd2 M b 4 (nI m)) b (hldA A s x) := by
  have h0 : ∀ i j, i ≠ 4 → (hldA A s x).1 i j = A.1 i j := fun i j hn => ts_ne (fun z => hn z.1)
  have e1 : thM (hldA A s x) = thM A := bset_congr fun k _ => by unfold th; rw [h0 1 k (by decide)]
  refine ⟨⟨?_, ?_, ?_, ?_, ?_⟩, ?_, fun t hs ht => ?_, fun v hv ht => ?_, h.2.2.2.2.congr fun c c1 c2 => upd2_row (by omega)⟩
  · rw [upd2_ne (by omega), aT, h0 0 0 (by decide)]; exact h.1.1
  · rw [upd2_ne (by omega), aV, h0 0 1 (by decide)]; exact h.1.2.1
  · rw [upd2_ne (by omega), aS, h0 0 2 (by decide)]; exact h.1.2.2.1
  · rw [upd2_ne (by omega), e1]; exact h.1.2.2.2.1
  · rw [e]; exact upd2_same
  · rw [upd2_row (by omega), aP, aC, h0 0 3 (by decide), h0 0 4 (by decide)]; exact h.2.1
  · rw [upd2_row (by omega), upd2_row (by omega), upd2_row (by omega)]
    unfold th at ht
    rw [h0 1 t (by decide)] at ht
    unfold home stm snm
    rw [h0 2 t (by decide), h0 3 t (by decide), h0 7 t (by decide)]
    exact h.2.2.1 t hs ht
  · rw [upd2_row (by omega), upd2_row (by omega), upd2_row (by omega)]
    unfold th at ht
    rw [h0 1 _ (by decide)] at ht
    unfold vnm org quo
    rw [h0 8 v (by decide), h0 5 v (by decide), h0 6 v (by decide)]
    exact h.2.2.2.1 v hv ht
theorem StoreIs.quoS {w x : Nat} (h : StoreIs M b A) : StoreIs (upd2 M (b + 7) w (nI x)) b (quoA A w x) := by
  have h0 : ∀ i j, i ≠ 6 → (quoA A w x).1 i j = A.1 i j := fun i j hn => ts_ne (fun z => hn z.1)
  have e1 : thM (quoA A w x) = thM A := bset_congr fun k _ => by unfold th; rw [h0 1 k (by decide)]
  have e2 : hdM (quoA A w x) = hdM A := bset_congr fun k _ => by unfold hld; rw [h0 4 k (by decide)]
  refine ⟨⟨?_, ?_, ?_, ?_, ?_⟩, ?_, fun t hs ht => ?_, fun v hv ht => ?_, h.2.2.2.2.congr fun c c1 c2 => upd2_row (by omega)⟩
  · rw [upd2_row (by omega), aT, h0 0 0 (by decide)]; exact h.1.1
  · rw [upd2_row (by omega), aV, h0 0 1 (by decide)]; exact h.1.2.1
  · rw [upd2_row (by omega), aS, h0 0 2 (by decide)]; exact h.1.2.2.1
  · rw [upd2_row (by omega), e1]; exact h.1.2.2.2.1
  · rw [upd2_row (by omega), e2]; exact h.1.2.2.2.2
  · rw [upd2_row (by omega), aP, aC, h0 0 3 (by decide), h0 0 4 (by decide)]; exact h.2.1
  · rw [upd2_row (by omega), upd2_row (by omega), upd2_row (by omega)]
    unfold th at ht
    rw [h0 1 t (by decide)] at ht
    unfold home stm snm
    rw [h0 2 t (by decide), h0 3 t (by decide), h0 7 t (by decide)]
    exact h.2.2.1 t hs ht
  · rw [upd2_row (by omega), upd2_row (by omega)]
    unfold th at ht
    rw [h0 1 _ (by decide)] at ht
    obtain ⟨g1, g2, g3⟩ := h.2.2.2.1 v hv ht
    unfold vnm org at *
    rw [h0 8 v (by decide), h0 5 v (by decide)]
    refine ⟨g1, g2, ?_⟩
    show _ = nI (ts A.1 6 w x 6 v)
    by_cases c : v = w
    · subst c; rw [ts_eq]; exact upd2_same
    · rw [ts_ne (by omega), upd2_ne (by omega)]; exact g3
theorem StoreIs.setS {k x : Nat} (hk : k < 2) (h : StoreIs M b A) : StoreIs (upd2 M (b + 1) k (nI x)) b (setA A k x) := by
  have h0 : ∀ i j, i ≠ 0 → (setA A k x).1 i j = A.1 i j := fun i j hn => ts_ne (fun z => hn z.1)
  have h1 : ∀ j, j < 3 → (setA A k x).1 0 j = A.1 0 j := fun j hj => ts_ne (fun z => by omega)
  have e1 : thM (setA A k x) = thM A := bset_congr fun k _ => by unfold th; rw [h0 1 k (by decide)]
  have e2 : hdM (setA A k x) = hdM A := bset_congr fun k _ => by unfold hld; rw [h0 4 k (by decide)]
  refine ⟨⟨?_, ?_, ?_, ?_, ?_⟩, ?_, fun t hs ht => ?_, fun v hv ht => ?_, h.2.2.2.2.congr fun c c1 c2 => upd2_row (by omega)⟩
  · rw [upd2_row (by omega), aT, h1 0 (by decide)]; exact h.1.1
  · rw [upd2_row (by omega), aV, h1 1 (by decide)]; exact h.1.2.1
  · rw [upd2_row (by omega), aS, h1 2 (by decide)]; exact h.1.2.2.1
  · rw [upd2_row (by omega), e1]; exact h.1.2.2.2.1
  · rw [upd2_row (by omega), e2]; exact h.1.2.2.2.2
  · rcases (show k = 0 ∨ k = 1 by omega) with rfl | rfl
    · refine ⟨upd2_same.trans (congrArg nI (show x = aP (setA A 0 x) by simp [aP, setA, ts])), ?_⟩
      rw [upd2_ne (by omega), aC, show (setA A 0 x).1 0 4 = A.1 0 4 by simp [setA, ts]]; exact h.2.1.2
    · refine ⟨?_, upd2_same.trans (congrArg nI (show x = aC (setA A 1 x) by simp [aC, setA, ts]))⟩
      rw [upd2_ne (by omega), aP, show (setA A 1 x).1 0 3 = A.1 0 3 by simp [setA, ts]]; exact h.2.1.1
  · rw [upd2_row (by omega), upd2_row (by omega), upd2_row (by omega)]
    unfold th at ht
    rw [h0 1 t (by decide)] at ht
    unfold home stm snm
    rw [h0 2 t (by decide), h0 3 t (by decide), h0 7 t (by decide)]
    exact h.2.2.1 t hs ht
  · rw [upd2_row (by omega), upd2_row (by omega), upd2_row (by omega)]
    unfold th at ht
    rw [h0 1 _ (by decide)] at ht
    unfold vnm org quo
    rw [h0 8 v (by decide), h0 5 v (by decide), h0 6 v (by decide)]
    exact h.2.2.2.1 v hv ht
theorem held_b {s x : Nat} (hs : s < 16) (hb : A.1 4 s = x) (hx : x = 0 ∨ x = 1) : zI ((hdM A).testBit s = true) = nI x := by
  rcases hx with rfl | rfl
  · exact (zI_f (fun z => by have := (hdM_bit.mp z).2; unfold hld at this; omega)).symm
  · exact (zI_t (hdM_bit.mpr ⟨hs, hb⟩)).symm
theorem sp_X5_holdS {p q : Int32} (h : SI M 1 A) (hn : ¬ SnpA A p) : Spec D 10 yX5_hold cfX5_hold [.ref (ad 0), .int (p), .int (q)] (wl D ad M) 0 0 (PI (-1) (wl D ad M)) := by
  refine Spec.of (by decide) rfl (Nat.le_of_ble_eq_true rfl) rfl ?_
  refine E_aload0 (q := 1) dX5_hold_0 rfl ?_
  refine G_X5_store (q := 4) fl_X5_12 dX5_hold_1 rfl ?_
  refine E_iload1 (q := 5) dX5_hold_4 rfl ?_
  refine C_V1I (q := 8) lk_X5_266 (sp_X4_hasSnapshot h) (rc_X4 isSt_1) dX5_hold_5 (by decide) (Nat.le_of_ble_eq_true rfl) rfl ?_
  refine E_if_ne (tgt := 13) (q := 11) dX5_hold_8 (by decide) rfl (fun h8 => ?_) (fun h8 => ?_)
  · skip
    exact absurd (zI_n h8) hn
  · skip
    refine E_iconst (v := -1) (q := 12) dX5_hold_11 (by decide) rfl ?_
    exact E_ireturn rfl rfl dX5_hold_12 (PI_of rfl rfl)
theorem sp_X5_hold0N {s : Nat} (h : SI M 1 A) (hs16 : s < 16) (ht : th A s) (hb : A.1 4 s = 0) : Spec D 10 yX5_hold cfX5_hold [.ref (ad 0), .int (nI (s)), .int (nI (0))] (wl D ad M) 0 0 (PI (-4) (wl D ad M)) := by
  refine Spec.of (by decide) rfl (Nat.le_of_ble_eq_true rfl) rfl ?_
  have hhl := hdM_lt (A := A)
  refine E_aload0 (q := 1) dX5_hold_0 rfl ?_
  refine G_X5_store (q := 4) fl_X5_12 dX5_hold_1 rfl ?_
  refine E_iload1 (q := 5) dX5_hold_4 rfl ?_
  refine C_V1I (q := 8) lk_X5_266 (sp_X4_hasSnapshot h) (rc_X4 isSt_1) dX5_hold_5 (by decide) (Nat.le_of_ble_eq_true rfl) rfl ?_
  refine E_if_ne (tgt := 13) (q := 11) dX5_hold_8 (by decide) rfl (fun h8 => ?_) (fun h8 => ?_)
  · skip
    refine E_aload0 (q := 14) dX5_hold_13 rfl ?_
    refine G_X5_store (q := 17) fl_X5_12 dX5_hold_14 rfl ?_
    refine G_X4_heldSet (q := 20) isSt_1 fl_X5_170 dX5_hold_17 rfl ?_
    refine V_int h.2.1.1.2.2.2.2 ?_
    refine E_iload1 (q := 21) dX5_hold_20 rfl ?_
    refine C_S2I (q := 24) lk_X5_88 (sp_X5_contains (by omega) (by omega)) dX5_hold_21 (by decide) (Nat.le_of_ble_eq_true rfl) rfl ?_
    refine V_int (held_b hs16 hb (by decide)) ?_
    refine E_iload2 (q := 25) dX5_hold_24 rfl ?_
    refine E_icmp_neN (tgt := 31) (q := 28) dX5_hold_25 (by decide) rfl (by omega) (by omega) (fun h25 => ?_) (fun h25 => ?_)
    · first | exact absurd h25 (by decide) | exact absurd (by decide) h25
    · skip
      refine E_bipush (v := -4) (q := 30) dX5_hold_28 (by decide) rfl ?_
      exact E_ireturn rfl rfl dX5_hold_30 (PI_of rfl rfl)
  · skip
    exact absurd ((SnpA_nI (by omega)).mpr ⟨hs16, ht⟩) (zI_0 h8)
theorem sp_X5_hold0 {s : Nat} (h : SI M 1 A) (hH : HistC M H) (hs16 : s < 16) (ht : th A s) (hb : A.1 4 s = 1) : Spec D 10 yX5_hold cfX5_hold [.ref (ad 0), .int (nI (s)), .int (nI (0))] (wl D ad M) 0 0 (PX (fun y w => y = nI (popN (bset (fun t => hld (hldA A s 0) t) 16)) ∧ CW D ad M (hpush H A) (hldA A s 0) w)) := by
  refine Spec.of (by decide) rfl (Nat.le_of_ble_eq_true rfl) rfl ?_
  have hhl := hdM_lt (A := A)
  have hp := Nat.pow_lt_pow_right (a := 2) (by decide) hs16
  have hxl : hdM A ^^^ 2 ^ s < 2 ^ 16 := Nat.xor_lt_two_pow hhl hp
  have hxe : bset (fun t => hld (hldA A s 0) t) 16 = hdM A ^^^ 2 ^ s := hldA_hdM0 hs16 hb
  rw [hxe]
  refine E_aload0 (q := 1) dX5_hold_0 rfl ?_
  refine G_X5_store (q := 4) fl_X5_12 dX5_hold_1 rfl ?_
  refine E_iload1 (q := 5) dX5_hold_4 rfl ?_
  refine C_V1I (q := 8) lk_X5_266 (sp_X4_hasSnapshot h) (rc_X4 isSt_1) dX5_hold_5 (by decide) (Nat.le_of_ble_eq_true rfl) rfl ?_
  refine E_if_ne (tgt := 13) (q := 11) dX5_hold_8 (by decide) rfl (fun h8 => ?_) (fun h8 => ?_)
  · skip
    refine E_aload0 (q := 14) dX5_hold_13 rfl ?_
    refine G_X5_store (q := 17) fl_X5_12 dX5_hold_14 rfl ?_
    refine G_X4_heldSet (q := 20) isSt_1 fl_X5_170 dX5_hold_17 rfl ?_
    refine V_int h.2.1.1.2.2.2.2 ?_
    refine E_iload1 (q := 21) dX5_hold_20 rfl ?_
    refine C_S2I (q := 24) lk_X5_88 (sp_X5_contains (by omega) (by omega)) dX5_hold_21 (by decide) (Nat.le_of_ble_eq_true rfl) rfl ?_
    refine V_int (held_b hs16 hb (by decide)) ?_
    refine E_iload2 (q := 25) dX5_hold_24 rfl ?_
    refine E_icmp_neN (tgt := 31) (q := 28) dX5_hold_25 (by decide) rfl (by omega) (by omega) (fun h25 => ?_) (fun h25 => ?_)
    · skip
      refine E_aload0 (q := 32) dX5_hold_31 rfl ?_
      refine G_X5_history (q := 35) fl_X5_19 dX5_hold_32 rfl ?_
      refine E_aload0 (q := 36) dX5_hold_35 rfl ?_
      refine G_X5_store (q := 39) fl_X5_12 dX5_hold_36 rfl ?_
      refine C_V1Y (q := 42) lk_X5_244 (sp_X1_keep h hH) rc_X1 dX5_hold_39 (by decide) (Nat.le_of_ble_eq_true rfl) rfl ?_
      refine kkEW ?_
      rintro M1 ⟨hb1, hh1, hf1⟩
      refine E_aload0 (q := 43) dX5_hold_42 rfl ?_
      refine G_X5_store (q := 46) fl_X5_12 dX5_hold_43 rfl ?_
      refine E_dup (q := 47) dX5_hold_46 rfl rfl ?_
      refine G_X4_heldSet (q := 50) isSt_1 fl_X5_170 dX5_hold_47 rfl ?_
      refine V_int hb1.1.2.2.2.2 ?_
      refine E_iload1 (q := 51) dX5_hold_50 rfl ?_
      refine C_S1I (q := 54) lk_X5_200 (sp_X5_bit (by omega)) dX5_hold_51 (by decide) (Nat.le_of_ble_eq_true rfl) rfl ?_
      refine E_ixor (q := 55) dX5_hold_54 rfl ?_
      refine V_int (nI_xor _ _) ?_
      refine P_X4_heldSet (q := 58) isSt_1 fl_X5_170 dX5_hold_55 rfl ?_
      refine E_aload0 (q := 59) dX5_hold_58 rfl ?_
      refine G_X5_store (q := 62) fl_X5_12 dX5_hold_59 rfl ?_
      refine G_X4_heldSet (q := 65) isSt_1 fl_X5_170 dX5_hold_62 rfl ?_
      refine V_int upd2_same ?_
      refine C_S1I (q := 68) lk_X5_133 (sp_J6_bitCount_0f7a4 (by omega)) dX5_hold_65 (by decide) (Nat.le_of_ble_eq_true rfl) rfl ?_
      exact E_ireturn rfl rfl dX5_hold_68 ⟨_, rfl, rfl, CW.step hh1 hf1 (hb1.hldS hxe) (fun c hc => upd2_row (by omega))⟩
    · first | exact absurd h25 (by decide) | exact absurd (by decide) h25
  · skip
    exact absurd ((SnpA_nI (by omega)).mpr ⟨hs16, ht⟩) (zI_0 h8)
theorem sp_X5_hold1N {s : Nat} (h : SI M 1 A) (hs16 : s < 16) (ht : th A s) (hb : A.1 4 s = 1) : Spec D 10 yX5_hold cfX5_hold [.ref (ad 0), .int (nI (s)), .int (nI (1))] (wl D ad M) 0 0 (PI (-4) (wl D ad M)) := by
  refine Spec.of (by decide) rfl (Nat.le_of_ble_eq_true rfl) rfl ?_
  have hhl := hdM_lt (A := A)
  refine E_aload0 (q := 1) dX5_hold_0 rfl ?_
  refine G_X5_store (q := 4) fl_X5_12 dX5_hold_1 rfl ?_
  refine E_iload1 (q := 5) dX5_hold_4 rfl ?_
  refine C_V1I (q := 8) lk_X5_266 (sp_X4_hasSnapshot h) (rc_X4 isSt_1) dX5_hold_5 (by decide) (Nat.le_of_ble_eq_true rfl) rfl ?_
  refine E_if_ne (tgt := 13) (q := 11) dX5_hold_8 (by decide) rfl (fun h8 => ?_) (fun h8 => ?_)
  · skip
    refine E_aload0 (q := 14) dX5_hold_13 rfl ?_
    refine G_X5_store (q := 17) fl_X5_12 dX5_hold_14 rfl ?_
    refine G_X4_heldSet (q := 20) isSt_1 fl_X5_170 dX5_hold_17 rfl ?_
    refine V_int h.2.1.1.2.2.2.2 ?_
    refine E_iload1 (q := 21) dX5_hold_20 rfl ?_
    refine C_S2I (q := 24) lk_X5_88 (sp_X5_contains (by omega) (by omega)) dX5_hold_21 (by decide) (Nat.le_of_ble_eq_true rfl) rfl ?_
    refine V_int (held_b hs16 hb (by decide)) ?_
    refine E_iload2 (q := 25) dX5_hold_24 rfl ?_
    refine E_icmp_neN (tgt := 31) (q := 28) dX5_hold_25 (by decide) rfl (by omega) (by omega) (fun h25 => ?_) (fun h25 => ?_)
    · first | exact absurd h25 (by decide) | exact absurd (by decide) h25
    · skip
      refine E_bipush (v := -4) (q := 30) dX5_hold_28 (by decide) rfl ?_
      exact E_ireturn rfl rfl dX5_hold_30 (PI_of rfl rfl)
  · skip
    exact absurd ((SnpA_nI (by omega)).mpr ⟨hs16, ht⟩) (zI_0 h8)
theorem sp_X5_hold1 {s : Nat} (h : SI M 1 A) (hH : HistC M H) (hs16 : s < 16) (ht : th A s) (hb : A.1 4 s = 0) : Spec D 10 yX5_hold cfX5_hold [.ref (ad 0), .int (nI (s)), .int (nI (1))] (wl D ad M) 0 0 (PX (fun y w => y = nI (popN (bset (fun t => hld (hldA A s 1) t) 16)) ∧ CW D ad M (hpush H A) (hldA A s 1) w)) := by
  refine Spec.of (by decide) rfl (Nat.le_of_ble_eq_true rfl) rfl ?_
  have hhl := hdM_lt (A := A)
  have hp := Nat.pow_lt_pow_right (a := 2) (by decide) hs16
  have hxl : hdM A ^^^ 2 ^ s < 2 ^ 16 := Nat.xor_lt_two_pow hhl hp
  have hxe : bset (fun t => hld (hldA A s 1) t) 16 = hdM A ^^^ 2 ^ s := hldA_hdM1 hs16 hb
  rw [hxe]
  refine E_aload0 (q := 1) dX5_hold_0 rfl ?_
  refine G_X5_store (q := 4) fl_X5_12 dX5_hold_1 rfl ?_
  refine E_iload1 (q := 5) dX5_hold_4 rfl ?_
  refine C_V1I (q := 8) lk_X5_266 (sp_X4_hasSnapshot h) (rc_X4 isSt_1) dX5_hold_5 (by decide) (Nat.le_of_ble_eq_true rfl) rfl ?_
  refine E_if_ne (tgt := 13) (q := 11) dX5_hold_8 (by decide) rfl (fun h8 => ?_) (fun h8 => ?_)
  · skip
    refine E_aload0 (q := 14) dX5_hold_13 rfl ?_
    refine G_X5_store (q := 17) fl_X5_12 dX5_hold_14 rfl ?_
    refine G_X4_heldSet (q := 20) isSt_1 fl_X5_170 dX5_hold_17 rfl ?_
    refine V_int h.2.1.1.2.2.2.2 ?_
    refine E_iload1 (q := 21) dX5_hold_20 rfl ?_
    refine C_S2I (q := 24) lk_X5_88 (sp_X5_contains (by omega) (by omega)) dX5_hold_21 (by decide) (Nat.le_of_ble_eq_true rfl) rfl ?_
    refine V_int (held_b hs16 hb (by decide)) ?_
    refine E_iload2 (q := 25) dX5_hold_24 rfl ?_
    refine E_icmp_neN (tgt := 31) (q := 28) dX5_hold_25 (by decide) rfl (by omega) (by omega) (fun h25 => ?_) (fun h25 => ?_)
    · skip
      refine E_aload0 (q := 32) dX5_hold_31 rfl ?_
      refine G_X5_history (q := 35) fl_X5_19 dX5_hold_32 rfl ?_
      refine E_aload0 (q := 36) dX5_hold_35 rfl ?_
      refine G_X5_store (q := 39) fl_X5_12 dX5_hold_36 rfl ?_
      refine C_V1Y (q := 42) lk_X5_244 (sp_X1_keep h hH) rc_X1 dX5_hold_39 (by decide) (Nat.le_of_ble_eq_true rfl) rfl ?_
      refine kkEW ?_
      rintro M1 ⟨hb1, hh1, hf1⟩
      refine E_aload0 (q := 43) dX5_hold_42 rfl ?_
      refine G_X5_store (q := 46) fl_X5_12 dX5_hold_43 rfl ?_
      refine E_dup (q := 47) dX5_hold_46 rfl rfl ?_
      refine G_X4_heldSet (q := 50) isSt_1 fl_X5_170 dX5_hold_47 rfl ?_
      refine V_int hb1.1.2.2.2.2 ?_
      refine E_iload1 (q := 51) dX5_hold_50 rfl ?_
      refine C_S1I (q := 54) lk_X5_200 (sp_X5_bit (by omega)) dX5_hold_51 (by decide) (Nat.le_of_ble_eq_true rfl) rfl ?_
      refine E_ixor (q := 55) dX5_hold_54 rfl ?_
      refine V_int (nI_xor _ _) ?_
      refine P_X4_heldSet (q := 58) isSt_1 fl_X5_170 dX5_hold_55 rfl ?_
      refine E_aload0 (q := 59) dX5_hold_58 rfl ?_
      refine G_X5_store (q := 62) fl_X5_12 dX5_hold_59 rfl ?_
      refine G_X4_heldSet (q := 65) isSt_1 fl_X5_170 dX5_hold_62 rfl ?_
      refine V_int upd2_same ?_
      refine C_S1I (q := 68) lk_X5_133 (sp_J6_bitCount_0f7a4 (by omega)) dX5_hold_65 (by decide) (Nat.le_of_ble_eq_true rfl) rfl ?_
      exact E_ireturn rfl rfl dX5_hold_68 ⟨_, rfl, rfl, CW.step hh1 hf1 (hb1.hldS hxe) (fun c hc => upd2_row (by omega))⟩
    · first | exact absurd h25 (by decide) | exact absurd (by decide) h25
  · skip
    exact absurd ((SnpA_nI (by omega)).mpr ⟨hs16, ht⟩) (zI_0 h8)
theorem sp_X5_setQuotaV {p q : Int32} (h : SI M 1 A) (hn : ¬ VolA A p) : Spec D 10 yX5_setQuota cfX5_setQuota [.ref (ad 0), .int (p), .int (q)] (wl D ad M) 0 0 (PI (-1) (wl D ad M)) := by
  refine Spec.of (by decide) rfl (Nat.le_of_ble_eq_true rfl) rfl ?_
  refine E_aload0 (q := 1) dX5_setQuota_0 rfl ?_
  refine G_X5_store (q := 4) fl_X5_12 dX5_setQuota_1 rfl ?_
  refine E_iload1 (q := 5) dX5_setQuota_4 rfl ?_
  refine C_V1I (q := 8) lk_X5_254 (sp_X4_hasVolume h) (rc_X4 isSt_1) dX5_setQuota_5 (by decide) (Nat.le_of_ble_eq_true rfl) rfl ?_
  refine E_if_ne (tgt := 13) (q := 11) dX5_setQuota_8 (by decide) rfl (fun h8 => ?_) (fun h8 => ?_)
  · skip
    exact absurd (zI_n h8) hn
  · skip
    refine E_iconst (v := -1) (q := 12) dX5_setQuota_11 (by decide) rfl ?_
    exact E_ireturn rfl rfl dX5_setQuota_12 (PI_of rfl rfl)
theorem sp_X5_setQuotaB {p q : Int32} (h : SI M 1 A) (hp : VolA A p) (hn : ¬ (nI 0 ≤ q ∧ q ≤ nI 999)) : Spec D 10 yX5_setQuota cfX5_setQuota [.ref (ad 0), .int (p), .int (q)] (wl D ad M) 0 0 (PI (-2) (wl D ad M)) := by
  refine Spec.of (by decide) rfl (Nat.le_of_ble_eq_true rfl) rfl ?_
  refine E_aload0 (q := 1) dX5_setQuota_0 rfl ?_
  refine G_X5_store (q := 4) fl_X5_12 dX5_setQuota_1 rfl ?_
  refine E_iload1 (q := 5) dX5_setQuota_4 rfl ?_
  refine C_V1I (q := 8) lk_X5_254 (sp_X4_hasVolume h) (rc_X4 isSt_1) dX5_setQuota_5 (by decide) (Nat.le_of_ble_eq_true rfl) rfl ?_
  refine E_if_ne (tgt := 13) (q := 11) dX5_setQuota_8 (by decide) rfl (fun h8 => ?_) (fun h8 => ?_)
  · skip
    refine E_iload2 (q := 14) dX5_setQuota_13 rfl ?_
    refine E_if_lt (tgt := 24) (q := 17) dX5_setQuota_14 (by decide) rfl (fun h14 => ?_) (fun h14 => ?_)
    · skip
      refine E_bipush (v := -2) (q := 26) dX5_setQuota_24 (by decide) rfl ?_
      exact E_ireturn rfl rfl dX5_setQuota_26 (PI_of rfl rfl)
    · skip
      refine E_iload2 (q := 18) dX5_setQuota_17 rfl ?_
      refine E_sipush (v := nI 999) (q := 21) dX5_setQuota_18 (by decide) rfl ?_
      refine E_icmp_le (tgt := 27) (q := 24) dX5_setQuota_21 (by decide) rfl (fun h21 => ?_) (fun h21 => ?_)
      · skip
        exact absurd ⟨Int32.not_lt.mp h14, h21⟩ hn
      · skip
        refine E_bipush (v := -2) (q := 26) dX5_setQuota_24 (by decide) rfl ?_
        exact E_ireturn rfl rfl dX5_setQuota_26 (PI_of rfl rfl)
  · skip
    exact absurd hp (zI_0 h8)
theorem sp_X5_setQuota {v u : Nat} (h : SI M 1 A) (hH : HistC M H) (hv : v < 6) (ht : th A (16 + v)) (hu : u ≤ 999) : Spec D 10 yX5_setQuota cfX5_setQuota [.ref (ad 0), .int (nI (v)), .int (nI (u))] (wl D ad M) 0 0 (PX (fun x w => x = nI (quo A v) ∧ CW D ad M (hpush H A) (quoA A v u) w)) := by
  refine Spec.of (by decide) rfl (Nat.le_of_ble_eq_true rfl) rfl ?_
  refine E_aload0 (q := 1) dX5_setQuota_0 rfl ?_
  refine G_X5_store (q := 4) fl_X5_12 dX5_setQuota_1 rfl ?_
  refine E_iload1 (q := 5) dX5_setQuota_4 rfl ?_
  refine C_V1I (q := 8) lk_X5_254 (sp_X4_hasVolume h) (rc_X4 isSt_1) dX5_setQuota_5 (by decide) (Nat.le_of_ble_eq_true rfl) rfl ?_
  refine E_if_ne (tgt := 13) (q := 11) dX5_setQuota_8 (by decide) rfl (fun h8 => ?_) (fun h8 => ?_)
  · skip
    refine E_iload2 (q := 14) dX5_setQuota_13 rfl ?_
    refine E_if_lt (tgt := 24) (q := 17) dX5_setQuota_14 (by decide) rfl (fun h14 => ?_) (fun h14 => ?_)
    · skip
      exact absurd h14 (nI_pos (by omega))
    · skip
      refine E_iload2 (q := 18) dX5_setQuota_17 rfl ?_
      refine E_sipush (v := nI 999) (q := 21) dX5_setQuota_18 (by decide) rfl ?_
      refine E_icmp_leN (tgt := 27) (q := 24) dX5_setQuota_21 (by decide) rfl (by omega) (by omega) (fun h21 => ?_) (fun h21 => ?_)
      · skip
        refine E_aload0 (q := 28) dX5_setQuota_27 rfl ?_
        refine G_X5_history (q := 31) fl_X5_19 dX5_setQuota_28 rfl ?_
        refine E_aload0 (q := 32) dX5_setQuota_31 rfl ?_
        refine G_X5_store (q := 35) fl_X5_12 dX5_setQuota_32 rfl ?_
        refine C_V1Y (q := 38) lk_X5_244 (sp_X1_keep h hH) rc_X1 dX5_setQuota_35 (by decide) (Nat.le_of_ble_eq_true rfl) rfl ?_
        refine kkEW ?_
        rintro M1 ⟨hb1, hh1, hf1⟩
        refine E_aload0 (q := 39) dX5_setQuota_38 rfl ?_
        refine G_X5_store (q := 42) fl_X5_12 dX5_setQuota_39 rfl ?_
        refine G_X4_quotas (q := 45) isSt_1 fl_X5_158 dX5_setQuota_42 rfl ?_
        refine E_iload1 (q := 46) dX5_setQuota_45 rfl ?_
        refine E_ialdN (q := 47) isSt_1.quotas (by omega) (by decide) dX5_setQuota_46 rfl ?_
        refine V_int (hb1.2.2.2.1 v hv ht).2.2 ?_
        refine E_istore3 (q := 48) dX5_setQuota_47 rfl rfl ?_
        refine E_aload0 (q := 49) dX5_setQuota_48 rfl ?_
        refine G_X5_store (q := 52) fl_X5_12 dX5_setQuota_49 rfl ?_
        refine G_X4_quotas (q := 55) isSt_1 fl_X5_158 dX5_setQuota_52 rfl ?_
        refine E_iload1 (q := 56) dX5_setQuota_55 rfl ?_
        refine E_iload2 (q := 57) dX5_setQuota_56 rfl ?_
        refine E_iastN (q := 58) isSt_1.quotas (by omega) (by decide) dX5_setQuota_57 rfl ?_
        refine E_iload3 (q := 59) dX5_setQuota_58 rfl ?_
        exact E_ireturn rfl rfl dX5_setQuota_59 ⟨_, rfl, rfl, CW.step hh1 hf1 hb1.quoS (fun c hc => upd2_row (by omega))⟩
      · skip
        omega
  · skip
    exact absurd ((VolA_nI (by omega)).mpr ⟨hv, ht⟩) (zI_0 h8)
theorem sp_X5_lowestValue0  : Spec D 1 yX5_lowestValue cfX5_lowestValue [.int (nI (0))] ws 0 0 (PI (nI 1) ws) := by
  refine Spec.of (by decide) rfl (Nat.le_of_ble_eq_true rfl) rfl ?_
  refine E_iload0 (q := 1) dX5_lowestValue_0 rfl ?_
  refine E_if_ne (tgt := 8) (q := 4) dX5_lowestValue_1 (by decide) rfl (fun h1 => ?_) (fun h1 => ?_)
  · first | exact absurd h1 (by decide) | exact absurd (by decide) h1
  · skip
    refine E_iconst (v := nI 1) (q := 5) dX5_lowestValue_4 (by decide) rfl ?_
    refine E_goto (q := 9) dX5_lowestValue_5 (by decide) ?_
    exact E_ireturn rfl rfl dX5_lowestValue_9 (PI_of rfl rfl)
theorem sp_X5_lowestValue1  : Spec D 1 yX5_lowestValue cfX5_lowestValue [.int (nI (1))] ws 0 0 (PI (nI 0) ws) := by
  refine Spec.of (by decide) rfl (Nat.le_of_ble_eq_true rfl) rfl ?_
  refine E_iload0 (q := 1) dX5_lowestValue_0 rfl ?_
  refine E_if_ne (tgt := 8) (q := 4) dX5_lowestValue_1 (by decide) rfl (fun h1 => ?_) (fun h1 => ?_)
  · skip
    refine E_iconst (v := nI 0) (q := 9) dX5_lowestValue_8 (by decide) rfl ?_
    exact E_ireturn rfl rfl dX5_lowestValue_9 (PI_of rfl rfl)
  · first | exact absurd h1 (by decide) | exact absurd (by decide) h1
theorem sp_X5_highestValue0  : Spec D 1 yX5_highestValue cfX5_highestValue [.int (nI (0))] ws 0 0 (PI (nI 999) ws) := by
  refine Spec.of (by decide) rfl (Nat.le_of_ble_eq_true rfl) rfl ?_
  refine E_iload0 (q := 1) dX5_highestValue_0 rfl ?_
  refine E_if_ne (tgt := 10) (q := 4) dX5_highestValue_1 (by decide) rfl (fun h1 => ?_) (fun h1 => ?_)
  · first | exact absurd h1 (by decide) | exact absurd (by decide) h1
  · skip
    refine E_sipush (v := nI 999) (q := 7) dX5_highestValue_4 (by decide) rfl ?_
    refine E_goto (q := 11) dX5_highestValue_7 (by decide) ?_
    exact E_ireturn rfl rfl dX5_highestValue_11 (PI_of rfl rfl)
theorem sp_X5_highestValue1  : Spec D 1 yX5_highestValue cfX5_highestValue [.int (nI (1))] ws 0 0 (PI (nI 5) ws) := by
  refine Spec.of (by decide) rfl (Nat.le_of_ble_eq_true rfl) rfl ?_
  refine E_iload0 (q := 1) dX5_highestValue_0 rfl ?_
  refine E_if_ne (tgt := 10) (q := 4) dX5_highestValue_1 (by decide) rfl (fun h1 => ?_) (fun h1 => ?_)
  · skip
    refine E_iconst (v := nI 5) (q := 11) dX5_highestValue_10 (by decide) rfl ?_
    exact E_ireturn rfl rfl dX5_highestValue_11 (PI_of rfl rfl)
  · first | exact absurd h1 (by decide) | exact absurd (by decide) h1
theorem sp_X5_setSettingX {p q : Int32} (g0 : p ≠ 0) (g1 : p ≠ nI 1) : Spec D 10 yX5_setSetting cfX5_setSetting [.ref (ad 0), .int (p), .int (q)] (wl D ad M) 0 0 (PI (-2) (wl D ad M)) := by
  refine Spec.of (by decide) rfl (Nat.le_of_ble_eq_true rfl) rfl ?_
  refine E_iload1 (q := 1) dX5_setSetting_0 rfl ?_
  refine E_if_eq (tgt := 12) (q := 4) dX5_setSetting_1 (by decide) rfl (fun h1 => ?_) (fun h1 => ?_)
  · skip
    exact absurd h1 g0
  · skip
    refine E_iload1 (q := 5) dX5_setSetting_4 rfl ?_
    refine E_iconst (v := nI 1) (q := 6) dX5_setSetting_5 (by decide) rfl ?_
    refine E_icmp_eq (tgt := 12) (q := 9) dX5_setSetting_6 (by decide) rfl (fun h6 => ?_) (fun h6 => ?_)
    · skip
      exact absurd h6 g1
    · skip
      refine E_bipush (v := -2) (q := 11) dX5_setSetting_9 (by decide) rfl ?_
      exact E_ireturn rfl rfl dX5_setSetting_11 (PI_of rfl rfl)
theorem sp_X5_setSetting0B {q : Int32} (hn : ¬ (nI 1 ≤ q ∧ q ≤ nI 999)) : Spec D 10 yX5_setSetting cfX5_setSetting [.ref (ad 0), .int (nI (0)), .int (q)] (wl D ad M) 0 0 (PI (-2) (wl D ad M)) := by
  refine Spec.of (by decide) rfl (Nat.le_of_ble_eq_true rfl) rfl ?_
  refine E_iload1 (q := 1) dX5_setSetting_0 rfl ?_
  refine E_if_eq (tgt := 12) (q := 4) dX5_setSetting_1 (by decide) rfl (fun h1 => ?_) (fun h1 => ?_)
  · skip
    refine E_iload2 (q := 13) dX5_setSetting_12 rfl ?_
    refine E_iload1 (q := 14) dX5_setSetting_13 rfl ?_
    refine C_S1I (q := 17) lk_X5_287 (sp_X5_lowestValue0) dX5_setSetting_14 (by decide) (Nat.le_of_ble_eq_true rfl) rfl ?_
    refine E_icmp_lt (tgt := 28) (q := 20) dX5_setSetting_17 (by decide) rfl (fun h17 => ?_) (fun h17 => ?_)
    · skip
      refine E_bipush (v := -2) (q := 30) dX5_setSetting_28 (by decide) rfl ?_
      exact E_ireturn rfl rfl dX5_setSetting_30 (PI_of rfl rfl)
    · skip
      refine E_iload2 (q := 21) dX5_setSetting_20 rfl ?_
      refine E_iload1 (q := 22) dX5_setSetting_21 rfl ?_
      refine C_S1I (q := 25) lk_X5_290 (sp_X5_highestValue0) dX5_setSetting_22 (by decide) (Nat.le_of_ble_eq_true rfl) rfl ?_
      refine E_icmp_le (tgt := 31) (q := 28) dX5_setSetting_25 (by decide) rfl (fun h25 => ?_) (fun h25 => ?_)
      · skip
        exact absurd ⟨Int32.not_lt.mp h17, h25⟩ hn
      · skip
        refine E_bipush (v := -2) (q := 30) dX5_setSetting_28 (by decide) rfl ?_
        exact E_ireturn rfl rfl dX5_setSetting_30 (PI_of rfl rfl)
  · first | exact absurd h1 (by decide) | exact absurd (by decide) h1
theorem sp_X5_setSetting0 {u : Nat} (h : SI M 1 A) (hH : HistC M H) (hu : 1 ≤ u ∧ u ≤ 999) : Spec D 10 yX5_setSetting cfX5_setSetting [.ref (ad 0), .int (nI (0)), .int (nI (u))] (wl D ad M) 0 0 (PX (fun x w => x = nI (aP A) ∧ CW D ad M (hpush H A) (setA A 0 u) w)) := by
  refine Spec.of (by decide) rfl (Nat.le_of_ble_eq_true rfl) rfl ?_
  refine E_iload1 (q := 1) dX5_setSetting_0 rfl ?_
  refine E_if_eq (tgt := 12) (q := 4) dX5_setSetting_1 (by decide) rfl (fun h1 => ?_) (fun h1 => ?_)
  · skip
    refine E_iload2 (q := 13) dX5_setSetting_12 rfl ?_
    refine E_iload1 (q := 14) dX5_setSetting_13 rfl ?_
    refine C_S1I (q := 17) lk_X5_287 (sp_X5_lowestValue0) dX5_setSetting_14 (by decide) (Nat.le_of_ble_eq_true rfl) rfl ?_
    refine E_icmp_ltN (tgt := 28) (q := 20) dX5_setSetting_17 (by decide) rfl (by omega) (by omega) (fun h17 => ?_) (fun h17 => ?_)
    · skip
      exact absurd h17 (by omega)
    · skip
      refine E_iload2 (q := 21) dX5_setSetting_20 rfl ?_
      refine E_iload1 (q := 22) dX5_setSetting_21 rfl ?_
      refine C_S1I (q := 25) lk_X5_290 (sp_X5_highestValue0) dX5_setSetting_22 (by decide) (Nat.le_of_ble_eq_true rfl) rfl ?_
      refine E_icmp_leN (tgt := 31) (q := 28) dX5_setSetting_25 (by decide) rfl (by omega) (by omega) (fun h25 => ?_) (fun h25 => ?_)
      · skip
        refine E_aload0 (q := 32) dX5_setSetting_31 rfl ?_
        refine G_X5_history (q := 35) fl_X5_19 dX5_setSetting_32 rfl ?_
        refine E_aload0 (q := 36) dX5_setSetting_35 rfl ?_
        refine G_X5_store (q := 39) fl_X5_12 dX5_setSetting_36 rfl ?_
        refine C_V1Y (q := 42) lk_X5_244 (sp_X1_keep h hH) rc_X1 dX5_setSetting_39 (by decide) (Nat.le_of_ble_eq_true rfl) rfl ?_
        refine kkEW ?_
        rintro M1 ⟨hb1, hh1, hf1⟩
        refine E_aload0 (q := 43) dX5_setSetting_42 rfl ?_
        refine G_X5_store (q := 46) fl_X5_12 dX5_setSetting_43 rfl ?_
        refine G_X4_settings (q := 49) isSt_1 fl_X5_148 dX5_setSetting_46 rfl ?_
        refine E_iload1 (q := 50) dX5_setSetting_49 rfl ?_
        refine E_ialdN (q := 51) isSt_1.settings (by omega) (by decide) dX5_setSetting_50 rfl ?_
        refine V_int hb1.2.1.1 ?_
        refine E_istore3 (q := 52) dX5_setSetting_51 rfl rfl ?_
        refine E_aload0 (q := 53) dX5_setSetting_52 rfl ?_
        refine G_X5_store (q := 56) fl_X5_12 dX5_setSetting_53 rfl ?_
        refine G_X4_settings (q := 59) isSt_1 fl_X5_148 dX5_setSetting_56 rfl ?_
        refine E_iload1 (q := 60) dX5_setSetting_59 rfl ?_
        refine E_iload2 (q := 61) dX5_setSetting_60 rfl ?_
        refine E_iastN (q := 62) isSt_1.settings (by omega) (by decide) dX5_setSetting_61 rfl ?_
        refine E_iload3 (q := 63) dX5_setSetting_62 rfl ?_
        exact E_ireturn rfl rfl dX5_setSetting_63 ⟨_, rfl, rfl, CW.step hh1 hf1 (hb1.setS (by decide)) (fun c hc => upd2_row (by omega))⟩
      · skip
        omega
  · first | exact absurd h1 (by decide) | exact absurd (by decide) h1
theorem sp_X5_setSetting1B {q : Int32} (hn : ¬ (nI 0 ≤ q ∧ q ≤ nI 5)) : Spec D 10 yX5_setSetting cfX5_setSetting [.ref (ad 0), .int (nI (1)), .int (q)] (wl D ad M) 0 0 (PI (-2) (wl D ad M)) := by
  refine Spec.of (by decide) rfl (Nat.le_of_ble_eq_true rfl) rfl ?_
  refine E_iload1 (q := 1) dX5_setSetting_0 rfl ?_
  refine E_if_eq (tgt := 12) (q := 4) dX5_setSetting_1 (by decide) rfl (fun h1 => ?_) (fun h1 => ?_)
  · first | exact absurd h1 (by decide) | exact absurd (by decide) h1
  · skip
    refine E_iload1 (q := 5) dX5_setSetting_4 rfl ?_
    refine E_iconst (v := nI 1) (q := 6) dX5_setSetting_5 (by decide) rfl ?_
    refine E_icmp_eqN (tgt := 12) (q := 9) dX5_setSetting_6 (by decide) rfl (by omega) (by omega) (fun h6 => ?_) (fun h6 => ?_)
    · skip
      refine E_iload2 (q := 13) dX5_setSetting_12 rfl ?_
      refine E_iload1 (q := 14) dX5_setSetting_13 rfl ?_
      refine C_S1I (q := 17) lk_X5_287 (sp_X5_lowestValue1) dX5_setSetting_14 (by decide) (Nat.le_of_ble_eq_true rfl) rfl ?_
      refine E_icmp_lt (tgt := 28) (q := 20) dX5_setSetting_17 (by decide) rfl (fun h17 => ?_) (fun h17 => ?_)
      · skip
        refine E_bipush (v := -2) (q := 30) dX5_setSetting_28 (by decide) rfl ?_
        exact E_ireturn rfl rfl dX5_setSetting_30 (PI_of rfl rfl)
      · skip
        refine E_iload2 (q := 21) dX5_setSetting_20 rfl ?_
        refine E_iload1 (q := 22) dX5_setSetting_21 rfl ?_
        refine C_S1I (q := 25) lk_X5_290 (sp_X5_highestValue1) dX5_setSetting_22 (by decide) (Nat.le_of_ble_eq_true rfl) rfl ?_
        refine E_icmp_le (tgt := 31) (q := 28) dX5_setSetting_25 (by decide) rfl (fun h25 => ?_) (fun h25 => ?_)
        · skip
          exact absurd ⟨Int32.not_lt.mp h17, h25⟩ hn
        · skip
          refine E_bipush (v := -2) (q := 30) dX5_setSetting_28 (by decide) rfl ?_
          exact E_ireturn rfl rfl dX5_setSetting_30 (PI_of rfl rfl)
    · first | exact absurd h6 (by decide) | exact absurd (by decide) h6
theorem sp_X5_setSetting1 {u : Nat} (h : SI M 1 A) (hH : HistC M H) (hu : 0 ≤ u ∧ u ≤ 5) : Spec D 10 yX5_setSetting cfX5_setSetting [.ref (ad 0), .int (nI (1)), .int (nI (u))] (wl D ad M) 0 0 (PX (fun x w => x = nI (aC A) ∧ CW D ad M (hpush H A) (setA A 1 u) w)) := by
  refine Spec.of (by decide) rfl (Nat.le_of_ble_eq_true rfl) rfl ?_
  refine E_iload1 (q := 1) dX5_setSetting_0 rfl ?_
  refine E_if_eq (tgt := 12) (q := 4) dX5_setSetting_1 (by decide) rfl (fun h1 => ?_) (fun h1 => ?_)
  · first | exact absurd h1 (by decide) | exact absurd (by decide) h1
  · skip
    refine E_iload1 (q := 5) dX5_setSetting_4 rfl ?_
    refine E_iconst (v := nI 1) (q := 6) dX5_setSetting_5 (by decide) rfl ?_
    refine E_icmp_eqN (tgt := 12) (q := 9) dX5_setSetting_6 (by decide) rfl (by omega) (by omega) (fun h6 => ?_) (fun h6 => ?_)
    · skip
      refine E_iload2 (q := 13) dX5_setSetting_12 rfl ?_
      refine E_iload1 (q := 14) dX5_setSetting_13 rfl ?_
      refine C_S1I (q := 17) lk_X5_287 (sp_X5_lowestValue1) dX5_setSetting_14 (by decide) (Nat.le_of_ble_eq_true rfl) rfl ?_
      refine E_icmp_ltN (tgt := 28) (q := 20) dX5_setSetting_17 (by decide) rfl (by omega) (by omega) (fun h17 => ?_) (fun h17 => ?_)
      · skip
        exact absurd h17 (by omega)
      · skip
        refine E_iload2 (q := 21) dX5_setSetting_20 rfl ?_
        refine E_iload1 (q := 22) dX5_setSetting_21 rfl ?_
        refine C_S1I (q := 25) lk_X5_290 (sp_X5_highestValue1) dX5_setSetting_22 (by decide) (Nat.le_of_ble_eq_true rfl) rfl ?_
        refine E_icmp_leN (tgt := 31) (q := 28) dX5_setSetting_25 (by decide) rfl (by omega) (by omega) (fun h25 => ?_) (fun h25 => ?_)
        · skip
          refine E_aload0 (q := 32) dX5_setSetting_31 rfl ?_
          refine G_X5_history (q := 35) fl_X5_19 dX5_setSetting_32 rfl ?_
          refine E_aload0 (q := 36) dX5_setSetting_35 rfl ?_
          refine G_X5_store (q := 39) fl_X5_12 dX5_setSetting_36 rfl ?_
          refine C_V1Y (q := 42) lk_X5_244 (sp_X1_keep h hH) rc_X1 dX5_setSetting_39 (by decide) (Nat.le_of_ble_eq_true rfl) rfl ?_
          refine kkEW ?_
          rintro M1 ⟨hb1, hh1, hf1⟩
          refine E_aload0 (q := 43) dX5_setSetting_42 rfl ?_
          refine G_X5_store (q := 46) fl_X5_12 dX5_setSetting_43 rfl ?_
          refine G_X4_settings (q := 49) isSt_1 fl_X5_148 dX5_setSetting_46 rfl ?_
          refine E_iload1 (q := 50) dX5_setSetting_49 rfl ?_
          refine E_ialdN (q := 51) isSt_1.settings (by omega) (by decide) dX5_setSetting_50 rfl ?_
          refine V_int hb1.2.1.2 ?_
          refine E_istore3 (q := 52) dX5_setSetting_51 rfl rfl ?_
          refine E_aload0 (q := 53) dX5_setSetting_52 rfl ?_
          refine G_X5_store (q := 56) fl_X5_12 dX5_setSetting_53 rfl ?_
          refine G_X4_settings (q := 59) isSt_1 fl_X5_148 dX5_setSetting_56 rfl ?_
          refine E_iload1 (q := 60) dX5_setSetting_59 rfl ?_
          refine E_iload2 (q := 61) dX5_setSetting_60 rfl ?_
          refine E_iastN (q := 62) isSt_1.settings (by omega) (by decide) dX5_setSetting_61 rfl ?_
          refine E_iload3 (q := 63) dX5_setSetting_62 rfl ?_
          exact E_ireturn rfl rfl dX5_setSetting_63 ⟨_, rfl, rfl, CW.step hh1 hf1 (hb1.setS (by decide)) (fun c hc => upd2_row (by omega))⟩
        · skip
          omega
    · first | exact absurd h6 (by decide) | exact absurd (by decide) h6
theorem sp_X5_undo0 (hk : M 131 2 = nI 0) : Spec D 10 yX5_undo cfX5_undo [.ref (ad 0)] (wl D ad M) 0 0 (PI (-1) (wl D ad M)) := by
  refine Spec.of (by decide) rfl (Nat.le_of_ble_eq_true rfl) rfl ?_
  refine E_aload0 (q := 1) dX5_undo_0 rfl ?_
  refine G_X5_history (q := 4) fl_X5_19 dX5_undo_1 rfl ?_
  refine G_X1_length (q := 7) fl_X5_147 dX5_undo_4 rfl ?_
  refine V_int hk ?_
  refine E_if_ne (tgt := 12) (q := 10) dX5_undo_7 (by decide) rfl (fun h7 => ?_) (fun h7 => ?_)
  · first | exact absurd h7 (by decide) | exact absurd (by decide) h7
  · skip
    refine E_iconst (v := -1) (q := 11) dX5_undo_10 (by decide) rfl ?_
    exact E_ireturn rfl rfl dX5_undo_11 (PI_of rfl rfl)
theorem sp_X5_undo (hH : HistC M (H ++ [B])) : Spec D 10 yX5_undo cfX5_undo [.ref (ad 0)] (wl D ad M) 0 0 (PX (fun x w => x = nI H.length ∧ CW D ad M H B w)) := by
  refine Spec.of (by decide) rfl (Nat.le_of_ble_eq_true rfl) rfl ?_
  obtain ⟨nx, g1, g2, g3, g4, g5, g6, g7⟩ := hH.pop
  refine E_aload0 (q := 1) dX5_undo_0 rfl ?_
  refine G_X5_history (q := 4) fl_X5_19 dX5_undo_1 rfl ?_
  refine G_X1_length (q := 7) fl_X5_147 dX5_undo_4 rfl ?_
  refine V_int g3 ?_
  refine E_if_ne (tgt := 12) (q := 10) dX5_undo_7 (by decide) rfl (fun h7 => ?_) (fun h7 => ?_)
  · skip
    refine E_aload0 (q := 13) dX5_undo_12 rfl ?_
    refine G_X5_history (q := 16) fl_X5_19 dX5_undo_13 rfl ?_
    refine E_aload0 (q := 17) dX5_undo_16 rfl ?_
    refine G_X5_store (q := 20) fl_X5_12 dX5_undo_17 rfl ?_
    refine C_V1Y (q := 23) lk_X5_293 (sp_X1_giveBack hH) rc_X1 dX5_undo_20 (by decide) (Nat.le_of_ble_eq_true rfl) rfl ?_
    refine kkEW ?_
    rintro M1 ⟨hb1, hh1, hf1⟩
    refine E_aload0 (q := 24) dX5_undo_23 rfl ?_
    refine G_X5_history (q := 27) fl_X5_19 dX5_undo_24 rfl ?_
    refine G_X1_length (q := 30) fl_X5_147 dX5_undo_27 rfl ?_
    refine V_int (show _ = nI H.length from by obtain ⟨_, _, _, q3, _⟩ := hh1; exact q3) ?_
    exact E_ireturn rfl rfl dX5_undo_30 ⟨_, rfl, rfl, M1, rfl, hb1, hh1, hf1⟩
  · skip
    exact absurd h7 (fun z => by have := (nI_z (by omega)).mp z; omega)
end CLS