
/-! THE REFERENCE: its tokens -/
section MODEL
variable {D : va_G} {ad : Nat → Nat} {M : Mem} {ws : va_W} {A : AS} {b : Nat → Nat} {n s t e p q g : Nat}
theorem sp_X6_byteAtT (h11 : M 157 11 = nI n) (h12 : M 157 12 = nI q) (hq : q < n) (hn : n ≤ 1000) (hT : ∀ i, i < n → M 162 i &&& nI 255 = nI (b i)) : Spec D 1 yX6_byteAt cfX6_byteAt [.ref (ad 157)] (wl D ad M) 0 0 (PI (nI (b q)) (wl D ad M)) := by
  refine Spec.of (by decide) rfl (Nat.le_of_ble_eq_true rfl) rfl ?_
  refine E_aload0 (q := 1) dX6_byteAt_0 rfl ?_
  refine G_X6_at (q := 4) fl_X6_214 dX6_byteAt_1 rfl ?_
  refine V_int h12 ?_
  refine E_aload0 (q := 5) dX6_byteAt_4 rfl ?_
  refine G_X6_textSize (q := 8) fl_X6_217 dX6_byteAt_5 rfl ?_
  refine V_int h11 ?_
  refine E_icmp_geN (tgt := 27) (q := 11) dX6_byteAt_8 (by decide) rfl (by omega) (by omega) (fun h8 => ?_) (fun h8 => ?_)
  · skip
    exact absurd h8 (by omega)
  · skip
    refine E_aload0 (q := 12) dX6_byteAt_11 rfl ?_
    refine G_X6_buffer (q := 15) fl_X6_25 dX6_byteAt_12 rfl ?_
    refine E_aload0 (q := 16) dX6_byteAt_15 rfl ?_
    refine G_X6_at (q := 19) fl_X6_214 dX6_byteAt_16 rfl ?_
    refine V_int h12 ?_
    refine E_baldN (q := 20) sk_162 (by omega) (by decide) dX6_byteAt_19 rfl ?_
    refine E_sipush (v := nI 255) (q := 23) dX6_byteAt_20 (by decide) rfl ?_
    refine E_iand (q := 24) dX6_byteAt_23 rfl ?_
    refine V_int (hT q hq) ?_
    refine E_goto (q := 28) dX6_byteAt_24 (by decide) ?_
    exact E_ireturn rfl rfl dX6_byteAt_28 (PI_of rfl rfl)
theorem sp_X6_byteAtF (h11 : M 157 11 = nI n) (h12 : M 157 12 = nI q) (hq : n ≤ q) (hq2 : q ≤ 1000) : Spec D 1 yX6_byteAt cfX6_byteAt [.ref (ad 157)] (wl D ad M) 0 0 (PI (-1) (wl D ad M)) := by
  refine Spec.of (by decide) rfl (Nat.le_of_ble_eq_true rfl) rfl ?_
  refine E_aload0 (q := 1) dX6_byteAt_0 rfl ?_
  refine G_X6_at (q := 4) fl_X6_214 dX6_byteAt_1 rfl ?_
  refine V_int h12 ?_
  refine E_aload0 (q := 5) dX6_byteAt_4 rfl ?_
  refine G_X6_textSize (q := 8) fl_X6_217 dX6_byteAt_5 rfl ?_
  refine V_int h11 ?_
  refine E_icmp_geN (tgt := 27) (q := 11) dX6_byteAt_8 (by decide) rfl (by omega) (by omega) (fun h8 => ?_) (fun h8 => ?_)
  · skip
    refine E_iconst (v := -1) (q := 28) dX6_byteAt_27 (by decide) rfl ?_
    exact E_ireturn rfl rfl dX6_byteAt_28 (PI_of rfl rfl)
  · skip
    exact absurd h8 (by omega)
/-- only the cells of the token change -/
def FrA (M M' : Mem) : Prop := (∀ c, c ≠ 157 → M' c = M c) ∧ ∀ j, ¬ (12 ≤ j ∧ j ≤ 17) → j ≠ 1016 → M' 157 j = M 157 j
theorem FrA.rf : FrA M M := ⟨fun _ _ => rfl, fun _ _ _ => rfl⟩
theorem FrA.tr {M1 M2 : Mem} (h : FrA M M1) (h2 : FrA M1 M2) : FrA M M2 := ⟨fun c a => (h2.1 c a).trans (h.1 c a), fun j a d => (h2.2 j a d).trans (h.2 j a d)⟩
theorem FrA.u {M1 : Mem} {j : Nat} {v : Int32} (h : FrA M M1) (hj : 12 ≤ j ∧ j ≤ 17 ∨ j = 1016) : FrA M (upd2 M1 157 j v) := ⟨fun c a => by rw [upd2_row a]; exact h.1 c a, fun i a d => by rw [upd2_ne (by omega)]; exact h.2 i a d⟩
/-- the token at s -/
def LxR (M : Mem) (b : Nat → Nat) (n s : Nat) : Prop := M 157 12 = nI (tokE b n s) ∧ M 157 13 = nI s ∧ M 157 14 = nI (knd b n s) ∧ (knd b n s = 2 → M 157 15 = nI (itv b n s)) ∧ (knd b n s = 1 → lgOf (M 157 16) (M 157 1016) = wdI b s (tokE b n s - s) ∧ M 157 17 = nI (nmc b n s)) ∧ (∃ x, x < 2 ^ 31 ∧ M 157 15 = nI x) ∧ (∃ x, x < 2 ^ 31 ∧ M 157 17 = nI x)
theorem sp_X6_advanceX (hf : M 157 18 ≠ 0) : Spec D 3 yX6_advance cfX6_advance [.ref (ad 157)] (wl D ad M) 0 0 (PV (wl D ad M)) := by
  refine Spec.of (by decide) rfl (Nat.le_of_ble_eq_true rfl) rfl ?_
  refine E_aload0 (q := 1) dX6_advance_0 rfl ?_
  refine G_X6_fault (q := 4) fl_X6_220 dX6_advance_1 rfl ?_
  refine E_if_eq (tgt := 8) (q := 7) dX6_advance_4 (by decide) rfl (fun h4 => ?_) (fun h4 => ?_)
  · skip
    exact absurd h4 hf
  · skip
    exact E_vreturn rfl rfl dX6_advance_7 (PV_of rfl)
theorem nm_step {k : Nat} (hk : k < 6) (hc : b (s + k) - 96 < 32) : nI (nmN b s k) ||| (nI (b (s + k) - 96) <<< (nI (25 - 5 * k) &&& 31)) = nI (nmN b s (k + 1)) := by
  have e : nI (b (s + k) - 96) <<< (nI (25 - 5 * k) &&& 31) = nI ((b (s + k) - 96) * 2 ^ (25 - 5 * k)) := by
    have hp : (b (s + k) - 96) * 2 ^ (25 - 5 * k) < 2 ^ 32 := Nat.lt_of_le_of_lt (Nat.mul_le_mul (show b (s + k) - 96 ≤ 31 by omega) (Nat.pow_le_pow_right (by decide) (show 25 - 5 * k ≤ 25 by omega))) (by decide)
    refine pk_shlN _ (25 - 5 * k) ?_ hp
    rcases (show k = 0 ∨ k = 1 ∨ k = 2 ∨ k = 3 ∨ k = 4 ∨ k = 5 by omega) with rfl | rfl | rfl | rfl | rfl | rfl <;> decide
  rw [e, nI_or, nmN_or hk hc, nmN, if_pos hk]
end MODEL
