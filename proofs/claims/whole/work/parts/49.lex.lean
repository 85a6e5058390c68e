/-! WORDS as numbers of 64 bits -/
section LEX
variable {b : Nat → Nat} {n s e t g k : Nat} {A : AS}
theorem lcmp_eq {x y : Int64} : lg_cmp x y = 0 ↔ x = y := by
  unfold lg_cmp
  constructor
  · intro h
    by_cases c : x > y
    · rw [if_pos c] at h; exact absurd h (by decide)
    · rw [if_neg c] at h
      by_cases c2 : x = y
      · exact c2
      · rw [if_neg c2] at h; exact absurd h (by decide)
  · rintro rfl
    have : ¬ x > x := by
      rw [gt_iff_lt, Int64.lt_iff_toInt_lt]; omega
    rw [if_neg this, if_pos rfl]
def wdI (b : Nat → Nat) (s k : Nat) : Int64 := if k ≤ 12 then Int64.ofNat (wdN b s k) else -1
theorem i2l_c : ∀ l, l < 32 → (nI l).toInt64 = Int64.ofNat l := by decide
theorem wdI_s (hk : k < 12) (hc : b (s + k) - 96 < 32) : 32 * wdI b s k + (nI (b (s + k) - 96)).toInt64 = wdI b s (k + 1) := by
  unfold wdI
  rw [if_pos (by omega), if_pos (by omega), i2l_c _ hc, wdN, Int64.ofNat_add, Int64.ofNat_mul]
  rfl
theorem wdI_e (hk : ¬ k < 12) : (-1 : Int64) = wdI b s (k + 1) := by
  unfold wdI
  rw [if_neg (by omega)]
theorem ofN_inj {x y : Nat} (hx : x < 2 ^ 63) (hy : y < 2 ^ 63) (h : Int64.ofNat x = Int64.ofNat y) : x = y := by
  have h1 : (Int64.ofNat x).toBitVec.toNat = (Int64.ofNat y).toBitVec.toNat := by rw [h]
  have e : ∀ z, z < 2 ^ 63 → (Int64.ofNat z).toBitVec.toNat = z := fun z hz => by
    show (BitVec.ofNat 64 z).toNat = z
    rw [BitVec.toNat_ofNat, Nat.mod_eq_of_lt (by omega)]
  rw [e x hx, e y hy] at h1
  exact h1
theorem ofN_m1 {x : Nat} (hx : x < 2 ^ 63) : Int64.ofNat x ≠ -1 := fun h => by
  have h1 : (Int64.ofNat x).toBitVec.toNat = (-1 : Int64).toBitVec.toNat := by rw [h]
  have e : (Int64.ofNat x).toBitVec.toNat = x := by
    show (BitVec.ofNat 64 x).toNat = x
    rw [BitVec.toNat_ofNat, Nat.mod_eq_of_lt (by omega)]
  rw [e] at h1
  have e2 : (-1 : Int64).toBitVec.toNat = 18446744073709551615 := by decide
  omega
def codeL : List Int64 := [754341285, 24716933, 674093, 636976, 3554757, 277892, 19636, 540140, 113752243]
theorem code_ok : ∀ i, i < 9 → codeL.getD i 0 = Int64.ofNat (lsN (wordL i)) ∧ lsN (wordL i) < 2 ^ 60 := by decide
theorem isW_code {i : Nat} (hi : i < 9) (hk : knd b n s = 1) : wdI b s (tokE b n s - s) = codeL.getD i 0 ↔ isWd b s (tokE b n s) (wordL i) := by
  obtain ⟨c1, c2⟩ := code_ok i hi
  obtain ⟨w1, w2⟩ := word_len i hi
  obtain ⟨e1, e2, e3, e4⟩ := tokE_sp (knd_1.mp hk).1 (Or.inl hk)
  have hlet : ∀ j, j < tokE b n s - s → 97 ≤ b (s + j) ∧ b (s + j) ≤ 122 := fun j hj => (knd_1.mp ((e4 (s + j) (by omega) (by omega)).trans hk)).2
  rw [c1]
  unfold isWd wdI
  by_cases c : tokE b n s - s ≤ 12
  · rw [if_pos c, ← wd_eq hlet (wordL i) (word_ok i hi)]
    have hw := wdN_lt (b := b) (s := s) (k := tokE b n s - s) (fun j a d => by have := hlet (j - s) (by omega); rw [show s + (j - s) = j by omega] at this; exact this.2) _ (Nat.le_refl _)
    have hp : 2 ^ (5 * (tokE b n s - s)) ≤ 2 ^ 60 := Nat.pow_le_pow_right (by decide) (by omega)
    constructor
    · intro z; exact ofN_inj (by omega) (by omega) z
    · intro z; rw [z]
  · rw [if_neg c]
    constructor
    · intro z; exact absurd z.symm (ofN_m1 (by omega))
    · rintro ⟨z, -⟩; omega
end LEX
