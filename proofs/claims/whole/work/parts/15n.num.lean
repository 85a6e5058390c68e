/-! BITS OF SMALL NUMBERS -/
theorem subL_nil : subL [] [] := trivial
theorem subL_s {a b : List (Option Value)} {v : Value} (h : subL a b) : subL (some v :: a) (some v :: b) := ⟨rfl, h⟩
theorem subL_n {a b : List (Option Value)} {x : Option Value} (h : subL a b) : subL (none :: a) (x :: b) := h
theorem nI_lo {k : Nat} (hk : k < 32) : (nI k).toBitVec.toNat % 32 = k := by
  rw [pk_tn (by omega)]; omega
theorem shr_nI {m k : Nat} (hm : m < 2 ^ 31) (hk : k < 32) : nI m >>> (nI k &&& 31) = nI (m / 2 ^ k) := by
  apply Int32.toInt_inj.mp
  have h1 : m / 2 ^ k < 2 ^ 31 := Nat.lt_of_le_of_lt (Nat.div_le_self _ _) hm
  rw [RoadKit.c_ishr (nI m) (nI k) k (nI_lo hk), nI_toInt hm, nI_toInt h1]
  rfl
theorem and_one (n : Nat) : nI n &&& nI 1 = nI (n % 2) := by
  rw [nI_and, Nat.and_one_is_mod]
theorem tb_nI {m k : Nat} : nI (m / 2 ^ k % 2) = nI 1 ↔ m.testBit k = true := by
  rw [Nat.testBit_eq_decide_div_mod_eq, decide_eq_true_eq]
  constructor
  · intro h
    exact nI_inj (by omega) (by omega) h
  · intro h; rw [h]
theorem tb_nI0 {m k : Nat} : nI (m / 2 ^ k % 2) = nI 0 ↔ ¬ m.testBit k = true := by
  rw [Nat.testBit_eq_decide_div_mod_eq, decide_eq_true_eq]
  constructor
  · intro h
    have := nI_inj (by omega) (by omega) h
    omega
  · intro h; rw [show m / 2 ^ k % 2 = 0 by omega]
theorem ushr_nI {m k : Nat} (hm : m < 2 ^ 31) (hk : k < 32) : ((nI m).toUInt32 >>> ((nI k).toUInt32 &&& Int32.toUInt32 31)).toInt32 = nI (m / 2 ^ k) := by
  rcases Nat.eq_zero_or_pos k with rfl | h0
  · have : (nI 0).toUInt32 &&& Int32.toUInt32 31 = 0 := by decide
    rw [this, Nat.pow_zero, Nat.div_one]
    rw [UInt32.shiftRight_zero]
    rfl
  · apply Int32.toInt_inj.mp
    have h1 : m / 2 ^ k < 2 ^ 31 := Nat.lt_of_le_of_lt (Nat.div_le_self _ _) hm
    rw [show (nI k).toUInt32 &&& Int32.toUInt32 31 = (nI k &&& 31).toUInt32 from rfl, RoadKit.c_iushr (nI m) (nI k) k (nI_lo hk) h0, nI_toInt hm, nI_toInt h1, Int.emod_eq_of_lt (by omega) (by omega)]
    rfl
/-- a without b -/
def andn (a b : Nat) : Nat := a &&& (b ^^^ 4294967295)
theorem andn_bit {a b k : Nat} (ha : a < 2 ^ 32) : (andn a b).testBit k = true ↔ a.testBit k = true ∧ ¬ b.testBit k = true := by
  unfold andn
  rw [Nat.testBit_and, Nat.testBit_xor, show (4294967295 : Nat) = 2 ^ 32 - 1 from rfl, Nat.testBit_two_pow_sub_one]
  by_cases hk : k < 32
  · simp only [hk, decide_true, Bool.xor_true, Bool.and_eq_true, Bool.not_eq_true', Bool.not_eq_true]
  · have : a.testBit k = false := Nat.testBit_lt_two_pow (Nat.lt_of_lt_of_le ha (Nat.pow_le_pow_right (by decide) (by omega)))
    rw [this]; simp
theorem andn_le {a b : Nat} : andn a b ≤ a := Nat.and_le_left
theorem andn_0 {a b : Nat} (ha : a < 2 ^ 32) : andn a b = 0 ↔ ∀ k, a.testBit k = true → b.testBit k = true := by
  constructor
  · intro h k hk
    refine Classical.byContradiction fun hb => ?_
    have := (andn_bit ha).mpr ⟨hk, hb⟩
    rw [h, Nat.zero_testBit] at this
    cases this
  · intro h
    apply Nat.eq_of_testBit_eq
    intro k
    rw [Nat.zero_testBit]
    cases hb : (andn a b).testBit k with
    | false => rfl
    | true =>
      obtain ⟨h1, h2⟩ := (andn_bit ha).mp hb
      exact absurd (h k h1) h2
theorem nI_andn (a b : Nat) : nI a &&& (nI b ^^^ (-1 : Int32)) = nI (andn a b) := by
  rw [nI_m1, nI_xor, nI_and]; rfl
theorem nI_andn' (a b : Nat) : (nI b ^^^ (-1 : Int32)) &&& nI a = nI (andn a b) := by
  rw [Int32.and_comm]; exact nI_andn a b
theorem pow_bit {w k : Nat} : (2 ^ w).testBit k = true ↔ w = k := by rw [Nat.testBit_two_pow, decide_eq_true_eq]
theorem or_bit {a b k : Nat} : (a ||| b).testBit k = true ↔ a.testBit k = true ∨ b.testBit k = true := by rw [Nat.testBit_or, Bool.or_eq_true]
theorem and_bit {a b k : Nat} : (a &&& b).testBit k = true ↔ a.testBit k = true ∧ b.testBit k = true := by rw [Nat.testBit_and, Bool.and_eq_true]
theorem eq_bits {a b : Nat} (h : ∀ k, a.testBit k = true ↔ b.testBit k = true) : a = b := Nat.eq_of_testBit_eq fun k => Bool.eq_iff_iff.mpr (h k)
theorem zero_bits {a : Nat} : a = 0 ↔ ∀ k, ¬ a.testBit k = true := ⟨fun h k => by rw [h, Nat.zero_testBit]; simp, fun h => eq_bits fun k => ⟨fun q => absurd q (h k), fun q => by rw [Nat.zero_testBit] at q; cases q⟩⟩
theorem bset_ext {p : Nat → Prop} {n m : Nat} (h : ∀ k, m.testBit k = true ↔ k < n ∧ p k) : bset p n = m := eq_bits fun k => (bset_bit p n k).trans (h k).symm
theorem bset_lt32 {p : Nat → Prop} {n : Nat} (h : n ≤ 31) : bset p n < 2 ^ 31 := Nat.lt_of_lt_of_le (bset_lt p n) (Nat.pow_le_pow_right (by decide) h)
/-- how many bits -/
def popN (m : Nat) : Nat := nsum (fun k => if m.testBit k = true then 1 else 0) 32
theorem popN_0 : popN 0 = 0 := nsum_zero fun k _ => by rw [Nat.zero_testBit]; rfl
theorem nsum_but {f g : Nat → Nat} {n u : Nat} (hu : u < n) (h1 : f u = g u + 1) (h2 : ∀ k, k ≠ u → f k = g k) : nsum f n = nsum g n + 1 := by
  induction n with
  | zero => omega
  | succ n ih =>
    rw [nsum, nsum]
    by_cases e : u = n
    · subst e
      rw [nsum_congr (g := g) (fun k hk => h2 k (by omega)), h1]; omega
    · rw [ih (by omega), h2 n (fun z => e z.symm)]; omega
theorem popN_or {m u : Nat} (hu : u < 32) (h : ¬ m.testBit u = true) : popN (m ||| 2 ^ u) = popN m + 1 := by
  refine nsum_but hu ?_ ?_
  · rw [if_pos (or_bit.mpr (Or.inr (pow_bit.mpr rfl))), if_neg h]
  · intro k hk
    by_cases q : m.testBit k = true
    · rw [if_pos (or_bit.mpr (Or.inl q)), if_pos q]
    · rw [if_neg q, if_neg]
      intro z
      rcases or_bit.mp z with z | z
      · exact q z
      · exact hk (pow_bit.mp z).symm
theorem popN_bset (p : Nat → Prop) {n : Nat} (hn : n ≤ 32) : popN (bset p n) = nsum (fun k => if dB (p k) = true then 1 else 0) n := by
  induction n with
  | zero => exact popN_0
  | succ n ih =>
    rw [bset, nsum, ← ih (by omega)]
    by_cases h : p n
    · rw [if_pos (dB_t h), if_pos (dB_t h), popN_or (by omega)]
      intro z
      have := (bset_bit p n n).mp z
      omega
    · rw [if_neg (by rw [dB_f h]; simp), if_neg (by rw [dB_f h]; simp), Nat.or_zero, Nat.add_zero]
theorem popN_le (m : Nat) : popN m ≤ 32 := Nat.le_trans (nsum_le (c := 1) fun k _ => by split <;> omega) (by omega)
/-- m without its lowest bit -/
theorem lowbit {m u : Nat} (h : fst m u) : ∀ k, (m &&& (m - 1)).testBit k = true ↔ m.testBit k = true ∧ k ≠ u := by
  have h1 : m % 2 ^ u = 0 := h.2
  have h2 : m / 2 ^ u % 2 = 1 := by
    have := h.1
    rwa [Nat.testBit_eq_decide_div_mod_eq, decide_eq_true_eq] at this
  have hp : 0 < 2 ^ u := Nat.two_pow_pos u
  have h3 : m = 2 ^ (u + 1) * (m / 2 ^ u / 2) + 2 ^ u := by
    have e1 := Nat.div_add_mod m (2 ^ u)
    have e2 : m / 2 ^ u = 2 * (m / 2 ^ u / 2) + 1 := by omega
    rw [h1, Nat.add_zero] at e1
    rw [Nat.pow_succ, Nat.mul_assoc]
    conv => lhs; rw [← e1, e2, Nat.mul_add, Nat.mul_one]
  generalize m / 2 ^ u / 2 = q at h3
  have h4 : m - 1 = 2 ^ (u + 1) * q + (2 ^ u - 1) := by omega
  intro k
  rw [and_bit]
  have hlt1 : 2 ^ u - 1 < 2 ^ (u + 1) := by rw [Nat.pow_succ]; omega
  have hlt2 : 2 ^ u < 2 ^ (u + 1) := by rw [Nat.pow_succ]; omega
  constructor
  · rintro ⟨a, b⟩
    refine ⟨a, ?_⟩
    rintro rfl
    rw [h4, Nat.testBit_two_pow_mul_add q hlt1, if_pos (by omega), Nat.testBit_two_pow_sub_one] at b
    simp at b
  · rintro ⟨a, b⟩
    refine ⟨a, ?_⟩
    have hk : u < k := by
      rcases Nat.lt_trichotomy u k with z | z | z
      · exact z
      · exact absurd z.symm b
      · exact absurd a (mod_bits.mp h.2 k z)
    rw [h4, Nat.testBit_two_pow_mul_add q hlt1, if_neg (by omega)]
    rwa [h3, Nat.testBit_two_pow_mul_add q hlt2, if_neg (by omega)] at a
theorem popN_low {m : Nat} (hm : m < 2 ^ 32) (h0 : m ≠ 0) : popN (m &&& (m - 1)) + 1 = popN m ∧ m &&& (m - 1) < m := by
  obtain ⟨w, hw⟩ := ex_tb h0
  obtain ⟨u, -, hu⟩ := fst_ex w hw
  have hu32 : u < 32 := by
    refine Classical.byContradiction fun q => ?_
    have := Nat.testBit_lt_two_pow (Nat.lt_of_lt_of_le hm (Nat.pow_le_pow_right (show 0 < 2 by decide) (show 32 ≤ u by omega)))
    rw [hu.1] at this
    cases this
  refine ⟨(nsum_but hu32 ?_ ?_).symm, ?_⟩
  · rw [if_pos hu.1, if_neg (fun z => ((lowbit hu u).mp z).2 rfl)]
  · intro k hk
    by_cases q : m.testBit k = true
    · rw [if_pos q, if_pos ((lowbit hu k).mpr ⟨q, hk⟩)]
    · rw [if_neg q, if_neg (fun z => q ((lowbit hu k).mp z).1)]
  · exact Nat.lt_of_le_of_lt Nat.and_le_right (by omega)
theorem popN_0iff {m : Nat} (hm : m < 2 ^ 32) : popN m = 0 ↔ m = 0 := by
  constructor
  · intro h
    refine Classical.byContradiction fun q => ?_
    have := (popN_low hm q).1
    omega
  · rintro rfl; exact popN_0
/-- the first one of a kind, or -1 -/
noncomputable def fndF (P : Nat → Prop) : Nat → Nat → Int32
  | 0, _ => -1
  | n + 1, k => if dB (P k) = true then nI k else fndF P n (k + 1)
noncomputable def fnd (P : Nat → Prop) (n : Nat) : Int32 := fndF P n 0
theorem fndF_hit {P : Nat → Prop} {i : Nat} : ∀ (n k : Nat), k ≤ i → i < k + n → (∀ j, k ≤ j → j < i → ¬ P j) → P i → fndF P n k = nI i
  | 0, k => fun h1 h2 _ _ => by omega
  | n + 1, k => fun h1 h2 h3 h4 => by
    rw [fndF]
    by_cases e : k = i
    · subst e; rw [if_pos (dB_t h4)]
    · rw [if_neg (by rw [dB_f (h3 k (Nat.le_refl _) (by omega))]; simp)]
      exact fndF_hit n (k + 1) (by omega) (by omega) (fun j q1 q2 => h3 j (by omega) q2) h4
theorem fndF_miss {P : Nat → Prop} : ∀ (n k : Nat), (∀ j, k ≤ j → j < k + n → ¬ P j) → fndF P n k = -1
  | 0, k => fun _ => rfl
  | n + 1, k => fun h => by
    rw [fndF, if_neg (by rw [dB_f (h k (Nat.le_refl _) (by omega))]; simp)]
    exact fndF_miss n (k + 1) (fun j q1 q2 => h j (by omega) (by omega))
theorem fnd_hit {P : Nat → Prop} {n i : Nat} (hi : i < n) (h1 : ∀ j, j < i → ¬ P j) (h2 : P i) : fnd P n = nI i := fndF_hit n 0 (by omega) (by omega) (fun j _ q => h1 j q) h2
theorem fnd_miss {P : Nat → Prop} {n : Nat} (h : ∀ j, j < n → ¬ P j) : fnd P n = -1 := fndF_miss n 0 (fun j _ q => h j (by omega))
theorem no_lt {P : Nat → Prop} {i : Nat} (h : ∀ j, j < i → ¬ P j) (hi : ¬ P i) : ∀ j, j < i + 1 → ¬ P j := fun j hj => by
  rcases Nat.lt_or_ge j i with q | q
  · exact h j q
  · rw [show j = i by omega]; exact hi
theorem fnd_congr {P Q : Nat → Prop} {n : Nat} (h : ∀ k, k < n → (P k ↔ Q k)) : fnd P n = fnd Q n := by
  by_cases hx : ∃ k, k < n ∧ P k
  · have ⟨k, h1, h2, h3⟩ : ∃ k, k < n ∧ P k ∧ ∀ j, j < k → ¬ P j := by
      obtain ⟨k, hk, hp⟩ := hx
      induction k using Nat.strongRecOn with
      | ind k ih =>
        by_cases q : ∃ j, j < k ∧ P j
        · obtain ⟨j, q1, q2⟩ := q; exact ih j q1 (by omega) q2
        · exact ⟨k, hk, hp, fun j hj z => q ⟨j, hj, z⟩⟩
    rw [fnd_hit h1 h3 h2, fnd_hit h1 (fun j hj z => h3 j hj ((h j (by omega)).mpr z)) ((h k h1).mp h2)]
  · rw [fnd_miss (fun j hj z => hx ⟨j, hj, z⟩), fnd_miss (fun j hj z => hx ⟨j, hj, (h j hj).mpr z⟩)]
theorem fnd_or (P : Nat → Prop) (n : Nat) : (∃ k, k < n ∧ P k ∧ (∀ j, j < k → ¬ P j) ∧ fnd P n = nI k) ∨ ((∀ k, k < n → ¬ P k) ∧ fnd P n = -1) := by
  by_cases hx : ∃ k, k < n ∧ P k
  · left
    have ⟨k, h1, h2, h3⟩ : ∃ k, k < n ∧ P k ∧ ∀ j, j < k → ¬ P j := by
      obtain ⟨k, hk, hp⟩ := hx
      induction k using Nat.strongRecOn with
      | ind k ih =>
        by_cases q : ∃ j, j < k ∧ P j
        · obtain ⟨j, q1, q2⟩ := q; exact ih j q1 (by omega) q2
        · exact ⟨k, hk, hp, fun j hj z => q ⟨j, hj, z⟩⟩
    exact ⟨k, h1, h2, h3, fnd_hit h1 h3 h2⟩
  · right
    exact ⟨fun k hk z => hx ⟨k, hk, z⟩, fnd_miss (fun j hj z => hx ⟨j, hj, z⟩)⟩
