/-! TOKENS of a text -/
section LEX
variable {b : Nat → Nat} {n s e p q k : Nat}
/-- the first place from p on with P -/
noncomputable def frs (P : Nat → Prop) : Nat → Nat → Nat
  | 0, p => p
  | f + 1, p => if dB (P p) = true then p else frs P f (p + 1)
theorem frs_is {P : Nat → Prop} : ∀ (f p : Nat) {q : Nat}, p ≤ q → q ≤ p + f → (P q ∨ q = p + f) → (∀ i, p ≤ i → i < q → ¬ P i) → frs P f p = q := by
  intro f
  induction f with
  | zero => intro p q h1 h2 _ _; show p = q; omega
  | succ f ih =>
    intro p q h1 h2 h3 h4
    rw [frs]
    by_cases c : P p
    · rw [if_pos (dB_t c)]
      by_cases e : p = q
      · exact e
      · exact absurd c (h4 p (Nat.le_refl _) (by omega))
    · rw [if_neg (by rw [dB_f c]; simp)]
      have hne : p ≠ q := fun e => by
        rcases h3 with z | z
        · exact c (e ▸ z)
        · omega
      exact ih (p + 1) (by omega) (by omega) (h3.imp id (by omega)) (fun i a d => h4 i (by omega) d)
theorem frs_sp {P : Nat → Prop} : ∀ (f p : Nat), P (p + f) → p ≤ frs P f p ∧ frs P f p ≤ p + f ∧ P (frs P f p) ∧ ∀ i, p ≤ i → i < frs P f p → ¬ P i := by
  intro f
  induction f with
  | zero => intro p h; exact ⟨Nat.le_refl _, Nat.le_refl _, h, fun i a d => by have : frs P 0 p = p := rfl; omega⟩
  | succ f ih =>
    intro p h
    rw [frs]
    by_cases c : P p
    · rw [if_pos (dB_t c)]; exact ⟨Nat.le_refl _, by omega, c, fun i a d => by omega⟩
    · rw [if_neg (by rw [dB_f c]; simp)]
      obtain ⟨g1, g2, g3, g4⟩ := ih (p + 1) (by rw [show p + 1 + f = p + (f + 1) by omega]; exact h)
      refine ⟨by omega, by omega, g3, fun i a d => ?_⟩
      by_cases ei : i = p
      · rw [ei]; exact c
      · exact g4 i (by omega) d
/-- 0: the end; 1: a letter; 2: a digit; 3: a semicolon; 4: another -/
def knd (b : Nat → Nat) (n q : Nat) : Nat := if n ≤ q then 0 else if 97 ≤ b q ∧ b q ≤ 122 then 1 else if 48 ≤ b q ∧ b q ≤ 57 then 2 else if b q = 59 then 3 else 4
def isWs (b : Nat → Nat) (n q : Nat) : Prop := q < n ∧ (b q = 32 ∨ b q = 10)
noncomputable def tokS (b : Nat → Nat) (n p : Nat) : Nat := frs (fun q => ¬ isWs b n q) (n - p) p
noncomputable def tokE (b : Nat → Nat) (n s : Nat) : Nat := if n ≤ s then n else if knd b n s = 1 ∨ knd b n s = 2 then frs (fun r => knd b n r ≠ knd b n s) (n - (s + 1)) (s + 1) else s + 1
theorem knd_0 : knd b n q = 0 ↔ n ≤ q := by
  unfold knd
  by_cases c : n ≤ q
  · simp [c]
  · rw [if_neg c]
    refine ⟨fun z => ?_, fun z => absurd z c⟩
    split at z
    · cases z
    · split at z
      · cases z
      · split at z <;> cases z
theorem knd_1 : knd b n q = 1 ↔ q < n ∧ 97 ≤ b q ∧ b q ≤ 122 := by
  unfold knd
  by_cases c : n ≤ q
  · rw [if_pos c]; simp; omega
  · rw [if_neg c]
    by_cases c1 : 97 ≤ b q ∧ b q ≤ 122
    · rw [if_pos c1]; simp; omega
    · rw [if_neg c1]
      refine ⟨fun z => ?_, fun z => absurd z.2 c1⟩
      split at z
      · cases z
      · split at z <;> cases z
theorem knd_2 : knd b n q = 2 ↔ q < n ∧ 48 ≤ b q ∧ b q ≤ 57 := by
  unfold knd
  by_cases c : n ≤ q
  · rw [if_pos c]; simp; omega
  · rw [if_neg c]
    by_cases c1 : 97 ≤ b q ∧ b q ≤ 122
    · rw [if_pos c1]; simp; omega
    · rw [if_neg c1]
      by_cases c2 : 48 ≤ b q ∧ b q ≤ 57
      · rw [if_pos c2]; simp; omega
      · rw [if_neg c2]
        refine ⟨fun z => ?_, fun z => absurd z.2 c2⟩
        split at z <;> cases z
theorem knd_3 : knd b n q = 3 ↔ q < n ∧ b q = 59 := by
  unfold knd
  by_cases c : n ≤ q
  · rw [if_pos c]; simp; omega
  · rw [if_neg c]
    by_cases c1 : 97 ≤ b q ∧ b q ≤ 122
    · rw [if_pos c1]; simp; omega
    · rw [if_neg c1]
      by_cases c2 : 48 ≤ b q ∧ b q ≤ 57
      · rw [if_pos c2]; simp; omega
      · rw [if_neg c2]
        by_cases c3 : b q = 59
        · rw [if_pos c3]; simp; omega
        · rw [if_neg c3]; simp; omega
theorem knd_le : knd b n q ≤ 4 := by
  unfold knd
  split
  · omega
  · split
    · omega
    · split
      · omega
      · split <;> omega
theorem tokS_is (h1 : p ≤ s) (h2 : s ≤ n) (h3 : ¬ isWs b n s) (h4 : ∀ i, p ≤ i → i < s → isWs b n i) : tokS b n p = s :=
  frs_is _ _ h1 (by omega) (Or.inl h3) (fun i a d z => z (h4 i a d))
theorem tokS_sp (h : p ≤ n) : p ≤ tokS b n p ∧ tokS b n p ≤ n ∧ ¬ isWs b n (tokS b n p) ∧ ∀ i, p ≤ i → i < tokS b n p → isWs b n i := by
  obtain ⟨g1, g2, g3, g4⟩ := frs_sp (P := fun q => ¬ isWs b n q) (n - p) p (fun z => by have := z.1; omega)
  exact ⟨g1, by unfold tokS; omega, g3, fun i a d => Classical.not_not.mp (g4 i a d)⟩
theorem tokE_end (h : n ≤ s) : tokE b n s = n := if_pos h
theorem tokE_one (h : s < n) (h1 : knd b n s ≠ 1) (h2 : knd b n s ≠ 2) : tokE b n s = s + 1 := by
  unfold tokE
  rw [if_neg (by omega), if_neg (by omega)]
theorem tokE_is (h : s < n) (hk : knd b n s = 1 ∨ knd b n s = 2) (h1 : s < e) (h2 : e ≤ n) (h3 : knd b n e ≠ knd b n s) (h4 : ∀ i, s < i → i < e → knd b n i = knd b n s) : tokE b n s = e := by
  unfold tokE
  rw [if_neg (by omega), if_pos hk]
  exact frs_is _ _ (by omega) (by omega) (Or.inl h3) (fun i a d z => z (h4 i (by omega) d))
theorem tokE_sp (h : s < n) (hk : knd b n s = 1 ∨ knd b n s = 2) : s < tokE b n s ∧ tokE b n s ≤ n ∧ knd b n (tokE b n s) ≠ knd b n s ∧ ∀ i, s ≤ i → i < tokE b n s → knd b n i = knd b n s := by
  unfold tokE
  rw [if_neg (by omega), if_pos hk]
  obtain ⟨g1, g2, g3, g4⟩ := frs_sp (P := fun r => knd b n r ≠ knd b n s) (n - (s + 1)) (s + 1) (by
    rw [show s + 1 + (n - (s + 1)) = n by omega, knd_0.mpr (Nat.le_refl _)]
    omega)
  refine ⟨by omega, by omega, g3, fun i a d => ?_⟩
  by_cases ei : i = s
  · rw [ei]
  · exact Classical.not_not.mp (g4 i (by omega) d)
theorem tokE_le (h : s ≤ n) : s ≤ tokE b n s ∧ tokE b n s ≤ n ∧ (s < n → s < tokE b n s) := by
  by_cases c : n ≤ s
  · rw [tokE_end c]; exact ⟨h, Nat.le_refl _, fun z => by omega⟩
  · by_cases c1 : knd b n s = 1 ∨ knd b n s = 2
    · obtain ⟨g1, g2, -, -⟩ := tokE_sp (b := b) (show s < n by omega) c1
      exact ⟨by omega, g2, fun _ => g1⟩
    · rw [tokE_one (by omega) (fun z => c1 (Or.inl z)) (fun z => c1 (Or.inr z))]
      exact ⟨by omega, by omega, fun _ => by omega⟩
/-- the next token -/
noncomputable def nxt (b : Nat → Nat) (n s : Nat) : Nat := tokS b n (tokE b n s)
theorem nxt_le (h : s ≤ n) : s ≤ nxt b n s ∧ nxt b n s ≤ n ∧ (s < n → s < nxt b n s) := by
  obtain ⟨g1, g2, g3⟩ := tokE_le (b := b) h
  obtain ⟨k1, k2, -, -⟩ := tokS_sp (b := b) g2
  unfold nxt
  exact ⟨by omega, k2, fun z => by have := g3 z; omega⟩
/-- what a token's letters are: as six groups of five bits; as a number of 32 -/
def cdN (b : Nat → Nat) (s e : Nat) : Nat → Nat
  | 0 => 0
  | j + 1 => 32 * cdN b s e j + (if s + j < e then b (s + j) - 96 else 0)
def nmN (b : Nat → Nat) (s : Nat) : Nat → Nat
  | 0 => 0
  | j + 1 => nmN b s j + (if j < 6 then (b (s + j) - 96) * 2 ^ (25 - 5 * j) else 0)
def wdN (b : Nat → Nat) (s : Nat) : Nat → Nat
  | 0 => 0
  | j + 1 => 32 * wdN b s j + (b (s + j) - 96)
def itN (b : Nat → Nat) (s : Nat) : Nat → Nat
  | 0 => 0
  | j + 1 => if 1000000 < 10 * itN b s j + (b (s + j) - 48) then 1000000 else 10 * itN b s j + (b (s + j) - 48)
theorem itN_le : ∀ j, itN b s j ≤ 1000000
  | 0 => Nat.zero_le _
  | j + 1 => by
    rw [itN]
    split <;> omega
theorem cdN_lt (h : ∀ i, s ≤ i → i < e → b i ≤ 122) : ∀ j, cdN b s e j < 2 ^ (5 * j)
  | 0 => Nat.two_pow_pos _
  | j + 1 => by
    rw [cdN]
    have ih := cdN_lt h j
    have e1 : 2 ^ (5 * (j + 1)) = 32 * 2 ^ (5 * j) := by rw [show 5 * (j + 1) = 5 * j + 5 by omega, Nat.pow_add]; omega
    have : (if s + j < e then b (s + j) - 96 else 0) < 32 := by
      split
      · next c => have := h (s + j) (by omega) c; omega
      · omega
    omega
theorem nmN_cd (he : s ≤ e) : ∀ j, j ≤ 6 → cdN b s e j * 2 ^ (30 - 5 * j) = nmN b s (if j ≤ e - s then j else e - s)
  | 0, _ => by
    rw [if_pos (Nat.zero_le _)]; simp [cdN, nmN]
  | j + 1, hj => by
    have ih := nmN_cd he j (by omega)
    have e1 : 2 ^ (30 - 5 * j) = 32 * 2 ^ (25 - 5 * j) := by rw [show 30 - 5 * j = 25 - 5 * j + 5 by omega, Nat.pow_add]; omega
    rw [cdN, show 30 - 5 * (j + 1) = 25 - 5 * j by omega, Nat.add_mul]
    have e2 : 32 * cdN b s e j * 2 ^ (25 - 5 * j) = cdN b s e j * 2 ^ (30 - 5 * j) := by rw [e1, Nat.mul_comm 32, Nat.mul_assoc]
    rw [e2, ih]
    by_cases c : s + j < e
    · rw [if_pos c, if_pos (by omega), if_pos (by omega), nmN, if_pos (by omega)]
    · rw [if_neg c, Nat.zero_mul, Nat.add_zero]
      congr 1
      by_cases c2 : j + 1 ≤ e - s
      · omega
      · rw [if_neg c2]; split <;> omega
theorem nmN_6 : ∀ j, 6 ≤ j → nmN b s j = nmN b s 6
  | 0, h => by omega
  | j + 1, h => by
    by_cases c : j + 1 = 6
    · rw [c]
    · rw [nmN, if_neg (by omega), Nat.add_zero, nmN_6 j (by omega)]
theorem nmN_cd6 (he : s ≤ e) : cdN b s e 6 = nmN b s (e - s) := by
  have := nmN_cd (b := b) he 6 (Nat.le_refl _)
  rw [show 30 - 5 * 6 = 0 by rfl, Nat.pow_zero, Nat.mul_one] at this
  rw [this]
  split
  · next c => exact (nmN_6 _ c).symm
  · rfl
/-- a sum of letters is a multiple of the next one's place -/
theorem nmN_mul : ∀ j, j ≤ 6 → ∃ q, nmN b s j = 2 ^ (30 - 5 * j) * q
  | 0, _ => ⟨0, by simp [nmN]⟩
  | j + 1, hj => by
    obtain ⟨q, hq⟩ := nmN_mul j (by omega)
    refine ⟨32 * q + (b (s + j) - 96), ?_⟩
    have e1 : 2 ^ (30 - 5 * j) = 2 ^ (25 - 5 * j) * 32 := by rw [show 30 - 5 * j = 25 - 5 * j + 5 by omega, Nat.pow_add]
    rw [nmN, if_pos (by omega), hq, e1, show 30 - 5 * (j + 1) = 25 - 5 * j by omega, Nat.mul_add, Nat.mul_assoc, Nat.mul_comm (b (s + j) - 96)]
theorem nmN_or {c : Nat} (hj : k < 6) (hc : c < 32) : nmN b s k ||| c * 2 ^ (25 - 5 * k) = nmN b s k + c * 2 ^ (25 - 5 * k) := by
  obtain ⟨q, hq⟩ := nmN_mul (b := b) (s := s) k (by omega)
  have e1 : 2 ^ (30 - 5 * k) = 32 * 2 ^ (25 - 5 * k) := by rw [show 30 - 5 * k = 25 - 5 * k + 5 by omega, Nat.pow_add]; omega
  have hp := Nat.two_pow_pos (25 - 5 * k)
  rw [hq]
  refine (Nat.two_pow_add_eq_or_of_lt ?_ q).symm
  rw [e1]
  exact Nat.mul_lt_mul_of_pos_right hc hp
theorem nmN_lt (h : ∀ i, s ≤ i → i < e → b i ≤ 122) (he : s ≤ e) : nmN b s (e - s) < 2 ^ 30 := by
  rw [← nmN_cd6 he]; exact cdN_lt h 6
/-- the word's number tells its letters -/
theorem wdN_lt (h : ∀ i, s ≤ i → i < s + k → b i ≤ 122) : ∀ j, j ≤ k → wdN b s j < 2 ^ (5 * j)
  | 0, _ => Nat.two_pow_pos _
  | j + 1, hj => by
    rw [wdN]
    have ih := wdN_lt h j (by omega)
    have e1 : 2 ^ (5 * (j + 1)) = 32 * 2 ^ (5 * j) := by rw [show 5 * (j + 1) = 5 * j + 5 by omega, Nat.pow_add]; omega
    have := h (s + j) (by omega) (by omega)
    omega
/-- a list of letters as a number of 32 -/
def lsN (L : List Nat) : Nat := L.foldl (fun a c => 32 * a + (c - 96)) 0
theorem lsN_app (L : List Nat) (c : Nat) : lsN (L ++ [c]) = 32 * lsN L + (c - 96) := by simp [lsN]
def isWd (b : Nat → Nat) (s e : Nat) (L : List Nat) : Prop := e - s = L.length ∧ ∀ i c, L[i]? = some c → b (s + i) = c
theorem wd_eq (hb : ∀ j, j < k → 97 ≤ b (s + j) ∧ b (s + j) ≤ 122) (L : List Nat) (hL : ∀ c, c ∈ L → 97 ≤ c ∧ c ≤ 122) : wdN b s k = lsN L ↔ k = L.length ∧ ∀ i c, L[i]? = some c → b (s + i) = c := by
  induction k generalizing L with
  | zero =>
    cases hl : L.getLast? with
    | none =>
      rw [List.getLast?_eq_none_iff] at hl
      subst hl
      simp [wdN, lsN]
    | some c =>
      obtain ⟨L', rfl⟩ := List.getLast?_eq_some_iff.mp hl
      have hc := hL c (by simp)
      rw [lsN_app, wdN]
      constructor
      · intro z; omega
      · rintro ⟨z, -⟩; rw [List.length_append] at z; simp at z
  | succ k ih =>
    cases hl : L.getLast? with
    | none =>
      rw [List.getLast?_eq_none_iff] at hl
      subst hl
      have := hb k (by omega)
      rw [wdN]
      constructor
      · intro z; have : lsN [] = 0 := rfl; omega
      · rintro ⟨z, -⟩; simp at z
    | some c =>
      obtain ⟨L', rfl⟩ := List.getLast?_eq_some_iff.mp hl
      have hc := hL c (by simp)
      have hbk := hb k (by omega)
      have ih := ih (fun j hj => hb j (by omega)) L' (fun c h => hL c (by simp [h]))
      rw [lsN_app, wdN, List.length_append]
      constructor
      · intro z
        have e1 : wdN b s k = lsN L' := by omega
        have e2 : b (s + k) = c := by omega
        obtain ⟨g1, g2⟩ := ih.mp e1
        refine ⟨by rw [g1]; rfl, fun i d hi => ?_⟩
        by_cases c2 : i < L'.length
        · rw [List.getElem?_append_left c2] at hi; exact g2 i d hi
        · have hil := (List.getElem?_eq_some_iff.mp hi).1
          rw [List.length_append] at hil
          have hik : i = k := by have : [c].length = 1 := rfl; omega
          subst hik
          rw [List.getElem?_append_right (by omega), g1, Nat.sub_self] at hi
          have : c = d := by simpa using hi
          omega
      · rintro ⟨z1, z2⟩
        have g1 : k = L'.length := by have : [c].length = 1 := rfl; omega
        have e1 := ih.mpr ⟨g1, fun i d hi => z2 i d (by rw [List.getElem?_append_left (List.getElem?_eq_some_iff.mp hi).1]; exact hi)⟩
        have e2 := z2 k c (by rw [List.getElem?_append_right (by omega), g1, Nat.sub_self]; rfl)
        omega
end LEX
