/-! BLOCKS: who has what, and sums -/
abbrev own (x : Blk) : Nat := x.2.2.2
abbrev adr (x : Blk) : Nat := x.2.2.1
abbrev siz (x : Blk) : Nat := x.2.1
/-- what holds of the blocks of every pool -/
def WFB (A : AS) : Prop := A.2.Pairwise (fun x y => x.1 < y.1 ∧ (adr x = adr y → own x &&& own y = 0)) ∧
  ∀ x, x ∈ A.2 → 0 < x.1 ∧ x.1 ≤ aT A ∧ 1 ≤ siz x ∧ siz x ≤ 9 ∧ adr x < 12 ∧ own x ≠ 0 ∧ own x < 2 ^ 22 ∧ ∀ w, (own x).testBit w = true → th A w
theorem and_tb {a b : Nat} (h : a &&& b = 0) (w : Nat) : ¬ (a.testBit w = true ∧ b.testBit w = true) := by
  rintro ⟨h1, h2⟩
  have h3 : (a &&& b).testBit w = true := by rw [Nat.testBit_and, h1, h2]; rfl
  rw [h, Nat.zero_testBit] at h3
  cases h3
theorem tb_22 {m w : Nat} (hm : m < 2 ^ 22) (h : m.testBit w = true) : w < 22 := by
  refine Classical.byContradiction fun hw => ?_
  have : m < 2 ^ w := Nat.lt_of_lt_of_le hm (Nat.pow_le_pow_right (by decide) (by omega))
  rw [Nat.testBit_lt_two_pow this] at h
  cases h
theorem ex_tb {m : Nat} (hm : m ≠ 0) : ∃ w, m.testBit w = true := by
  refine Classical.byContradiction fun h => hm ?_
  apply Nat.eq_of_testBit_eq
  intro w
  rw [Nat.zero_testBit]
  cases hb : m.testBit w with
  | false => rfl
  | true => exact absurd ⟨w, hb⟩ h
section BLK
variable {bl : List Blk} {w a : Nat} {x : Blk}
abbrev BPW (bl : List Blk) : Prop := bl.Pairwise (fun x y => x.1 < y.1 ∧ (adr x = adr y → own x &&& own y = 0))
theorem blkAt_cons (y : Blk) (bl : List Blk) (w a : Nat) : blkAt (y :: bl) w a = if adr y = a ∧ (own y).testBit w = true then some y else blkAt bl w a := by
  unfold blkAt
  rw [List.find?_cons]
  by_cases h : adr y = a ∧ (own y).testBit w = true
  · rw [if_pos h]
    rw [show (y.2.2.1 == a && y.2.2.2.testBit w) = true by rw [h.2, Bool.and_true]; exact beq_iff_eq.mpr h.1]
  · rw [if_neg h]
    rw [show (y.2.2.1 == a && y.2.2.2.testBit w) = false by
      cases hb : (y.2.2.1 == a && y.2.2.2.testBit w) with
      | false => rfl
      | true =>
        rw [Bool.and_eq_true, beq_iff_eq] at hb
        exact absurd hb h]
theorem blkAt_some (h : blkAt bl w a = some x) : x ∈ bl ∧ adr x = a ∧ (own x).testBit w = true := by
  have h1 := List.mem_of_find?_eq_some h
  have h2 := List.find?_some h
  rw [Bool.and_eq_true, beq_iff_eq] at h2
  exact ⟨h1, h2⟩
theorem blkAt_mem (hp : BPW bl) (hx : x ∈ bl) (ha : adr x = a) (hw : (own x).testBit w = true) : blkAt bl w a = some x := by
  induction bl with
  | nil => cases hx
  | cons y bl ih =>
    obtain ⟨h1, h2⟩ := List.pairwise_cons.mp hp
    rw [blkAt_cons]
    rcases List.mem_cons.mp hx with rfl | hx
    · rw [if_pos ⟨ha, hw⟩]
    · rw [if_neg, ih h2 hx]
      rintro ⟨q1, q2⟩
      exact and_tb ((h1 x hx).2 (by omega)) w ⟨q2, hw⟩
theorem blkAt_none (h : blkAt bl w a = none) (hx : x ∈ bl) : ¬ (adr x = a ∧ (own x).testBit w = true) := by
  have := List.find?_eq_none.mp h x hx
  rw [Bool.and_eq_true, beq_iff_eq] at this
  exact this
theorem bAt_some (h : blkAt bl w a = some x) : bAt bl w a = x.1 ∧ uAt bl w a = siz x := by
  unfold bAt uAt; rw [h]; exact ⟨rfl, rfl⟩
theorem bAt_none (h : blkAt bl w a = none) : bAt bl w a = 0 ∧ uAt bl w a = 0 := by
  unfold bAt uAt; rw [h]; exact ⟨rfl, rfl⟩
theorem BPW.inj (hp : BPW bl) {x y : Blk} (hx : x ∈ bl) (hy : y ∈ bl) (h : x.1 = y.1) : x = y := by
  induction bl with
  | nil => cases hx
  | cons z bl ih =>
    obtain ⟨h1, h2⟩ := List.pairwise_cons.mp hp
    rcases List.mem_cons.mp hx with rfl | hx' <;> rcases List.mem_cons.mp hy with rfl | hy'
    · rfl
    · have := (h1 y hy').1; omega
    · have := (h1 x hx').1; omega
    · exact ih h2 hx' hy'
end BLK
/-- who has the block b -/
def ownB (bl : List Blk) (b : Nat) : Nat := ((bl.find? (fun x => x.1 == b)).map own).getD 0
theorem ownB_mem {bl : List Blk} (hp : BPW bl) {x : Blk} (hx : x ∈ bl) : ownB bl x.1 = own x := by
  unfold ownB
  cases h : bl.find? (fun y => y.1 == x.1) with
  | none =>
    have := List.find?_eq_none.mp h x hx
    simp at this
  | some y =>
    have h1 := List.mem_of_find?_eq_some h
    have h2 := List.find?_some h
    rw [beq_iff_eq] at h2
    rw [hp.inj h1 hx h2]; rfl
theorem ownB_none {bl : List Blk} {b : Nat} (h : ∀ x, x ∈ bl → x.1 ≠ b) : ownB bl b = 0 := by
  unfold ownB
  rw [List.find?_eq_none.mpr (fun x hx => by simpa using h x hx)]
  rfl
section WB
variable {A : AS} {w a b : Nat} {x : Blk}
theorem WFB.bt (h : WFB A) (hb : bAt A.2 w a ≠ 0) : ∃ x, blkAt A.2 w a = some x ∧ x ∈ A.2 ∧ bAt A.2 w a = x.1 ∧ uAt A.2 w a = siz x ∧ adr x = a ∧ (own x).testBit w = true := by
  cases hx : blkAt A.2 w a with
  | none => exact absurd (bAt_none hx).1 hb
  | some x => exact ⟨x, rfl, (blkAt_some hx).1, (bAt_some hx).1, (bAt_some hx).2, (blkAt_some hx).2⟩
theorem WFB.bpos (h : WFB A) (hx : blkAt A.2 w a = some x) : bAt A.2 w a ≠ 0 := by
  rw [(bAt_some hx).1]
  have := (h.2 x (blkAt_some hx).1).1
  omega
theorem WFB.b0 (h : WFB A) : bAt A.2 w a = 0 ↔ blkAt A.2 w a = none := by
  constructor
  · intro hb
    cases hx : blkAt A.2 w a with
    | none => rfl
    | some x => exact absurd hb (h.bpos hx)
  · exact fun hx => (bAt_none hx).1
theorem WFB.ble (h : WFB A) : bAt A.2 w a ≤ aT A := by
  cases hx : blkAt A.2 w a with
  | none => rw [(bAt_none hx).1]; omega
  | some x => rw [(bAt_some hx).1]; exact (h.2 x (blkAt_some hx).1).2.1
theorem WFB.ule (h : WFB A) : uAt A.2 w a ≤ 9 := by
  cases hx : blkAt A.2 w a with
  | none => rw [(bAt_none hx).2]; omega
  | some x => rw [(bAt_some hx).2]; exact (h.2 x (blkAt_some hx).1).2.2.2.1
theorem WFB.own_lt (h : WFB A) (b : Nat) : ownB A.2 b < 2 ^ 22 := by
  unfold ownB
  cases hx : A.2.find? (fun x => x.1 == b) with
  | none => exact Nat.two_pow_pos _
  | some x => exact (h.2 x (List.mem_of_find?_eq_some hx)).2.2.2.2.2.2.1
/-- w has the block b somewhere -/
theorem WFB.own_bit (h : WFB A) (hb : b ≠ 0) : (ownB A.2 b).testBit w = true ↔ ∃ a, a < 12 ∧ bAt A.2 w a = b := by
  constructor
  · intro hw
    unfold ownB at hw
    cases hx : A.2.find? (fun x => x.1 == b) with
    | none => rw [hx] at hw; simp at hw
    | some x =>
      rw [hx] at hw
      have h1 := List.mem_of_find?_eq_some hx
      have h2 := List.find?_some hx
      rw [beq_iff_eq] at h2
      exact ⟨adr x, (h.2 x h1).2.2.2.2.1, by rw [(bAt_some (blkAt_mem h.1 h1 rfl hw)).1]; exact h2⟩
  · rintro ⟨a, ha, h1⟩
    obtain ⟨x, -, q2, q3, -, -, q6⟩ := h.bt (w := w) (a := a) (by omega)
    rw [← h1, q3, ownB_mem h.1 q2]
    exact q6
theorem WFB.own_th (h : WFB A) (hw : (ownB A.2 b).testBit w = true) : th A w := by
  unfold ownB at hw
  cases hx : A.2.find? (fun x => x.1 == b) with
  | none => rw [hx] at hw; simp at hw
  | some x => rw [hx] at hw; exact (h.2 x (List.mem_of_find?_eq_some hx)).2.2.2.2.2.2.2 w hw
end WB
theorem nsum_add (f g : Nat → Nat) (n : Nat) : nsum (fun k => f k + g k) n = nsum f n + nsum g n := by
  induction n with
  | zero => rfl
  | succ n ih => rw [nsum, nsum, nsum, ih]; omega
theorem nsum_0 (n : Nat) : nsum (fun _ => 0) n = 0 := by
  induction n with
  | zero => rfl
  | succ n ih => rw [nsum, ih]
theorem nsum_one {f : Nat → Nat} {n k : Nat} (hk : k < n) (h : ∀ i, i < n → i ≠ k → f i = 0) : nsum f n = f k := by
  induction n with
  | zero => omega
  | succ n ih =>
    rw [nsum]
    by_cases hn : k = n
    · subst hn
      rw [nsum_congr (g := fun _ => 0) (fun i hi => h i (by omega) (by omega)), nsum_0]
      omega
    · rw [ih (by omega) (fun i hi => h i (by omega)), h n (by omega) (fun z => hn z.symm)]
      omega
theorem nsum_zero {f : Nat → Nat} {n : Nat} (h : ∀ i, i < n → f i = 0) : nsum f n = 0 := by
  rw [nsum_congr h, nsum_0]
theorem nsum_mono {f g : Nat → Nat} {n : Nat} (h : ∀ k, k < n → f k ≤ g k) : nsum f n ≤ nsum g n := by
  induction n with
  | zero => exact Nat.le_refl _
  | succ n ih =>
    rw [nsum, nsum]
    have := h n (by omega)
    have := ih (fun k hk => h k (by omega))
    omega
theorem nsum_cut {f : Nat → Nat} {k n : Nat} (h : k ≤ n) : nsum f k ≤ nsum f n := by
  induction n with
  | zero => rw [show k = 0 by omega]; exact Nat.le_refl _
  | succ n ih =>
    by_cases hk : k = n + 1
    · subst hk; exact Nat.le_refl _
    · have := ih (by omega); rw [nsum]; omega
/-- sums over blocks -/
def uW (p : Blk → Bool) (bl : List Blk) : Nat := (bl.map (fun x => if p x then siz x else 0)).sum
def fsum (f : Blk → Nat) (bl : List Blk) : Nat := (bl.map f).sum
theorem fsum_cons (f : Blk → Nat) (x : Blk) (bl : List Blk) : fsum f (x :: bl) = f x + fsum f bl := rfl
theorem fsum_congr {f g : Blk → Nat} {bl : List Blk} (h : ∀ x, x ∈ bl → f x = g x) : fsum f bl = fsum g bl := by
  induction bl with
  | nil => rfl
  | cons x bl ih => rw [fsum_cons, fsum_cons, h x (List.mem_cons_self ..), ih (fun y hy => h y (List.mem_cons_of_mem _ hy))]
theorem fsum_zero {f : Blk → Nat} {bl : List Blk} (h : ∀ x, x ∈ bl → f x = 0) : fsum f bl = 0 := by
  rw [fsum_congr (g := fun _ => 0) h]
  induction bl with
  | nil => rfl
  | cons x bl ih => rw [fsum_cons, ih (fun y hy => h y (List.mem_cons_of_mem _ hy))]
theorem fsum_le {f : Blk → Nat} {bl : List Blk} {c : Nat} (h : ∀ x, x ∈ bl → f x ≤ c) : fsum f bl ≤ bl.length * c := by
  induction bl with
  | nil => simp [fsum]
  | cons x bl ih =>
    rw [fsum_cons, List.length_cons, Nat.succ_mul]
    have := h x (List.mem_cons_self ..)
    have := ih (fun y hy => h y (List.mem_cons_of_mem _ hy))
    omega
theorem mod_bits {m v : Nat} : m % 2 ^ v = 0 ↔ ∀ u, u < v → ¬ m.testBit u = true := by
  constructor
  · intro h u hu hb
    have : (m % 2 ^ v).testBit u = true := by rw [Nat.testBit_mod_two_pow, hb, Bool.and_true]; exact decide_eq_true hu
    rw [h, Nat.zero_testBit] at this
    cases this
  · intro h
    apply Nat.eq_of_testBit_eq
    intro k
    rw [Nat.zero_testBit, Nat.testBit_mod_two_pow]
    by_cases hk : k < v
    · have := h k hk
      simp only [Bool.not_eq_true] at this
      rw [this, Bool.and_false]
    · simp [hk]
/-- the lowest one -/
abbrev fst (m v : Nat) : Prop := m.testBit v = true ∧ m % 2 ^ v = 0
theorem fst_ex {m : Nat} : ∀ (v : Nat), m.testBit v = true → ∃ u, u ≤ v ∧ fst m u
  | v => fun hv => by
    by_cases h : ∀ u, u < v → ¬ m.testBit u = true
    · exact ⟨v, Nat.le_refl _, hv, mod_bits.mpr h⟩
    · have ⟨u, h1, h2⟩ : ∃ u, u < v ∧ m.testBit u = true := by
        refine Classical.byContradiction fun q => h (fun u hu hb => q ⟨u, hu, hb⟩)
      obtain ⟨t, h3, h4⟩ := fst_ex u h2
      exact ⟨t, by omega, h4⟩
theorem fst_inj {m u v : Nat} (hu : fst m u) (hv : fst m v) : u = v := by
  rcases Nat.lt_trichotomy u v with h | h | h
  · exact absurd hu.1 (mod_bits.mp hv.2 u h)
  · exact h
  · exact absurd hv.1 (mod_bits.mp hu.2 v h)
theorem grid_cons (S : Nat) (f : Blk → Nat) (bl : List Blk) (hp : BPW bl) (v a : Nat) :
    (match blkAt bl v a with | some x => if fst (own x &&& S) v then f x else 0 | none => 0) = fsum (fun x => if adr x = a ∧ fst (own x &&& S) v then f x else 0) bl := by
  induction bl with
  | nil => rfl
  | cons x bl ih =>
    obtain ⟨h1, h2⟩ := List.pairwise_cons.mp hp
    rw [fsum_cons, blkAt_cons]
    by_cases h : adr x = a ∧ (own x).testBit v = true
    · rw [if_pos h]
      have : fsum (fun x => if adr x = a ∧ fst (own x &&& S) v then f x else 0) bl = 0 := fsum_zero fun y hy => by
        rw [if_neg]
        rintro ⟨q1, q2⟩
        have := q2.1
        rw [Nat.testBit_and, Bool.and_eq_true] at this
        exact and_tb ((h1 y hy).2 (by omega)) v ⟨h.2, this.1⟩
      rw [this, Nat.add_zero]
      by_cases hf : fst (own x &&& S) v
      · simp only [if_pos hf]; rw [if_pos ⟨h.1, hf⟩]
      · simp only [if_neg hf]; rw [if_neg (fun z => hf z.2)]
    · rw [if_neg h, ih h2, if_neg, Nat.zero_add]
      rintro ⟨q1, q2⟩
      have := q2.1
      rw [Nat.testBit_and, Bool.and_eq_true] at this
      exact h ⟨q1, this.1⟩
theorem grid_one (S : Nat) (f : Blk → Nat) (x : Blk) (ha : adr x < 12) (ho : own x < 2 ^ 22) :
    nsum (fun v => nsum (fun a => if adr x = a ∧ fst (own x &&& S) v then f x else 0) 12) 22 = if own x &&& S = 0 then 0 else f x := by
  have hin : ∀ v, nsum (fun a => if adr x = a ∧ fst (own x &&& S) v then f x else 0) 12 = if fst (own x &&& S) v then f x else 0 := fun v => by
    rw [nsum_one ha (fun i _ hi => if_neg (fun z => hi z.1.symm))]
    by_cases hf : fst (own x &&& S) v
    · rw [if_pos ⟨rfl, hf⟩, if_pos hf]
    · rw [if_neg (fun z => hf z.2), if_neg hf]
  rw [nsum_congr (fun v _ => hin v)]
  by_cases hz : own x &&& S = 0
  · rw [if_pos hz, nsum_zero]
    intro i _
    rw [if_neg]
    rintro ⟨q, -⟩
    rw [hz, Nat.zero_testBit] at q
    cases q
  · rw [if_neg hz]
    obtain ⟨w, hw⟩ := ex_tb hz
    obtain ⟨u, -, hu⟩ := fst_ex w hw
    have hu22 : u < 22 := tb_22 (Nat.lt_of_le_of_lt Nat.and_le_left ho) hu.1
    rw [nsum_one hu22 (fun i _ hi => if_neg (fun z => hi (fst_inj z hu))), if_pos hu]
theorem nsum_fsum (g : Blk → Nat → Nat) (bl : List Blk) (n : Nat) : nsum (fun k => fsum (fun x => g x k) bl) n = fsum (fun x => nsum (g x) n) bl := by
  induction bl with
  | nil => exact nsum_0 n
  | cons x bl ih =>
    rw [fsum_cons, ← ih, ← nsum_add]
    rfl
/-- by versions and addresses, each block counted where the lowest of S has it -/
theorem dsum {A : AS} (h : WFB A) (S : Nat) (f : Blk → Nat) :
    nsum (fun v => nsum (fun a => match blkAt A.2 v a with | some x => if fst (own x &&& S) v then f x else 0 | none => 0) 12) 22 = fsum (fun x => if own x &&& S = 0 then 0 else f x) A.2 := by
  rw [nsum_congr (fun v _ => nsum_congr (fun a _ => grid_cons S f A.2 h.1 v a))]
  rw [nsum_congr (fun v _ => nsum_fsum (fun x a => if adr x = a ∧ fst (own x &&& S) v then f x else 0) A.2 12)]
  rw [nsum_fsum (fun x v => nsum (fun a => if adr x = a ∧ fst (own x &&& S) v then f x else 0) 12) A.2 22]
  exact fsum_congr (fun x hx => grid_one S f x (h.2 x hx).2.2.2.2.1 (h.2 x hx).2.2.2.2.2.2.1)
/-- one version's addresses -/
theorem asum {A : AS} (h : WFB A) (w : Nat) (f : Blk → Nat) :
    nsum (fun a => match blkAt A.2 w a with | some x => f x | none => 0) 12 = fsum (fun x => if (own x).testBit w = true then f x else 0) A.2 := by
  have h1 : ∀ a, (match blkAt A.2 w a with | some x => f x | none => 0) = fsum (fun x => if adr x = a ∧ (own x).testBit w = true then f x else 0) A.2 := fun a => by
    have hp := h.1
    generalize A.2 = bl at hp
    induction bl with
    | nil => rfl
    | cons x bl ih =>
      obtain ⟨h1, h2⟩ := List.pairwise_cons.mp hp
      rw [fsum_cons, blkAt_cons]
      by_cases q : adr x = a ∧ (own x).testBit w = true
      · rw [if_pos q, if_pos q, fsum_zero, Nat.add_zero]
        intro y hy
        rw [if_neg]
        rintro ⟨q1, q2⟩
        exact and_tb ((h1 y hy).2 (by omega)) w ⟨q.2, q2⟩
      · rw [if_neg q, if_neg q, Nat.zero_add, ih h2]
  rw [nsum_congr (fun a _ => h1 a), nsum_fsum (fun x a => if adr x = a ∧ (own x).testBit w = true then f x else 0)]
  refine fsum_congr fun x hx => ?_
  rw [nsum_one (h.2 x hx).2.2.2.2.1 (fun i _ hi => if_neg (fun z => hi z.1.symm))]
  by_cases q : (own x).testBit w = true
  · rw [if_pos ⟨rfl, q⟩, if_pos q]
  · rw [if_neg (fun z => q z.2), if_neg q]
theorem WFB.len {A : AS} (h : WFB A) : A.2.length ≤ 264 := by
  have h1 := dsum h (2 ^ 22 - 1) (fun _ => 1)
  have h2 : fsum (fun x => if own x &&& (2 ^ 22 - 1) = 0 then 0 else 1) A.2 = fsum (fun _ => 1) A.2 := fsum_congr fun x hx => by
    rw [Nat.and_two_pow_sub_one_eq_mod, Nat.mod_eq_of_lt (h.2 x hx).2.2.2.2.2.2.1, if_neg (h.2 x hx).2.2.2.2.2.1]
  have h3 : ∀ bl : List Blk, fsum (fun _ => 1) bl = bl.length := fun bl => by
    induction bl with
    | nil => rfl
    | cons x bl ih => rw [fsum_cons, ih, List.length_cons]; omega
  rw [h2, h3] at h1
  rw [← h1]
  refine Nat.le_trans (nsum_le (c := 12) fun v _ => Nat.le_trans (nsum_le (c := 1) fun a _ => ?_) (by omega)) (by omega)
  split
  · split <;> omega
  · omega
theorem uW_fsum (p : Blk → Bool) (bl : List Blk) : uW p bl = fsum (fun x => if p x = true then siz x else 0) bl := rfl
theorem uW_le {A : AS} (h : WFB A) (p : Blk → Bool) : uW p A.2 ≤ 2376 := by
  rw [uW_fsum]
  have h1 := h.len
  refine Nat.le_trans (fsum_le (c := 9) fun x hx => ?_) (by omega)
  split
  · exact (h.2 x hx).2.2.2.1
  · omega
