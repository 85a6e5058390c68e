/-! ONE MATHEMATICAL VALUE FOR BOTH SIDES -/
/-- a block: birth, size, address, owners (bits) -/
abbrev Blk : Type := Nat × Nat × Nat × Nat
/-- a pool: a table of numbers, and its blocks in the order of births -/
abbrev AS : Type := (Nat → Nat → Nat) × List Blk
def aT (A : AS) : Nat := A.1 0 0
def aV (A : AS) : Nat := A.1 0 1
def aS (A : AS) : Nat := A.1 0 2
def aP (A : AS) : Nat := A.1 0 3
def aC (A : AS) : Nat := A.1 0 4
/-- the version w is there -/
def th (A : AS) (w : Nat) : Prop := A.1 1 w = 1
def home (A : AS) (s : Nat) : Nat := A.1 2 s
def stm (A : AS) (s : Nat) : Nat := A.1 3 s
def hld (A : AS) (s : Nat) : Prop := A.1 4 s = 1
/-- the origin and one more; 0: none -/
def org (A : AS) (v : Nat) : Nat := A.1 5 v
def quo (A : AS) (v : Nat) : Nat := A.1 6 v
def snm (A : AS) (s : Nat) : Nat := A.1 7 s
def vnm (A : AS) (v : Nat) : Nat := A.1 8 v
/-- v's snapshots, in their order -/
def rowL (A : AS) (v : Nat) : List Nat := (List.range 16).filter (fun s => A.1 1 s == 1 && A.1 2 s == v)
/-- the block that w has at a -/
def blkAt (bl : List Blk) (w a : Nat) : Option Blk := bl.find? (fun x => x.2.2.1 == a && x.2.2.2.testBit w)
def bAt (bl : List Blk) (w a : Nat) : Nat := ((blkAt bl w a).map (·.1)).getD 0
def uAt (bl : List Blk) (w a : Nat) : Nat := ((blkAt bl w a).map (·.2.1)).getD 0
noncomputable def dB (p : Prop) : Bool := @decide p (Classical.propDecidable p)
theorem dB_t {p : Prop} (h : p) : dB p = true := by unfold dB; simp [h]
theorem dB_f {p : Prop} (h : ¬ p) : dB p = false := by unfold dB; simp [h]
noncomputable def zI (p : Prop) : Int32 := bI (dB p)
theorem zI_t {p : Prop} (h : p) : nI 1 = zI p := by unfold zI; rw [dB_t h]; rfl
theorem zI_f {p : Prop} (h : ¬ p) : nI 0 = zI p := by unfold zI; rw [dB_f h]; rfl
theorem zI_0 {p : Prop} (h : zI p = 0) : ¬ p := fun q => by rw [← zI_t q] at h; exact absurd h (by decide)
theorem zI_n {p : Prop} (h : ¬ zI p = 0) : p := Classical.byContradiction fun q => h (by rw [← zI_f q]; rfl)
theorem zI_c {p q : Prop} (h : p ↔ q) : zI p = zI q := by rw [propext h]
/-- the bits of a property -/
noncomputable def bset (p : Nat → Prop) : Nat → Nat
  | 0 => 0
  | n + 1 => bset p n ||| (if dB (p n) = true then 2 ^ n else 0)
theorem bset_bit (p : Nat → Prop) (n k : Nat) : (bset p n).testBit k = true ↔ k < n ∧ p k := by
  induction n with
  | zero => simp [bset]
  | succ n ih =>
    rw [bset, Nat.testBit_or, Bool.or_eq_true, ih]
    by_cases h : p n
    · rw [if_pos (dB_t h), Nat.testBit_two_pow]
      simp only [decide_eq_true_eq]
      constructor
      · rintro (⟨a, b⟩ | rfl)
        · exact ⟨by omega, b⟩
        · exact ⟨by omega, h⟩
      · rintro ⟨a, b⟩
        by_cases e : n = k
        · exact Or.inr e
        · exact Or.inl ⟨by omega, b⟩
    · rw [if_neg (by rw [dB_f h]; simp), Nat.zero_testBit]
      simp only [Bool.false_eq_true, or_false]
      constructor
      · rintro ⟨a, b⟩; exact ⟨by omega, b⟩
      · rintro ⟨a, b⟩
        refine ⟨?_, b⟩
        by_cases e : k = n
        · subst e; exact absurd b h
        · omega
theorem bset_lt (p : Nat → Prop) (n : Nat) : bset p n < 2 ^ n := by
  induction n with
  | zero => simp [bset]
  | succ n ih =>
    rw [bset]
    refine Nat.or_lt_two_pow (by omega) ?_
    split
    · omega
    · exact Nat.two_pow_pos _
theorem bset_congr {p q : Nat → Prop} {n : Nat} (h : ∀ k, k < n → (p k ↔ q k)) : bset p n = bset q n := by
  apply Nat.eq_of_testBit_eq
  intro k
  rw [Bool.eq_iff_iff, bset_bit, bset_bit]
  constructor
  · rintro ⟨a, b⟩; exact ⟨a, (h k a).mp b⟩
  · rintro ⟨a, b⟩; exact ⟨a, (h k a).mpr b⟩
theorem bset_0 {p : Nat → Prop} {n : Nat} : bset p n = 0 ↔ ∀ k, k < n → ¬ p k := by
  constructor
  · intro h k hk hp
    have := (bset_bit p n k).mpr ⟨hk, hp⟩
    rw [h, Nat.zero_testBit] at this
    cases this
  · intro h
    apply Nat.eq_of_testBit_eq
    intro k
    rw [Bool.eq_iff_iff, bset_bit, Nat.zero_testBit]
    simp only [Bool.false_eq_true, iff_false]
    rintro ⟨a, b⟩
    exact h k a b
/-- sums of numbers -/
def nsum (f : Nat → Nat) : Nat → Nat
  | 0 => 0
  | n + 1 => nsum f n + f n
theorem nsum_congr {f g : Nat → Nat} {n : Nat} (h : ∀ k, k < n → f k = g k) : nsum f n = nsum g n := by
  induction n with
  | zero => rfl
  | succ n ih => rw [nsum, nsum, ih (fun k hk => h k (by omega)), h n (by omega)]
theorem nsum_le {f : Nat → Nat} {n c : Nat} (h : ∀ k, k < n → f k ≤ c) : nsum f n ≤ n * c := by
  induction n with
  | zero => simp [nsum]
  | succ n ih =>
    rw [nsum, Nat.succ_mul]
    have := h n (by omega)
    have := ih (fun k hk => h k (by omega))
    omega
/-- going up to n -/
theorem upto {n : Nat} {P : Nat → Prop} (hn : P n) (hs : ∀ i, i < n → P (i + 1) → P i) : ∀ i, i ≤ n → P i := by
  intro i hi
  obtain ⟨k, rfl⟩ := Nat.le.dest hi
  induction k generalizing i with
  | zero => exact hn
  | succ k ih =>
    refine hs i (by omega) (ih (i + 1) ?_ ?_ (by omega))
    · rw [show i + 1 + k = i + (k + 1) by omega]; exact hn
    · intro j hj; rw [show i + 1 + k = i + (k + 1) by omega] at hj; exact hs j hj
theorem upto0 {n : Nat} {P : Nat → Prop} (hn : P n) (hs : ∀ i, i < n → P (i + 1) → P i) : P 0 := upto hn hs 0 (Nat.zero_le n)
/-! numbers of 32 bits as naturals -/
theorem nI_and (a b : Nat) : nI a &&& nI b = nI (a &&& b) := by
  apply Int32.toBitVec_inj.mp
  show BitVec.ofNat 32 a &&& BitVec.ofNat 32 b = BitVec.ofNat 32 (a &&& b)
  rw [BitVec.ofNat_and]
theorem nI_or (a b : Nat) : nI a ||| nI b = nI (a ||| b) := by
  apply Int32.toBitVec_inj.mp
  show BitVec.ofNat 32 a ||| BitVec.ofNat 32 b = BitVec.ofNat 32 (a ||| b)
  rw [BitVec.ofNat_or]
theorem nI_xor (a b : Nat) : nI a ^^^ nI b = nI (a ^^^ b) := by
  apply Int32.toBitVec_inj.mp
  show BitVec.ofNat 32 a ^^^ BitVec.ofNat 32 b = BitVec.ofNat 32 (a ^^^ b)
  rw [BitVec.ofNat_xor]
theorem nI_m1 : (-1 : Int32) = nI 4294967295 := by decide
theorem nI_self (x : Int32) : x = nI x.toBitVec.toNat := by
  apply Int32.toBitVec_inj.mp
  show x.toBitVec = BitVec.ofNat 32 x.toBitVec.toNat
  simp
theorem nI_inj {a b : Nat} (ha : a < 2 ^ 32) (hb : b < 2 ^ 32) (h : nI a = nI b) : a = b := by
  have h1 : (nI a).toBitVec.toNat = (nI b).toBitVec.toNat := by rw [h]
  rwa [pk_tn ha, pk_tn hb] at h1
theorem nI_eq32 {a b : Nat} (ha : a < 2 ^ 32) (hb : b < 2 ^ 32) : nI a = nI b ↔ a = b := ⟨nI_inj ha hb, fun h => by rw [h]⟩
theorem nI_mask (a : Nat) (ha : a < 2 ^ 32) (b : Nat) : (nI b ^^^ (-1 : Int32)) &&& nI a = nI (a &&& (b ^^^ 4294967295)) := by
  rw [nI_m1, nI_xor, nI_and, Nat.and_comm]

theorem one_shl {i : Nat} (h : i < 22) : nI 1 <<< (nI i &&& 31) = nI (2 ^ i) := by
  rcases (show i = 0 ∨ i = 1 ∨ i = 2 ∨ i = 3 ∨ i = 4 ∨ i = 5 ∨ i = 6 ∨ i = 7 ∨ i = 8 ∨ i = 9 ∨ i = 10 ∨ i = 11 ∨ i = 12 ∨ i = 13 ∨ i = 14 ∨ i = 15 ∨ i = 16 ∨ i = 17 ∨ i = 18 ∨ i = 19 ∨ i = 20 ∨ i = 21 by omega) with rfl | rfl | rfl | rfl | rfl | rfl | rfl | rfl | rfl | rfl | rfl | rfl | rfl | rfl | rfl | rfl | rfl | rfl | rfl | rfl | rfl | rfl <;> decide
theorem bset_on {p : Nat → Prop} {n : Nat} (h : p n) : nI (bset p n) ||| nI (2 ^ n) = nI (bset p (n + 1)) := by
  rw [nI_or, bset, if_pos (dB_t h)]
theorem bset_off {p : Nat → Prop} {n : Nat} (h : ¬ p n) : nI (bset p n) ||| nI 0 = nI (bset p (n + 1)) := by
  rw [nI_or, bset, if_neg (by rw [dB_f h]; simp)]
section V9
variable {D : va_G} {F : Cfg} {rm : Room} {Qf : QF} {k n pc q : Nat} {locs : List (Option Value)} {st : List Value} {ws : va_W}
theorem E_iorN {a b : Nat} {z : Int32} (hd : decode F.2.1 pc = .ok (.ior, 1)) (hz : nI a ||| nI b = z) (hq : pc + 1 = q) (kk : V D F rm Qf k n q locs (.int z :: st) ws) : V D F rm Qf k n pc locs (.int (nI b) :: .int (nI a) :: st) ws := E_ior hd hq (by rw [hz]; exact kk)
end V9
