/-! THE COUNT OF BITS, as the library counts -/
theorem and_split {a b c d k : Nat} (hb : b < 2 ^ k) (hd : d < 2 ^ k) : (b + 2 ^ k * a) &&& (d + 2 ^ k * c) = (b &&& d) + 2 ^ k * (a &&& c) := by
  apply Nat.eq_of_testBit_eq
  intro j
  rw [Nat.testBit_and, Nat.add_comm b, Nat.add_comm d, Nat.add_comm (b &&& d), Nat.testBit_two_pow_mul_add _ hb, Nat.testBit_two_pow_mul_add _ hd, Nat.testBit_two_pow_mul_add _ (and_lt hb)]
  by_cases h : j < k
  · rw [if_pos h, if_pos h, if_pos h, Nat.testBit_and]
  · rw [if_neg h, if_neg h, if_neg h, Nat.testBit_and]
/-- digit by digit -/
def Dg (k : Nat) (f : Nat → Nat) : Nat → Nat → Nat
  | 0, _ => 0
  | n + 1, x => f (x % 2 ^ k) + 2 ^ k * Dg k f n (x / 2 ^ k)
def Mk (k d : Nat) : Nat → Nat
  | 0 => 0
  | n + 1 => d + 2 ^ k * Mk k d n
theorem Dg_1 : ∀ (n x : Nat), x < 4 ^ n → x - (x / 2 &&& Mk 2 1 n) = Dg 2 (fun r => r - r / 2) n x := by
  intro n
  induction n with
  | zero => intro x hx; have : x = 0 := by simpa using hx
            subst this; rfl
  | succ n ih =>
    intro x hx
    rw [Nat.pow_succ] at hx
    have h1 := ih (x / 4) (by omega)
    have e : x / 2 = (x / 2 % 4) + 2 ^ 2 * (x / 4 / 2) := by omega
    have h2 : x / 2 &&& Mk 2 1 (n + 1) = (x / 2 % 4 &&& 1) + 2 ^ 2 * (x / 4 / 2 &&& Mk 2 1 n) := by
      conv => lhs; rw [e]
      exact and_split (by omega) (by decide)
    have h3 : x / 2 % 4 &&& 1 = x % 4 / 2 := by rw [Nat.and_one_is_mod]; omega
    have h4 : x / 4 / 2 &&& Mk 2 1 n ≤ x / 4 / 2 := Nat.and_le_left
    rw [h2, h3, Dg, ← h1]
    show x - (x % 4 / 2 + 4 * _) = x % 4 - x % 4 / 2 + 4 * _
    omega
theorem Dg_2 : ∀ (n x : Nat), x < 16 ^ n → (x &&& Mk 4 3 n) + (x / 4 &&& Mk 4 3 n) = Dg 4 (fun r => r % 4 + r / 4) n x := by
  intro n
  induction n with
  | zero =>
    intro x hx
    show (x &&& 0) + (x / 4 &&& 0) = 0
    rw [Nat.and_zero, Nat.and_zero]
  | succ n ih =>
    intro x hx
    rw [Nat.pow_succ] at hx
    have h1 := ih (x / 16) (by omega)
    have e1 : x = (x % 16) + 2 ^ 4 * (x / 16) := by omega
    have e2 : x / 4 = (x / 4 % 16) + 2 ^ 4 * (x / 16 / 4) := by omega
    have h2 : x &&& Mk 4 3 (n + 1) = (x % 16 &&& 3) + 2 ^ 4 * (x / 16 &&& Mk 4 3 n) := by
      conv => lhs; rw [e1]
      exact and_split (by omega) (by decide)
    have h3 : x / 4 &&& Mk 4 3 (n + 1) = (x / 4 % 16 &&& 3) + 2 ^ 4 * (x / 16 / 4 &&& Mk 4 3 n) := by
      conv => lhs; rw [e2]
      exact and_split (by omega) (by decide)
    have h4 : x % 16 &&& 3 = x % 16 % 4 := Nat.and_two_pow_sub_one_eq_mod _ 2
    have h5 : x / 4 % 16 &&& 3 = x % 16 / 4 := by rw [show (3 : Nat) = 2 ^ 2 - 1 from rfl, Nat.and_two_pow_sub_one_eq_mod]; omega
    rw [h2, h3, h4, h5, Dg, ← h1]
    show _ + 16 * _ + (_ + 16 * _) = _ + 16 * _
    omega
def NibOK (x : Nat) : Nat → Prop
  | 0 => x = 0
  | n + 1 => x % 16 ≤ 4 ∧ x / 16 % 16 ≤ 4 ∧ NibOK (x / 256) n
theorem Dg_3 : ∀ (n x : Nat), NibOK x n → (x + x / 16) &&& Mk 8 15 n = Dg 8 (fun r => r % 16 + r / 16) n x := by
  intro n
  induction n with
  | zero => intro x hx; exact Nat.and_zero _
  | succ n ih =>
    rintro x ⟨h1, h2, h3⟩
    have h4 := ih (x / 256) h3
    have h5 : x / 256 % 16 ≤ 4 := by
      cases n with
      | zero => have : x / 256 = 0 := h3
                omega
      | succ n => exact h3.1
    have e0 : x / 16 / 16 = x / 256 := by omega
    have e8 : x % 256 % 16 = x % 16 := by omega
    have e9 : x % 256 / 16 = x / 16 % 16 := by omega
    have e1 : x + x / 16 = ((x + x / 16) % 256) + 2 ^ 8 * (x / 256 + x / 256 / 16) := by omega
    have h6 : (x + x / 16) &&& Mk 8 15 (n + 1) = ((x + x / 16) % 256 &&& 15) + 2 ^ 8 * ((x / 256 + x / 256 / 16) &&& Mk 8 15 n) := by
      conv => lhs; rw [e1]
      exact and_split (by omega) (by decide)
    have h7 : (x + x / 16) % 256 &&& 15 = x % 256 % 16 + x % 256 / 16 := by rw [show (15 : Nat) = 2 ^ 4 - 1 from rfl, Nat.and_two_pow_sub_one_eq_mod]; omega
    rw [h6, h7, h4, Dg]
theorem bc_byte : ∀ r, r < 256 → Dg 8 (fun r => r % 16 + r / 16) 1 (Dg 4 (fun r => r % 4 + r / 4) 2 (Dg 2 (fun r => r - r / 2) 4 r)) = nsum (fun i => if r.testBit i = true then 1 else 0) 8 ∧ NibOK (Dg 4 (fun r => r % 4 + r / 4) 2 (Dg 2 (fun r => r - r / 2) 4 r)) 1 ∧ Dg 2 (fun r => r - r / 2) 4 r < 256 := by
  have h : ∀ r : Fin 256, Dg 8 (fun r => r % 16 + r / 16) 1 (Dg 4 (fun r => r % 4 + r / 4) 2 (Dg 2 (fun r => r - r / 2) 4 r.val)) = nsum (fun i => if r.val.testBit i = true then 1 else 0) 8 ∧ (Dg 4 (fun r => r % 4 + r / 4) 2 (Dg 2 (fun r => r - r / 2) 4 r.val) % 16 ≤ 4 ∧ Dg 4 (fun r => r % 4 + r / 4) 2 (Dg 2 (fun r => r - r / 2) 4 r.val) / 16 % 16 ≤ 4 ∧ Dg 4 (fun r => r % 4 + r / 4) 2 (Dg 2 (fun r => r - r / 2) 4 r.val) / 256 = 0) ∧ Dg 2 (fun r => r - r / 2) 4 r.val < 256 := by decide +kernel
  intro r hr
  exact h ⟨r, hr⟩
/-- four of the small digits are one byte -/
theorem Dg_b2 (f : Nat → Nat) : ∀ (n x : Nat), (∀ r, r < 256 → Dg 2 f 4 r < 256) → Dg 2 f (4 * n) x = Dg 8 (Dg 2 f 4) n x := by
  intro n
  induction n with
  | zero => intro x _; rfl
  | succ n ih =>
    intro x hf
    rw [show 4 * (n + 1) = 4 * n + 1 + 1 + 1 + 1 by omega, Dg, Dg, Dg, Dg, Dg, ih _ hf]
    simp only [Dg]
    have e1 : x % 2 ^ 8 % 2 ^ 2 = x % 2 ^ 2 := by omega
    have e2 : x % 2 ^ 8 / 2 ^ 2 % 2 ^ 2 = x / 2 ^ 2 % 2 ^ 2 := by omega
    have e3 : x % 2 ^ 8 / 2 ^ 2 / 2 ^ 2 % 2 ^ 2 = x / 2 ^ 2 / 2 ^ 2 % 2 ^ 2 := by omega
    have e4 : x % 2 ^ 8 / 2 ^ 2 / 2 ^ 2 / 2 ^ 2 % 2 ^ 2 = x / 2 ^ 2 / 2 ^ 2 / 2 ^ 2 % 2 ^ 2 := by omega
    have e5 : x / 2 ^ 2 / 2 ^ 2 / 2 ^ 2 / 2 ^ 2 = x / 2 ^ 8 := by omega
    rw [e1, e2, e3, e4, e5]
    omega
theorem Dg_b4 (f : Nat → Nat) : ∀ (n x : Nat), Dg 4 f (2 * n) x = Dg 8 (Dg 4 f 2) n x := by
  intro n
  induction n with
  | zero => intro x; rfl
  | succ n ih =>
    intro x
    rw [show 2 * (n + 1) = 2 * n + 1 + 1 by omega, Dg, Dg, Dg, ih]
    simp only [Dg]
    have e1 : x % 2 ^ 8 % 2 ^ 4 = x % 2 ^ 4 := by omega
    have e2 : x % 2 ^ 8 / 2 ^ 4 % 2 ^ 4 = x / 2 ^ 4 % 2 ^ 4 := by omega
    have e5 : x / 2 ^ 4 / 2 ^ 4 = x / 2 ^ 8 := by omega
    rw [e1, e2, e5]
    omega
theorem Dg_comp (f g : Nat → Nat) (hg : ∀ r, r < 256 → g r < 256) : ∀ (n x : Nat), Dg 8 f n (Dg 8 g n x) = Dg 8 (fun r => f (g r)) n x := by
  intro n
  induction n with
  | zero => intro x; rfl
  | succ n ih =>
    intro x
    have h1 := hg (x % 2 ^ 8) (by omega)
    rw [Dg, Dg, Dg, show (g (x % 2 ^ 8) + 2 ^ 8 * Dg 8 g n (x / 2 ^ 8)) % 2 ^ 8 = g (x % 2 ^ 8) by omega, show (g (x % 2 ^ 8) + 2 ^ 8 * Dg 8 g n (x / 2 ^ 8)) / 2 ^ 8 = Dg 8 g n (x / 2 ^ 8) by omega, ih]
theorem Dg_congr {f g : Nat → Nat} (h : ∀ r, r < 256 → f r = g r) : ∀ (n x : Nat), Dg 8 f n x = Dg 8 g n x := by
  intro n
  induction n with
  | zero => intro x; rfl
  | succ n ih => intro x; rw [Dg, Dg, h _ (by omega), ih]
theorem Nib_of {g : Nat → Nat} (hg : ∀ r, r < 256 → NibOK (g r) 1) : ∀ (n x : Nat), NibOK (Dg 8 g n x) n := by
  intro n
  induction n with
  | zero => intro x; rfl
  | succ n ih =>
    intro x
    obtain ⟨h1, h2, h3⟩ := hg (x % 2 ^ 8) (by omega)
    have h3 : g (x % 2 ^ 8) / 256 = 0 := h3
    rw [Dg]
    refine ⟨by omega, by omega, ?_⟩
    rw [show (g (x % 2 ^ 8) + 2 ^ 8 * Dg 8 g n (x / 2 ^ 8)) / 256 = Dg 8 g n (x / 2 ^ 8) by omega]
    exact ih _
def p8 (r : Nat) : Nat := nsum (fun i => if r.testBit i = true then 1 else 0) 8
theorem Dg_lt {f : Nat → Nat} {k : Nat} (hf : ∀ r, r < 2 ^ k → f r < 2 ^ k) : ∀ (n x : Nat), Dg k f n x < (2 ^ k) ^ n := by
  intro n
  induction n with
  | zero => intro x; exact Nat.one_pos
  | succ n ih =>
    intro x
    rw [Dg, Nat.pow_succ, Nat.mul_comm ((2 ^ k) ^ n)]
    have h1 := hf (x % 2 ^ k) (Nat.mod_lt _ (Nat.two_pow_pos k))
    have h2 := Nat.mul_le_mul_left (2 ^ k) (Nat.succ_le_of_lt (ih (x / 2 ^ k)))
    rw [Nat.succ_eq_add_one, Nat.mul_add, Nat.mul_one] at h2
    omega
theorem bc_3 {x : Nat} (hx : x < 2 ^ 32) : ((((x - (x / 2 &&& 1431655765)) &&& 858993459) + ((x - (x / 2 &&& 1431655765)) / 4 &&& 858993459)) + (((x - (x / 2 &&& 1431655765)) &&& 858993459) + ((x - (x / 2 &&& 1431655765)) / 4 &&& 858993459)) / 16) &&& 252645135 = Dg 8 p8 4 x := by
  have h1 : x - (x / 2 &&& 1431655765) = Dg 2 (fun r => r - r / 2) 16 x := Dg_1 16 x hx
  have hb : ∀ r, r < 256 → Dg 2 (fun r => r - r / 2) 4 r < 256 := fun r hr => (bc_byte r hr).2.2
  have h1' : Dg 2 (fun r => r - r / 2) 16 x = Dg 8 (Dg 2 (fun r => r - r / 2) 4) 4 x := Dg_b2 _ 4 x hb
  have hlt : Dg 8 (Dg 2 (fun r => r - r / 2) 4) 4 x < 16 ^ 8 := Dg_lt (k := 8) hb 4 x
  rw [h1, h1']
  have h2 := Dg_2 8 _ hlt
  have h2a : Dg 4 (fun r => r % 4 + r / 4) 8 (Dg 8 (Dg 2 (fun r => r - r / 2) 4) 4 x) = Dg 8 (Dg 4 (fun r => r % 4 + r / 4) 2) 4 (Dg 8 (Dg 2 (fun r => r - r / 2) 4) 4 x) := Dg_b4 _ 4 _
  rw [Dg_comp _ _ hb] at h2a
  have h2b : (Dg 8 (Dg 2 (fun r => r - r / 2) 4) 4 x &&& 858993459) + (Dg 8 (Dg 2 (fun r => r - r / 2) 4) 4 x / 4 &&& 858993459) = Dg 8 (fun r => Dg 4 (fun r => r % 4 + r / 4) 2 (Dg 2 (fun r => r - r / 2) 4 r)) 4 x := h2.trans h2a
  rw [h2b]
  have h3 := Dg_3 4 _ (Nib_of (g := fun r => Dg 4 (fun r => r % 4 + r / 4) 2 (Dg 2 (fun r => r - r / 2) 4 r)) (fun r hr => (bc_byte r hr).2.1) 4 x)
  refine Eq.trans h3 ?_
  have hg : ∀ r, r < 256 → Dg 4 (fun r => r % 4 + r / 4) 2 (Dg 2 (fun r => r - r / 2) 4 r) < 256 := fun r hr => by
    have h := (bc_byte r hr).2.1
    have h3 : Dg 4 (fun r => r % 4 + r / 4) 2 (Dg 2 (fun r => r - r / 2) 4 r) / 256 = 0 := h.2.2
    omega
  rw [Dg_comp _ _ hg]
  refine Dg_congr (fun r hr => ?_) 4 x
  have h1 := (bc_byte r hr).1
  have h2 := hg r hr
  simp only [Dg] at h1
  simp only [Dg]
  rw [show (2 : Nat) ^ 8 = 256 from rfl] at h1
  have := h1
  unfold p8
  rw [← this]
  simp only [Dg] at h2
  rw [Nat.mod_eq_of_lt h2]
  omega
theorem p8_le (r : Nat) : p8 r ≤ 8 := nsum_le (c := 1) fun k _ => by split <;> omega
theorem popN_b (q r : Nat) (n : Nat) (hr : r < 256) : nsum (fun i => if (r + 256 * q).testBit i = true then 1 else 0) (8 + n) = p8 r + nsum (fun i => if q.testBit i = true then 1 else 0) n := by
  induction n with
  | zero =>
    refine nsum_congr fun i hi' => ?_
    rw [Nat.add_comm, show (256 : Nat) = 2 ^ 8 from rfl, Nat.testBit_two_pow_mul_add _ hr, if_pos (show i < 8 by omega)]
  | succ n ih =>
    rw [show 8 + (n + 1) = (8 + n) + 1 by omega, nsum_s, ih, nsum_s, Nat.add_comm r, show (256 : Nat) = 2 ^ 8 from rfl, Nat.testBit_two_pow_mul_add _ hr, if_neg (show ¬ 8 + n < 8 by omega), show 8 + n - 8 = n by omega]
    omega
theorem popN_by {x : Nat} : popN x = p8 (x % 256) + p8 (x / 256 % 256) + p8 (x / 65536 % 256) + p8 (x / 16777216 % 256) := by
  have e : ∀ y, y = y % 256 + 256 * (y / 256) := fun y => by omega
  unfold popN
  have h1 := popN_b (x / 256) (x % 256) 24 (by omega)
  rw [← e] at h1
  have h2 := popN_b (x / 256 / 256) (x / 256 % 256) 16 (by omega)
  rw [← e] at h2
  have h3 := popN_b (x / 256 / 256 / 256) (x / 256 / 256 % 256) 8 (by omega)
  rw [← e] at h3
  have h4 := popN_b (x / 256 / 256 / 256 / 256) (x / 256 / 256 / 256 % 256) 0 (by omega)
  rw [← e] at h4
  have e1 : x / 256 / 256 = x / 65536 := by omega
  have e2 : x / 65536 / 256 = x / 16777216 := by omega
  rw [e1] at h2 h3 h4
  rw [e2] at h3 h4
  have h4' : nsum (fun i => if (x / 16777216).testBit i = true then 1 else 0) 8 = p8 (x / 16777216 % 256) + 0 := h4
  have h1' : nsum (fun i => if x.testBit i = true then 1 else 0) 32 = _ := h1
  have h2' : nsum (fun i => if (x / 256).testBit i = true then 1 else 0) 24 = _ := h2
  have h3' : nsum (fun i => if (x / 65536).testBit i = true then 1 else 0) 16 = _ := h3
  omega
theorem bc_5 {x y : Nat} (h : y = Dg 8 p8 4 x) : (y + y / 256 + (y + y / 256) / 65536) % 64 = popN x ∧ y < 2 ^ 28 := by
  rw [popN_by]
  simp only [Dg] at h
  have h0 := p8_le (x % 256)
  have h1 := p8_le (x / 256 % 256)
  have h2 := p8_le (x / 65536 % 256)
  have h3 := p8_le (x / 16777216 % 256)
  rw [show (2 : Nat) ^ 8 = 256 from rfl, show x / 256 / 256 = x / 65536 by omega, show x / 65536 / 256 = x / 16777216 by omega] at h
  generalize p8 (x % 256) = a at *
  generalize p8 (x / 256 % 256) = b at *
  generalize p8 (x / 65536 % 256) = c at *
  generalize p8 (x / 16777216 % 256) = d at *
  have hy : y = a + 256 * b + 65536 * c + 16777216 * d := by omega
  have hy1 : y / 256 = b + 256 * c + 65536 * d := by omega
  have hy2 : (y + y / 256) / 65536 = c + d + 256 * d := by omega
  rw [hy1] at hy2 ⊢
  rw [hy2, hy]
  omega
section BC
variable {D : va_G} {ad : Nat → Nat} {M : Mem} {ws : va_W}
theorem sp_J6_bitCount_0f7a4 {m : Nat} (hm : m < 2 ^ 31) : Spec D 1 yJ6_bitCount_0f7a4 cfJ6_bitCount_0f7a4 [.int (nI (m))] ws 0 0 (PI (nI (popN m)) ws) := by
  refine Spec.of (by decide) rfl (Nat.le_of_ble_eq_true rfl) rfl ?_
  have h3 := bc_3 (x := m) (by omega)
  have h5 := bc_5 (x := m) (y := Dg 8 p8 4 m) rfl
  have a1 : m / 2 &&& 1431655765 ≤ m / 2 := Nat.and_le_left
  have b1 : (m - (m / 2 &&& 1431655765)) &&& 858993459 ≤ 858993459 := Nat.and_le_right
  have b2 : (m - (m / 2 &&& 1431655765)) / 4 &&& 858993459 ≤ 858993459 := Nat.and_le_right
  refine E_iload0 (q := 1) dJ6_bitCount_0f7a4_0 rfl ?_
  refine E_iload0 (q := 2) dJ6_bitCount_0f7a4_1 rfl ?_
  refine E_iconst (v := nI 1) (q := 3) dJ6_bitCount_0f7a4_2 (by decide) rfl ?_
  refine E_iushr (q := 4) dJ6_bitCount_0f7a4_3 (show _ = nI (m / 2) from ushr_nI (k := 1) hm (by decide)) rfl ?_
  refine E_ldcw (q := 7) dJ6_bitCount_0f7a4_4 cn_J6_265 rfl ?_
  refine E_iand (q := 8) dJ6_bitCount_0f7a4_7 rfl ?_
  refine V_int (show _ = nI (m / 2 &&& 1431655765) from nI_and _ _) ?_
  refine E_isubN (q := 9) dJ6_bitCount_0f7a4_8 (by omega) rfl ?_
  refine E_istore0 (q := 10) dJ6_bitCount_0f7a4_9 rfl ?_
  refine E_iload0 (q := 11) dJ6_bitCount_0f7a4_10 rfl ?_
  refine E_ldcw (q := 14) dJ6_bitCount_0f7a4_11 cn_J6_266 rfl ?_
  refine E_iand (q := 15) dJ6_bitCount_0f7a4_14 rfl ?_
  refine V_int (show _ = nI ((m - (m / 2 &&& 1431655765)) &&& 858993459) from nI_and _ _) ?_
  refine E_iload0 (q := 16) dJ6_bitCount_0f7a4_15 rfl ?_
  refine E_iconst (v := nI 2) (q := 17) dJ6_bitCount_0f7a4_16 (by decide) rfl ?_
  refine E_iushr (q := 18) dJ6_bitCount_0f7a4_17 (show _ = nI ((m - (m / 2 &&& 1431655765)) / 4) from ushr_nI (k := 2) (by omega) (by decide)) rfl ?_
  refine E_ldcw (q := 21) dJ6_bitCount_0f7a4_18 cn_J6_266 rfl ?_
  refine E_iand (q := 22) dJ6_bitCount_0f7a4_21 rfl ?_
  refine V_int (show _ = nI ((m - (m / 2 &&& 1431655765)) / 4 &&& 858993459) from nI_and _ _) ?_
  refine E_iaddN (q := 23) dJ6_bitCount_0f7a4_22 rfl ?_
  refine E_istore0 (q := 24) dJ6_bitCount_0f7a4_23 rfl ?_
  refine E_iload0 (q := 25) dJ6_bitCount_0f7a4_24 rfl ?_
  refine E_iload0 (q := 26) dJ6_bitCount_0f7a4_25 rfl ?_
  refine E_iconst (v := nI 4) (q := 27) dJ6_bitCount_0f7a4_26 (by decide) rfl ?_
  refine E_iushr (q := 28) dJ6_bitCount_0f7a4_27 (show _ = nI ((((m - (m / 2 &&& 1431655765)) &&& 858993459) + ((m - (m / 2 &&& 1431655765)) / 4 &&& 858993459)) / 16) from ushr_nI (k := 4) (by omega) (by decide)) rfl ?_
  refine E_iaddN (q := 29) dJ6_bitCount_0f7a4_28 rfl ?_
  refine E_ldcw (q := 32) dJ6_bitCount_0f7a4_29 cn_J6_267 rfl ?_
  refine E_iand (q := 33) dJ6_bitCount_0f7a4_32 rfl ?_
  refine V_int (show _ = nI (Dg 8 p8 4 m) by rw [← h3]; exact nI_and _ _) ?_
  refine E_istore0 (q := 34) dJ6_bitCount_0f7a4_33 rfl ?_
  refine E_iload0 (q := 35) dJ6_bitCount_0f7a4_34 rfl ?_
  refine E_iload0 (q := 36) dJ6_bitCount_0f7a4_35 rfl ?_
  refine E_bipush (v := nI 8) (q := 38) dJ6_bitCount_0f7a4_36 (by decide) rfl ?_
  refine E_iushr (q := 39) dJ6_bitCount_0f7a4_38 (show _ = nI (Dg 8 p8 4 m / 256) from ushr_nI (k := 8) (by omega) (by decide)) rfl ?_
  refine E_iaddN (q := 40) dJ6_bitCount_0f7a4_39 rfl ?_
  refine E_istore0 (q := 41) dJ6_bitCount_0f7a4_40 rfl ?_
  refine E_iload0 (q := 42) dJ6_bitCount_0f7a4_41 rfl ?_
  refine E_iload0 (q := 43) dJ6_bitCount_0f7a4_42 rfl ?_
  refine E_bipush (v := nI 16) (q := 45) dJ6_bitCount_0f7a4_43 (by decide) rfl ?_
  refine E_iushr (q := 46) dJ6_bitCount_0f7a4_45 (show _ = nI ((Dg 8 p8 4 m + Dg 8 p8 4 m / 256) / 65536) from ushr_nI (k := 16) (by omega) (by decide)) rfl ?_
  refine E_iaddN (q := 47) dJ6_bitCount_0f7a4_46 rfl ?_
  refine E_istore0 (q := 48) dJ6_bitCount_0f7a4_47 rfl ?_
  refine E_iload0 (q := 49) dJ6_bitCount_0f7a4_48 rfl ?_
  refine E_bipush (v := nI 63) (q := 51) dJ6_bitCount_0f7a4_49 (by decide) rfl ?_
  refine E_iand (q := 52) dJ6_bitCount_0f7a4_51 rfl ?_
  refine V_int (show _ = nI (popN m) by rw [nI_and, show (63 : Nat) = 2 ^ 6 - 1 from rfl, Nat.and_two_pow_sub_one_eq_mod]; exact congrArg nI h5.1) ?_
  exact E_ireturn rfl rfl dJ6_bitCount_0f7a4_52 (PI_of rfl rfl)
end BC
