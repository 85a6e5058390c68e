/-! BEST SETS BY RUNS -/
section DP
variable {A : AS}
theorem popN_dis {a b : Nat} (hd : ∀ k, a.testBit k = true → ¬ b.testBit k = true) : popN (a ||| b) = popN a + popN b := by
  unfold popN
  rw [← nsum_add]
  refine nsum_congr fun k _ => ?_
  by_cases ca : a.testBit k = true
  · rw [if_pos (or_bit.mpr (Or.inl ca)), if_pos ca, if_neg (hd k ca)]
  · rw [if_neg ca]
    by_cases cb : b.testBit k = true
    · rw [if_pos (or_bit.mpr (Or.inr cb)), if_pos cb]
    · rw [if_neg (fun z => (or_bit.mp z).elim ca cb), if_neg cb]
theorem or_dis {a b : Nat} (ha : a < 2 ^ 16) (hb : b < 2 ^ 16) (hd : ∀ k, a.testBit k = true → ¬ b.testBit k = true) : a ||| b = a + b := by
  have h1 : BitVec.ofNat 32 a &&& BitVec.ofNat 32 b = 0#32 := by
    rw [← BitVec.ofNat_and, and0 (fun w q => hd w q.1 q.2)]
  have h2 := BitVec.add_eq_or_of_and_eq_zero _ _ h1
  have h3 := congrArg BitVec.toNat h2
  rw [← BitVec.ofNat_or, BitVec.toNat_add, BitVec.toNat_ofNat, BitVec.toNat_ofNat, BitVec.toNat_ofNat] at h3
  have := Nat.or_lt_two_pow ha hb
  omega
def Wt (A : AS) (S : Nat) : Int := (fr A S : Int) * 65536 - (S : Int)
theorem sbb_lt {a b : Nat} (hb : b < 2 ^ 16) (h : sb a b) : a < 2 ^ 16 := bits_lt fun k hk => lt16_bit hb (h k hk)
theorem fr_le (h : WF A) (S : Nat) : fr A S ≤ 2376 := hb_le h.2.2 S
theorem mkR_pop (h : WF A) {i r : Nat} (hr : r ≤ i) (hi : i ≤ (ln A).length) : popN (mkR (ln A) (i - r) i) = r := by
  induction r with
  | zero => rw [Nat.sub_zero, mkR_0, popN_0]
  | succ r ih =>
    have ih' := ih (by omega)
    obtain ⟨s, hs⟩ : ∃ s, (ln A)[i - (r + 1)]? = some s := ⟨_, List.getElem?_eq_getElem (by omega)⟩
    have h16 := ((mem_ln h).mp (List.mem_of_getElem? hs)).1
    have e : mkR (ln A) (i - (r + 1)) i = mkR (ln A) (i - r) i ||| 2 ^ s := eq_bits fun t => by
      rw [or_bit, mkR_bit, mkR_bit, pow_bit]
      constructor
      · rintro ⟨a, q, b, c, d⟩
        by_cases e : q = i - (r + 1)
        · subst e; rw [hs] at d; exact Or.inr (by simpa using d)
        · exact Or.inl ⟨a, q, by omega, c, d⟩
      · rintro (⟨a, q, b, c, d⟩ | e)
        · exact ⟨a, q, by omega, c, d⟩
        · subst e; exact ⟨h16, _, Nat.le_refl _, by omega, hs⟩
    rw [e, popN_or (by omega) (fun z => ?_), ih']
    obtain ⟨_, q, b, c, d⟩ := mkR_bit.mp z
    have := key_inj (lnk_pw 96) d hs
    omega
theorem mkR_down (h : WF A) {i r s : Nat} (hr : r < i) (hs : (ln A)[i - (r + 1)]? = some s) : mkR (ln A) (i - r) i ||| 2 ^ s = mkR (ln A) (i - (r + 1)) i := eq_bits fun t => by
  have h16 := ((mem_ln h).mp (List.mem_of_getElem? hs)).1
  rw [or_bit, mkR_bit, mkR_bit, pow_bit]
  constructor
  · rintro (⟨a, q, b, c, d⟩ | e)
    · exact ⟨a, q, by omega, c, d⟩
    · subst e; exact ⟨h16, _, Nat.le_refl _, by omega, hs⟩
  · rintro ⟨a, q, b, c, d⟩
    by_cases e : q = i - (r + 1)
    · subst e; rw [hs] at d; exact Or.inr (by simpa using d)
    · exact Or.inl ⟨a, q, by omega, c, d⟩
theorem mkR_cut {L : List Nat} (hL : L.Pairwise (keyP A)) {a b c d : Nat} (h : b ≤ c) {k : Nat} (h1 : (mkR L a b).testBit k = true) : ¬ (mkR L c d).testBit k = true := fun h2 => by
  obtain ⟨-, i, q1, q2, q3⟩ := mkR_bit.mp h1
  obtain ⟨-, j, p1, p2, p3⟩ := mkR_bit.mp h2
  have := key_inj hL q3 p3
  omega
theorem mkR_sub {L : List Nat} {a b c d : Nat} (h1 : c ≤ a) (h2 : b ≤ d) : sb (mkR L a b) (mkR L c d) := fun k hk => by
  obtain ⟨q0, i, q1, q2, q3⟩ := mkR_bit.mp hk
  exact mkR_bit.mpr ⟨q0, i, by omega, by omega, q3⟩
def Bst (A : AS) (i n : Nat) (v : Int) : Prop := (∃ S, sb S (mkR (ln A) 0 i) ∧ popN S = n ∧ v ≤ Wt A S) ∧ ∀ S, sb S (mkR (ln A) 0 i) → popN S = n → Wt A S ≤ v
/-- runs to r looked at -/
def Cnd (A : AS) (i r n : Nat) (v : Int) : Prop := (∃ S, sb S (mkR (ln A) 0 i) ∧ popN S = n ∧ v ≤ Wt A S) ∧ ∀ S, sb S (mkR (ln A) 0 i) → popN S = n → (r = i ∨ ∃ j t, j < i ∧ i ≤ j + r + 1 ∧ (ln A)[j]? = some t ∧ ¬ S.testBit t = true) → Wt A S ≤ v
theorem Cnd.end {i n : Nat} {v : Int} (h : Cnd A i i n v) : Bst A i n v := ⟨h.1, fun S h1 h2 => h.2 S h1 h2 (Or.inl rfl)⟩
theorem Bst.is {i n : Nat} {v : Int} (h : Bst A i n v) : ∃ S, sb S (mkR (ln A) 0 i) ∧ popN S = n ∧ v = Wt A S := by
  obtain ⟨S, h1, h2, h3⟩ := h.1
  have := h.2 S h1 h2
  exact ⟨S, h1, h2, by omega⟩
theorem Wt_bd (h : WF A) {S m : Nat} (hm : m < 2 ^ 16) (hS : sb S m) : -65536 < Wt A S ∧ Wt A S ≤ 2376 * 65536 := by
  have h1 := sbb_lt hm hS
  have h2 := fr_le h S
  unfold Wt
  omega
theorem Bst.bd (h0 : WF A) {i n : Nat} {v : Int} (h : Bst A i n v) : -65536 < v ∧ v ≤ 2376 * 65536 := by
  obtain ⟨S, h1, -, h3⟩ := h.is
  rw [h3]
  exact Wt_bd h0 mkR_lt h1
theorem sb_0 {m : Nat} : sb 0 m := fun k hk => by
  rw [Nat.zero_testBit] at hk
  cases hk
theorem sb_00 {S : Nat} (h : sb S 0) : S = 0 := zero_bits.mpr fun k hk => by
  have := h k hk
  rw [Nat.zero_testBit] at this
  cases this
theorem fr_0 (h : WF A) : fr A 0 = 0 := fsum_zero fun x hx => by
  rw [hbF_sb h hx, if_neg (dB_ff fun z => (h.2.2.2 x hx).2.2.2.2.2.1 (sb_00 z))]
theorem Wt_0 (h : WF A) : Wt A 0 = 0 := by
  unfold Wt
  rw [fr_0 h]
  rfl
theorem Bst_0 (h : WF A) : Bst A 0 0 0 := by
  refine ⟨⟨0, sb_0, popN_0, by rw [Wt_0 h]; exact Int.le_refl _⟩, fun S h1 h2 => ?_⟩
  rw [mkR_0] at h1
  rw [sb_00 h1, Wt_0 h]
  exact Int.le_refl _
theorem popN_mono {a b : Nat} (h : sb a b) : popN a ≤ popN b := nsum_mono fun k _ => by
  by_cases c : a.testBit k = true
  · rw [if_pos c, if_pos (h k c)]; exact Nat.le_refl _
  · rw [if_neg c]; omega
theorem popN_less {a b t : Nat} (h : sb a b) (ht : t < 32) (h1 : b.testBit t = true) (h2 : ¬ a.testBit t = true) : popN a < popN b := by
  have h3 : sb (a ||| 2 ^ t) b := fun k hk => by
    rcases or_bit.mp hk with q | q
    · exact h k q
    · rw [pow_bit] at q; subst q; exact h1
  have := popN_mono h3
  rw [popN_or ht h2] at this
  omega
theorem Cnd_0a {i n : Nat} {v : Int} (h : Bst A i n v) : Cnd A (i + 1) 0 n v := by
  obtain ⟨⟨S, h1, h2, h3⟩, h4⟩ := h
  refine ⟨⟨S, fun k hk => mkR_sub (Nat.le_refl _) (Nat.le_succ _) k (h1 k hk), h2, h3⟩, fun S' q1 q2 q3 => h4 S' (fun k hk => ?_) q2⟩
  rcases q3 with q3 | ⟨j, t, c1, c2, c3, c4⟩
  · omega
  · obtain ⟨a, p, b, c, d⟩ := mkR_bit.mp (q1 k hk)
    refine mkR_bit.mpr ⟨a, p, b, Nat.lt_of_le_of_ne (by omega) fun e => c4 ?_, d⟩
    have : p = j := by omega
    subst this
    rw [d] at c3
    injection c3 with c3
    exact c3 ▸ hk
theorem Cnd_0b (h : WF A) {i : Nat} (h1 : 1 ≤ i) (hi : i ≤ (ln A).length) : Cnd A i 0 i (-65536) := by
  have hp := mkR_pop h (Nat.le_refl i) hi
  rw [Nat.sub_self] at hp
  refine ⟨⟨mkR (ln A) 0 i, fun k hk => hk, hp, Int.le_of_lt (Wt_bd h (m := mkR (ln A) 0 i) mkR_lt (fun k hk => hk)).1⟩, fun S q1 q2 q3 => ?_⟩
  rcases q3 with q3 | ⟨j, t, c1, c2, c3, c4⟩
  · omega
  · have ht := ((mem_ln h).mp (List.mem_of_getElem? c3)).1
    have := popN_less q1 (by omega) (mkR_bit.mpr ⟨ht, j, Nat.zero_le _, c1, c3⟩) c4
    omega
theorem run_in (h : WF A) {i r S : Nat} (hi : i ≤ (ln A).length) (hn : ¬ ∃ j t, j < i ∧ i ≤ j + r + 1 ∧ (ln A)[j]? = some t ∧ ¬ S.testBit t = true) : sb (mkR (ln A) (i - (r + 1)) i) S := fun k hk => Classical.byContradiction fun c => by
  obtain ⟨a, p, b, d, e⟩ := mkR_bit.mp hk
  exact hn ⟨p, k, d, by omega, e, c⟩
theorem Cnd_skip (h : WF A) {i r n : Nat} {v : Int} (hr : r + 1 ≤ i) (hi : i ≤ (ln A).length) (hn : n < r + 1) (hc : Cnd A i r n v) : Cnd A i (r + 1) n v := by
  refine ⟨hc.1, fun S q1 q2 _ => hc.2 S q1 q2 (Or.inr (Classical.byContradiction fun c => ?_))⟩
  have := popN_mono (run_in h hi c)
  rw [mkR_pop h hr hi] at this
  omega
theorem Cnd_imp (h : WF A) (hC : WFC A) {i r n : Nat} {v t x : Int} (hr : r + 1 ≤ i) (hi : i ≤ (ln A).length) (hn : r + 1 ≤ n) (hc : Cnd A i r n v) (ht : Bst A (i - (r + 1)) (n - (r + 1)) t) (hx : x = Wt A (mkR (ln A) (i - (r + 1)) i)) : Cnd A i (r + 1) n (if v < t + x then t + x else v) := by
  have hpop := mkR_pop h hr hi
  have hmax : v ≤ (if v < t + x then t + x else v) ∧ t + x ≤ (if v < t + x then t + x else v) := by split <;> omega
  constructor
  · by_cases c : v < t + x
    · rw [if_pos c]
      obtain ⟨S, a1, a2, a3⟩ := ht.1
      have hd : ∀ k, S.testBit k = true → ¬ (mkR (ln A) (i - (r + 1)) i).testBit k = true := fun k hk => mkR_cut (lnk_pw 96) (Nat.le_refl _) (a1 k hk)
      refine ⟨S ||| mkR (ln A) (i - (r + 1)) i, fun k hk => ?_, ?_, ?_⟩
      · rcases or_bit.mp hk with q | q
        · exact mkR_sub (Nat.le_refl _) (by omega) k (a1 k q)
        · exact mkR_sub (Nat.zero_le _) (Nat.le_refl _) k q
      · rw [popN_dis hd, hpop]; omega
      · have h1 := fr_super h hd
        have h2 := or_dis (sbb_lt mkR_lt a1) mkR_lt hd
        rw [hx]
        unfold Wt at a3 ⊢
        rw [h2] at h1 ⊢
        omega
    · rw [if_neg c]; exact hc.1
  · intro S q1 q2 q3
    by_cases c : ∃ j t, j < i ∧ i ≤ j + r + 1 ∧ (ln A)[j]? = some t ∧ ¬ S.testBit t = true
    · exact Int.le_trans (hc.2 S q1 q2 (Or.inr c)) hmax.1
    · have hR := run_in h hi c
      have hS16 := sbb_lt mkR_lt q1
      have hS32 : S < 2 ^ 32 := by omega
      have hab : ∀ k, (andn S (mkR (ln A) (i - (r + 1)) i)).testBit k = true ↔ S.testBit k = true ∧ ¬ (mkR (ln A) (i - (r + 1)) i).testBit k = true := fun k => andn_bit hS32
      have hd : ∀ k, (andn S (mkR (ln A) (i - (r + 1)) i)).testBit k = true → ¬ (mkR (ln A) (i - (r + 1)) i).testBit k = true := fun k hk => ((hab k).mp hk).2
      have hor : andn S (mkR (ln A) (i - (r + 1)) i) ||| mkR (ln A) (i - (r + 1)) i = S := eq_bits fun k => by
        rw [or_bit, hab]
        constructor
        · rintro (q | q)
          · exact q.1
          · exact hR k q
        · intro q
          by_cases z : (mkR (ln A) (i - (r + 1)) i).testBit k = true
          · exact Or.inr z
          · exact Or.inl ⟨q, z⟩
      have hsub : sb (andn S (mkR (ln A) (i - (r + 1)) i)) (mkR (ln A) 0 (i - (r + 1))) := fun k hk => by
        obtain ⟨z1, z2⟩ := (hab k).mp hk
        obtain ⟨a, p, b, d, e⟩ := mkR_bit.mp (q1 k z1)
        exact mkR_bit.mpr ⟨a, p, b, Nat.lt_of_not_le fun f => z2 (mkR_bit.mpr ⟨a, p, f, d, e⟩), e⟩
      have hadd : fr A (andn S (mkR (ln A) (i - (r + 1)) i) ||| mkR (ln A) (i - (r + 1)) i) = fr A (andn S (mkR (ln A) (i - (r + 1)) i)) + fr A (mkR (ln A) (i - (r + 1)) i) := by
        refine fr_add h hd fun x hx ho => ?_
        rw [hor] at ho
        by_cases c1 : sb (own x) (mkR (ln A) (i - (r + 1)) i)
        · exact Or.inr c1
        · refine Or.inl fun w hw => Classical.byContradiction fun cw => c1 fun u hu => Classical.byContradiction fun cu => ?_
          have hmay : sb (own x) (mayM A) := fun k hk => mkR_may h k (q1 k (ho k hk))
          have hw' : (mkR (ln A) (i - (r + 1)) i).testBit w = true := Classical.byContradiction fun z => cw ((hab w).mpr ⟨ho w hw, z⟩)
          obtain ⟨_, b, b1, b2, b3⟩ := mkR_bit.mp hw'
          obtain ⟨_, a, a1, a2, a3⟩ := mkR_bit.mp (hsub u ((hab u).mpr ⟨ho u hu, cu⟩))
          rcases q3 with q3 | ⟨j, t', c2, c3, c4, c5⟩
          · omega
          · have hj : j < i - (r + 1) := Nat.lt_of_not_le fun z => c ⟨j, t', c2, by omega, c4, c5⟩
            have haj : a < j := Nat.lt_of_le_of_ne (by omega) fun z => c5 (by
              subst z
              rw [a3] at c4
              injection c4 with c4
              exact c4 ▸ ho u hu)
            exact ln_gap h hC hx hmay (g := j) (fun t2 e2 z => c5 (by
              rw [c4] at e2
              injection e2 with e2
              exact e2 ▸ ho t2 z)) a3 b3 haj (by omega) hu hw
      have hpS : popN (andn S (mkR (ln A) (i - (r + 1)) i)) = n - (r + 1) := by
        have := popN_dis hd
        rw [hor, hpop] at this
        omega
      have hW := ht.2 _ hsub hpS
      have hsum := or_dis (sbb_lt mkR_lt hsub) mkR_lt hd
      rw [hor] at hadd hsum
      refine Int.le_trans ?_ hmax.2
      rw [hx]
      unfold Wt at hW ⊢
      rw [hadd]
      omega
/-- the answer from the last row -/
theorem ftf_hit (h : WF A) {m n S : Nat} (hn : 1 ≤ n) (hS : sb S (mkR (ln A) 0 (ln A).length)) (hp : popN S = n) (hm : m ≤ fr A S) (hB : Bst A (ln A).length n (Wt A S)) (hlow : ∀ k, 1 ≤ k → k < n → ∀ S', sb S' (mkR (ln A) 0 (ln A).length) → popN S' = k → fr A S' < m) : nI S = ftf A m := by
  have hgood : ∀ y, sb y (mayM A) → sb y (mkR (ln A) 0 (ln A).length) := fun y hy k hk => mkR_full h k (hy k hk)
  refine ftf_is ⟨⟨fun z => ?_, fun k hk => mkR_may h k (hS k hk), hm⟩, fun y hy => ?_⟩
  · subst z; rw [popN_0] at hp; omega
  · have hyl := hy.lt
    have hSl := sbb_lt mkR_lt hS
    have h1 : 1 ≤ popN y := Nat.one_le_iff_ne_zero.mpr fun z => hy.1 ((popN_0iff (by omega)).mp z)
    rcases Nat.lt_trichotomy (popN y) n with c | c | c
    · have := hlow _ h1 c y (hgood y hy.2.1) rfl
      have := hy.2.2
      omega
    · have := hB.2 y (hgood y hy.2.1) c
      unfold Wt at this
      by_cases e : y = S
      · exact Or.inl e
      · refine Or.inr (Or.inr ⟨by omega, ?_⟩)
        omega
    · exact Or.inr (Or.inl (by omega))
theorem ftf_miss (h : WF A) {m : Nat} (hlow : ∀ k, 1 ≤ k → k ≤ (ln A).length → ∀ S', sb S' (mkR (ln A) 0 (ln A).length) → popN S' = k → fr A S' < m) : (-1 : Int32) = ftf A m := by
  refine ftf_no fun y hy => ?_
  have hyl := hy.lt
  have h1 : 1 ≤ popN y := Nat.one_le_iff_ne_zero.mpr fun z => hy.1 ((popN_0iff (by omega)).mp z)
  have hsub : sb y (mkR (ln A) 0 (ln A).length) := fun k hk => mkR_full h k (hy.2.1 k hk)
  have h2 := popN_mono hsub
  have h3 := mkR_pop h (Nat.le_refl _) (Nat.le_refl (ln A).length)
  rw [Nat.sub_self] at h3
  have := hlow _ h1 (by omega) y hsub rfl
  have := hy.2.2
  omega
theorem Bst_low (h : WF A) {i n m : Nat} {v : Int} (hB : Bst A i n v) (hv : v ≤ ((m : Int) - 1) * 65536) : ∀ S', sb S' (mkR (ln A) 0 i) → popN S' = n → fr A S' < m := fun S' h1 h2 => by
  have h3 := hB.2 S' h1 h2
  have h4 := sbb_lt mkR_lt h1
  unfold Wt at h3
  omega
end DP
