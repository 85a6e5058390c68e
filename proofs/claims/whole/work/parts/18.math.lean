/-! CHANGES OF A POOL -/
theorem upd_eq {f : Nat → Int32} {k : Nat} {x : Int32} : upd f k x k = x := if_pos rfl
theorem upd_ne {f : Nat → Int32} {k j : Nat} {x : Int32} (h : j ≠ k) : upd f k x j = f j := if_neg h
def ts (T : Nat → Nat → Nat) (i j v : Nat) : Nat → Nat → Nat := fun a b => if a = i ∧ b = j then v else T a b
theorem ts_eq {T : Nat → Nat → Nat} {i j v : Nat} : ts T i j v i j = v := if_pos ⟨rfl, rfl⟩
theorem ts_ne {T : Nat → Nat → Nat} {i j v a b : Nat} (h : ¬ (a = i ∧ b = j)) : ts T i j v a b = T a b := if_neg h
def lendB (bl : List Blk) (f t : Nat) : List Blk := bl.map (fun x => if (own x).testBit f = true then (x.1, siz x, adr x, own x ||| 2 ^ t) else x)
def relB (bl : List Blk) (g : Nat → Nat) : List Blk := (bl.map (fun x => (x.1, siz x, adr x, andn (own x) (g (adr x))))).filter (fun x => own x != 0)
def relAt (bl : List Blk) (w a : Nat) : List Blk := relB bl (fun b => if b = a then 2 ^ w else 0)
section LB
variable {bl : List Blk} {f t w a : Nat}
theorem lendB_cons (x : Blk) (bl : List Blk) (f t : Nat) : lendB (x :: bl) f t = (if (own x).testBit f = true then (x.1, siz x, adr x, own x ||| 2 ^ t) else x) :: lendB bl f t := rfl
theorem lend_bu (h : ∀ x, x ∈ bl → ¬ (own x).testBit t = true) (w a : Nat) :
    bAt (lendB bl f t) w a = bAt bl (if w = t then f else w) a ∧ uAt (lendB bl f t) w a = uAt bl (if w = t then f else w) a := by
  induction bl with
  | nil => exact ⟨rfl, rfl⟩
  | cons x bl ih =>
    have h1 := h x (List.mem_cons_self ..)
    have ih := ih (fun y hy => h y (List.mem_cons_of_mem _ hy))
    unfold bAt uAt at ih ⊢
    rw [lendB_cons, blkAt_cons, blkAt_cons]
    by_cases hf : (own x).testBit f = true
    · rw [if_pos hf]
      by_cases hw : w = t
      · subst hw
        rw [if_pos rfl] at ih ⊢
        by_cases ha : adr x = a
        · rw [if_pos (show adr x = a ∧ (own x ||| 2 ^ w).testBit w = true from ⟨ha, or_bit.mpr (Or.inr (pow_bit.mpr rfl))⟩), if_pos ⟨ha, hf⟩]; exact ⟨rfl, rfl⟩
        · rw [if_neg (fun z => ha z.1), if_neg (fun z => ha z.1)]; exact ih
      · rw [if_neg hw] at ih ⊢
        by_cases ha : adr x = a ∧ (own x).testBit w = true
        · rw [if_pos (show adr x = a ∧ (own x ||| 2 ^ t).testBit w = true from ⟨ha.1, or_bit.mpr (Or.inl ha.2)⟩), if_pos ha]; exact ⟨rfl, rfl⟩
        · rw [if_neg ha, if_neg (show ¬ (adr x = a ∧ (own x ||| 2 ^ t).testBit w = true) from ?_)]
          · exact ih
          · rintro ⟨q1, q2⟩
            rcases or_bit.mp q2 with q | q
            · exact ha ⟨q1, q⟩
            · exact hw (pow_bit.mp q).symm
    · rw [if_neg hf]
      by_cases hw : w = t
      · subst hw
        rw [if_pos rfl] at ih ⊢
        rw [if_neg (fun z => h1 z.2), if_neg (fun z => hf z.2)]; exact ih
      · rw [if_neg hw] at ih ⊢
        by_cases ha : adr x = a ∧ (own x).testBit w = true
        · rw [if_pos ha, if_pos ha]; exact ⟨rfl, rfl⟩
        · rw [if_neg ha, if_neg ha]; exact ih
theorem relB_cons (x : Blk) (bl : List Blk) (g : Nat → Nat) : relB (x :: bl) g = if andn (own x) (g (adr x)) = 0 then relB bl g else (x.1, siz x, adr x, andn (own x) (g (adr x))) :: relB bl g := by
  unfold relB
  rw [List.map_cons]
  by_cases h : andn (own x) (g (adr x)) = 0
  · rw [if_pos h, List.filter_cons_of_neg]
    show ¬ (andn (own x) (g (adr x)) != 0) = true
    rw [h]; simp
  · rw [if_neg h, List.filter_cons_of_pos]
    show (andn (own x) (g (adr x)) != 0) = true
    simpa using h
theorem rel_bu (h : ∀ x, x ∈ bl → own x < 2 ^ 22) (g : Nat → Nat) (w a : Nat) :
    bAt (relB bl g) w a = (if (g a).testBit w = true then 0 else bAt bl w a) ∧ uAt (relB bl g) w a = (if (g a).testBit w = true then 0 else uAt bl w a) := by
  induction bl with
  | nil => exact ⟨by rw [show bAt ([] : List Blk) w a = 0 from rfl]; split <;> rfl, by rw [show uAt ([] : List Blk) w a = 0 from rfl]; split <;> rfl⟩
  | cons x bl ih =>
    have h1 : own x < 2 ^ 32 := Nat.lt_trans (h x (List.mem_cons_self ..)) (by decide)
    have ih := ih (fun y hy => h y (List.mem_cons_of_mem _ hy))
    have hh : adr x = a ∧ (andn (own x) (g (adr x))).testBit w = true ↔ adr x = a ∧ (own x).testBit w = true ∧ ¬ (g a).testBit w = true := by
      rw [andn_bit h1]
      constructor
      · rintro ⟨q1, q2, q3⟩; exact ⟨q1, q2, q1 ▸ q3⟩
      · rintro ⟨q1, q2, q3⟩; exact ⟨q1, q2, q1 ▸ q3⟩
    rw [relB_cons]
    by_cases hz : andn (own x) (g (adr x)) = 0
    · rw [if_pos hz, ih.1, ih.2]
      rw [hz, Nat.zero_testBit] at hh
      by_cases hg : (g a).testBit w = true
      · rw [if_pos hg, if_pos hg, if_pos hg, if_pos hg]; exact ⟨rfl, rfl⟩
      · rw [if_neg hg, if_neg hg, if_neg hg, if_neg hg]
        unfold bAt uAt
        rw [blkAt_cons, if_neg]
        · exact ⟨rfl, rfl⟩
        · rintro ⟨q1, q2⟩
          have := hh.mpr ⟨q1, q2, hg⟩
          simp at this
    · rw [if_neg hz]
      unfold bAt uAt at ih ⊢
      rw [blkAt_cons, blkAt_cons]
      by_cases hm : adr x = a ∧ (own x).testBit w = true ∧ ¬ (g a).testBit w = true
      · rw [if_pos (show adr x = a ∧ (andn (own x) (g (adr x))).testBit w = true from hh.mpr hm), if_pos (show adr x = a ∧ (own x).testBit w = true from ⟨hm.1, hm.2.1⟩), if_neg hm.2.2, if_neg hm.2.2]; exact ⟨rfl, rfl⟩
      · rw [if_neg (fun z => hm (hh.mp z)), ih.1, ih.2]
        by_cases hg : (g a).testBit w = true
        · rw [if_pos hg, if_pos hg, if_pos hg, if_pos hg]; exact ⟨rfl, rfl⟩
        · rw [if_neg hg, if_neg hg, if_neg hg, if_neg hg, if_neg (fun z => hm ⟨z.1, z.2, hg⟩)]; exact ⟨rfl, rfl⟩
theorem app_bu (y : Blk) (w a : Nat) (h0 : ∀ x, x ∈ bl → 0 < x.1) :
    (bAt bl w a = 0 ∧ uAt bl w a = 0 → bAt (bl ++ [y]) w a = (if adr y = a ∧ (own y).testBit w = true then y.1 else 0) ∧ uAt (bl ++ [y]) w a = (if adr y = a ∧ (own y).testBit w = true then siz y else 0)) ∧
    (¬ (adr y = a ∧ (own y).testBit w = true) → bAt (bl ++ [y]) w a = bAt bl w a ∧ uAt (bl ++ [y]) w a = uAt bl w a) := by
  induction bl with
  | nil =>
    constructor
    · intro _
      unfold bAt uAt
      rw [List.nil_append, blkAt_cons]
      split <;> exact ⟨rfl, rfl⟩
    · intro hn
      unfold bAt uAt
      rw [List.nil_append, blkAt_cons, if_neg hn]
      exact ⟨rfl, rfl⟩
  | cons x bl ih =>
    have ih := ih (fun y hy => h0 y (List.mem_cons_of_mem _ hy))
    have hx := h0 x (List.mem_cons_self ..)
    unfold bAt uAt at ih ⊢
    rw [List.cons_append, blkAt_cons, blkAt_cons]
    by_cases h : adr x = a ∧ (own x).testBit w = true
    · rw [if_pos h, if_pos h]
      refine ⟨fun z => ?_, fun _ => ⟨rfl, rfl⟩⟩
      have : x.1 = 0 := z.1
      omega
    · rw [if_neg h, if_neg h]; exact ih
theorem lend_mem {x : Blk} (hx : x ∈ lendB bl f t) : ∃ y, y ∈ bl ∧ x.1 = y.1 ∧ siz x = siz y ∧ adr x = adr y ∧ own x = (if (own y).testBit f = true then own y ||| 2 ^ t else own y) := by
  obtain ⟨y, hy, rfl⟩ := List.mem_map.mp hx
  refine ⟨y, hy, ?_⟩
  by_cases h : (own y).testBit f = true
  · rw [if_pos h, if_pos h]; exact ⟨rfl, rfl, rfl, rfl⟩
  · rw [if_neg h, if_neg h]; exact ⟨rfl, rfl, rfl, rfl⟩
theorem rel_mem {g : Nat → Nat} {x : Blk} (hx : x ∈ relB bl g) : ∃ y, y ∈ bl ∧ x.1 = y.1 ∧ siz x = siz y ∧ adr x = adr y ∧ own x = andn (own y) (g (adr y)) ∧ own x ≠ 0 := by
  obtain ⟨h1, h2⟩ := List.mem_filter.mp hx
  obtain ⟨y, hy, rfl⟩ := List.mem_map.mp h1
  exact ⟨y, hy, rfl, rfl, rfl, rfl, by simpa using h2⟩
theorem and0 {a b : Nat} (h : ∀ w, ¬ (a.testBit w = true ∧ b.testBit w = true)) : a &&& b = 0 := zero_bits.mpr fun k => by rw [and_bit]; exact h k
theorem lend_pw (hp : BPW bl) (h : ∀ x, x ∈ bl → ¬ (own x).testBit t = true) : BPW (lendB bl f t) := by
  induction bl with
  | nil => exact List.Pairwise.nil
  | cons x bl ih =>
    obtain ⟨h1, h2⟩ := List.pairwise_cons.mp hp
    rw [lendB_cons]
    refine List.pairwise_cons.mpr ⟨fun y hy => ?_, ih h2 (fun y hy => h y (List.mem_cons_of_mem _ hy))⟩
    obtain ⟨z, hz, e1, e2, e3, e4⟩ := lend_mem hy
    have hxz := h1 z hz
    have hx := h x (List.mem_cons_self ..)
    have hzt := h z (List.mem_cons_of_mem _ hz)
    have key : ∀ o : Nat, o = (if (own x).testBit f = true then own x ||| 2 ^ t else own x) → adr x = adr z → o &&& own y = 0 := by
      rintro o rfl ha
      have hd := and_tb (hxz.2 ha)
      refine and0 fun w => ?_
      rw [e4]
      rintro ⟨q1, q2⟩
      by_cases c1 : (own x).testBit f = true <;> by_cases c2 : (own z).testBit f = true
      · exact hd f ⟨c1, c2⟩
      · rw [if_pos c1] at q1; rw [if_neg c2] at q2
        rcases or_bit.mp q1 with q | q
        · exact hd w ⟨q, q2⟩
        · rw [pow_bit] at q; subst q; exact hzt q2
      · rw [if_neg c1] at q1; rw [if_pos c2] at q2
        rcases or_bit.mp q2 with q | q
        · exact hd w ⟨q1, q⟩
        · rw [pow_bit] at q; subst q; exact hx q1
      · rw [if_neg c1] at q1; rw [if_neg c2] at q2; exact hd w ⟨q1, q2⟩
    by_cases c1 : (own x).testBit f = true
    · rw [if_pos c1] at key ⊢
      exact ⟨by rw [e1]; exact hxz.1, fun ha => key _ rfl (by rw [← e3]; exact ha)⟩
    · rw [if_neg c1] at key ⊢
      exact ⟨by rw [e1]; exact hxz.1, fun ha => key _ rfl (by rw [← e3]; exact ha)⟩
theorem rel_pw {g : Nat → Nat} (hp : BPW bl) : BPW (relB bl g) := by
  induction bl with
  | nil => exact List.Pairwise.nil
  | cons x bl ih =>
    obtain ⟨h1, h2⟩ := List.pairwise_cons.mp hp
    rw [relB_cons]
    split
    · exact ih h2
    · refine List.pairwise_cons.mpr ⟨fun y hy => ?_, ih h2⟩
      obtain ⟨z, hz, e1, e2, e3, e4, -⟩ := rel_mem hy
      refine ⟨by rw [e1]; exact (h1 z hz).1, fun ha => ?_⟩
      have hd := and_tb ((h1 z hz).2 (by rw [← e3]; exact ha))
      refine and0 fun w => ?_
      rintro ⟨q1, q2⟩
      rw [e4] at q2
      exact hd w ⟨(and_bit.mp q1).1, (and_bit.mp q2).1⟩
theorem lend_siz : fsum siz (lendB bl f t) = fsum siz bl := by
  induction bl with
  | nil => rfl
  | cons x bl ih =>
    rw [lendB_cons, fsum_cons, fsum_cons, ih]
    split <;> rfl
/-- what goes with a release -/
def freedB (bl : List Blk) (g : Nat → Nat) : Nat := fsum (fun x => if andn (own x) (g (adr x)) = 0 then siz x else 0) bl
theorem rel_siz {g : Nat → Nat} : fsum siz (relB bl g) + freedB bl g = fsum siz bl := by
  unfold freedB
  induction bl with
  | nil => rfl
  | cons x bl ih =>
    rw [relB_cons, fsum_cons, fsum_cons]
    split
    · omega
    · rw [fsum_cons]
      show siz x + _ + _ = _
      omega
end LB
