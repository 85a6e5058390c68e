/-! THE CHANGES as a store tells them -/
section VALS
variable {A : AS} {bl : List Blk} {M M' : Mem} {b : Nat}
theorem thM_ext {m : Nat} (h : ∀ k, m.testBit k = true ↔ k < 22 ∧ th A k) : thM A = m := bset_ext h
theorem hdM_ext {m : Nat} (h : ∀ k, m.testBit k = true ↔ k < 16 ∧ hld A k) : hdM A = m := bset_ext h
theorem andn_off {o w : Nat} (ho : o < 2 ^ 32) (h : ¬ o.testBit w = true) : andn o (2 ^ w) = o := eq_bits fun k => by
  rw [andn_bit ho, pow_bit]
  exact ⟨fun z => z.1, fun z => ⟨z, fun e => h (e ▸ z)⟩⟩
theorem andn_z {o : Nat} (ho : o < 2 ^ 32) : andn o 0 = o := eq_bits fun k => by
  rw [andn_bit ho, Nat.zero_testBit]
  exact ⟨fun z => z.1, fun z => ⟨z, by simp⟩⟩
theorem mkVol_thM {o n : Nat} (hv : aV A < 6) : thM (mkVol A o n) = thM A ||| 2 ^ (16 + aV A) := thM_ext fun k => by
  rw [or_bit, thM_bit, pow_bit, mkVol_th]
  constructor
  · rintro (⟨a, c⟩ | rfl)
    · exact ⟨a, Or.inl c⟩
    · exact ⟨by omega, Or.inr rfl⟩
  · rintro ⟨a, c | rfl⟩
    · exact Or.inl ⟨a, c⟩
    · exact Or.inr rfl
theorem mkVol_hdM {o n : Nat} : hdM (mkVol A o n) = hdM A := bset_congr fun k _ => by
  unfold hld
  rw [mkVol_T, if_neg (by omega), if_neg (by omega), if_neg (by omega), if_neg (by omega), if_neg (by omega)]
theorem mkSnp_T {v n i j : Nat} : (mkSnp A v n).1 i j = if i = 7 ∧ j = aS A then n else if i = 4 ∧ j = aS A then 0 else if i = 3 ∧ j = aS A then aT A + 1 else if i = 2 ∧ j = aS A then v else if i = 1 ∧ j = aS A then 1 else if i = 0 ∧ j = 2 then aS A + 1 else if i = 0 ∧ j = 0 then aT A + 1 else A.1 i j := rfl
theorem mkSnp_thM {v n : Nat} (hs : aS A < 16) : thM (mkSnp A v n) = thM A ||| 2 ^ (aS A) := thM_ext fun k => by
  rw [or_bit, thM_bit, pow_bit, mkSnp_th]
  constructor
  · rintro (⟨a, c⟩ | rfl)
    · exact ⟨a, Or.inl c⟩
    · exact ⟨by omega, Or.inr rfl⟩
  · rintro ⟨a, c | rfl⟩
    · exact Or.inl ⟨a, c⟩
    · exact Or.inr rfl
theorem mkSnp_hdM {v n : Nat} (h : WF A) (hs : aS A < 16) : hdM (mkSnp A v n) = hdM A := bset_congr fun k hk => by
  unfold hld
  rw [mkSnp_T, if_neg (by omega)]
  by_cases e : k = aS A
  · rw [if_pos ⟨rfl, e⟩]
    constructor
    · intro z; omega
    · intro z; exact absurd (h.1.2.2.2.2.2 k hk z) (h.nos (by omega) hk)
  · rw [if_neg (by omega), if_neg (by omega), if_neg (by omega), if_neg (by omega), if_neg (by omega), if_neg (by omega)]
theorem remA_thM {m : Nat} : thM (remA A m) = andn (thM A) m := thM_ext fun k => by
  rw [andn_bit (Nat.lt_trans thM_lt (by decide)), thM_bit, remA_th, and_assoc]
theorem remA_hdM {m : Nat} : hdM (remA A m) = hdM A := bset_congr fun k _ => by
  unfold hld
  rw [remA_col (by decide)]
theorem drop_thM {m : Nat} {bl' : List Blk} : thM (dropT A.1 m, bl') = andn (thM A) m := thM_ext fun k => by
  rw [andn_bit (Nat.lt_trans thM_lt (by decide)), thM_bit, drop_th (bl' := A.2), and_assoc]
theorem drop_hdM {m : Nat} {bl' : List Blk} : hdM (dropT A.1 m, bl') = hdM A := bset_congr fun k _ => by
  unfold hld
  show dropT A.1 m 4 k = 1 ↔ _
  rw [drop_ne (by decide)]
theorem proA_thM {v : Nat} : thM (proA A v) = thM A := bset_congr fun k _ => by
  unfold th; rw [proA_col (by decide) (by decide)]
theorem proA_hdM {v : Nat} : hdM (proA A v) = hdM A := bset_congr fun k _ => by
  unfold hld; rw [proA_col (by decide) (by decide)]
theorem hldA_hdM1 {s : Nat} (hs : s < 16) (h : A.1 4 s = 0) : hdM (hldA A s 1) = hdM A ^^^ 2 ^ s := hdM_ext fun k => by
  have e : hld (hldA A s 1) k ↔ k = s ∨ hld A k := by
    show ts A.1 4 s 1 4 k = 1 ↔ _
    unfold ts hld
    by_cases c : k = s
    · simp [c]
    · simp [c]
  rw [e, Nat.testBit_xor, Nat.testBit_two_pow]
  have hb := hdM_bit (A := A) (s := k)
  by_cases c : s = k
  · subst c
    have hf : (hdM A).testBit s = false := by
      cases hx : (hdM A).testBit s with
      | false => rfl
      | true => have := (hb.mp hx).2; unfold hld at this; omega
    rw [hf]; simp; exact hs
  · simp [c]
    rw [hb]
    constructor
    · rintro ⟨a, d⟩; exact ⟨a, Or.inr d⟩
    · rintro ⟨a, d | d⟩
      · exact absurd d.symm c
      · exact ⟨a, d⟩
theorem hldA_hdM0 {s : Nat} (hs : s < 16) (h : A.1 4 s = 1) : hdM (hldA A s 0) = hdM A ^^^ 2 ^ s := hdM_ext fun k => by
  have e : hld (hldA A s 0) k ↔ k ≠ s ∧ hld A k := by
    show ts A.1 4 s 0 4 k = 1 ↔ _
    unfold ts hld
    by_cases c : k = s
    · simp [c]
    · simp [c]
  rw [e, Nat.testBit_xor, Nat.testBit_two_pow]
  have hb := hdM_bit (A := A) (s := k)
  by_cases c : s = k
  · subst c
    have hf : (hdM A).testBit s = true := hb.mpr ⟨hs, h⟩
    rw [hf]; simp
  · simp [c]
    rw [hb]
    constructor
    · rintro ⟨a, d⟩; exact ⟨a, fun z => c z.symm, d⟩
    · rintro ⟨a, _, d⟩; exact ⟨a, d⟩
theorem newA_thM : thM newA = 0 := bset_0.mpr fun k _ => by
  show ¬ (if (1 : Nat) = 0 ∧ k = 3 then 200 else if (1 : Nat) = 0 ∧ k = 4 then 3 else 0) = 1
  simp
theorem newA_hdM : hdM newA = 0 := bset_0.mpr fun k _ => by
  show ¬ (if (4 : Nat) = 0 ∧ k = 3 then 200 else if (4 : Nat) = 0 ∧ k = 4 then 3 else 0) = 1
  simp
theorem BlkIs.congr (h : BlkIs M b bl) (e : ∀ c, b ≤ c → c ≤ b + 4 → M' c = M c) : BlkIs M' b bl :=
  ⟨by rw [e b (by omega) (by omega)]; exact h.1, fun i x hx => by rw [e (b + 1) (by omega) (by omega), e (b + 2) (by omega) (by omega), e (b + 3) (by omega) (by omega), e (b + 4) (by omega) (by omega)]; exact h.2 i x hx⟩
theorem StoreIs.congr (h : StoreIs M b A) (e : ∀ c, b ≤ c → c ≤ b + 12 → M' c = M c) : StoreIs M' b A :=
  ⟨by rw [e b (by omega) (by omega)]; exact h.1, by rw [e (b + 1) (by omega) (by omega)]; exact h.2.1,
   fun s hs ht => by rw [e (b + 2) (by omega) (by omega), e (b + 3) (by omega) (by omega), e (b + 4) (by omega) (by omega)]; exact h.2.2.1 s hs ht,
   fun v hv ht => by rw [e (b + 5) (by omega) (by omega), e (b + 6) (by omega) (by omega), e (b + 7) (by omega) (by omega)]; exact h.2.2.2.1 v hv ht,
   h.2.2.2.2.congr fun c h1 h2 => e c (by omega) (by omega)⟩
theorem blkIs_at (hB : BlkIs M b bl) {i : Nat} {x : Blk} (hx : bl[i]? = some x) (h : Blk → Nat) (hh : ∀ j y, j ≠ i → bl[j]? = some y → h y = own y) : BlkIs (upd2 M (b + 4) i (nI (h x))) b (mapO h bl) := by
  refine ⟨by rw [upd2_row (by omega), mapO, List.length_map]; exact hB.1, fun j z hz => ?_⟩
  rw [mapO, List.getElem?_map] at hz
  cases hy : bl[j]? with
  | none => rw [hy] at hz; cases hz
  | some y =>
    rw [hy] at hz
    have : (y.1, siz y, adr y, h y) = z := by simpa using hz
    subst this
    obtain ⟨g1, g2, g3, g4⟩ := hB.2 j y hy
    rw [upd2_row (by omega), upd2_row (by omega), upd2_row (by omega)]
    refine ⟨g1, g2, g3, ?_⟩
    by_cases c : j = i
    · subst c
      rw [hx] at hy
      have : x = y := by simpa using hy
      subst this
      exact upd2_same
    · rw [upd2_ne (fun z => c z.2), g4]
      show nI (own y) = nI (h y)
      rw [hh j y c hy]
theorem rel_gone (h : WFB A) {w a : Nat} (hn : ∀ y, y ∈ A.2 → ¬ atWA w a y) : relAt A.2 w a = A.2 ∧ freedB A.2 (fun c => if c = a then 2 ^ w else 0) = 0 := by
  have h1 : ∀ y, y ∈ A.2 → andn (own y) (if adr y = a then 2 ^ w else 0) = own y := fun y hy => by
    have ho := (h.2 y hy).2.2.2.2.2.2.1
    by_cases c : adr y = a
    · rw [if_pos c]; exact andn_off (by omega) (fun z => hn y hy ⟨c, z⟩)
    · rw [if_neg c]; exact andn_z (by omega)
  constructor
  · unfold relAt relB
    have : A.2.map (fun x => (x.1, siz x, adr x, andn (own x) (if adr x = a then 2 ^ w else 0))) = A.2 := by
      conv => rhs; rw [← List.map_id A.2]
      exact List.map_congr_left fun y hy => by rw [h1 y hy]; rfl
    rw [this, List.filter_eq_self]
    intro y hy
    have := (h.2 y hy).2.2.2.2.2.1
    simpa using this
  · exact fsum_zero fun y hy => by
      show (if andn (own y) (if adr y = a then 2 ^ w else 0) = 0 then siz y else 0) = 0
      rw [h1 y hy, if_neg (h.2 y hy).2.2.2.2.2.1]
theorem rel_one (h : WFB A) {w a i : Nat} {x : Blk} (hf : AtFst A.2 (atWA w a) i x) : ∀ j y, j ≠ i → A.2[j]? = some y → andn (own y) (if adr y = a then 2 ^ w else 0) = own y := fun j y hj hy => by
  have hym := List.mem_of_getElem? hy
  have hxm := List.mem_of_getElem? hf.1
  have ho := (h.2 y hym).2.2.2.2.2.2.1
  by_cases c : adr y = a
  · rw [if_pos c]
    refine andn_off (by omega) (fun z => hj ?_)
    have e1 := blkAt_mem h.1 hym c z
    have e2 := blkAt_mem h.1 hxm hf.2.1.1 hf.2.1.2
    have hxy : y = x := by rw [e1] at e2; simpa using e2
    have r1 := pw_rank (BPW.lt h.1) hy
    have r2 := pw_rank (BPW.lt h.1) hf.1
    rw [hxy] at r1; omega
  · rw [if_neg c]; exact andn_z (by omega)
theorem cpy_at {f g : Nat → Int32} {n i : Nat} (h : i < n) : va_cpy f g 0 0 n i = f i := by
  unfold va_cpy
  rw [if_pos ⟨Nat.zero_le _, by omega⟩, show 0 + (i - 0) = i by omega]
end VALS
