/-! THE CHANGES KEEP A POOL WELL: removing, rolling back, promoting -/
section WFS
variable {A : AS}
/-- m may go -/
def MayGo (A : AS) (m : Nat) : Prop := (∀ s, s < 16 → m.testBit s = true → ¬ hld A s) ∧ (∀ s, s < 16 → th A s → m.testBit (16 + home A s) = true → m.testBit s = true) ∧
  (∀ v s, v < 6 → th A (16 + v) → org A v = s + 1 → m.testBit s = true → m.testBit (16 + v) = true)
theorem drop_th {T : Nat → Nat → Nat} {m w : Nat} {bl : List Blk} {bl' : List Blk} : th (dropT T m, bl) w ↔ th (T, bl') w ∧ ¬ m.testBit w = true := by
  simp only [th, dropT]
  by_cases e : m.testBit w = true <;> simp [e]
theorem drop_ne {T : Nat → Nat → Nat} {m i j : Nat} (h : i ≠ 1) : dropT T m i j = T i j := if_neg (fun z => h z.1)
theorem drop_aT {m : Nat} {bl : List Blk} : aT A ≤ aT (dropT A.1 m, bl) := Nat.le_of_eq (drop_ne (T := A.1) (m := m) (i := 0) (j := 0) (by decide)).symm
theorem drop_row {m v : Nat} {bl : List Blk} : rowL (dropT A.1 m, bl) v = (rowL A v).filter (fun s => !m.testBit s) := by
  refine rowL_is (List.Pairwise.filter _ (rowL_pw A v)) fun t => ?_
  rw [List.mem_filter, mem_rowL, drop_th (bl' := A.2)]
  have : home (dropT A.1 m, bl) t = home A t := drop_ne (T := A.1) (m := m) (i := 2) (j := t) (by decide)
  rw [this]
  simp only [Bool.not_eq_true', Bool.not_eq_true]
  constructor
  · rintro ⟨⟨a, b, c⟩, d⟩; exact ⟨a, ⟨b, d⟩, c⟩
  · rintro ⟨a, ⟨b, d⟩, c⟩; exact ⟨⟨a, b, c⟩, d⟩
theorem drop_WF {m : Nat} {bl : List Blk} (h : WF A) (hm : MayGo A m) (hB : WFB (dropT A.1 m, bl)) : WF (dropT A.1 m, bl) := by
  obtain ⟨⟨a1, a2, a3, a4, a5, a6⟩, b, c⟩ := h
  have hth : ∀ w, th (dropT A.1 m, bl) w ↔ th A w ∧ ¬ m.testBit w = true := fun w => drop_th (bl' := A.2)
  have h0 : ∀ i j, i ≠ 1 → (dropT A.1 m, bl).1 i j = A.1 i j := fun i j hi => drop_ne hi
  refine ⟨⟨?_, ?_, ?_, ?_, ?_, ?_⟩, ?_, hB⟩
  · unfold aT aV aS aP aC
    rw [h0 0 _ (by omega), h0 0 _ (by omega), h0 0 _ (by omega), h0 0 _ (by omega), h0 0 _ (by omega)]
    exact a1
  · intro w hw
    show dropT A.1 m 1 w ≤ 1
    unfold dropT
    split
    · omega
    · exact a2 w hw
  · intro s hs; rw [h0 4 s (by omega)]; exact a3 s hs
  · intro v hv z
    have := a4 v hv ((hth _).mp z).1
    unfold aV org quo vnm
    rw [h0 0 _ (by omega), h0 5 _ (by omega), h0 6 _ (by omega), h0 8 _ (by omega)]
    exact this
  · intro s hs z
    have q := (hth _).mp z
    have := a5 s hs q.1
    unfold aS stm snm aT
    rw [show home (dropT A.1 m, bl) s = home A s from h0 2 s (by omega), h0 0 _ (by omega), h0 0 _ (by omega), h0 3 _ (by omega), h0 7 _ (by omega), hth]
    exact ⟨this.1, this.2.1, ⟨this.2.2.1, fun y => q.2 (hm.2.1 s hs q.1 y)⟩, this.2.2.2⟩
  · intro s hs z
    have z : (dropT A.1 m, bl).1 4 s = 1 := z
    rw [h0 4 s (by omega)] at z
    exact (hth s).mpr ⟨a6 s hs z, fun y => hm.1 s hs y z⟩
  · intro v s hv z ho
    have q := (hth _).mp z
    have ho : (dropT A.1 m, bl).1 5 v = s + 1 := ho
    rw [h0 5 v (by omega)] at ho
    have := b v s hv q.1 ho
    refine ⟨(hth s).mpr ⟨this.1, fun y => q.2 (hm.2.2 v s hv q.1 ho y)⟩, fun t ht => this.2 t ?_⟩
    rw [drop_row] at ht
    exact (List.mem_filter.mp ht).1
theorem remA_WF {m : Nat} (h : WF A) (hm : MayGo A m) : WF (remA A m) :=
  drop_WF h hm (h.2.2.rel (g := fun _ => m) rfl drop_aT (fun w x _ _ q1 q2 => (drop_th (bl' := A.2)).mpr ⟨q1, q2⟩))
theorem rowB_bit {s t : Nat} : (rowB A s).testBit t = true ↔ t < 16 ∧ th A t ∧ home A t = home A s ∧ s < t := bset_bit _ _ _
theorem rowM_bit {v t : Nat} : (rowM A v).testBit t = true ↔ t < 16 ∧ th A t ∧ home A t = v := bset_bit _ _ _
theorem rowB_lt {s : Nat} : rowB A s < 2 ^ 16 := bset_lt _ _
theorem rowM_lt {v : Nat} : rowM A v < 2 ^ 16 := bset_lt _ _
theorem clo_0 {s : Nat} : clo A s = 0 ↔ ∀ v, v < 6 → th A (16 + v) → org A v ≠ s + 1 := by
  unfold clo
  rw [bset_0]
  constructor
  · intro h v hv h1 h2; exact h v hv ⟨h1, h2⟩
  · rintro h v hv ⟨h1, h2⟩; exact h v hv h1 h2
theorem whyN_0 {s : Nat} : whyN A s = 0 ↔ clo A s = 0 ∧ ¬ hld A s := by
  unfold whyN hld
  by_cases h1 : clo A s = 0
  · rw [if_neg (fun z => z h1)]
    by_cases h2 : A.1 4 s = 1
    · rw [if_pos h2]; simp [h2]
    · rw [if_neg h2]; simp [h1, h2]
  · rw [if_pos h1]; simp [h1]
/-- snapshots that may go -/
theorem mayGo_snp {m : Nat} (hm : m < 2 ^ 16) (h : ∀ s, s < 16 → m.testBit s = true → whyN A s = 0) : MayGo A m := by
  have hb : ∀ k, m.testBit k = true → k < 16 := fun k hk => by
    refine Classical.byContradiction fun q => ?_
    rw [Nat.testBit_lt_two_pow (Nat.lt_of_lt_of_le hm (Nat.pow_le_pow_right (by decide) (by omega)))] at hk
    cases hk
  refine ⟨fun s hs q => (whyN_0.mp (h s hs q)).2, fun s _ _ q => ?_, fun v s hv h1 h2 q => ?_⟩
  · have := hb _ q; omega
  · exact absurd h2 (clo_0.mp (whyN_0.mp (h s (hb s q) q)).1 v hv h1)
theorem lt16_bit {m k : Nat} (hm : m < 2 ^ 16) (hk : m.testBit k = true) : k < 16 := by
  refine Classical.byContradiction fun q => ?_
  rw [Nat.testBit_lt_two_pow (Nat.lt_of_lt_of_le hm (Nat.pow_le_pow_right (by decide) (by omega)))] at hk
  cases hk
theorem mayGo_vol {v : Nat} (h0 : WF A) (h : ∀ s, s < 16 → (rowM A v).testBit s = true → whyN A s = 0) (hv : v < 6) : MayGo A (rowM A v ||| 2 ^ (16 + v)) := by
  have hb : ∀ k, (rowM A v ||| 2 ^ (16 + v)).testBit k = true → (rowM A v).testBit k = true ∨ k = 16 + v := fun k hk => by
    rcases or_bit.mp hk with q | q
    · exact Or.inl q
    · exact Or.inr (pow_bit.mp q).symm
  refine ⟨fun s hs q => ?_, fun s hs h1 q => ?_, fun u s hu h1 h2 q => ?_⟩
  · rcases hb s q with q | q
    · exact (whyN_0.mp (h s hs q)).2
    · omega
  · rcases hb _ q with q | q
    · have := lt16_bit rowM_lt q; omega
    · exact or_bit.mpr (Or.inl (rowM_bit.mpr ⟨hs, h1, by omega⟩))
  · rcases hb s q with q | q
    · exact absurd h2 (clo_0.mp (whyN_0.mp (h s (lt16_bit rowM_lt q) q)).1 u hu h1)
    · subst q
      have := (h0.1.2.2.2.1 u hu h1).2.1
      omega
theorem rolA_WF {s : Nat} (h : WF A) (hs : s < 16) (ht : th A s) (hw : ∀ t, t < 16 → (rowB A s).testBit t = true → whyN A t = 0) : WF (rolA A s) := by
  have hv := h.hv6 hs ht
  have hlive : ∀ bl, th (dropT A.1 (rowB A s), bl) (16 + home A s) := fun bl => (drop_th (bl' := A.2)).mpr ⟨hv.2, fun z => by have := lt16_bit rowB_lt z; omega⟩
  have hT : ∀ bl, aT A ≤ aT (dropT A.1 (rowB A s), bl) := fun bl => drop_aT
  refine drop_WF h (mayGo_snp rowB_lt hw) ?_
  have h1 : WFB (dropT A.1 (rowB A s), relB A.2 (fun _ => rowB A s ||| 2 ^ (16 + home A s))) :=
    h.2.2.rel (g := fun _ => rowB A s ||| 2 ^ (16 + home A s)) rfl (hT _) (fun w x _ _ q1 q2 => (drop_th (bl' := A.2)).mpr ⟨q1, fun z => q2 (or_bit.mpr (Or.inl z))⟩)
  refine h1.lend (f := s) (t := 16 + home A s) rfl (Nat.le_refl _) (by omega) (fun x hx z => ?_) (fun w _ q => q) (hlive _)
  obtain ⟨y, hy, -, -, -, e4, -⟩ := rel_mem (g := fun _ => rowB A s ||| 2 ^ (16 + home A s)) (bl := A.2) hx
  rw [e4, andn_bit (Nat.lt_trans (h.2.2.2 y hy).2.2.2.2.2.2.1 (by decide))] at z
  exact z.2 (or_bit.mpr (Or.inr (pow_bit.mpr rfl)))
theorem pro_ne {v s : Nat} (h : WF A) (hv : v < 6) (ht : th A (16 + v)) (ho : org A v = s + 1) : home A s ≠ v ∧ s < 16 ∧ th A s := by
  have h1 := h.2.1 v s hv ht ho
  have h2 : s < 16 := by have := (h.1.2.2.2.1 v hv ht).2.1; omega
  refine ⟨fun z => ?_, h2, h1.1⟩
  exact Nat.lt_irrefl _ (h1.2 s (mem_rowL.mpr ⟨h2, h1.1, z⟩))
theorem proA_col {v : Nat} {i j : Nat} (h2 : i ≠ 2) (h5 : i ≠ 5) : (proA A v).1 i j = A.1 i j := by
  show proT A.1 v _ _ i j = _
  unfold proT
  rw [if_neg h2, if_neg h5]
theorem proA_home {v s t : Nat} (ho : org A v = s + 1) : home (proA A v) t = if A.1 1 t = 1 ∧ A.1 2 t = home A s ∧ t ≤ s then v else home A t := by
  show proT A.1 v (org A v - 1) (home A (org A v - 1)) 2 t = _
  rw [ho]
  rfl
theorem proA_org {v s u : Nat} (ho : org A v = s + 1) : org (proA A v) u = if u = v then org A (home A s) else if u = home A s then s + 1 else org A u := by
  show proT A.1 v (org A v - 1) (home A (org A v - 1)) 5 u = _
  rw [ho]
  rfl
theorem proA_mem {v s u t : Nat} (h : WF A) (hv : v < 6) (ht : th A (16 + v)) (ho : org A v = s + 1) :
    t ∈ rowL (proA A v) u ↔ (u = v ∧ (t ∈ rowL A v ∨ (t ∈ rowL A (home A s) ∧ t ≤ s))) ∨ (u = home A s ∧ t ∈ rowL A (home A s) ∧ s < t) ∨ (u ≠ v ∧ u ≠ home A s ∧ t ∈ rowL A u) := by
  have hne := (pro_ne h hv ht ho).1
  have e1 : th (proA A v) t ↔ th A t := by
    show (proA A v).1 1 t = 1 ↔ _
    rw [proA_col (by omega) (by omega)]; rfl
  rw [mem_rowL, mem_rowL, mem_rowL, mem_rowL, e1, proA_home ho]
  by_cases c : A.1 1 t = 1 ∧ A.1 2 t = home A s ∧ t ≤ s
  · rw [if_pos c]
    constructor
    · rintro ⟨q1, q2, q3⟩; exact Or.inl ⟨q3.symm, Or.inr ⟨⟨q1, q2, c.2.1⟩, c.2.2⟩⟩
    · rintro (⟨q1, q2 | q2⟩ | ⟨q1, q2, q3⟩ | ⟨q1, q2, q3⟩)
      · exact ⟨q2.1, q2.2.1, q1.symm⟩
      · exact ⟨q2.1.1, q2.1.2.1, q1.symm⟩
      · omega
      · exact absurd (q3.2.2.symm.trans c.2.1) q2
  · rw [if_neg c]
    constructor
    · rintro ⟨q1, q2, q3⟩
      by_cases c1 : u = v
      · exact Or.inl ⟨c1, Or.inl ⟨q1, q2, by omega⟩⟩
      · by_cases c2 : u = home A s
        · refine Or.inr (Or.inl ⟨c2, ⟨q1, q2, by omega⟩, ?_⟩)
          rcases Nat.lt_or_ge s t with y | y
          · exact y
          · exact absurd ⟨q2, q3.trans c2, y⟩ c
        · exact Or.inr (Or.inr ⟨c1, c2, q1, q2, q3⟩)
    · rintro (⟨q1, q2 | q2⟩ | ⟨q1, q2, q3⟩ | ⟨q1, q2, q3⟩)
      · exact ⟨q2.1, q2.2.1, by omega⟩
      · exact absurd ⟨q2.1.2.1, q2.1.2.2, q2.2⟩ c
      · exact ⟨q2.1, q2.2.1, by omega⟩
      · exact ⟨q3.1, q3.2.1, q3.2.2⟩
theorem proA_WF {v : Nat} (h : WF A) (hv : v < 6) (ht : th A (16 + v)) (ho : org A v ≠ 0) : WF (proA A v) := by
  obtain ⟨s, ho⟩ : ∃ s, org A v = s + 1 := ⟨org A v - 1, by omega⟩
  obtain ⟨hne, hs, hts⟩ := pro_ne h hv ht ho
  have hu := h.hv6 hs hts
  have h' := h
  obtain ⟨⟨a1, a2, a3, a4, a5, a6⟩, b, c⟩ := h
  have hth : ∀ w, th (proA A v) w ↔ th A w := fun w => by
    show (proA A v).1 1 w = 1 ↔ _
    rw [proA_col (by omega) (by omega)]; rfl
  have h0 : ∀ i j, i ≠ 2 → i ≠ 5 → (proA A v).1 i j = A.1 i j := fun i j x y => proA_col x y
  refine ⟨⟨?_, ?_, ?_, ?_, ?_, ?_⟩, ?_, ?_⟩
  · unfold aT aV aS aP aC
    rw [h0 0 _ (by omega) (by omega), h0 0 _ (by omega) (by omega), h0 0 _ (by omega) (by omega), h0 0 _ (by omega) (by omega), h0 0 _ (by omega) (by omega)]
    exact a1
  · intro w hw; rw [h0 1 w (by omega) (by omega)]; exact a2 w hw
  · intro t ht16; rw [h0 4 t (by omega) (by omega)]; exact a3 t ht16
  · intro w hw z
    have q := a4 w hw ((hth _).mp z)
    unfold aV quo vnm
    rw [h0 0 _ (by omega) (by omega), h0 6 _ (by omega) (by omega), h0 8 _ (by omega) (by omega)]
    refine ⟨q.1, ?_, q.2.2⟩
    rw [proA_org ho]
    split
    · exact (a4 _ hu.1 hu.2).2.1
    · split
      · omega
      · exact q.2.1
  · intro t ht16 z
    have q := a5 t ht16 ((hth _).mp z)
    unfold aS stm snm aT
    rw [h0 0 _ (by omega) (by omega), h0 0 _ (by omega) (by omega), h0 3 _ (by omega) (by omega), h0 7 _ (by omega) (by omega), hth, proA_home ho]
    refine ⟨q.1, ?_, ?_, q.2.2.2⟩
    · split
      · exact hv
      · exact q.2.1
    · split
      · exact ht
      · exact q.2.2.1
  · intro t ht16 z
    have z : (proA A v).1 4 t = 1 := z
    rw [h0 4 t (by omega) (by omega)] at z
    exact (hth t).mpr (a6 t ht16 z)
  · intro w r hw z hr
    have htw := (hth _).mp z
    rw [proA_org ho] at hr
    rw [hth]
    by_cases c1 : w = v
    · rw [if_pos c1] at hr
      have q := b _ r hu.1 hu.2 hr
      refine ⟨q.1, fun t htt => ?_⟩
      rcases (proA_mem h' hv ht ho).mp htt with ⟨-, y | y⟩ | ⟨y, -⟩ | ⟨y, -⟩
      · have h1 := (b v s hv ht ho).2 t y
        have h2 := q.2 s (mem_rowL.mpr ⟨hs, hts, rfl⟩)
        omega
      · exact q.2 t y.1
      · omega
      · omega
    · rw [if_neg c1] at hr
      by_cases c2 : w = home A s
      · rw [if_pos c2] at hr
        have : s = r := by omega
        subst this
        refine ⟨hts, fun t htt => ?_⟩
        rcases (proA_mem h' hv ht ho).mp htt with ⟨y, -⟩ | ⟨-, -, y⟩ | ⟨-, y, -⟩
        · omega
        · exact y
        · omega
      · rw [if_neg c2] at hr
        have q := b w r hw htw hr
        refine ⟨q.1, fun t htt => ?_⟩
        rcases (proA_mem h' hv ht ho).mp htt with ⟨y, -⟩ | ⟨y, -⟩ | ⟨-, -, y⟩
        · omega
        · omega
        · exact q.2 t y
  · exact c.mono rfl (Nat.le_of_eq (h0 0 0 (by omega) (by omega)).symm) (fun w _ q => (hth w).mpr q)
end WFS
