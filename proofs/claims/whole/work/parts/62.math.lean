/-! THE FEWEST SNAPSHOTS TO DESTROY -/
section FEW
variable {A : AS}
def fr (A : AS) (m : Nat) : Nat := fsum (hbF m) A.2
noncomputable def mayM (A : AS) : Nat := bset (fun s => th A s ∧ whyN A s = 0) 16
def sb (a m : Nat) : Prop := ∀ k, a.testBit k = true → m.testBit k = true
def GoodF (A : AS) (n x : Nat) : Prop := x ≠ 0 ∧ sb x (mayM A) ∧ n ≤ fr A x
def BetF (A : AS) (x y : Nat) : Prop := popN x < popN y ∨ (popN x = popN y ∧ (fr A y < fr A x ∨ (fr A x = fr A y ∧ x < y)))
def BestF (A : AS) (n x : Nat) : Prop := GoodF A n x ∧ ∀ y, GoodF A n y → y = x ∨ BetF A x y
noncomputable def ftf (A : AS) (n : Nat) : Int32 := if dB (∃ x, BestF A n x) = true then nI (Classical.epsilon (BestF A n)) else -1
theorem ftf_is {n x : Nat} (h : BestF A n x) : nI x = ftf A n := by
  have h1 : ∃ x, BestF A n x := ⟨x, h⟩
  unfold ftf
  rw [if_pos (dB_t h1)]
  have h2 := Classical.epsilon_spec h1
  generalize Classical.epsilon (BestF A n) = y at h2
  rcases h.2 y h2.1 with e | e
  · rw [e]
  · rcases h2.2 x h.1 with e' | e'
    · rw [e']
    · unfold BetF at e e'; omega
theorem ftf_no {n : Nat} (h : ∀ x, ¬ GoodF A n x) : (-1 : Int32) = ftf A n := by
  unfold ftf
  rw [if_neg (dB_ff (fun ⟨x, z⟩ => h x z.1))]
theorem mayM_lt : mayM A < 2 ^ 16 := bset_lt _ _
theorem mayM_bit {k : Nat} : (mayM A).testBit k = true ↔ k < 16 ∧ th A k ∧ whyN A k = 0 := bset_bit _ _ _
theorem bits_lt {x n : Nat} (h : ∀ k, x.testBit k = true → k < n) : x < 2 ^ n := by
  refine Nat.lt_of_not_le fun c => ?_
  obtain ⟨i, h1, h2⟩ := Nat.exists_ge_and_testBit_of_ge_two_pow c
  have := h i h2
  omega
theorem GoodF.lt {n x : Nat} (h : GoodF A n x) : x < 2 ^ 16 := bits_lt fun k hk => (mayM_bit.mp (h.2.1 k hk)).1
/-- the line: the snapshots that may go, by their rows -/
noncomputable def lnk (A : AS) : Nat → List Nat
  | 0 => []
  | k + 1 => if dB (th A (k % 16) ∧ home A (k % 16) = k / 16 ∧ whyN A (k % 16) = 0) = true then lnk A k ++ [k % 16] else lnk A k
theorem mem_lnk {k s : Nat} : s ∈ lnk A k ↔ s < 16 ∧ th A s ∧ whyN A s = 0 ∧ 16 * home A s + s < k := by
  induction k with
  | zero =>
    constructor
    · intro h; cases h
    · rintro ⟨-, -, -, h⟩; omega
  | succ k ih =>
    unfold lnk
    by_cases c : th A (k % 16) ∧ home A (k % 16) = k / 16 ∧ whyN A (k % 16) = 0
    · rw [if_pos (dB_t c), List.mem_append, List.mem_singleton, ih]
      constructor
      · rintro (⟨a, b, d, e⟩ | rfl)
        · exact ⟨a, b, d, by omega⟩
        · exact ⟨by omega, c.1, c.2.2, by rw [c.2.1]; omega⟩
      · rintro ⟨a, b, d, e⟩
        by_cases e2 : 16 * home A s + s = k
        · exact Or.inr (by omega)
        · exact Or.inl ⟨a, b, d, by omega⟩
    · rw [if_neg (dB_ff c), ih]
      constructor
      · rintro ⟨a, b, d, e⟩; exact ⟨a, b, d, by omega⟩
      · rintro ⟨a, b, d, e⟩
        refine ⟨a, b, d, Nat.lt_of_le_of_ne (by omega) fun e2 => c ?_⟩
        have e3 : k % 16 = s := by omega
        have e4 : k / 16 = home A s := by omega
        rw [e3, e4]
        exact ⟨b, rfl, d⟩
abbrev keyP (A : AS) (a b : Nat) : Prop := 16 * home A a + a < 16 * home A b + b
theorem lnk_pw (k : Nat) : (lnk A k).Pairwise (keyP A) := by
  induction k with
  | zero => exact List.Pairwise.nil
  | succ k ih =>
    unfold lnk
    by_cases c : th A (k % 16) ∧ home A (k % 16) = k / 16 ∧ whyN A (k % 16) = 0
    · rw [if_pos (dB_t c)]
      refine List.pairwise_append.mpr ⟨ih, List.pairwise_singleton _ _, fun a ha b hb => ?_⟩
      rw [List.mem_singleton] at hb
      subst hb
      have := mem_lnk.mp ha
      show _ < _
      rw [c.2.1]
      omega
    · rw [if_neg (dB_ff c)]; exact ih
theorem lnk_len (k : Nat) : (lnk A k).length = nsum (fun s => if dB (s ∈ lnk A k) = true then 1 else 0) 16 := by
  induction k with
  | zero => exact (nsum_zero fun s _ => if_neg (dB_ff (fun z => by cases z))).symm
  | succ k ih =>
    by_cases c : th A (k % 16) ∧ home A (k % 16) = k / 16 ∧ whyN A (k % 16) = 0
    · have e : lnk A (k + 1) = lnk A k ++ [k % 16] := by rw [lnk, if_pos (dB_t c)]
      rw [e, List.length_append, ih]
      refine (nsum_but (u := k % 16) (by omega) ?_ (fun s hs => ?_)).symm
      · rw [if_pos (dB_t (by simp)), if_neg (dB_ff (fun z => by have := (mem_lnk.mp z).2.2.2; rw [c.2.1] at this; omega))]
      · by_cases d : s ∈ lnk A k
        · rw [if_pos (dB_t d), if_pos (dB_t (List.mem_append.mpr (Or.inl d)))]
        · rw [if_neg (dB_ff d), if_neg (dB_ff (fun z => by
            rcases List.mem_append.mp z with z | z
            · exact d z
            · exact hs (List.mem_singleton.mp z)))]
    · have e : lnk A (k + 1) = lnk A k := by rw [lnk, if_neg (dB_ff c)]
      rw [e]; exact ih
theorem lnk_16 (k : Nat) : (lnk A k).length ≤ 16 := by
  rw [lnk_len]
  exact nsum_le (c := 1) fun s _ => by split <;> omega
theorem lnk_15 {k : Nat} (c : th A (k % 16) ∧ home A (k % 16) = k / 16 ∧ whyN A (k % 16) = 0) : (lnk A k).length < 16 ∧ lnk A (k + 1) = lnk A k ++ [k % 16] := by
  have e : lnk A (k + 1) = lnk A k ++ [k % 16] := by rw [lnk, if_pos (dB_t c)]
  have := lnk_16 (A := A) (k + 1)
  rw [e, List.length_append, List.length_singleton] at this
  exact ⟨this, e⟩
theorem lnk_skip {k : Nat} (c : ¬ (th A (k % 16) ∧ home A (k % 16) = k / 16 ∧ whyN A (k % 16) = 0)) : lnk A (k + 1) = lnk A k := by rw [lnk, if_neg (dB_ff c)]
noncomputable abbrev ln (A : AS) : List Nat := lnk A 96
theorem mem_ln (h : WF A) {s : Nat} : s ∈ ln A ↔ s < 16 ∧ th A s ∧ whyN A s = 0 := by
  rw [mem_lnk]
  constructor
  · rintro ⟨a, b, c, -⟩; exact ⟨a, b, c⟩
  · rintro ⟨a, b, c⟩
    have := (h.hv6 a b).1
    exact ⟨a, b, c, by omega⟩
theorem key_lt {L : List Nat} (hL : L.Pairwise (keyP A)) {i j s t : Nat} (hi : L[i]? = some s) (hj : L[j]? = some t) (hk : keyP A s t) : i < j := by
  obtain ⟨h1, e1⟩ := List.getElem?_eq_some_iff.mp hi
  obtain ⟨h2, e2⟩ := List.getElem?_eq_some_iff.mp hj
  have hp := List.pairwise_iff_getElem.mp hL
  rcases Nat.lt_trichotomy i j with c | c | c
  · exact c
  · subst c; rw [e1] at e2; subst e2; exact absurd hk (Nat.lt_irrefl _)
  · have := hp j i h2 h1 c
    rw [e1, e2] at this
    unfold keyP at hk this; omega
theorem key_get {L : List Nat} (hL : L.Pairwise (keyP A)) {i j s t : Nat} (hi : L[i]? = some s) (hj : L[j]? = some t) (hk : i < j) : keyP A s t := by
  obtain ⟨h1, e1⟩ := List.getElem?_eq_some_iff.mp hi
  obtain ⟨h2, e2⟩ := List.getElem?_eq_some_iff.mp hj
  have := List.pairwise_iff_getElem.mp hL i j h1 h2 hk
  rw [e1, e2] at this
  exact this
theorem key_inj {L : List Nat} (hL : L.Pairwise (keyP A)) {i j s : Nat} (hi : L[i]? = some s) (hj : L[j]? = some s) : i = j := by
  rcases Nat.lt_trichotomy i j with c | c | c
  · exact absurd (key_get hL hi hj c) (Nat.lt_irrefl _)
  · exact c
  · exact absurd (key_get hL hj hi c) (Nat.lt_irrefl _)
theorem mkR_bit {L : List Nat} {f k t : Nat} : (mkR L f k).testBit t = true ↔ t < 16 ∧ ∃ i, f ≤ i ∧ i < k ∧ L[i]? = some t := bset_bit _ _ _
theorem mkR_lt {L : List Nat} {f k : Nat} : mkR L f k < 2 ^ 16 := bset_lt _ _
theorem mkR_full (h : WF A) : sb (mayM A) (mkR (ln A) 0 (ln A).length) := fun k hk => by
  have h1 := mayM_bit.mp hk
  obtain ⟨i, hi⟩ := List.mem_iff_getElem?.mp ((mem_ln h).mpr h1)
  exact mkR_bit.mpr ⟨h1.1, i, Nat.zero_le _, (List.getElem?_eq_some_iff.mp hi).1, hi⟩
theorem mkR_may (h : WF A) {f k : Nat} : sb (mkR (ln A) f k) (mayM A) := fun t ht => by
  obtain ⟨h1, i, -, -, h2⟩ := mkR_bit.mp ht
  exact mayM_bit.mpr ((mem_ln h).mp (List.mem_of_getElem? h2))
/-- an owner that is not the first has the one before it in the line as an owner too -/
theorem ln_step (h : WF A) (hC : WFC A) {x : Blk} (hx : x ∈ A.2) (ho : sb (own x) (mayM A)) {j w u : Nat} (hj : (ln A)[j]? = some w) (hw : (own x).testBit w = true) (hu : (own x).testBit u = true) (c : u < w) : ∃ j' p, j = j' + 1 ∧ (ln A)[j']? = some p ∧ (own x).testBit p = true := by
  obtain ⟨p, p1, p2⟩ := hC x hx w u hw hu c
  obtain ⟨w1, w2, w3⟩ := mayM_bit.mp (ho w hw)
  obtain ⟨q1, q2, q3⟩ := mayM_bit.mp (ho p p2)
  obtain ⟨v1, v2⟩ := h.hv6 w1 w2
  rcases p1 with ⟨d1, d2, d3⟩ | ⟨-, d2⟩
  · rw [ho_s w1] at d1 d3
    have hh := (mem_rowL.mp d1).2.2
    obtain ⟨i, hi⟩ := List.mem_iff_getElem?.mp ((mem_ln h).mpr ⟨q1, q2, q3⟩)
    have hij := key_lt (lnk_pw 96) hi hj (by show _ < _; omega)
    by_cases e : j = i + 1
    · exact ⟨i, p, e, hi, p2⟩
    · exfalso
      have hlen := (List.getElem?_eq_some_iff.mp hj).1
      obtain ⟨q, hq⟩ : ∃ q, (ln A)[i + 1]? = some q := ⟨_, List.getElem?_eq_getElem (by omega)⟩
      have k1 : 16 * home A p + p < 16 * home A q + q := key_get (lnk_pw 96) hi hq (by omega)
      have k2 : 16 * home A q + q < 16 * home A w + w := key_get (lnk_pw 96) hq hj (by omega)
      obtain ⟨r1, r2, r3⟩ := (mem_ln h).mp (List.mem_of_getElem? hq)
      have hqh : home A q = home A w := by omega
      have := d3 q (mem_rowL.mpr ⟨r1, r2, hqh⟩) (by omega)
      omega
  · rw [ho_s w1] at d2
    exact absurd d2 (clo_0.mp (whyN_0.mp q3).1 _ v1 v2)
theorem ln_min (h : WF A) (hC : WFC A) {x : Blk} (hx : x ∈ A.2) (ho : sb (own x) (mayM A)) {g : Nat} (hg : ∀ t, (ln A)[g]? = some t → ¬ (own x).testBit t = true) : ∀ d j w, j = g + 1 + d → (ln A)[j]? = some w → (own x).testBit w = true → ∃ i m, g < i ∧ i ≤ j ∧ (ln A)[i]? = some m ∧ (own x).testBit m = true ∧ ∀ u, (own x).testBit u = true → m ≤ u := by
  intro d
  induction d with
  | zero =>
    intro j w e hj hw
    refine ⟨j, w, by omega, Nat.le_refl _, hj, hw, fun u hu => Nat.le_of_not_lt fun c => ?_⟩
    obtain ⟨j', p, e1, e2, e3⟩ := ln_step h hC hx ho hj hw hu c
    have : j' = g := by omega
    subst this
    exact hg p e2 e3
  | succ d ih =>
    intro j w e hj hw
    by_cases c : ∃ u, (own x).testBit u = true ∧ u < w
    · obtain ⟨u, hu, c⟩ := c
      obtain ⟨j', p, e1, e2, e3⟩ := ln_step h hC hx ho hj hw hu c
      obtain ⟨i, m, a1, a2, a3⟩ := ih j' p (by omega) e2 e3
      exact ⟨i, m, a1, by omega, a3⟩
    · exact ⟨j, w, by omega, Nat.le_refl _, hj, hw, fun u hu => Nat.le_of_not_lt fun z => c ⟨u, hu, z⟩⟩
theorem ln_min0 (h : WF A) (hC : WFC A) {x : Blk} (hx : x ∈ A.2) (ho : sb (own x) (mayM A)) : ∀ (j w : Nat), (ln A)[j]? = some w → (own x).testBit w = true → ∃ (i m : Nat), i ≤ j ∧ (ln A)[i]? = some m ∧ (own x).testBit m = true ∧ ∀ u, (own x).testBit u = true → m ≤ u := by
  intro j
  induction j with
  | zero =>
    intro w hj hw
    refine ⟨0, w, Nat.le_refl _, hj, hw, fun u hu => Nat.le_of_not_lt fun c => ?_⟩
    obtain ⟨j', p, e1, e2, e3⟩ := ln_step h hC hx ho hj hw hu c
    omega
  | succ j ih =>
    intro w hj hw
    by_cases c : ∃ u, (own x).testBit u = true ∧ u < w
    · obtain ⟨u, hu, c⟩ := c
      obtain ⟨j', p, e1, e2, e3⟩ := ln_step h hC hx ho hj hw hu c
      obtain ⟨i, m, a1, a2⟩ := ih p (by rw [show j = j' by omega]; exact e2) e3
      exact ⟨i, m, by omega, a2⟩
    · exact ⟨j + 1, w, Nat.le_refl _, hj, hw, fun u hu => Nat.le_of_not_lt fun z => c ⟨u, hu, z⟩⟩
/-- a gap parts the owners -/
theorem ln_gap (h : WF A) (hC : WFC A) {x : Blk} (hx : x ∈ A.2) (ho : sb (own x) (mayM A)) {g a b u w : Nat} (hg : ∀ t, (ln A)[g]? = some t → ¬ (own x).testBit t = true) (ha : (ln A)[a]? = some u) (hb : (ln A)[b]? = some w) (h1 : a < g) (h2 : g < b) (hu : (own x).testBit u = true) (hw : (own x).testBit w = true) : False := by
  obtain ⟨i, m, a1, a2, a3, a4, a5⟩ := ln_min h hC hx ho hg (b - g - 1) b w (by omega) hb hw
  obtain ⟨i', m', b1, b2, b3, b4⟩ := ln_min0 h hC hx ho a u ha hu
  have e1 := a5 m' b3
  have e2 := b4 m a4
  have e3 : m = m' := by omega
  subst e3
  have := key_inj (lnk_pw 96) a3 b2
  omega
theorem hbF_sb (h : WF A) {x : Blk} (hx : x ∈ A.2) (m : Nat) : hbF m x = if dB (sb (own x) m) = true then siz x else 0 := by
  have h1 := andn_0 (b := m) (own32 h hx)
  unfold hbF
  by_cases c : sb (own x) m
  · rw [if_pos (h1.mpr c), if_pos (dB_t c)]
  · rw [if_neg (fun z => c (h1.mp z)), if_neg (dB_ff c)]
theorem fsum_add (f g : Blk → Nat) (bl : List Blk) : fsum (fun x => f x + g x) bl = fsum f bl + fsum g bl := by
  induction bl with
  | nil => rfl
  | cons x bl ih => rw [fsum_cons, fsum_cons, fsum_cons, ih]; omega
theorem fr_super (h : WF A) {a b : Nat} (hd : ∀ k, a.testBit k = true → ¬ b.testBit k = true) : fr A a + fr A b ≤ fr A (a ||| b) := by
  unfold fr
  rw [← fsum_add]
  refine fsum_mono fun x hx => ?_
  rw [hbF_sb h hx, hbF_sb h hx, hbF_sb h hx]
  by_cases ca : sb (own x) a
  · have cab : sb (own x) (a ||| b) := fun k hk => or_bit.mpr (Or.inl (ca k hk))
    have cb : ¬ sb (own x) b := fun z => by
      obtain ⟨w, hw⟩ := ex_tb (h.2.2.2 x hx).2.2.2.2.2.1
      exact hd w (ca w hw) (z w hw)
    rw [if_pos (dB_t ca), if_neg (dB_ff cb), if_pos (dB_t cab)]; omega
  · rw [if_neg (dB_ff ca)]
    by_cases cb : sb (own x) b
    · have cab : sb (own x) (a ||| b) := fun k hk => or_bit.mpr (Or.inr (cb k hk))
      rw [if_pos (dB_t cb), if_pos (dB_t cab)]; omega
    · rw [if_neg (dB_ff cb)]; omega
theorem fr_add (h : WF A) {a b : Nat} (hd : ∀ k, a.testBit k = true → ¬ b.testBit k = true) (hp : ∀ x, x ∈ A.2 → sb (own x) (a ||| b) → sb (own x) a ∨ sb (own x) b) : fr A (a ||| b) = fr A a + fr A b := by
  refine Nat.le_antisymm ?_ (fr_super h hd)
  unfold fr
  rw [← fsum_add]
  refine fsum_mono fun x hx => ?_
  rw [hbF_sb h hx, hbF_sb h hx, hbF_sb h hx]
  by_cases c : sb (own x) (a ||| b)
  · rw [if_pos (dB_t c)]
    rcases hp x hx c with q | q
    · rw [if_pos (dB_t q)]; omega
    · rw [if_pos (dB_t q)]; omega
  · rw [if_neg (dB_ff c)]; omega
end FEW
