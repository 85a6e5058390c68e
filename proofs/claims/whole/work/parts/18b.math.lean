/-! THE CHANGES, and that they keep a pool well -/
theorem pw_ext {l m : List Nat} (hl : l.Pairwise (· < ·)) (hm : m.Pairwise (· < ·)) (h : ∀ t, t ∈ l ↔ t ∈ m) : l = m := by
  induction l generalizing m with
  | nil =>
    cases m with
    | nil => rfl
    | cons y m => exact absurd ((h y).mpr (List.mem_cons_self ..)) (by simp)
  | cons x l ih =>
    cases m with
    | nil => exact absurd ((h x).mp (List.mem_cons_self ..)) (by simp)
    | cons y m =>
      obtain ⟨l1, l2⟩ := List.pairwise_cons.mp hl
      obtain ⟨m1, m2⟩ := List.pairwise_cons.mp hm
      have hxy : x = y := by
        rcases List.mem_cons.mp ((h x).mp (List.mem_cons_self ..)) with e | e
        · exact e
        · rcases List.mem_cons.mp ((h y).mpr (List.mem_cons_self ..)) with e' | e'
          · exact e'.symm
          · have := m1 x e; have := l1 y e'; omega
      subst hxy
      rw [ih l2 m2]
      intro t
      constructor
      · intro ht
        rcases List.mem_cons.mp ((h t).mp (List.mem_cons_of_mem _ ht)) with e | e
        · subst e; exact absurd (l1 t ht) (by omega)
        · exact e
      · intro ht
        rcases List.mem_cons.mp ((h t).mpr (List.mem_cons_of_mem _ ht)) with e | e
        · subst e; exact absurd (m1 t ht) (by omega)
        · exact e
theorem rowL_is {A : AS} {v : Nat} {L : List Nat} (hL : L.Pairwise (· < ·)) (h : ∀ t, t ∈ L ↔ t < 16 ∧ th A t ∧ home A t = v) : rowL A v = L :=
  pw_ext (rowL_pw A v) hL (fun t => mem_rowL.trans (h t).symm)
theorem rowL_congr {A B : AS} {v w : Nat} (h : ∀ t, t < 16 → ((th A t ∧ home A t = v) ↔ (th B t ∧ home B t = w))) : rowL A v = rowL B w :=
  rowL_is (rowL_pw B w) (fun t => by
    rw [mem_rowL]
    constructor
    · rintro ⟨h1, h2⟩; exact ⟨h1, (h t h1).mpr h2⟩
    · rintro ⟨h1, h2⟩; exact ⟨h1, (h t h1).mp h2⟩)
def mkVol (A : AS) (o n : Nat) : AS := (ts (ts (ts (ts (ts A.1 0 1 (aV A + 1)) 1 (16 + aV A) 1) 5 (aV A) o) 6 (aV A) 0) 8 (aV A) n, match o with
  | 0 => A.2
  | s + 1 => lendB A.2 s (16 + aV A))
def mkSnp (A : AS) (v n : Nat) : AS := (ts (ts (ts (ts (ts (ts (ts A.1 0 0 (aT A + 1)) 0 2 (aS A + 1)) 1 (aS A) 1) 2 (aS A) v) 3 (aS A) (aT A + 1)) 4 (aS A) 0) 7 (aS A) n, lendB A.2 (16 + v) (aS A))
def mkBlk (A : AS) (v a z : Nat) : AS := (ts A.1 0 0 (aT A + 1), relAt A.2 (16 + v) a ++ [(aT A + 1, z, a, 2 ^ (16 + v))])
def trmA (A : AS) (v a : Nat) : AS := (A.1, relAt A.2 (16 + v) a)
/-- without the versions of m -/
def dropT (T : Nat → Nat → Nat) (m : Nat) : Nat → Nat → Nat := fun i j => if i = 1 ∧ m.testBit j = true then 0 else T i j
def remA (A : AS) (m : Nat) : AS := (dropT A.1 m, relB A.2 (fun _ => m))
noncomputable def rolA (A : AS) (s : Nat) : AS := (dropT A.1 (rowB A s), lendB (relB A.2 (fun _ => rowB A s ||| 2 ^ (16 + home A s))) s (16 + home A s))
def proT (T : Nat → Nat → Nat) (v s u : Nat) : Nat → Nat → Nat := fun i j =>
  if i = 2 then (if T 1 j = 1 ∧ T 2 j = u ∧ j ≤ s then v else T i j) else if i = 5 then (if j = v then T 5 u else if j = u then s + 1 else T i j) else T i j
def proA (A : AS) (v : Nat) : AS := (proT A.1 v (org A v - 1) (home A (org A v - 1)), A.2)
def hldA (A : AS) (s b : Nat) : AS := (ts A.1 4 s b, A.2)
def quoA (A : AS) (v q : Nat) : AS := (ts A.1 6 v q, A.2)
def setA (A : AS) (k x : Nat) : AS := (ts A.1 0 (3 + k) x, A.2)
/-- the first pool -/
def newA : AS := (fun i j => if i = 0 ∧ j = 3 then 200 else if i = 0 ∧ j = 4 then 3 else 0, [])
theorem WF.of {A : AS} (h1 : WF0 A) (h2 : WFT A) (h3 : WFB A) : WF A := ⟨h1, h2, h3⟩
theorem newA_WF : WF newA := by
  refine ⟨⟨by decide, fun w _ => by simp [newA], fun s _ => by simp [newA], fun v _ h => by simp [th, newA] at h, fun s _ h => by simp [th, newA] at h, fun s _ h => by simp [hld, newA] at h⟩, fun v s _ h => by simp [th, newA] at h, List.Pairwise.nil, fun x hx => by cases hx⟩
/-- the blocks of a pool stay well when no table entry that they need goes -/
theorem WFB.mono {A B : AS} (h : WFB A) (e : B.2 = A.2) (hT : aT A ≤ aT B) (hth : ∀ w, w < 22 → th A w → th B w) : WFB B := by
  refine ⟨e ▸ h.1, fun x hx => ?_⟩
  rw [e] at hx
  obtain ⟨a1, a2, a3, a4, a5, a6, a7, a8⟩ := h.2 x hx
  exact ⟨a1, by omega, a3, a4, a5, a6, a7, fun w hw => hth w (tb_22 a7 hw) (a8 w hw)⟩
theorem WFB.lend {A B : AS} {f t : Nat} (h : WFB A) (e : B.2 = lendB A.2 f t) (hT : aT A ≤ aT B) (ht : t < 22) (hn : ∀ x, x ∈ A.2 → ¬ (own x).testBit t = true) (hth : ∀ w, w < 22 → th A w → th B w) (htt : th B t) : WFB B := by
  refine ⟨by rw [e]; exact lend_pw h.1 hn, fun x hx => ?_⟩
  rw [e] at hx
  obtain ⟨y, hy, e1, e2, e3, e4⟩ := lend_mem hx
  obtain ⟨a1, a2, a3, a4, a5, a6, a7, a8⟩ := h.2 y hy
  have hp : 2 ^ t < 2 ^ 22 := Nat.pow_lt_pow_right (by decide) ht
  refine ⟨by omega, by omega, by omega, by omega, by omega, ?_, ?_, fun w hw => ?_⟩
  · rw [e4]
    split
    · intro z
      have := or_bit (k := t) (a := own y) (b := 2 ^ t)
      rw [z, Nat.zero_testBit] at this
      exact absurd (this.mpr (Or.inr (pow_bit.mpr rfl))) (by simp)
    · exact a6
  · rw [e4]
    split
    · exact Nat.or_lt_two_pow a7 hp
    · exact a7
  · rw [e4] at hw
    split at hw
    · rcases or_bit.mp hw with q | q
      · exact hth w (tb_22 a7 q) (a8 w q)
      · rw [pow_bit] at q; subst q; exact htt
    · exact hth w (tb_22 a7 hw) (a8 w hw)
theorem WFB.rel {A B : AS} {g : Nat → Nat} (h : WFB A) (e : B.2 = relB A.2 g) (hT : aT A ≤ aT B) (hth : ∀ w x, w < 22 → x ∈ A.2 → th A w → ¬ (g (adr x)).testBit w = true → th B w) : WFB B := by
  refine ⟨by rw [e]; exact rel_pw h.1, fun x hx => ?_⟩
  rw [e] at hx
  obtain ⟨y, hy, e1, e2, e3, e4, e5⟩ := rel_mem hx
  obtain ⟨a1, a2, a3, a4, a5, a6, a7, a8⟩ := h.2 y hy
  refine ⟨by omega, by omega, by omega, by omega, by omega, e5, ?_, fun w hw => ?_⟩
  · rw [e4]; exact Nat.lt_of_le_of_lt andn_le a7
  · rw [e4, andn_bit (Nat.lt_trans a7 (by decide))] at hw
    exact hth w y (tb_22 a7 hw.1) hy (a8 w hw.1) hw.2
theorem WFB.app {A B : AS} {b z a o : Nat} (h : WFB A) (e : B.2 = A.2 ++ [(b, z, a, o)]) (hT : aT A < b ∧ b ≤ aT B) (hz : 1 ≤ z ∧ z ≤ 9) (ha : a < 12) (ho : o ≠ 0 ∧ o < 2 ^ 22) (hd : ∀ x, x ∈ A.2 → adr x = a → own x &&& o = 0) (hth : ∀ w, w < 22 → th A w → th B w) (hoo : ∀ w, o.testBit w = true → th B w) : WFB B := by
  refine ⟨?_, fun x hx => ?_⟩
  · rw [e]
    refine List.pairwise_append.mpr ⟨h.1, List.pairwise_singleton _ _, fun x hx y hy => ?_⟩
    rw [List.mem_singleton] at hy
    subst hy
    exact ⟨by have := (h.2 x hx).2.1; show x.1 < b; omega, fun q => hd x hx q⟩
  · rw [e] at hx
    rcases List.mem_append.mp hx with hx | hx
    · obtain ⟨a1, a2, a3, a4, a5, a6, a7, a8⟩ := h.2 x hx
      exact ⟨a1, by omega, a3, a4, a5, a6, a7, fun w hw => hth w (tb_22 a7 hw) (a8 w hw)⟩
    · rw [List.mem_singleton] at hx
      subst hx
      exact ⟨by show 0 < b; omega, hT.2, hz.1, hz.2, ha, ho.1, ho.2, hoo⟩
section WFS
variable {A : AS}
theorem mkVol_WF {o n : Nat} (h : WF A) (hv : aV A < 6) (hn : n < 2 ^ 30) (ho : o = 0 ∨ ∃ s, o = s + 1 ∧ s < 16 ∧ th A s) : WF (mkVol A o n) := by
  obtain ⟨⟨a1, a2, a3, a4, a5, a6⟩, b, c⟩ := h
  have hnv : ¬ th A (16 + aV A) := fun z => by have := (a4 _ hv z).1; omega
  have hth : ∀ w, th (mkVol A o n) w ↔ th A w ∨ w = 16 + aV A := fun w => by
    show ts (ts (ts (ts (ts A.1 0 1 (aV A + 1)) 1 (16 + aV A) 1) 5 (aV A) o) 6 (aV A) 0) 8 (aV A) n 1 w = 1 ↔ _
    rw [ts_ne (by omega), ts_ne (by omega), ts_ne (by omega)]
    by_cases e : w = 16 + aV A
    · subst e; rw [ts_eq]; simp
    · rw [ts_ne (by omega), ts_ne (by omega)]; simp [e, th]
  have hcol : ∀ i j, i = 2 ∨ i = 3 ∨ i = 4 ∨ i = 7 → (mkVol A o n).1 i j = A.1 i j := fun i j hi => by
    show ts (ts (ts (ts (ts A.1 0 1 (aV A + 1)) 1 (16 + aV A) 1) 5 (aV A) o) 6 (aV A) 0) 8 (aV A) n i j = _
    rw [ts_ne (by omega), ts_ne (by omega), ts_ne (by omega), ts_ne (by omega), ts_ne (by omega)]
  have hvol : ∀ i j, i = 5 ∨ i = 6 ∨ i = 8 → j ≠ aV A → (mkVol A o n).1 i j = A.1 i j := fun i j hi hj => by
    show ts (ts (ts (ts (ts A.1 0 1 (aV A + 1)) 1 (16 + aV A) 1) 5 (aV A) o) 6 (aV A) 0) 8 (aV A) n i j = _
    rw [ts_ne (by omega), ts_ne (by omega), ts_ne (by omega), ts_ne (by omega), ts_ne (by omega)]
  have hlow : ∀ j, j ≠ 1 → (mkVol A o n).1 0 j = A.1 0 j := fun j hj => by
    show ts (ts (ts (ts (ts A.1 0 1 (aV A + 1)) 1 (16 + aV A) 1) 5 (aV A) o) 6 (aV A) 0) 8 (aV A) n 0 j = _
    rw [ts_ne (by omega), ts_ne (by omega), ts_ne (by omega), ts_ne (by omega), ts_ne (by omega)]
  have hV : aV (mkVol A o n) = aV A + 1 := by
    show ts (ts (ts (ts (ts A.1 0 1 (aV A + 1)) 1 (16 + aV A) 1) 5 (aV A) o) 6 (aV A) 0) 8 (aV A) n 0 1 = _
    rw [ts_ne (by omega), ts_ne (by omega), ts_ne (by omega), ts_ne (by omega), ts_eq]
  have hT : aT (mkVol A o n) = aT A := hlow 0 (by decide)
  have hO : org (mkVol A o n) (aV A) = o := by
    show ts (ts (ts (ts (ts A.1 0 1 (aV A + 1)) 1 (16 + aV A) 1) 5 (aV A) o) 6 (aV A) 0) 8 (aV A) n 5 (aV A) = _
    rw [ts_ne (by omega), ts_ne (by omega), ts_eq]
  have hrow : ∀ v, rowL (mkVol A o n) v = rowL A v := fun v => rowL_congr fun t ht => by
    rw [hth, show home (mkVol A o n) t = home A t from hcol 2 t (by omega)]
    constructor
    · rintro ⟨q | q, r⟩
      · exact ⟨q, r⟩
      · omega
    · rintro ⟨q, r⟩; exact ⟨Or.inl q, r⟩
  refine ⟨⟨⟨by rw [hT]; exact a1.1, by omega, by rw [show aS (mkVol A o n) = aS A from hlow 2 (by decide)]; exact a1.2.2.1, by rw [show aP (mkVol A o n) = aP A from hlow 3 (by decide)]; exact a1.2.2.2.1, by rw [show aC (mkVol A o n) = aC A from hlow 4 (by decide)]; exact a1.2.2.2.2⟩, ?_, ?_, ?_, ?_, ?_⟩, ?_, ?_⟩
  · intro w hw
    by_cases e : th (mkVol A o n) w
    · exact Nat.le_of_eq e
    · have h2 : (mkVol A o n).1 1 w = A.1 1 w := by
        show ts (ts (ts (ts (ts A.1 0 1 (aV A + 1)) 1 (16 + aV A) 1) 5 (aV A) o) 6 (aV A) 0) 8 (aV A) n 1 w = _
        have : w ≠ 16 + aV A := fun z => e ((hth w).mpr (Or.inr z))
        rw [ts_ne (by omega), ts_ne (by omega), ts_ne (by omega), ts_ne (by omega), ts_ne (by omega)]
      rw [h2]; exact a2 w hw
  · intro s hs; rw [hcol 4 s (by omega)]; exact a3 s hs
  · intro v hv6 hv1
    by_cases e : v = aV A
    · subst e
      refine ⟨by omega, ?_, ?_, ?_⟩
      · rw [hO]
        rcases ho with ho | ⟨s, ho, hs, -⟩ <;> omega
      · show ts (ts (ts (ts (ts A.1 0 1 (aV A + 1)) 1 (16 + aV A) 1) 5 (aV A) o) 6 (aV A) 0) 8 (aV A) n 6 (aV A) ≤ 999
        rw [ts_ne (by omega), ts_eq]; omega
      · show ts (ts (ts (ts (ts A.1 0 1 (aV A + 1)) 1 (16 + aV A) 1) 5 (aV A) o) 6 (aV A) 0) 8 (aV A) n 8 (aV A) < _
        rw [ts_eq]; exact hn
    · have h3 : th A (16 + v) := by
        rcases (hth _).mp hv1 with q | q
        · exact q
        · omega
      have := a4 v hv6 h3
      refine ⟨by omega, ?_, ?_, ?_⟩
      · show (mkVol A o n).1 5 v ≤ 16; rw [hvol 5 v (by omega) e]; exact this.2.1
      · show (mkVol A o n).1 6 v ≤ 999; rw [hvol 6 v (by omega) e]; exact this.2.2.1
      · show (mkVol A o n).1 8 v < _; rw [hvol 8 v (by omega) e]; exact this.2.2.2
  · intro s hs hs1
    have h3 : th A s := by
      rcases (hth _).mp hs1 with q | q
      · exact q
      · omega
    have := a5 s hs h3
    refine ⟨by rw [show aS (mkVol A o n) = aS A from hlow 2 (by decide)]; exact this.1, ?_, ?_, ?_, ?_⟩
    · show (mkVol A o n).1 2 s < 6; rw [hcol 2 s (by omega)]; exact this.2.1
    · rw [show home (mkVol A o n) s = home A s from hcol 2 s (by omega)]; exact (hth _).mpr (Or.inl this.2.2.1)
    · rw [hT]; show (mkVol A o n).1 3 s ≤ _; rw [hcol 3 s (by omega)]; exact this.2.2.2.1
    · show (mkVol A o n).1 7 s < _; rw [hcol 7 s (by omega)]; exact this.2.2.2.2
  · intro s hs hs1
    refine (hth _).mpr (Or.inl (a6 s hs ?_))
    have : (mkVol A o n).1 4 s = 1 := hs1
    rwa [hcol 4 s (by omega)] at this
  · intro v s hv6 hv1 hos
    rw [hrow v]
    by_cases e : v = aV A
    · subst e
      rw [hO] at hos
      rcases ho with ho | ⟨s', ho, hs, ht⟩
      · omega
      · have : s = s' := by omega
        subst this
        refine ⟨(hth _).mpr (Or.inl ht), fun t ht' => ?_⟩
        have := mem_rowL.mp ht'
        have h5 := (a5 t this.1 this.2.1).2.2.1
        rw [this.2.2] at h5
        exact absurd h5 hnv
    · have h3 : th A (16 + v) := by
        rcases (hth _).mp hv1 with q | q
        · exact q
        · omega
      have : org (mkVol A o n) v = org A v := hvol 5 v (by omega) e
      rw [this] at hos
      exact ⟨(hth _).mpr (Or.inl (b v s hv6 h3 hos).1), (b v s hv6 h3 hos).2⟩
  · have hno : ∀ x, x ∈ A.2 → ¬ (own x).testBit (16 + aV A) = true := fun x hx z => hnv ((c.2 x hx).2.2.2.2.2.2.2 _ z)
    cases o with
    | zero => exact c.mono rfl (Nat.le_of_eq hT.symm) (fun w _ hw => (hth w).mpr (Or.inl hw))
    | succ s => exact c.lend (f := s) (t := 16 + aV A) rfl (Nat.le_of_eq hT.symm) (by omega) hno (fun w _ hw => (hth w).mpr (Or.inl hw)) ((hth _).mpr (Or.inr rfl))
end WFS
