/-! ROWS OF SNAPSHOTS, AND THE REFERENCE'S ROW OF A POOL -/
theorem pw_filter_get {l : List Nat} (h : l.Pairwise (· < ·)) {s : Nat} (hs : s ∈ l) : l[(l.filter (fun t => decide (t < s))).length]? = some s := by
  induction l with
  | nil => cases hs
  | cons x l ih =>
    obtain ⟨h1, h2⟩ := List.pairwise_cons.mp h
    rcases List.mem_cons.mp hs with rfl | hs
    · have : (s :: l).filter (fun t => decide (t < s)) = [] := by
        rw [List.filter_eq_nil_iff]
        intro t ht
        rcases List.mem_cons.mp ht with rfl | ht
        · simp
        · have := h1 t ht; simp; omega
      rw [this]; rfl
    · have hx := h1 s hs
      rw [List.filter_cons_of_pos (by simpa using hx)]
      exact ih h2 hs
theorem pw_filter_take {l : List Nat} (h : l.Pairwise (· < ·)) (s : Nat) : l.filter (fun t => decide (t < s)) = l.take (l.filter (fun t => decide (t < s))).length := by
  induction l with
  | nil => rfl
  | cons x l ih =>
    obtain ⟨h1, h2⟩ := List.pairwise_cons.mp h
    by_cases hx : x < s
    · rw [List.filter_cons_of_pos (by simpa using hx), List.length_cons, List.take_succ_cons, ← ih h2]
    · have : (x :: l).filter (fun t => decide (t < s)) = [] := by
        rw [List.filter_eq_nil_iff]
        intro t ht
        rcases List.mem_cons.mp ht with rfl | ht
        · simpa using hx
        · have := h1 t ht; simp; omega
      rw [this]; rfl
theorem pw_inj {l : List Nat} (h : l.Pairwise (· < ·)) {i j s : Nat} (hi : l[i]? = some s) (hj : l[j]? = some s) : i = j := by
  obtain ⟨h1, e1⟩ := List.getElem?_eq_some_iff.mp hi
  obtain ⟨h2, e2⟩ := List.getElem?_eq_some_iff.mp hj
  rcases Nat.lt_trichotomy i j with q | q | q
  · have := List.pairwise_iff_getElem.mp h i j h1 h2 q; omega
  · exact q
  · have := List.pairwise_iff_getElem.mp h j i h2 h1 q; omega
theorem rowL_pw (A : AS) (v : Nat) : (rowL A v).Pairwise (· < ·) := List.Pairwise.filter _ List.pairwise_lt_range
theorem mem_rowL {A : AS} {v s : Nat} : s ∈ rowL A v ↔ s < 16 ∧ th A s ∧ home A s = v := by
  simp only [rowL, List.mem_filter, List.mem_range, Bool.and_eq_true, beq_iff_eq, th, home]
theorem rowL_len (A : AS) (v : Nat) : (rowL A v).length ≤ 16 := by
  have := List.length_filter_le (fun s => A.1 1 s == 1 && A.1 2 s == v) (List.range 16)
  rwa [List.length_range] at this
def homeOf (A : AS) (w : Nat) : Nat := if w < 16 then home A w else w - 16
/-- the snapshots of w's volume ahead of w -/
def rowAh (A : AS) (w : Nat) : List Nat := (rowL A (homeOf A w)).filter (fun t => decide (t < w))
def plc (A : AS) (s : Nat) : Nat := (rowAh A s).length
/-- the version ahead, and one more; 0: none -/
def ahd (A : AS) (w : Nat) : Nat := match (rowAh A w).getLast? with
  | some t => t + 1
  | none => org A (homeOf A w)
/-- a number and one more, as the class and the reference tell it -/
def oI (o : Nat) : Int32 := nI o - nI 1
theorem oI_s (s : Nat) : oI (s + 1) = nI s := by unfold oI; rw [pk_sub (by omega)]; rfl
theorem oI_0 : oI 0 = -1 := by decide
theorem oI_neg {o : Nat} (h : o < 2 ^ 31) : oI o < 0 ↔ o = 0 := by
  cases o with
  | zero => rw [oI_0]; decide
  | succ s => rw [oI_s]; simp [nI_pos (show s < 2 ^ 31 by omega)]
theorem plc_lt (A : AS) (s : Nat) : plc A s ≤ 16 := Nat.le_trans (List.length_filter_le _ _) (rowL_len A _)
theorem plc_get {A : AS} {s : Nat} (h1 : s < 16) (h2 : th A s) : (rowL A (home A s))[plc A s]? = some s := by
  unfold plc rowAh homeOf
  rw [if_pos h1]
  exact pw_filter_get (rowL_pw A _) (mem_rowL.mpr ⟨h1, h2, rfl⟩)
theorem plc_lt16 {A : AS} {s : Nat} (h1 : s < 16) (h2 : th A s) : plc A s < (rowL A (home A s)).length := (List.getElem?_eq_some_iff.mp (plc_get h1 h2)).1
def RowIs (r : Nat → Int32) (A : AS) : Prop :=
  (r 0 = nI (aP A) ∧ r 1 = nI (aC A) ∧ r 2 = nI (aT A) ∧ r 3 = nI (aV A) ∧ r 4 = nI (aS A)) ∧
  (∀ v, v < 6 → r (5 + 21 * v) = nI (A.1 1 (16 + v))) ∧
  (∀ s, s < 16 → r (131 + 5 * s) = nI (A.1 1 s)) ∧
  (∀ v, v < 6 → th A (16 + v) → r (5 + 21 * v + 1) = nI (org A v) ∧ r (5 + 21 * v + 2) = nI (quo A v) ∧ r (5 + 21 * v + 3) = nI (vnm A v) ∧ r (5 + 21 * v + 4) = nI (rowL A v).length ∧ ∀ k s, (rowL A v)[k]? = some s → r (5 + 21 * v + (5 + k)) = nI s) ∧
  (∀ s, s < 16 → th A s → r (131 + 5 * s + 1) = nI (home A s) ∧ r (131 + 5 * s + 2) = nI (stm A s) ∧ r (131 + 5 * s + 3) = nI (A.1 4 s) ∧ r (131 + 5 * s + 4) = nI (snm A s)) ∧
  (∀ w a, w < 22 → a < 12 → r (211 + 12 * w + a) = nI (bAt A.2 w a) ∧ r (475 + 12 * w + a) = nI (uAt A.2 w a))
/-- what holds of every pool -/
def WF0 (A : AS) : Prop := (aT A < 2 ^ 24 ∧ aV A ≤ 6 ∧ aS A ≤ 16 ∧ aP A ≤ 999 ∧ aC A ≤ 5) ∧ (∀ w, w < 22 → A.1 1 w ≤ 1) ∧ (∀ s, s < 16 → A.1 4 s ≤ 1)
  ∧ (∀ v, v < 6 → th A (16 + v) → v < aV A ∧ org A v ≤ 16 ∧ quo A v ≤ 999 ∧ vnm A v < 2 ^ 30) ∧ (∀ s, s < 16 → th A s → s < aS A ∧ home A s < 6 ∧ th A (16 + home A s) ∧ stm A s ≤ aT A ∧ snm A s < 2 ^ 30)
  ∧ (∀ s, s < 16 → hld A s → th A s)
/-- its tree: the origin lies ahead of all snapshots -/
def WFT (A : AS) : Prop := ∀ v s, v < 6 → th A (16 + v) → org A v = s + 1 → th A s ∧ ∀ t, t ∈ rowL A v → s < t
theorem WFT.lt {A : AS} (h0 : WF0 A) (h : WFT A) {w : Nat} (hw : w < 22) (ht : th A w) : ahd A w ≤ w ∧ (∀ p, ahd A w = p + 1 → p < 16 ∧ th A p) := by
  have hv : homeOf A w < 6 ∧ th A (16 + homeOf A w) := by
    unfold homeOf
    split
    · next h1 => exact ⟨(h0.2.2.2.2.1 w h1 ht).2.1, (h0.2.2.2.2.1 w h1 ht).2.2.1⟩
    · next h1 => exact ⟨by omega, by rw [show 16 + (w - 16) = w by omega]; exact ht⟩
  unfold ahd
  cases hl : (rowAh A w).getLast? with
  | some t =>
    have hm := List.mem_of_getLast? hl
    obtain ⟨m1, m2⟩ := List.mem_filter.mp hm
    simp only [decide_eq_true_eq] at m2
    obtain ⟨q1, q2, -⟩ := mem_rowL.mp m1
    refine ⟨m2, fun p hp => ?_⟩
    have : t = p := by simpa using hp
    subst this
    exact ⟨q1, q2⟩
  | none =>
    simp only
    have ho := h0.2.2.2.1 _ hv.1 hv.2
    refine ⟨?_, fun p hp => ⟨by omega, (h _ p hv.1 hv.2 hp).1⟩⟩
    rcases Nat.lt_or_ge w 16 with h1 | h1
    · cases hq : org A (homeOf A w) with
      | zero => omega
      | succ p =>
        have := (h _ p hv.1 hv.2 hq).2 w (mem_rowL.mpr ⟨h1, ht, by unfold homeOf; rw [if_pos h1]⟩)
        omega
    · omega
section RI
variable {r : Nat → Int32} {A : AS}
theorem RowIs.bth (h : RowIs r A) {w a : Nat} (hw : w < 22) (ha : a < 12) : r (211 + 12 * w + a) = nI (bAt A.2 w a) := (h.2.2.2.2.2 w a hw ha).1
theorem RowIs.unt (h : RowIs r A) {w a : Nat} (hw : w < 22) (ha : a < 12) : r (475 + 12 * w + a) = nI (uAt A.2 w a) := (h.2.2.2.2.2 w a hw ha).2
theorem RowIs.ver (h : RowIs r A) (h0 : WF0 A) {w : Nat} (hw : w < 22) : verN r w ↔ th A w := by
  have h1 := h0.2.1 w hw
  unfold verN th
  split
  · next h2 =>
    rw [h.2.2.1 w h2]
    exact nI_eq (by omega) (by omega)
  · next h2 =>
    rw [h.2.1 (w - 16) (by omega), show 16 + (w - 16) = w by omega]
    exact nI_eq (by omega) (by omega)
end RI
