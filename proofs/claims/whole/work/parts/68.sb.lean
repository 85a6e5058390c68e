/-! THE GROWN ARRAY takes its place -/
section SBP
variable {D : va_G} {ad ad' : Nat → Nat} {M : Mem} {F : Cfg} {rm : Room} {Qf : QF} {k n pc q : Nat} {locs : List (Option Value)} {st : List Value} {ws : va_W} {idx cap : Nat} {d mc ms L q0 : Nat} {f m : Nat → Int32}
theorem cellE_fs {ci : Nat} {fs : List Nat} (h : ∀ j g, fs[j]? = some g → fldV ad' m j g = fldV ad m j g) : cellE D ad' m (0, ci, fs) = cellE D ad m (0, ci, fs) := by
  show Sum.inr (ci, fs.mapIdx (fun j f => fldV ad' m j f)) = Sum.inr (ci, fs.mapIdx (fun j f => fldV ad m j f))
  refine congrArg (fun l => Sum.inr (ci, l)) (List.ext_getElem? fun j => ?_)
  rw [List.getElem?_mapIdx, List.getElem?_mapIdx]
  cases hj : fs[j]? with
  | none => rfl
  | some g => exact congrArg some (h j g hj)
def okc : Sk → Bool
  | (0, _, fs) => fs.all (fun f => f != 159 && f != 2)
  | (2, _, rs) => rs.all (fun r => r != 156)
  | _ => true
theorem fldV_cg {j g : Nat} (h : ∀ r, r ≠ 156 → ad' r = ad r) (h1 : g ≠ 159) (h2 : g = 2 → (m j).toNatClampNeg ≠ 156) : fldV ad' m j g = fldV ad m j g := by
  match g, h1, h2 with
  | 0, _, _ => rfl
  | 1, _, _ => rfl
  | 2, _, h2 => exact congrArg Value.ref (h _ (h2 rfl))
  | r + 3, h1, _ => exact congrArg Value.ref (h r (by omega))
theorem cellE_cg {c : Sk} (h : ∀ r, r ≠ 156 → ad' r = ad r) (hc : okc c = true) : cellE D ad' m c = cellE D ad m c := by
  obtain ⟨t, ci, fs⟩ := c
  match t, hc with
  | 0, hc =>
    refine cellE_fs fun j g hj => ?_
    have := List.all_eq_true.mp hc g (List.mem_of_getElem? hj)
    simp only [Bool.and_eq_true, bne_iff_ne, ne_eq] at this
    exact fldV_cg h this.1 (fun e => absurd e this.2)
  | 1, _ => rfl
  | 2, hc =>
    show Sum.inl (D.1 (100 + ci), fs.length, _) = Sum.inl (D.1 (100 + ci), fs.length, _)
    have : (fun j : Nat => (fs[j]?).map ad') = fun j : Nat => (fs[j]?).map ad := funext fun j => by
      cases hj : fs[j]? with
      | none => rfl
      | some r =>
        have := List.all_eq_true.mp hc r (List.mem_of_getElem? hj)
        simp only [bne_iff_ne, ne_eq] at this
        exact congrArg some (h r this)
    rw [this]
  | 3, _ => rfl
  | t + 4, _ => rfl
theorem sk_okA : ∀ i, i < 166 → i ≠ 155 → i ≠ 157 → (sk[i]?).all okc = true := by decide +kernel
theorem sk_ok {i : Nat} {c : Sk} (hi : i < 166) (h1 : i ≠ 155) (h2 : i ≠ 157) (hc : sk[i]? = some c) : okc c = true := by
  have := sk_okA i hi h1 h2
  rw [hc] at this
  exact this
theorem sk_157w : ∀ j, j < 24 → ([161, 162, 0, 2, 0, 163, 164, 0, 165, 0, 0, 0, 0, 0, 0, 0, 1, 0, 0, 166, 0, 0, 167, 0] : List Nat)[j]? ≠ some 159 ∧ (([161, 162, 0, 2, 0, 163, 164, 0, 165, 0, 0, 0, 0, 0, 0, 0, 1, 0, 0, 166, 0, 0, 167, 0] : List Nat)[j]? = some 2 → j = 3) := by decide +kernel
def adN (ad : Nat → Nat) (q0 : Nat) : Nat → Nat := fun j => if j = 156 then q0 else ad j
theorem wl_inv {i : Nat} {x : Nat × va_E} (h : (wl D ad M)[i]? = some x) : ∃ c, sk[i]? = some c ∧ x = (ad i, cellE D ad (M i) c) := by
  unfold wl at h
  rw [List.getElem?_mapIdx] at h
  cases hc : sk[i]? with
  | none => rw [hc] at h; cases h
  | some c => rw [hc] at h; exact ⟨c, rfl, (Option.some.inj h).symm⟩
theorem sk_lt {i : Nat} {c : Sk} (h : sk[i]? = some c) : i < 166 := (List.getElem?_eq_some_iff.mp h).1
/-- what lies in the new world's place i lies in the old one's -/
theorem wlN_at (hw : (M 157 3).toNatClampNeg ≠ 156) (hL : f 100000 = nI L) (hL2 : L < 2 ^ 31) {i : Nat} {x : Nat × va_E} (h : (wl D (adN ad q0) (row2 M 156 f))[i]? = some x) :
    ((wlX D ad M q0 L f).set 155 (ad 155, .inr (1, [.ref q0, .int (M 155 1), .int (M 155 2), .int (M 155 3)])))[if i = 156 then 166 else i]? = some x := by
  obtain ⟨c, hc, rfl⟩ := wl_inv h
  have hi := sk_lt hc
  have had : ∀ r, r ≠ 156 → adN ad q0 r = ad r := fun r hr => if_neg hr
  have hlen : (wlX D ad M q0 L f).length = 167 := by unfold wlX; rw [List.length_append, wl_len]; rfl
  by_cases e6 : i = 156
  · subst e6
    rw [if_pos rfl, List.getElem?_set_ne (by decide), wlX_last]
    rw [sk_156] at hc
    cases hc
    rw [row2_same]
    show some (q0, _) = some (adN ad q0 156, Sum.inl (D.1 (100 + 2), (f 100000).toNatClampNeg, Sum.inl f))
    rw [hL, nI_clamp hL2]
    rfl
  · rw [if_neg e6, had i e6, row2_ne e6]
    by_cases e5 : i = 155
    · subst e5
      rw [List.getElem?_set_self (by rw [hlen]; decide)]
      rw [sk_155] at hc
      cases hc
      rfl
    · rw [List.getElem?_set_ne (fun z => e5 z.symm), wlX_get hc]
      by_cases e7 : i = 157
      · subst e7
        rw [sk_157] at hc
        cases hc
        refine congrArg (fun z => some (ad 157, z)) (cellE_fs fun j g hj => ?_).symm
        have hj24 : j < 24 := (List.getElem?_eq_some_iff.mp hj).1
        obtain ⟨q1, q2⟩ := sk_157w j hj24
        refine fldV_cg had (fun z => q1 (by rw [hj, z])) (fun z => ?_)
        have := q2 (by rw [hj, z])
        subst this
        exact hw
      · exact congrArg (fun z => some (ad i, z)) (cellE_cg had (sk_ok hi e5 e7 hc)).symm
theorem V_wsub {ws ws' : va_W} (σ : Nat → Nat) (hσ : ∀ i j, σ i = σ j → i = j) (h : ∀ i x, ws'[i]? = some x → ws[σ i]? = some x) (kk : V D F rm Qf k n pc locs st ws') : V D F rm Qf k n pc locs st ws := by
  intro p l e s m args below meth c A H lc ls C hlen hkc hnc hP hD hS hl
  exact kk p l e s m args below meth c A H lc ls C hlen hkc hnc (fun i x hx => hP (σ i) x (h i x hx)) ⟨fun i j p q hp hq e => hσ i j (hD.1 _ _ p q (h i p hp) (h j q hq) e), fun i x hx => hD.2 _ x (h i x hx)⟩ hS hl
theorem E_putNew (hw : (M 157 3).toNatClampNeg ≠ 156) (hL : f 100000 = nI L) (hL2 : L < 2 ^ 31) (hf : FL F.1 idx 1 0) (hd : decode F.2.1 pc = .ok (.putfield idx, 3)) (hq : pc + 3 = q) (kk : V D F rm Qf k n q locs st (wl D (adN ad q0) (row2 M 156 f))) : V D F rm Qf k n pc locs (.ref q0 :: .ref (ad 155) :: st) (wlX D ad M q0 L f) := by
  subst hq
  have kk2 : V D F rm Qf k n (pc + 3) locs st ((wlX D ad M q0 L f).set 155 (ad 155, .inr (1, [.ref q0, .int (M 155 1), .int (M 155 2), .int (M 155 3)]))) := by
    refine V_wsub (fun i => if i = 156 then 166 else if i = 166 then 156 else i) (fun i j => ?_) (fun i x hx => ?_) kk
    · (repeat' split) <;> omega
    · have hi : i < 166 := by
        obtain ⟨c, hc, -⟩ := wl_inv hx
        exact sk_lt hc
      have := wlN_at hw hL hL2 hx
      by_cases e : i = 156
      · rw [if_pos e] at this ⊢; exact this
      · rw [if_neg e] at this ⊢; rw [if_neg (show ¬ i = 166 by omega)]; exact this
  intro p l e s m args below meth c A H lc ls C hlen hkc hnc hP hD hS hl
  obtain ⟨CC, T, N, h1, h2, h3⟩ := hf
  have hts := C.2.2.2.2.2.1
  obtain ⟨g1, ⟨ty0, g2⟩, g3⟩ := cl_J4 _ _ _ h1
  refine va_put C.1 C.2.1 hts g1 ty0 g2 g3 C.2.2.2.2.1 C.2.2.2.2.2.2.2.2.1 hP hD hS 155 (wlX_get sk_155) h1 0 h2 (hts _ h3) (fun _ h => h) (fp_J4_0 _ _ _ h1).1 (fp_J4_0 _ _ _ h1).2 rfl rfl (by rw [List.length_mapIdx]; decide) hd (fun H1 lc1 hP1 hD1 hS1 => ?_)
  exact kk2 p l e s m args below meth c A H1 lc1 ls C hlen hkc hnc hP1 hD1 hS1 hl
end SBP
