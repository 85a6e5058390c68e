/-! MAKING: over any world -/
section NEW
variable {D : va_G} {F : Cfg} {R : Room} {Qf : QF} {k n pc q idx : Nat} {locs : List (Option Value)} {st : List Value} {ws : va_W}
theorem cA_int : Cond.arrayClass .int ∈ lw_good := gdi 164 (by decide +kernel) rfl
theorem cA_char : Cond.arrayClass .char ∈ lw_good := gdi 290 (by decide +kernel) rfl
theorem cA_long : Cond.arrayClass .long ∈ lw_good := gdi 2064 (by decide +kernel) rfl
/-- the class of an array, by its element's type -/
theorem arr_same {s : State} {cA c0 : ClassId} {ty : FieldType} {tys : List (ClassId × FieldType)} {t : Nat} (hK : va_K D vwCl (tys ++ [(cA, ty)]) s) (ht : tys[t]? = some (c0, ty)) (hp : ∀ C, ty ≠ .object C) : cA = c0 := by
  have hlt := (List.getElem?_eq_some_iff.mp ht).1
  have h1 := (hK.2 t (c0, ty) (by rw [List.getElem?_append_left hlt]; exact ht)).2
  have h2 := (hK.2 tys.length (cA, ty) (by rw [List.getElem?_append_right (Nat.le_refl _), Nat.sub_self]; rfl)).2
  have q1 : s.vm.findClass ("[" ++ ty.toString) = some c0 := by
    cases ty with
    | object C => exact absurd rfl (hp C)
    | _ => exact h1
  have q2 : s.vm.findClass ("[" ++ ty.toString) = some cA := by
    cases ty with
    | object C => exact absurd rfl (hp C)
    | _ => exact h2
  exact Option.some.inj (q2.symm.trans q1)
theorem E_newI {L : Nat} (hL : L ≤ 100000) (hk : k + 1 ≤ R.cells) (hn : n + L ≤ R.slots) (hd : decode F.2.1 pc = .ok (.newarray .int, 2)) (hq : pc + 2 = q) (kk : ∀ a, V D F R Qf (k + 1) (n + L) q locs (.ref a :: st) (ws ++ [(a, .inl (D.1 100, L, .inl (fun _ => 0)))])) : V D F R Qf k n pc locs (.int (nI L) :: st) ws := by
  subst hq
  intro p l e s m args below meth c A H lc ls C hlen0 hkc hnc hP hD hS hl
  refine va_newa (atype := .int) (ty := .int) (N' := L) (a0 := (L, .inl (fun _ => 0))) C.1 C.2.1 (C.2.2.2.2.2.1 _ cA_int) rfl C.2.2.2.2.2.2.2.2.1 hP hD hS C.2.2.2.2.2.2.2.1 (fun cA => rfl) (nI_pos (by omega)) (nI_clamp (by omega)) (show L * 4 ≤ 536870912 by omega) hk hn hd (fun a cA H1 hK1 hP1 hD1 hS1 => ?_)
  have e := arr_same (t := 0) hK1 rfl (fun C h => by cases h)
  subst e
  exact kk a p l e s m args below meth c A H1 lc ls C hlen0 hk hn hP1 hD1 hS1 hl
theorem E_newC {L : Nat} (hL : L ≤ 100000) (hk : k + 1 ≤ R.cells) (hn : n + L ≤ R.slots) (hd : decode F.2.1 pc = .ok (.newarray .char, 2)) (hq : pc + 2 = q) (kk : ∀ a, V D F R Qf (k + 1) (n + L) q locs (.ref a :: st) (ws ++ [(a, .inl (D.1 101, L, .inl (fun _ => 0)))])) : V D F R Qf k n pc locs (.int (nI L) :: st) ws := by
  subst hq
  intro p l e s m args below meth c A H lc ls C hlen0 hkc hnc hP hD hS hl
  refine va_newa (atype := .char) (ty := .char) (N' := L) (a0 := (L, .inl (fun _ => 0))) C.1 C.2.1 (C.2.2.2.2.2.1 _ cA_char) rfl C.2.2.2.2.2.2.2.2.1 hP hD hS C.2.2.2.2.2.2.2.1 (fun cA => rfl) (nI_pos (by omega)) (nI_clamp (by omega)) (show L * 2 ≤ 536870912 by omega) hk hn hd (fun a cA H1 hK1 hP1 hD1 hS1 => ?_)
  have e := arr_same (t := 1) hK1 rfl (fun C h => by cases h)
  subst e
  exact kk a p l e s m args below meth c A H1 lc ls C hlen0 hk hn hP1 hD1 hS1 hl
theorem E_newL {L : Nat} (hL : L ≤ 100000) (hk : k + 1 ≤ R.cells) (hn : n + L ≤ R.slots) (hd : decode F.2.1 pc = .ok (.newarray .long, 2)) (hq : pc + 2 = q) (kk : ∀ a, V D F R Qf (k + 1) (n + L) q locs (.ref a :: st) (ws ++ [(a, .inl (D.1 103, L, .inr (.inl (fun _ => 0))))])) : V D F R Qf k n pc locs (.int (nI L) :: st) ws := by
  subst hq
  intro p l e s m args below meth c A H lc ls C hlen0 hkc hnc hP hD hS hl
  refine va_newa (atype := .long) (ty := .long) (N' := L) (a0 := (L, .inr (.inl (fun _ => 0)))) C.1 C.2.1 (C.2.2.2.2.2.1 _ cA_long) rfl C.2.2.2.2.2.2.2.2.1 hP hD hS C.2.2.2.2.2.2.2.1 (fun cA => rfl) (nI_pos (by omega)) (nI_clamp (by omega)) (show L * 8 ≤ 536870912 by omega) hk hn hd (fun a cA H1 hK1 hP1 hD1 hS1 => ?_)
  have e := arr_same (t := 3) hK1 rfl (fun C h => by cases h)
  subst e
  exact kk a p l e s m args below meth c A H1 lc ls C hlen0 hk hn hP1 hD1 hS1 hl
/-- a new object -/
theorem E_newO {ci N : Nat} {Cn : String} {T : u_T} {fs : List Value} (hc : vwCl[ci]? = some (Cn, T, N)) (hcl : CLok ci) (hcn : Cond.classLink F.1 idx Cn ∈ lw_good) (hinst : Cond.instantiable Cn N ∈ lw_good) (hini : Cond.initialized Cn ∈ lw_good) (hfs : ∀ (ty : Nat → FieldType), (∀ j, j < N → parseFieldDescriptor (T j).2.2.1 = some (ty j)) → ∀ j, j < N → defaultValue (ty j) = vp_V fs j) (hk : k + 1 ≤ R.cells) (hn : n + N ≤ R.slots) (hd : decode F.2.1 pc = .ok (.new idx, 3)) (hq : pc + 3 = q) (kk : ∀ a, V D F R Qf (k + 1) (n + N) q locs (.ref a :: st) (ws ++ [(a, .inr (ci, fs))])) : V D F R Qf k n pc locs st ws := by
  subst hq
  intro p l e s m args below meth c A H lc ls C hlen0 hkc hnc hP hD hS hl
  have hts := C.2.2.2.2.2.1
  obtain ⟨g1, ⟨ty0, g2⟩, -⟩ := hcl _ _ _ hc
  exact va_new C.1 C.2.1 hts g1 ty0 g2 C.2.2.2.2.1 (hts _ hcn) (hts _ hinst) (hts _ hini) C.2.2.2.2.2.2.2.2.1 hP hD hS C.2.2.2.2.2.2.2.1 hc (hfs ty0 g2) hk hn hd (fun a H1 hP1 hD1 hS1 => kk a p l e s m args below meth c A H1 lc ls C hlen0 hk hn hP1 hD1 hS1 hl)
/-- a field that may be written anywhere -/
theorem E_putO {q0 a ci j : Nat} {fs : List Value} {ty : FieldType} {v : Value} (he : ws[q0]? = some (a, .inr (ci, fs))) (hcl : CLok ci) (hf : FL F.1 idx ci j) (hfp : FPok ci j ty) (hnr : narrow ty v = v) (hfit : fits ty v = true) (hj : j < fs.length) (hd : decode F.2.1 pc = .ok (.putfield idx, 3)) (hq : pc + 3 = q) (kk : V D F R Qf k n q locs st (ws.set q0 (a, .inr (ci, fs.set j v)))) : V D F R Qf k n pc locs (v :: .ref a :: st) ws := by
  subst hq
  intro p l e s m args below meth c A H lc ls C hlen hkc hnc hP hD hS hl
  obtain ⟨CC, T, N, h1, h2, h3⟩ := hf
  have hts := C.2.2.2.2.2.1
  obtain ⟨g1, ⟨ty0, g2⟩, g3⟩ := hcl _ _ _ h1
  exact va_put C.1 C.2.1 hts g1 ty0 g2 g3 C.2.2.2.2.1 C.2.2.2.2.2.2.2.2.1 hP hD hS q0 he h1 j h2 (hts _ h3) (fun _ h => h) (hfp _ _ _ h1).1 (hfp _ _ _ h1).2 hnr hfit hj hd (fun H1 lc1 hP1 hD1 hS1 => kk p l e s m args below meth c A H1 lc1 ls C hlen hkc hnc hP1 hD1 hS1 hl)
/-- in a constructor -/
def QI (Qf : QF) : QF := fun l s m args below c A t => (∀ mt, s.vm.method? m = some mt → mt.name = "<init>") → Qf l s m args below c A t
theorem V_toI (h : V D F R Qf k n pc locs st ws) : V D F R (QI Qf) k n pc locs st ws := by
  intro p l e s m args below meth c A H lc ls C h1 h2 h3 h4 h5 h6 h7 T hT X
  obtain ⟨t, a1, b1⟩ := h p l e s m args below meth c A H lc ls C h1 h2 h3 h4 h5 h6 h7 T hT X
  exact ⟨t, a1, fun _ => b1⟩
/-- a final field, of its own class, in a constructor -/
theorem E_putF {q0 a ci j N : Nat} {fs : List Value} {ty : FieldType} {v : Value} {Cn : String} {Tt : u_T} (he : ws[q0]? = some (a, .inr (ci, fs))) (hcl : CLok ci) (hc : vwCl[ci]? = some (Cn, Tt, N)) (hjN : j < N) (hlk : Cond.fieldLink F.1 idx (Tt j).1 (Tt j).2.1 (Tt j).2.2.1 ∈ lw_good) (hfin : (Tt j).2.2.2 = true) (hown : (Tt j).1 = F.1) (hty : parseFieldDescriptor (Tt j).2.2.1 = some ty) (hnr : narrow ty v = v) (hfit : fits ty v = true) (hj : j < fs.length) (hd : decode F.2.1 pc = .ok (.putfield idx, 3)) (hq : pc + 3 = q) (kk : V D F R (QI Qf) k n q locs st (ws.set q0 (a, .inr (ci, fs.set j v)))) : V D F R (QI Qf) k n pc locs (v :: .ref a :: st) ws := by
  subst hq
  intro p l e s m args below meth c A H lc ls C hlen hkc hnc hP hD hS hl
  have hts := C.2.2.2.2.2.1
  obtain ⟨g1, ⟨ty0, g2⟩, g3⟩ := hcl _ _ _ hc
  intro T hT X
  by_cases hi : ∀ mt, s.vm.method? m = some mt → mt.name = "<init>"
  · have hm : s.vm.method? m = some meth := by
      have h1 : T.vm.method? m = some meth := X.method'
      rw [show T.vm.method? m = s.vm.method? m from X.warmed.alike.method? m] at h1
      exact h1
    exact va_putF C.1 C.2.1 hts g1 ty0 g2 g3 C.2.2.2.2.1 C.2.2.2.2.2.2.2.2.1 hP hD hS q0 he hc j hjN (hts _ hlk) (fun _ h => h) hfin (hi meth hm) hown hty hnr hfit hj hd (fun H1 lc1 hP1 hD1 hS1 => kk p l e s m args below meth c A H1 lc1 ls C hlen hkc hnc hP1 hD1 hS1 hl) T hT X
  · exact ⟨_, Steps.refl _, fun z => absurd z hi⟩
end NEW
