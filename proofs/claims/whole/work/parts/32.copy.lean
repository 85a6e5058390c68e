/-! COPYING ARRAYS -/
section CPY
variable {D : va_G} {F : Cfg} {Qf : QF} {k n pc q idx : Nat} {locs : List (Option Value)} {st : List Value} {ad : Nat → Nat} {M : Mem} {d mc ms : Nat}
theorem row2_row {k a : Nat} {f : Nat → Int32} (h : a ≠ k) : row2 M k f a = M a := row2_ne h
theorem ac_nt : Cond.native Jvm.arraycopyName ∈ lw_good := gdi 624 (by decide +kernel) rfl
theorem ac_st : Cond.static Jvm.arraycopyName ∈ lw_good := gdi 623 (by decide +kernel) rfl
theorem ac_in : Cond.initialized "java/lang/System" ∈ lw_good := gdi 113 (by decide +kernel) rfl
theorem E_acopy {a0 a1 n0 n1 sp dp cnt : Nat} (hl : Cond.methodLink F.1 idx Jvm.arraycopyName ∈ lw_good) (hd1 : 1 ≤ d) (hs0 : sk[a0]? = some (1, 0, [n0])) (hs1 : sk[a1]? = some (1, 0, [n1])) (h0 : sp + cnt ≤ n0) (h1 : dp + cnt ≤ n1) (hn : n0 < 2 ^ 31 ∧ n1 < 2 ^ 31) (hst : (st.map fun v => v.category).sum ≤ 8) (hd : decode F.2.1 pc = .ok (.invokestatic idx, 3)) (hq : pc + 3 = q)
    (kk : V D F (rmOf d mc ms) Qf k n q locs st (wl D ad (row2 M a1 (va_cpy (M a0) (M a1) sp dp cnt)))) : V D F (rmOf d mc ms) Qf k n pc locs (.int (nI cnt) :: .int (nI dp) :: .ref (ad a1) :: .int (nI sp) :: .ref (ad a0) :: st) (wl D ad M) := by
  subst hq
  intro p l e s m args below meth c A H lc ls C hlen hkc hnc hP hD hS hll
  have e0 : (nI sp).toNatClampNeg = sp := nI_clamp (by omega)
  have e1 : (nI dp).toNatClampNeg = dp := nI_clamp (by omega)
  have e2 : (nI cnt).toNatClampNeg = cnt := nI_clamp (by omega)
  have hts := C.2.2.2.2.2.1
  have hw : (wl D ad M).set a1 (ad a1, .inl (D.1 (100 + 0), [n1].headD 0, .inl (va_cpy (M a0) (M a1) (nI sp).toNatClampNeg (nI dp).toNatClampNeg (nI cnt).toNatClampNeg))) = wl D ad (row2 M a1 (va_cpy (M a0) (M a1) sp dp cnt)) := wl_set hs1 (by rw [row2_same, e0, e1, e2]; rfl) (fun b h => row2_ne h)
  refine va_copyi C.1 C.2.1 (by rw [hll.1]; exact hlen ▸ C.2.2.1) C.2.2.2.2.1 (hts _ hl) (hts _ ac_nt) (hts _ ac_st) (hts _ ac_in) C.2.2.2.2.2.2.2.2.1 hP hD hS a0 a1 0 0 (wl_get hs0) (wl_get hs1) rfl rfl rfl (nI_pos (by omega)) (nI_pos (by omega)) (nI_pos (by omega)) (by rw [e0, e2]; exact h0) (by rw [e1, e2]; exact h1) (fun _ _ => rfl) hd1 ?_ hd (fun H1 lc1 hP1 hD1 hS1 => ?_)
  · have : nativeFrameWords "java/lang/System" "arraycopy" 5 + 11 ≤ 32 := by decide
    show _ ≤ 40 * d
    omega
  · have hP1 : va_P D vwCl (wl D ad (row2 M a1 (va_cpy (M a0) (M a1) sp dp cnt))) H1 := hw ▸ hP1
    have hD1 : va_D A (wl D ad (row2 M a1 (va_cpy (M a0) (M a1) sp dp cnt))) := hw ▸ hD1
    exact kk p l e s m args below meth c A H1 lc1 ls C hlen hkc hnc hP1 hD1 hS1 hll
theorem ac_X0 : Cond.methodLink RX0 28 Jvm.arraycopyName ∈ lw_good := gdi 629 (by decide +kernel) rfl
theorem ac_X4 : Cond.methodLink RX4 62 Jvm.arraycopyName ∈ lw_good := gdi 622 (by decide +kernel) rfl
end CPY
