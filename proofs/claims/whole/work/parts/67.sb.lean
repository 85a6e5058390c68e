/-! BYTES that grow: the object 155 and its array 156 -/
section SBR
variable {D : va_G} {ad : Nat → Nat} {M : Mem} {F : Cfg} {rm : Room} {Qf : QF} {k n pc q : Nat} {locs : List (Option Value)} {st : List Value} {ws : va_W} {idx cap : Nat}
theorem G_J4_value (hf : FL F.1 idx 1 0) (hd : decode F.2.1 pc = .ok (.getfield idx, 3)) (hq : pc + 3 = q) (kk : V D F rm Qf k n q locs (.ref (ad 156) :: st) (wl D ad M)) : V D F rm Qf k n pc locs (.ref (ad 155) :: st) (wl D ad M) := E_getR cl_J4 hf sk_155 rfl hd hq kk
theorem G_J4_coder (hf : FL F.1 idx 1 1) (hd : decode F.2.1 pc = .ok (.getfield idx, 3)) (hq : pc + 3 = q) (kk : V D F rm Qf k n q locs (.int (M 155 1) :: st) (wl D ad M)) : V D F rm Qf k n pc locs (.ref (ad 155) :: st) (wl D ad M) := E_getI cl_J4 hf sk_155 rfl hd hq kk
theorem G_J4_count (hf : FL F.1 idx 1 3) (hd : decode F.2.1 pc = .ok (.getfield idx, 3)) (hq : pc + 3 = q) (kk : V D F rm Qf k n q locs (.int (M 155 3) :: st) (wl D ad M)) : V D F rm Qf k n pc locs (.ref (ad 155) :: st) (wl D ad M) := E_getI cl_J4 hf sk_155 rfl hd hq kk
theorem P_J4_count {v : Int32} (hf : FL F.1 idx 1 3) (hd : decode F.2.1 pc = .ok (.putfield idx, 3)) (hq : pc + 3 = q) (kk : V D F rm Qf k n q locs st (wl D ad (upd2 M 155 3 v))) : V D F rm Qf k n pc locs (.int v :: .ref (ad 155) :: st) (wl D ad M) := E_putI cl_J4 hf sk_155 rfl (show _ ≤ 1000 by simp) fp_J4_3 hd hq kk
theorem rc_J4 : Recv (wl D ad M) (ad 155) RJ4 := Recv_wl (T := TJ4) (N := 4) sk_155 rfl
theorem E_alenB (hc : M 156 100000 = nI cap) (hcap : cap < 2 ^ 31) (hd : decode F.2.1 pc = .ok (.arraylength, 1)) (hq : pc + 1 = q) (kk : V D F rm Qf k n q locs (.int (nI cap) :: st) (wl D ad M)) : V D F rm Qf k n pc locs (.ref (ad 156) :: st) (wl D ad M) := by
  subst hq
  intro p l e s m args below meth c A H lc ls C hlen0 hkc hnc hP hD hS hl
  exact va_alen C.1 C.2.1 C.2.2.2.2.2.2.2.2.1 hP 156 2 (wl_get sk_156) rfl (show Int32.ofNat (M 156 100000).toNatClampNeg = nI cap by rw [hc, nI_clamp hcap]; rfl) hd (kk p l e s m args below meth c A H lc ls C hlen0 hkc hnc hP hD hS hl)
theorem E_baldB {i : Nat} (hc : M 156 100000 = nI cap) (hcap : cap < 2 ^ 31) (hi : i < cap) (hd : decode F.2.1 pc = .ok (.baload, 1)) (hq : pc + 1 = q) (kk : V D F rm Qf k n q locs (.int (M 156 i) :: st) (wl D ad M)) : V D F rm Qf k n pc locs (.int (nI i) :: .ref (ad 156) :: st) (wl D ad M) := by
  subst hq
  intro p l e s m args below meth c A H lc ls C hlen0 hkc hnc hP hD hS hl
  refine va_bald C.1 C.2.1 C.2.2.2.2.2.2.2.2.1 hP 156 2 (wl_get sk_156) rfl (show vp_in (nI i) (M 156 100000).toNatClampNeg by rw [hc, nI_clamp hcap]; exact vp_in_nI hi hcap) hd ?_
  rw [nI_clamp (by omega)]
  exact kk p l e s m args below meth c A H lc ls C hlen0 hkc hnc hP hD hS hl
theorem E_bastB {i : Nat} {v : Int32} (hc : M 156 100000 = nI cap) (hcap : cap ≤ 100000) (hi : i < cap) (hd : decode F.2.1 pc = .ok (.bastore, 1)) (hq : pc + 1 = q) (kk : V D F rm Qf k n q locs st (wl D ad (upd2 M 156 i (vp_nar .byte v)))) : V D F rm Qf k n pc locs (.int v :: .int (nI i) :: .ref (ad 156) :: st) (wl D ad M) := by
  subst hq
  intro p l e s m args below meth c A H lc ls C hlen hkc hnc hP hD hS hl
  have hw : (wl D ad M).set 156 (ad 156, .inl (D.1 (100 + 2), (M 156 100000).toNatClampNeg, .inl (upd (M 156) (nI i).toNatClampNeg (vp_nar .byte v)))) = wl D ad (upd2 M 156 i (vp_nar .byte v)) := wl_set sk_156 (by
    rw [nI_clamp (by omega), upd2_upd]
    show _ = Sum.inl (D.1 (100 + 2), (upd (M 156) i (vp_nar .byte v) 100000).toNatClampNeg, _)
    rw [show upd (M 156) i (vp_nar .byte v) 100000 = M 156 100000 from if_neg (by omega)]) (fun b h => upd2_row h)
  refine va_bast C.1 C.2.1 C.2.2.2.2.2.2.2.2.1 hP hD hS 156 2 (wl_get sk_156) rfl (show vp_in (nI i) (M 156 100000).toNatClampNeg by rw [hc, nI_clamp (by omega)]; exact vp_in_nI hi (by omega)) hd (fun H1 lc1 hP1 hD1 hS1 => ?_)
  have hP1 : va_P D vwCl (wl D ad (upd2 M 156 i (vp_nar .byte v))) H1 := hw ▸ hP1
  have hD1 : va_D A (wl D ad (upd2 M 156 i (vp_nar .byte v))) := hw ▸ hD1
  exact kk p l e s m args below meth c A H1 lc1 ls C hlen hkc hnc hP1 hD1 hS1 hl
end SBR
theorem arrV_cg {cA : ClassId} {N : Nat} {f g : Nat → Value} (h : ∀ j, j < N → f j = g j) : arrV cA N f = arrV cA N g := by
  unfold arrV
  have : (fun j : Fin N => f ↑j) = fun j : Fin N => g ↑j := funext fun j => h j j.2
  rw [this]
section SBN
variable {D : va_G} {ad : Nat → Nat} {M : Mem} {F : Cfg} {rm : Room} {Qf : QF} {k n pc q : Nat} {locs : List (Option Value)} {st : List Value} {ws : va_W} {idx cap : Nat} {d mc ms L q0 : Nat} {f : Nat → Int32}
/-- the cells, and one more array of bytes -/
def wlX (D : va_G) (ad : Nat → Nat) (M : Mem) (q0 L : Nat) (f : Nat → Int32) : va_W := wl D ad M ++ [(q0, .inl (D.1 102, L, .inl f))]
theorem wl_len : (wl D ad M).length = 166 := by unfold wl; rw [List.length_mapIdx]; rfl
theorem wlX_get {kk : Nat} {c : Sk} (h : sk[kk]? = some c) : (wlX D ad M q0 L f)[kk]? = some (ad kk, cellE D ad (M kk) c) := by
  unfold wlX
  rw [List.getElem?_append_left (by rw [wl_len]; exact (List.getElem?_eq_some_iff.mp h).1)]
  exact wl_get h
theorem wlX_last : (wlX D ad M q0 L f)[166]? = some (q0, .inl (D.1 102, L, .inl f)) := by
  unfold wlX
  rw [List.getElem?_append_right (by rw [wl_len]; exact Nat.le_refl _), wl_len]
  rfl
theorem ac_B : Cond.arrayClass .byte ∈ lw_good := gdi 341 (by decide +kernel) rfl
theorem E_newB (hcap : L ≤ 100000) (hk : k + 1 ≤ mc) (hn : n + L ≤ ms) (hd : decode F.2.1 pc = .ok (.newarray .byte, 2)) (hq : pc + 2 = q) (kk : ∀ q0, V D F (rmOf d mc ms) Qf (k + 1) (n + L) q locs (.ref q0 :: st) (wlX D ad M q0 L (fun j => if j = 100000 then nI L else 0))) : V D F (rmOf d mc ms) Qf k n pc locs (.int (nI L) :: st) (wl D ad M) := by
  subst hq
  intro p l e s m args below meth c A H lc ls C hlen0 hkc hnc hP hD hS hl
  refine va_newa (atype := .byte) (ty := .byte) (N' := L) (a0 := (L, .inl (fun j => if j = 100000 then nI L else 0))) C.1 C.2.1 (C.2.2.2.2.2.1 _ ac_B) rfl C.2.2.2.2.2.2.2.2.1 hP hD hS C.2.2.2.2.2.2.2.1 (fun cA => ?_) (nI_pos (by omega)) (nI_clamp (by omega)) (show L * 1 ≤ 536870912 by omega) hk hn hd (fun q0 cA H1 hK1 hP1 hD1 hS1 => ?_)
  · rw [vp_cell_i]
    refine arrV_cg fun j hj => ?_
    rw [if_neg (by omega)]
    rfl
  · have h1 : s.vm.findClass ("[" ++ FieldType.byte.toString) = some (D.1 102) := (hK1.2 2 (D.1 102, .byte) rfl).2
    have h2 : s.vm.findClass ("[" ++ FieldType.byte.toString) = some cA := (hK1.2 6 (cA, .byte) rfl).2
    cases h1.symm.trans h2
    exact kk q0 p l e s m args below meth c A H1 lc ls C hlen0 hk hn hP1 hD1 hS1 hl
theorem E_alenX (hc : M 156 100000 = nI cap) (hcap : cap < 2 ^ 31) (hd : decode F.2.1 pc = .ok (.arraylength, 1)) (hq : pc + 1 = q) (kk : V D F rm Qf k n q locs (.int (nI cap) :: st) (wlX D ad M q0 L f)) : V D F rm Qf k n pc locs (.ref (ad 156) :: st) (wlX D ad M q0 L f) := by
  subst hq
  intro p l e s m args below meth c A H lc ls C hlen0 hkc hnc hP hD hS hl
  exact va_alen C.1 C.2.1 C.2.2.2.2.2.2.2.2.1 hP 156 2 (wlX_get sk_156) rfl (show Int32.ofNat (M 156 100000).toNatClampNeg = nI cap by rw [hc, nI_clamp hcap]; rfl) hd (kk p l e s m args below meth c A H lc ls C hlen0 hkc hnc hP hD hS hl)
theorem wlX_set {g : Nat → Int32} : (wlX D ad M q0 L f).set 166 (q0, .inl (D.1 102, L, .inl g)) = wlX D ad M q0 L g := by
  unfold wlX
  rw [List.set_append_right _ _ (by rw [wl_len]; exact Nat.le_refl _), wl_len]
  rfl
theorem ac_J7 : Cond.methodLink RJ7 150 Jvm.arraycopyName ∈ lw_good := gdi 1271 (by decide +kernel) rfl
theorem E_acopyX {cnt : Nat} (hl : Cond.methodLink F.1 idx Jvm.arraycopyName ∈ lw_good) (hd1 : 1 ≤ d) (hc : M 156 100000 = nI cap) (h0 : cnt ≤ cap) (h1 : cnt ≤ L) (hn2 : cap < 2 ^ 31) (hfit : ∀ i, i < cnt → fits .byte (.int (M 156 i)) = true) (hst : (st.map fun v => v.category).sum ≤ 8) (hd : decode F.2.1 pc = .ok (.invokestatic idx, 3)) (hq : pc + 3 = q)
    (kk : V D F (rmOf d mc ms) Qf k n q locs st (wlX D ad M q0 L (va_cpy (M 156) f 0 0 cnt))) : V D F (rmOf d mc ms) Qf k n pc locs (.int (nI cnt) :: .int (nI 0) :: .ref q0 :: .int (nI 0) :: .ref (ad 156) :: st) (wlX D ad M q0 L f) := by
  subst hq
  intro p l e s m args below meth c A H lc ls C hlen hkc hnc hP hD hS hll
  have e0 : (nI 0).toNatClampNeg = 0 := nI_clamp (by omega)
  have e2 : (nI cnt).toNatClampNeg = cnt := nI_clamp (by omega)
  have ec : (M 156 100000).toNatClampNeg = cap := by rw [hc, nI_clamp hn2]
  have hts := C.2.2.2.2.2.1
  refine va_copyi C.1 C.2.1 (by rw [hll.1]; exact hlen ▸ C.2.2.1) C.2.2.2.2.1 (hts _ hl) (hts _ ac_nt) (hts _ ac_st) (hts _ ac_in) C.2.2.2.2.2.2.2.2.1 hP hD hS 156 166 2 2 (wlX_get sk_156) wlX_last rfl rfl rfl (nI_pos (by omega)) (nI_pos (by omega)) (nI_pos (by omega)) (by rw [e0, e2, ec]; omega) (by rw [e0, e2]; omega) (fun i hi => by rw [e0, Nat.zero_add]; exact hfit i (by rw [e2] at hi; exact hi)) hd1 ?_ hd (fun H1 lc1 hP1 hD1 hS1 => ?_)
  · have : nativeFrameWords "java/lang/System" "arraycopy" 5 + 11 ≤ 32 := by decide
    show _ ≤ 40 * d
    omega
  · rw [e0, e2, wlX_set] at hP1 hD1
    exact kk p l e s m args below meth c A H1 lc1 ls C hlen hkc hnc hP1 hD1 hS1 hll
end SBN
