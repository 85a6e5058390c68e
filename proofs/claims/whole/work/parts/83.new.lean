
/-! MAKING: worlds w0 ++ L, rules for a constructor -/
section MK
variable {D : va_G} {F F' : Cfg} {R : Room} {Qf : QF} {k n pc q idx : Nat} {locs : List (Option Value)} {st rest ar : List Value} {w0 L L' : va_W} {y : MethodName} {d' mc' ms' b : Nat} {post : Option Value → va_W → Prop}
theorem mk_get {j : Nat} {x : Nat × va_E} (h : L[j]? = some x) : (w0 ++ L)[w0.length + j]? = some x := by
  rw [List.getElem?_append_right (Nat.le_add_right _ _), Nat.add_sub_cancel_left]; exact h
theorem mk_set {j : Nat} {x : Nat × va_E} (h : L.set j x = L') : (w0 ++ L).set (w0.length + j) x = w0 ++ L' := by
  rw [List.set_append_right _ _ (Nat.le_add_right _ _), Nat.add_sub_cancel_left, h]
theorem K_newI {N : Nat} (hN : N ≤ 100000) (hk : k + 1 ≤ R.cells) (hn : n + N ≤ R.slots) (hd : decode F.2.1 pc = .ok (.newarray .int, 2)) (hq : pc + 2 = q) (kk : ∀ a, V D F R Qf (k + 1) (n + N) q locs (.ref a :: st) (w0 ++ (L ++ [(a, .inl (D.1 100, N, .inl (fun _ => 0)))]))) : V D F R Qf k n pc locs (.int (nI N) :: st) (w0 ++ L) :=
  E_newI hN hk hn hd hq (fun a => V_ws (List.append_assoc _ _ _) (kk a))
theorem K_newC {N : Nat} (hN : N ≤ 100000) (hk : k + 1 ≤ R.cells) (hn : n + N ≤ R.slots) (hd : decode F.2.1 pc = .ok (.newarray .char, 2)) (hq : pc + 2 = q) (kk : ∀ a, V D F R Qf (k + 1) (n + N) q locs (.ref a :: st) (w0 ++ (L ++ [(a, .inl (D.1 101, N, .inl (fun _ => 0)))]))) : V D F R Qf k n pc locs (.int (nI N) :: st) (w0 ++ L) :=
  E_newC hN hk hn hd hq (fun a => V_ws (List.append_assoc _ _ _) (kk a))
theorem K_newL {N : Nat} (hN : N ≤ 100000) (hk : k + 1 ≤ R.cells) (hn : n + N ≤ R.slots) (hd : decode F.2.1 pc = .ok (.newarray .long, 2)) (hq : pc + 2 = q) (kk : ∀ a, V D F R Qf (k + 1) (n + N) q locs (.ref a :: st) (w0 ++ (L ++ [(a, .inl (D.1 103, N, .inr (.inl (fun _ => 0))))]))) : V D F R Qf k n pc locs (.int (nI N) :: st) (w0 ++ L) :=
  E_newL hN hk hn hd hq (fun a => V_ws (List.append_assoc _ _ _) (kk a))
theorem K_newB {N : Nat} (hN : N ≤ 99999) (hk : k + 1 ≤ R.cells) (hn : n + N ≤ R.slots) (hd : decode F.2.1 pc = .ok (.newarray .byte, 2)) (hq : pc + 2 = q) (kk : ∀ a, V D F R Qf (k + 1) (n + N) q locs (.ref a :: st) (w0 ++ (L ++ [(a, .inl (D.1 102, N, .inl (fun j => if j = 100000 then nI N else 0)))]))) : V D F R Qf k n pc locs (.int (nI N) :: st) (w0 ++ L) := by
  subst hq
  intro p l e s m args below meth c A H lc ls C hlen0 hkc hnc hP hD hS hl
  refine va_newa (atype := .byte) (ty := .byte) (N' := N) (a0 := (N, .inl (fun j => if j = 100000 then nI N else 0))) C.1 C.2.1 (C.2.2.2.2.2.1 _ ac_B) rfl C.2.2.2.2.2.2.2.2.1 hP hD hS C.2.2.2.2.2.2.2.1 (fun cA => ?_) (nI_pos (by omega)) (nI_clamp (by omega)) (show N * 1 ≤ 536870912 by omega) hk hn hd (fun a cA H1 hK1 hP1 hD1 hS1 => ?_)
  · rw [vp_cell_i]
    refine arrV_cg fun j hj => ?_
    rw [if_neg (by omega)]
    rfl
  · have e := arr_same (t := 2) hK1 rfl (fun C h => by cases h)
    subst e
    rw [List.append_assoc] at hP1 hD1
    exact kk a p l e s m args below meth c A H1 lc ls C hlen0 hk hn hP1 hD1 hS1 hl
theorem K_newO {ci N : Nat} {Cn : String} {T : u_T} {fs : List Value} (hc : vwCl[ci]? = some (Cn, T, N)) (hcl : CLok ci) (hcn : Cond.classLink F.1 idx Cn ∈ lw_good) (hinst : Cond.instantiable Cn N ∈ lw_good) (hini : Cond.initialized Cn ∈ lw_good) (hfs : ∀ (ty : Nat → FieldType), (∀ j, j < N → parseFieldDescriptor (T j).2.2.1 = some (ty j)) → ∀ j, j < N → defaultValue (ty j) = vp_V fs j) (hk : k + 1 ≤ R.cells) (hn : n + N ≤ R.slots) (hd : decode F.2.1 pc = .ok (.new idx, 3)) (hq : pc + 3 = q) (kk : ∀ a, V D F R Qf (k + 1) (n + N) q locs (.ref a :: st) (w0 ++ (L ++ [(a, .inr (ci, fs))]))) : V D F R Qf k n pc locs st (w0 ++ L) :=
  E_newO hc hcl hcn hinst hini hfs hk hn hd hq (fun a => V_ws (List.append_assoc _ _ _) (kk a))
theorem K_putO {j0 a ci j : Nat} {fs : List Value} {ty : FieldType} {v : Value} (he : L[j0]? = some (a, .inr (ci, fs))) (hL : L.set j0 (a, .inr (ci, fs.set j v)) = L') (hcl : CLok ci) (hf : FL F.1 idx ci j) (hfp : FPok ci j ty) (hnr : narrow ty v = v) (hfit : fits ty v = true) (hj : j < fs.length) (hd : decode F.2.1 pc = .ok (.putfield idx, 3)) (hq : pc + 3 = q) (kk : V D F R Qf k n q locs st (w0 ++ L')) : V D F R Qf k n pc locs (v :: .ref a :: st) (w0 ++ L) :=
  E_putO (mk_get he) hcl hf hfp hnr hfit hj hd hq (V_ws (mk_set hL) kk)
/-- a final field of the class own -/
def FPf (own : String) (ci j : Nat) (ty : FieldType) : Prop := ∀ (C : String) (T : u_T) (N : Nat), vwCl[ci]? = some (C, T, N) → (T j).2.2.2 = true ∧ (T j).1 = own ∧ parseFieldDescriptor (T j).2.2.1 = some ty
theorem K_putF {j0 a ci j : Nat} {fs : List Value} {ty : FieldType} {v : Value} (he : L[j0]? = some (a, .inr (ci, fs))) (hL : L.set j0 (a, .inr (ci, fs.set j v)) = L') (hcl : CLok ci) (hf : FL F.1 idx ci j) (hfp : FPf F.1 ci j ty) (hnr : narrow ty v = v) (hfit : fits ty v = true) (hj : j < fs.length) (hd : decode F.2.1 pc = .ok (.putfield idx, 3)) (hq : pc + 3 = q) (kk : V D F R (QI Qf) k n q locs st (w0 ++ L')) : V D F R (QI Qf) k n pc locs (v :: .ref a :: st) (w0 ++ L) := by
  obtain ⟨CC, T, N, h1, h2, h3⟩ := hf
  obtain ⟨g1, g2, g3⟩ := hfp _ _ _ h1
  exact E_putF (mk_get he) hcl h1 h2 h3 g1 g2 g3 hnr hfit hj hd hq (V_ws (mk_set hL) kk)
theorem K_get {j0 a ci j : Nat} {fs : List Value} {v : Value} (he : L[j0]? = some (a, .inr (ci, fs))) (hv : fs[j]? = some v) (hcl : CLok ci) (hf : FL F.1 idx ci j) (hd : decode F.2.1 pc = .ok (.getfield idx, 3)) (hq : pc + 3 = q) (kk : V D F R Qf k n q locs (v :: st) (w0 ++ L)) : V D F R Qf k n pc locs (.ref a :: st) (w0 ++ L) := by
  subst hq
  intro p l e s m args below meth c A H lc ls C hlen hkc hnc hP hD hS hl
  obtain ⟨CC, T, N, h1, h2, h3⟩ := hf
  have hts := C.2.2.2.2.2.1
  exact va_get C.1 C.2.1 hts (hcl _ _ _ h1).1 C.2.2.2.2.1 C.2.2.2.2.2.2.2.2.1 hP _ (mk_get he) h1 j h2 (hts _ h3) (fun _ h => h) hv hd (kk p l e s m args below meth c A H lc ls C hlen hkc hnc hP hD hS hl)
theorem K_iast {j0 a N i : Nat} {f : Nat → Int32} {v : Int32} (he : L[j0]? = some (a, .inl (D.1 100, N, .inl f))) (hL : L.set j0 (a, .inl (D.1 100, N, .inl (upd f i v))) = L') (hi : i < N) (hN : N ≤ 100000) (hd : decode F.2.1 pc = .ok (.iastore, 1)) (hq : pc + 1 = q) (kk : V D F R Qf k n q locs st (w0 ++ L')) : V D F R Qf k n pc locs (.int v :: .int (nI i) :: .ref a :: st) (w0 ++ L) := by
  subst hq
  intro p l e s m args below meth c A H lc ls C hlen hkc hnc hP hD hS hl
  refine va_iast C.1 C.2.1 C.2.2.2.2.2.2.2.2.1 hP hD hS _ 0 (mk_get he) rfl (vp_in_nI hi (by omega)) hd (fun H1 lc1 hP1 hD1 hS1 => ?_)
  rw [nI_clamp (by omega)] at hP1 hD1
  rw [mk_set hL] at hP1 hD1
  exact kk p l e s m args below meth c A H1 lc1 ls C hlen hkc hnc hP1 hD1 hS1 hl
theorem K_aast {j0 a N i jv v : Nat} {f : Nat → Option Nat} {vs : List Value} (he : L[j0]? = some (a, .inl (D.1 104, N, .inr (.inr (.inr (.inr f)))))) (hv : L[jv]? = some (v, .inr (8, vs))) (hL : L.set j0 (a, .inl (D.1 104, N, .inr (.inr (.inr (.inr (va_up f i (some v))))))) = L') (hi : i < N) (hN : N ≤ 100000) (hd : decode F.2.1 pc = .ok (.aastore, 1)) (hq : pc + 1 = q) (kk : V D F R Qf k n q locs st (w0 ++ L')) : V D F R Qf k n pc locs (.ref v :: .int (nI i) :: .ref a :: st) (w0 ++ L) := by
  subst hq
  intro p l e s m args below meth c A H lc ls C hlen hkc hnc hP hD hS hl
  refine va_astq (r := (RX4, TX4, 13)) C.1 C.2.1 C.2.2.2.2.2.2.2.2.1 hP hD hS _ 4 _ 8 (mk_get he) rfl (mk_get hv) rfl (vp_in_nI hi (by omega)) hd (fun H1 lc1 hP1 hD1 hS1 => ?_)
  rw [nI_clamp (by omega)] at hP1 hD1
  rw [mk_set hL] at hP1 hD1
  exact kk p l e s m args below meth c A H1 lc1 ls C hlen hkc hnc hP1 hD1 hS1 hl
theorem K_objInit {a : Nat} (hlk : Cond.methodLink F.1 idx Lib.objectInit ∈ lw_good) (hfr : 1 ≤ R.frames) (hlo : 40 ≤ R.locals) (hst : (st.map fun v => v.category).sum ≤ 8) (hd : decode F.2.1 pc = .ok (.invokespecial idx, 3)) (hq : pc + 3 = q) (kk : V D F R Qf k n q locs st (w0 ++ L)) : V D F R Qf k n pc locs (.ref a :: st) (w0 ++ L) := by
  subst hq
  intro p l e s m args below meth c A H lc ls C hlen hkc hnc hP hD hS hl
  have hts := C.2.2.2.2.2.1
  have h8 : 2 * (F0 m pc ls (.ref a :: st)).monitorRoom + (st.map fun v => v.category).sum ≤ 8 := lv_room hst
  exact W.objInit C.1 C.2.1 C.2.2.2.2.1 (hts _ hlk) (hts _ (gdi 128 (by decide +kernel) rfl)) (hts _ (gdi 129 (by decide +kernel) rfl)) rfl (by rw [hl.1, hlen]; exact C.2.2.1.symm) rfl hd hfr (by omega) (kk p l e s m args below meth c A H lc ls C hlen hkc hnc hP hD hS hl)
theorem E_callI {ws : va_W} {Cn : String} (lk : LkI F.1 idx y F' ar.length) (hs : Spec D d' y F' (.ref b :: ar) ws mc' ms' post) (hrm : RmOK R d') (hk : k + mc' ≤ R.cells) (hn : n + ms' ≤ R.slots) (hst : (rest.map fun v => v.category).sum ≤ 8) (hd : decode F.2.1 pc = .ok (.invokespecial idx, 3)) (hstk : st = ar.reverse ++ .ref b :: rest) (hq : pc + 3 = q)
    (kk : ∀ v ws', post v ws' → V D F R Qf (k + mc') (n + ms') q locs (v.toList ++ rest) ws') : V D F R Qf k n pc locs st ws := by
  intro p l e s m args below meth c A H lc ls C hlen hkc hnc hP hD hS hl
  subst hq; subst hstk
  have hts := C.2.2.2.2.2.1
  have hK := C.2.2.2.2.2.2.2.2.1
  have hA := C.2.2.2.2.2.2.2.1
  have hE := C.2.2.2.2.2.2.2.2.2.1
  obtain ⟨F1, F2, F3, F4⟩ := F'
  obtain ⟨lb, l1, l2, l3, l4⟩ := lk
  have l4 : F4 = none := l4
  subst l4
  have hrun := va_runI (As := ar) (rest := rest) (cells := k) (slots := n) (g := F0 m pc ls (ar.reverse ++ .ref b :: rest)) (p := p) (l := l) (e := e) (below := below) (meth := meth) (locs := lc) ⟨C.1, C.2.1, C.2.2.1, C.2.2.2.2.1, hts⟩ (hs l H.size C.2.2.2.2.2.2.2.2.2.2) ⟨lb.callBR l1 hrm hts, l3, hts _ l2⟩ ⟨PC_blind, fun U hU hW => PC_now hU hW hP hK hD hS hA hE⟩ rfl rfl (by rw [hl.1]; exact hlen) rfl (lv_room hst) hd ⟨hk, hn⟩
  refine va_callC hrun hS (va_A_in hD hS C.2.2.2.2.2.2.2.1) (va_A_in hD hS C.2.2.2.2.2.2.2.1) (fun v ws' H1 lc1 hp hP1 hD1 hS1 => ?_)
  exact kk v ws' hp p l e s m args below meth c A H1 lc1 ls C hlen hk hn hP1 hD1 hS1 hl
theorem LkB.callNR {own host : String} {args : Array Value} {s : State} {nn : Nat} (h : LkB y F' nn) (hl : Cond.methodLinkNest own idx y host ∈ lw_nest) (hrm : RmOK R d') (hts : ∀ w ∈ lw_good, w.before args s = true) (hnw : ∀ w ∈ lw_nest, va_Nw w s) : va_CN R s args own idx y host F'.2.1 F'.2.2.1 F'.2.2.2 (wsOf y F') (rmOf d' mc' ms') mc' ms' nn :=
  va_cnB nn hts (goodIn_wsOf h.2.1) rfl rfl rfl (hnw _ hl) (hts _ h.1) ⟨h.2.2.1 ▸ h.2.2.2.1.1, h.2.2.1 ▸ h.2.2.2.1.2, h.2.2.2.2.1⟩ ⟨hrm.1, by have := h.2.2.2.2.2; have := hrm.2; show 8 + (F'.2.2.1 + 11) + 40 * d' ≤ R.locals; omega⟩
theorem E_callIN {ws : va_W} {host : String} (lk : LkIN F.1 idx y F' ar.length host) (hs : Spec D d' y F' (.ref b :: ar) ws mc' ms' post) (hrm : RmOK R d') (hk : k + mc' ≤ R.cells) (hn : n + ms' ≤ R.slots) (hst : (rest.map fun v => v.category).sum ≤ 8) (hd : decode F.2.1 pc = .ok (.invokespecial idx, 3)) (hstk : st = ar.reverse ++ .ref b :: rest) (hq : pc + 3 = q)
    (kk : ∀ v ws', post v ws' → V D F R Qf (k + mc') (n + ms') q locs (v.toList ++ rest) ws') : V D F R Qf k n pc locs st ws := by
  intro p l e s m args below meth c A H lc ls C hlen hkc hnc hP hD hS hl
  subst hq; subst hstk
  have hts := C.2.2.2.2.2.1
  have hK := C.2.2.2.2.2.2.2.2.1
  have hA := C.2.2.2.2.2.2.2.1
  have hE := C.2.2.2.2.2.2.2.2.2.1
  obtain ⟨F1, F2, F3, F4⟩ := F'
  obtain ⟨lb, l1, l2, l3, l4⟩ := lk
  have l4 : F4 = none := l4
  subst l4
  have hrun := va_runIN (As := ar) (rest := rest) (cells := k) (slots := n) (g := F0 m pc ls (ar.reverse ++ .ref b :: rest)) (p := p) (l := l) (e := e) (below := below) (meth := meth) (locs := lc) ⟨C.1, C.2.1, C.2.2.1, C.2.2.2.2.1, hts⟩ (hs l H.size C.2.2.2.2.2.2.2.2.2.2) ⟨lb.callNR l1 hrm hts hE.1, l3, hts _ l2⟩ ⟨PC_blind, fun U hU hW => PC_now hU hW hP hK hD hS hA hE⟩ rfl rfl (by rw [hl.1]; exact hlen) rfl (lv_room hst) hd ⟨hk, hn⟩
  refine va_callC hrun hS (va_A_in hD hS C.2.2.2.2.2.2.2.1) (va_A_in hD hS C.2.2.2.2.2.2.2.1) (fun v ws' H1 lc1 hp hP1 hD1 hS1 => ?_)
  exact kk v ws' hp p l e s m args below meth c A H1 lc1 ls C hlen hk hn hP1 hD1 hS1 hl
theorem E_callSR {ws : va_W} (lk : LkS F.1 idx y F' ar.length) (hs : Spec D d' y F' ar ws mc' ms' post) (hrm : RmOK R d') (hk : k + mc' ≤ R.cells) (hn : n + ms' ≤ R.slots) (hst : (rest.map fun v => v.category).sum ≤ 8) (hd : decode F.2.1 pc = .ok (.invokestatic idx, 3)) (hstk : st = ar.reverse ++ rest) (hq : pc + 3 = q)
    (kk : ∀ v ws', post v ws' → V D F R Qf (k + mc') (n + ms') q locs (v.toList ++ rest) ws') : V D F R Qf k n pc locs st ws := by
  intro p l e s m args below meth c A H lc ls C hlen hkc hnc hP hD hS hl
  subst hq; subst hstk
  have hts := C.2.2.2.2.2.1
  have hK := C.2.2.2.2.2.2.2.2.1
  have hA := C.2.2.2.2.2.2.2.1
  have hE := C.2.2.2.2.2.2.2.2.2.1
  have hrun := va_runS (As := ar) (rest := rest) (cells := k) (slots := n) (g := F0 m pc ls (ar.reverse ++ rest)) (p := p) (l := l) (e := e) (below := below) (meth := meth) (locs := lc) ⟨C.1, C.2.1, C.2.2.1, C.2.2.2.2.1, hts⟩ (hs l H.size C.2.2.2.2.2.2.2.2.2.2) ⟨lk.1.callBR lk.2.1 hrm hts, hts _ lk.2.2⟩ ⟨PC_blind, fun U hU hW => PC_now hU hW hP hK hD hS hA hE⟩ rfl rfl (by rw [hl.1]; exact hlen) rfl (lv_room hst) hd ⟨hk, hn⟩
  refine va_callC hrun hS (va_A_in hD hS C.2.2.2.2.2.2.2.1) (va_A_in hD hS C.2.2.2.2.2.2.2.1) (fun v ws' H1 lc1 hp hP1 hD1 hS1 => ?_)
  exact kk v ws' hp p l e s m args below meth c A H1 lc1 ls C hlen hk hn hP1 hD1 hS1 hl
/-- a constructor's contract -/
theorem SpecI.of {d mc ms : Nat} {ws : va_W} {args : List Value} (hy : plainName y.cls = true) (hin : y.name = "<init>") (hc : y.cls = F.1) (hn : (lg_sl args).length ≤ F.2.2.1) (hle : locsOf args F.2.2.1 = locs)
    (hv : V D F (rmOf d mc ms) (QI (QM D post mc ms)) 0 0 0 locs [] ws) : Spec D d y F args ws mc ms post := by
  intro l sz hfl
  refine Met.ofW (cc := F.2.1) (maxL := F.2.2.1) (ret := F.2.2.2) hy rfl ?_
  intro p e s m a below meth c s₁ B hml hvv
  obtain ⟨rfl, hsz, hP, hK, hD0, hE⟩ := hvv
  subst hsz
  have hD := hD0.self (sz := s.heap.size)
  have hl := lv_entry args (n := F.2.2.1) hn
  rw [lg_entry_eq]
  subst hle
  intro T hT X
  obtain ⟨t, a1, b1⟩ := hv p l e s m _ below meth c (va_A ws s.heap.size) s.heap [] _ ⟨B.exec, B.bytes, hml, B.returns, hc ▸ findClass_of_methodNamed B.named, fun w h => atoms_spec (ws := wsOf y F) B.pre w (List.mem_cons_of_mem _ h), B.notSynchronized, fun q h => Or.inr h, hK, hE, hfl⟩ (by simp [locsOf]) (Nat.zero_le _) (Nat.zero_le _) hP hD va_S.rf (LocOK.entry hl) T hT X
  refine ⟨t, a1, b1 fun mt hmt => ?_⟩
  have h1 := (name_of_methodNamed B.named B.method).1
  have h2 : mt = meth := Option.some.inj (hmt.symm.trans B.method)
  rw [h2, h1, hin]
/-- a constructor's return -/
theorem E_iret {d mc ms : Nat} {ws : va_W} (hr : F.2.2.2 = none) (hd : decode F.2.1 pc = .ok (.return_, 1)) (hp : post none ws) : V D F (rmOf d mc ms) (QI (QM D post mc ms)) k n pc locs [] ws := V_toI (E_vreturn rfl hr hd hp)
/-- rows of Stores and rows of rows can be made -/
def GAO : GF := fun s _ => va_AO RX4 s ∧ va_AOA .int s
theorem va_AOA.moved {ty : FieldType} {u U : State} (hvm : u.vm.Alike U.vm) (h : va_AOA ty u) : va_AOA ty U := by
  obtain ⟨comp, c, k, h1, h2, h3, h4, h5⟩ := arrayOverA_spec h
  obtain ⟨k', hk', he⟩ := hvm.2.2 _ _ h3
  have hi0 : u.vm.bare.classes.findIdx? _ = some c := (va_idx_bare u.vm comp).trans h2
  have hi1 : U.vm.bare.classes.findIdx? _ = some c := (by rw [hvm.bare_eq]; exact hi0)
  have hi := (va_idx_bare U.vm comp).symm.trans hi1
  have hkind : k'.kind = .array comp (.array ty) := by rw [he]; exact h4
  have f1 : U.vm.findClass (FieldType.array ty).toString = some comp := by rw [hvm.findClass]; exact h1
  have f2 : U.vm.findClass ("[" ++ (FieldType.array ty).toString) = some c := by rw [hvm.findClass]; exact h5
  unfold va_AOA Cond.before Cond.holds
  simp only [Cond.value]
  rw [f1, Option.bind_some]
  refine (congrArg (fun o : Option Nat => (o.bind (fun c => (U.vm.classes[c]?).map fun (k : Class) => match k.kind with | .array _ t => decide (t = FieldType.array ty) && decide (U.vm.findClass ("[" ++ (FieldType.array ty).toString) = some c) | _ => false)) == some true) hi).trans ?_
  simp [hk', hkind, f2]
theorem GAO_st : GSt GAO := ⟨fun s U A B H lc _ hW _ _ h => ⟨h.1.moved hW.alike, h.2.moved hW.alike⟩, fun a U g mk A h => ⟨va_AO.moved (u := U) (U := U.calling g mk a) (Vm.Alike.refl U.vm) h.1, va_AOA.moved (u := U) (U := U.calling g mk a) (Vm.Alike.refl U.vm) h.2⟩⟩
theorem V_useI {G : GF} {ws : va_W} (h : ∀ (p : Program) (l : Launch) (e : Env) (s : State) (m : MethodId) (args : Array Value) (below : List Frame) (meth : Method) (c : Code) (A : Nat → Prop) (H : Heap) (lc : List Loc) (ls : Array Slot),
    VX D F p l s m args meth c A → G s A → locs.length = F.2.2.1 → k ≤ R.cells → n ≤ R.slots → va_P D vwCl ws H → va_D A ws → va_S A s.heap H lc → LocOK ls locs → W p l e R s m args below meth c H lc k n (QI (QG G Qf) l s m args below c A) (F0 m pc ls st)) : V D F R (QI (QG G Qf)) k n pc locs st ws := by
  intro p l e s m args below meth c A H lc ls C h1 h2 h3 h4 h5 h6 h7
  by_cases hG : G s A
  · exact h p l e s m args below meth c A H lc ls C hG h1 h2 h3 h4 h5 h6 h7
  · intro T hT X
    exact ⟨_, Steps.refl _, fun _ z => absurd z hG⟩
/-- a guarded constructor's contract -/
theorem SpecIG.of {G : GF} {d mc ms : Nat} {ws : va_W} {args : List Value} (hy : plainName y.cls = true) (hin : y.name = "<init>") (hc : y.cls = F.1) (hn : (lg_sl args).length ≤ F.2.2.1) (hle : locsOf args F.2.2.1 = locs)
    (hv : V D F (rmOf d mc ms) (QI (QG G (QM D post mc ms))) 0 0 0 locs [] ws) : SpecG D d y F G args ws mc ms post := by
  intro l sz hfl
  refine Met.ofW (cc := F.2.1) (maxL := F.2.2.1) (ret := F.2.2.2) hy rfl ?_
  intro p e s m a below meth c s₁ B hml hvv
  obtain ⟨⟨rfl, hsz, hP, hK, hD0, hE⟩, hG⟩ := hvv
  subst hsz
  have hD := hD0.self (sz := s.heap.size)
  have hl := lv_entry args (n := F.2.2.1) hn
  rw [lg_entry_eq]
  subst hle
  intro T hT X
  obtain ⟨t, a1, b1⟩ := hv p l e s m _ below meth c (va_A ws s.heap.size) s.heap [] _ ⟨B.exec, B.bytes, hml, B.returns, hc ▸ findClass_of_methodNamed B.named, fun w h => atoms_spec (ws := wsOf y F) B.pre w (List.mem_cons_of_mem _ h), B.notSynchronized, fun q h => Or.inr h, hK, hE, hfl⟩ (by simp [locsOf]) (Nat.zero_le _) (Nat.zero_le _) hP hD va_S.rf (LocOK.entry hl) T hT X
  refine ⟨t, a1, b1 (fun mt hmt => ?_) hG⟩
  have h1 := (name_of_methodNamed B.named B.method).1
  have h2 : mt = meth := Option.some.inj (hmt.symm.trans B.method)
  rw [h2, h1, hin]
theorem E_iretG {G : GF} {d mc ms : Nat} {ws : va_W} (hr : F.2.2.2 = none) (hd : decode F.2.1 pc = .ok (.return_, 1)) (hp : post none ws) : V D F (rmOf d mc ms) (QI (QG G (QM D post mc ms))) k n pc locs [] ws := V_toI (V_noG (E_vreturn rfl hr hd hp))
theorem E_callIGW {G : GF} {ws : va_W} {p : Program} {l : Launch} {e : Env} {s : State} {m : MethodId} {args : Array Value} {below : List Frame} {meth : Method} {c : Code} {A : Nat → Prop} {H : Heap} {lc : List Loc} {ls : Array Slot} {Q : State → Prop} (hg : GSt G) (lk : LkI F.1 idx y F' ar.length) (hs : SpecG D d' y F' G (.ref b :: ar) ws mc' ms' post) (hrm : RmOK R d') (hk : k + mc' ≤ R.cells) (hn : n + ms' ≤ R.slots) (hst : (rest.map fun v => v.category).sum ≤ 8) (hd : decode F.2.1 pc = .ok (.invokespecial idx, 3))
    (C : VX D F p l s m args meth c A) (hG : G s A) (hlen : locs.length = F.2.2.1) (hP : va_P D vwCl ws H) (hD : va_D A ws) (hS : va_S A s.heap H lc) (hl : LocOK ls locs)
    (kk : ∀ v ws' H1 lc1, post v ws' → va_P D vwCl ws' H1 → va_D A ws' → va_S A s.heap H1 lc1 → W p l e R s m args below meth c H1 lc1 (k + mc') (n + ms') Q (F0 m (pc + 3) ls (v.toList ++ rest))) : W p l e R s m args below meth c H lc k n Q (F0 m pc ls (ar.reverse ++ .ref b :: rest)) := by
  have hts := C.2.2.2.2.2.1
  have hK := C.2.2.2.2.2.2.2.2.1
  have hA := C.2.2.2.2.2.2.2.1
  have hE := C.2.2.2.2.2.2.2.2.2.1
  obtain ⟨F1, F2, F3, F4⟩ := F'
  obtain ⟨lb, l1, l2, l3, l4⟩ := lk
  have l4 : F4 = none := l4
  subst l4
  have hrun := va_runI (As := ar) (rest := rest) (cells := k) (slots := n) (g := F0 m pc ls (ar.reverse ++ .ref b :: rest)) (p := p) (l := l) (e := e) (below := below) (meth := meth) (locs := lc) ⟨C.1, C.2.1, C.2.2.1, C.2.2.2.2.1, hts⟩ (hs l H.size C.2.2.2.2.2.2.2.2.2.2) ⟨lb.callBR l1 hrm hts, l3, hts _ l2⟩ ⟨PCG_blind hg, fun U hU hW => ⟨PC_now hU hW hP hK hD hS hA hE, hg.1 s U A _ H lc hU hW hS (va_A_in hD hS hA) hG⟩⟩ rfl rfl (by rw [hl.1]; exact hlen) rfl (lv_room hst) hd ⟨hk, hn⟩
  exact va_callC hrun hS (va_A_in hD hS C.2.2.2.2.2.2.2.1) (va_A_in hD hS C.2.2.2.2.2.2.2.1) (fun v ws' H1 lc1 hp hP1 hD1 hS1 => kk v ws' H1 lc1 hp hP1 hD1 hS1)
theorem E_callIGNW {G : GF} {ws : va_W} {host : String} {p : Program} {l : Launch} {e : Env} {s : State} {m : MethodId} {args : Array Value} {below : List Frame} {meth : Method} {c : Code} {A : Nat → Prop} {H : Heap} {lc : List Loc} {ls : Array Slot} {Q : State → Prop} (hg : GSt G) (lk : LkIN F.1 idx y F' ar.length host) (hs : SpecG D d' y F' G (.ref b :: ar) ws mc' ms' post) (hrm : RmOK R d') (hk : k + mc' ≤ R.cells) (hn : n + ms' ≤ R.slots) (hst : (rest.map fun v => v.category).sum ≤ 8) (hd : decode F.2.1 pc = .ok (.invokespecial idx, 3))
    (C : VX D F p l s m args meth c A) (hG : G s A) (hlen : locs.length = F.2.2.1) (hP : va_P D vwCl ws H) (hD : va_D A ws) (hS : va_S A s.heap H lc) (hl : LocOK ls locs)
    (kk : ∀ v ws' H1 lc1, post v ws' → va_P D vwCl ws' H1 → va_D A ws' → va_S A s.heap H1 lc1 → W p l e R s m args below meth c H1 lc1 (k + mc') (n + ms') Q (F0 m (pc + 3) ls (v.toList ++ rest))) : W p l e R s m args below meth c H lc k n Q (F0 m pc ls (ar.reverse ++ .ref b :: rest)) := by
  have hts := C.2.2.2.2.2.1
  have hK := C.2.2.2.2.2.2.2.2.1
  have hA := C.2.2.2.2.2.2.2.1
  have hE := C.2.2.2.2.2.2.2.2.2.1
  obtain ⟨F1, F2, F3, F4⟩ := F'
  obtain ⟨lb, l1, l2, l3, l4⟩ := lk
  have l4 : F4 = none := l4
  subst l4
  have hrun := va_runIN (As := ar) (rest := rest) (cells := k) (slots := n) (g := F0 m pc ls (ar.reverse ++ .ref b :: rest)) (p := p) (l := l) (e := e) (below := below) (meth := meth) (locs := lc) ⟨C.1, C.2.1, C.2.2.1, C.2.2.2.2.1, hts⟩ (hs l H.size C.2.2.2.2.2.2.2.2.2.2) ⟨lb.callNR l1 hrm hts hE.1, l3, hts _ l2⟩ ⟨PCG_blind hg, fun U hU hW => ⟨PC_now hU hW hP hK hD hS hA hE, hg.1 s U A _ H lc hU hW hS (va_A_in hD hS hA) hG⟩⟩ rfl rfl (by rw [hl.1]; exact hlen) rfl (lv_room hst) hd ⟨hk, hn⟩
  exact va_callC hrun hS (va_A_in hD hS C.2.2.2.2.2.2.2.1) (va_A_in hD hS C.2.2.2.2.2.2.2.1) (fun v ws' H1 lc1 hp hP1 hD1 hS1 => kk v ws' H1 lc1 hp hP1 hD1 hS1)
/-- a row of Stores, still empty -/
theorem K_newS {N : Nat} (hcn : Cond.classLink F.1 idx RX4 ∈ lw_good) (hN : N ≤ 1000) (hk : k + 1 ≤ R.cells) (hn : n + N ≤ R.slots) (hd : decode F.2.1 pc = .ok (.anewarray idx, 3)) (hq : pc + 3 = q) (kk : ∀ a, V D F R (QI (QG GAO Qf)) (k + 1) (n + N) q locs (.ref a :: st) (w0 ++ (L ++ [(a, .inl (D.1 104, N, .inr (.inr (.inr (.inr (fun _ => none))))))]))) : V D F R (QI (QG GAO Qf)) k n pc locs (.int (nI N) :: st) (w0 ++ L) := by
  subst hq
  refine V_useI ?_
  intro p l e s m args below meth c A H lc ls C hG hlen0 hkc hnc hP hD hS hl
  have hts := C.2.2.2.2.2.1
  refine va_newq (C := RX4) C.1 C.2.1 C.2.2.2.2.1 (hts _ hcn) hG.1 C.2.2.2.2.2.2.2.2.1 hP hD hS C.2.2.2.2.2.2.2.1 (nI_pos (by omega)) (nI_clamp (by omega)) (by omega) hk hn hd (fun a cA H1 hK1 hP1 hD1 hS1 => ?_)
  obtain ⟨kA, comp, -, -, -, e1⟩ := (hK1.2 4 (D.1 104, .object RX4) rfl).2
  obtain ⟨kA', comp', -, -, -, e2⟩ := (hK1.2 6 (cA, .object RX4) rfl).2
  have e := Option.some.inj (e2.symm.trans e1)
  subst e
  rw [List.append_assoc] at hP1 hD1
  exact kk a p l e s m args below meth c A H1 lc ls C hlen0 hk hn hP1 hD1 hS1 hl
theorem arrI_new (c : ClassId) (N : Nat) : Jvm.Free.Multi.innerC c N (defaultValue .int) = vp_cell c (N, .inl (fun _ => 0)) := by
  rw [vp_cell_i]
  show ({ cls := c, slots := Array.replicate N (.int 0), vm := .none } : Cell) = _
  rw [arrV_new]
/-- rows of numbers, and the row of them -/
def bestC (D : va_G) (a N : Nat) (r : Nat → Nat) : Nat × va_E := (a, .inl (D.1 105, N, .inr (.inr (.inr (.inr (fun i => if i < N then some (r i) else none))))))
def rowsC (D : va_G) (N K : Nat) (r : Nat → Nat) : va_W := (List.range N).map (fun i => (r i, .inl (D.1 100, K, .inl (fun _ => 0))))
theorem K_newAA {N K : Nat} (hcn : Cond.classLink F.1 idx "[[I" ∈ lw_good) (hN : N ≤ 1000) (hK : K ≤ 1000) (hk : k + (1 + N) ≤ R.cells) (hn : n + (N + N * K) ≤ R.slots) (hd : decode F.2.1 pc = .ok (.multianewarray idx 2, 4)) (hq : pc + 4 = q) (kk : ∀ (a : Nat) (r : Nat → Nat), V D F R (QI (QG GAO Qf)) (k + 1 + N) (n + N + N * K) q locs (.ref a :: st) (w0 ++ (L ++ bestC D a N r :: rowsC D N K r))) : V D F R (QI (QG GAO Qf)) k n pc locs (.int (nI K) :: .int (nI N) :: st) (w0 ++ L) := by
  subst hq
  refine V_useI ?_
  intro p l e s m args below meth c A H lc ls C hG hlen0 hkc hnc hP hD hS hl
  have hts := C.2.2.2.2.2.1
  have hKK := C.2.2.2.2.2.2.2.2.1
  have hcy : s.vm.findClass (FieldType.array .int).toString = some (D.1 100) := (hKK.2 0 (D.1 100, .int) rfl).2
  have hP0 : va_P D vwCl ((w0 ++ L) ++ va_pl [] (fun _ => .inr (0, []))) H := by rw [show va_pl [] (fun _ => (.inr (0, []) : va_E)) = [] from rfl, List.append_nil]; exact hP
  have hD0 : va_D A ((w0 ++ L) ++ va_pl [] (fun _ => .inr (0, []))) := by rw [show va_pl [] (fun _ => (.inr (0, []) : va_E)) = [] from rfl, List.append_nil]; exact hD
  refine va_mna (ty := .int) (cy := D.1 100) (N' := N) (K' := K) C.1 C.2.1 C.2.2.2.2.1 (hts _ hcn) hG.2 (hts _ cA_int) hcy hKK hP0 hD0 hS C.2.2.2.2.2.2.2.1 (nI_pos (by omega)) (nI_pos (by omega)) (nI_clamp (by omega)) (nI_clamp (by omega)) (by omega) (show K * 4 ≤ 536870912 by omega) (by omega) rfl rfl hk hn (fun c => arrI_new c K) hd (fun a r cA H1 hr1 hr2 hK1 hP1 hD1 hS1 => ?_)
  have e := arr_same (t := 5) hK1 rfl (fun C h => by cases h)
  subst e
  have hw : ∀ X : va_W, (X ++ [bestC D a N r]) ++ va_pl ([] ++ (List.range N).map r) (vr_up (fun _ => .inr (0, [])) ((List.range N).map r) (.inl (D.1 100, K, .inl (fun _ => 0)))) = X ++ bestC D a N r :: rowsC D N K r := fun X => by
    rw [List.append_assoc]
    congr 1
    rw [List.nil_append, List.singleton_append]
    congr 1
    unfold va_pl rowsC
    rw [List.map_map]
    refine List.map_congr_left fun i hi => ?_
    show (r i, vr_up _ _ _ (r i)) = _
    rw [vr_up_in (List.mem_map.mpr ⟨i, hi, rfl⟩)]
  have hw2 := (hw (w0 ++ L)).trans (List.append_assoc _ _ _)
  have hP2 : va_P D vwCl (w0 ++ (L ++ bestC D a N r :: rowsC D N K r)) H1 := by rw [← hw2]; exact hP1
  have hD2 : va_D A (w0 ++ (L ++ bestC D a N r :: rowsC D N K r)) := by rw [← hw2]; exact hD1
  exact kk a r p l e s m args below meth c A H1 lc ls C hlen0 (by omega) (by omega) hP2 hD2 hS1 hl
end MK
