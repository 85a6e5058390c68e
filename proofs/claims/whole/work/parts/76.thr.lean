
/-! THROWING -/
section THR
variable {D : va_G} {F F' : Cfg} {rm : Room} {Qf : QF} {k n pc q idx d d' mc ms mc' ms' : Nat} {locs : List (Option Value)} {st rest ar : List Value} {ws : va_W} {y : MethodName} {b : Nat}
def ioN : String := "java/lang/IndexOutOfBoundsException"
def XQ (D : va_G) (ws : va_W) (A : Nat → Prop) : String → State → State → Prop := fun E st t => E = ioN ∧ va_P D vwCl ws t.heap ∧ va_D A ws ∧ va_F A st t
/-- a method that throws, and leaves the cells that it knows as they were -/
def SpecT (D : va_G) (d : Nat) (y : MethodName) (F : Cfg) (args : List Value) (ws : va_W) (mc ms : Nat) : Prop :=
  ∀ (l : Launch) (sz : Nat), l.flags = flags0 → vx_Met l y (wsOf y F) (rmOf d mc ms) (PC D args ws sz) (QC D (fun _ _ => False) (va_A ws sz)) (XQ D ws (va_A ws sz)) mc ms (va_A ws sz)
def QT (D : va_G) (ws : va_W) (mc ms : Nat) : QF := fun _ s _ args below c A t => (∀ x ∈ c.exceptionTable.toList, False) → vx_MQ below (QC D (fun _ _ => False) A) (XQ D ws A) args s mc ms A t
theorem SpecT.of {args : List Value} (hy : plainName y.cls = true) (hc : y.cls = F.1) (hn : (lg_sl args).length ≤ F.2.2.1) (hle : locsOf args F.2.2.1 = locs)
    (hv : V D F (rmOf d mc ms) (QT D ws mc ms) 0 0 0 locs [] ws) : SpecT D d y F args ws mc ms := by
  intro l sz hfl
  refine vx_ofW (cc := F.2.1) (maxL := F.2.2.1) (ret := F.2.2.2) hy rfl ?_
  intro p e s m a below meth c s₁ B hml htb hvv
  obtain ⟨rfl, hsz, hP, hK, hD0, hE⟩ := hvv
  subst hsz
  have hD := hD0.self (sz := s.heap.size)
  have hl := lv_entry args (n := F.2.2.1) hn
  rw [lg_entry_eq]
  subst hle
  intro T hT X
  obtain ⟨t, a1, b1⟩ := hv p l e s m _ below meth c (va_A ws s.heap.size) s.heap [] _ ⟨B.exec, B.bytes, hml, B.returns, hc ▸ findClass_of_methodNamed B.named, fun w h => atoms_spec (ws := wsOf y F) B.pre w (List.mem_cons_of_mem _ h), B.notSynchronized, fun q h => Or.inr h, hK, hE, hfl⟩ (by simp [locsOf]) (Nat.zero_le _) (Nat.zero_le _) hP hD va_S.rf (LocOK.entry hl) T hT X
  exact ⟨t, a1, b1 htb⟩
/-- a call that throws, not caught here -/
theorem E_callVT (lk : LkV F.1 idx y F' ar.length) (hs : SpecT D d' y F' (.ref b :: ar) ws mc' ms') (hr : Recv ws b F'.1) (hd' : d' < d) (hk : k + mc' ≤ mc) (hn : n + ms' ≤ ms) (hst : (rest.map fun v => v.category).sum ≤ 8) (hd : decode F.2.1 pc = .ok (.invokevirtual idx, 3)) (hstk : st = ar.reverse ++ .ref b :: rest) : V D F (rmOf d mc ms) (QT D ws mc ms) k n pc locs st ws := by
  intro p l e s m args below meth c A H lc ls C hlen hkc hnc hP hD hS hl
  subst hstk
  obtain ⟨q0, ci, fs, T, N, hq0, hcl⟩ := hr
  have hts := C.2.2.2.2.2.1
  have hK := C.2.2.2.2.2.2.2.2.1
  have hA := C.2.2.2.2.2.2.2.1
  have hE := C.2.2.2.2.2.2.2.2.2.1
  have hrun := vx_runV (As := ar) (rest := rest) (cells := k) (slots := n) (g := F0 m pc ls (ar.reverse ++ .ref b :: rest)) (p := p) (l := l) (e := e) (below := below) (meth := meth) (locs := lc) ⟨C.1, C.2.1, C.2.2.1, C.2.2.2.2.1, hts⟩ (hs l H.size C.2.2.2.2.2.2.2.2.2.2) ⟨lk.1.callB lk.2.1 hd' hts, hts _ lk.2.2.1, hts _ lk.2.2.2⟩ ⟨PC_blind, va_recv hK hP hcl hq0, fun U hU hW => PC_now hU hW hP hK hD hS hA hE⟩ rfl rfl (by rw [hl.1]; exact hlen) rfl (lv_room hst) hd ⟨hk, hn⟩
  intro T1 hT X
  rcases hrun T1 hT X with ⟨v, st₀, t, T', L, h0, X', hL, e1, e2, ⟨⟨v', ws', -, hf, -⟩, -⟩, -⟩ | ⟨q, st₀, t, T', L, E, ce, h0, X', hL, e1, e2, ⟨hEn, hP2, hD2, hF⟩, hce, hcv, hcE, hsteps⟩
  · exact absurd hf id
  · obtain ⟨k1, k2, k3⟩ := vx_keep h0 e1 hS (fun q _ h => va_A_in hD hS hA q h) (fun q h => va_A_in hD hS hA q h) hL hF
    by_cases htb : ∀ x ∈ c.exceptionTable.toList, False
    · have hout := vx_out (mc := mc) (ms := ms) (free := A) (Qc := QC D (fun _ _ => False) A) (XC := XQ D ws A) (rest := rest) (ls := ls) (pc := pc) (args := args) (below := below) (cells := k + mc') (slots := n + ms') (H := T'.heap) (fun x hx => absurd (htb x hx) id) C.2.2.2.2.2.2.1 (by rw [e1]; exact hce) hcv hcE (fun t2 ht2 _ => ⟨hEn, by rw [ht2, e1]; exact hP2, hD, k3.F ht2⟩) k3.2.2 hk hn
      obtain ⟨t2, a1, b1⟩ := hout T' rfl X'
      exact ⟨t2, hsteps.trans a1, fun _ => b1⟩
    · exact ⟨_, Steps.refl _, fun z => absurd z htb⟩
end THR
