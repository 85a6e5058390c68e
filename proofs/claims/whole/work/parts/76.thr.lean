
/-! THROWING -/
section THR
variable {D : va_G} {F F' : Cfg} {rm : Room} {Qf : QF} {k n pc q idx d d' mc ms mc' ms' : Nat} {locs : List (Option Value)} {st rest ar : List Value} {ws : va_W} {y : MethodName} {b : Nat}
def ioN : String := "java/lang/IndexOutOfBoundsException"
def XQ (D : va_G) (ws : va_W) (A : Nat → Prop) : String → State → State → Prop := fun E st t => E = ioN ∧ va_P D vwCl ws t.heap ∧ va_D A ws ∧ va_F A st t
/-- a method that throws, and leaves the cells that it knows as they were -/
def SpecT (D : va_G) (d : Nat) (y : MethodName) (F : Cfg) (args : List Value) (ws : va_W) (mc ms : Nat) : Prop :=
  ∀ (l : Launch) (sz : Nat), l.flags = flags0 → vx_Met l y (wsOf y F) (rmOf d mc ms) (PC D args ws sz) (QC D (fun _ _ => False) (va_A ws sz)) (XQ D ws (va_A ws sz)) mc ms (va_A ws sz)
def QT (D : va_G) (ws : va_W) (mc ms : Nat) : QF := fun _ s _ args below c A t => (∀ x ∈ c.exceptionTable.toList, False) → vx_MQ below (QC D (fun _ _ => False) A) (XQ D ws A) args s mc ms A t
theorem SpecT.of {args : List Value} (hy : plainName y.cls = true) (hc : y.cls = F.1) (hn : (lg_sl args).length ≤ F.2.2.1) (hle : locsOf args F.2.2.1 = locs)
    (hv : V D F (rmOf d mc ms) (QT D ws mc ms) 0 0 0 locs [] ws) : SpecT D d y F args ws mc ms := by
  intro l sz hfl
  refine vx_ofW (cc := F.2.1) (maxL := F.2.2.1) (ret := F.2.2.2) hy rfl ?_
  intro p e s m a below meth c s₁ B hml htb hvv
  obtain ⟨rfl, hsz, hP, hK, hD0, hE⟩ := hvv
  subst hsz
  have hD := hD0.self (sz := s.heap.size)
  have hl := lv_entry args (n := F.2.2.1) hn
  rw [lg_entry_eq]
  subst hle
  intro T hT X
  obtain ⟨t, a1, b1⟩ := hv p l e s m _ below meth c (va_A ws s.heap.size) s.heap [] _ ⟨B.exec, B.bytes, hml, B.returns, hc ▸ findClass_of_methodNamed B.named, fun w h => atoms_spec (ws := wsOf y F) B.pre w (List.mem_cons_of_mem _ h), B.notSynchronized, fun q h => Or.inr h, hK, hE, hfl⟩ (by simp [locsOf]) (Nat.zero_le _) (Nat.zero_le _) hP hD va_S.rf (LocOK.entry hl) T hT X
  exact ⟨t, a1, b1 htb⟩
/-- a call that throws, not caught here -/
theorem E_callVT (lk : LkV F.1 idx y F' ar.length) (hs : SpecT D d' y F' (.ref b :: ar) ws mc' ms') (hr : Recv ws b F'.1) (hd' : d' < d) (hk : k + mc' ≤ mc) (hn : n + ms' ≤ ms) (hst : (rest.map fun v => v.category).sum ≤ 8) (hd : decode F.2.1 pc = .ok (.invokevirtual idx, 3)) (hstk : st = ar.reverse ++ .ref b :: rest) : V D F (rmOf d mc ms) (QT D ws mc ms) k n pc locs st ws := by
  intro p l e s m args below meth c A H lc ls C hlen hkc hnc hP hD hS hl
  subst hstk
  obtain ⟨q0, ci, fs, T, N, hq0, hcl⟩ := hr
  have hts := C.2.2.2.2.2.1
  have hK := C.2.2.2.2.2.2.2.2.1
  have hA := C.2.2.2.2.2.2.2.1
  have hE := C.2.2.2.2.2.2.2.2.2.1
  have hrun := vx_runV (As := ar) (rest := rest) (cells := k) (slots := n) (g := F0 m pc ls (ar.reverse ++ .ref b :: rest)) (p := p) (l := l) (e := e) (below := below) (meth := meth) (locs := lc) ⟨C.1, C.2.1, C.2.2.1, C.2.2.2.2.1, hts⟩ (hs l H.size C.2.2.2.2.2.2.2.2.2.2) ⟨lk.1.callB lk.2.1 hd' hts, hts _ lk.2.2.1, hts _ lk.2.2.2⟩ ⟨PC_blind, va_recv hK hP hcl hq0, fun U hU hW => PC_now hU hW hP hK hD hS hA hE⟩ rfl rfl (by rw [hl.1]; exact hlen) rfl (lv_room hst) hd ⟨hk, hn⟩
  intro T1 hT X
  rcases hrun T1 hT X with ⟨v, st₀, t, T', L, h0, X', hL, e1, e2, ⟨⟨v', ws', -, hf, -⟩, -⟩, -⟩ | ⟨q, st₀, t, T', L, E, ce, h0, X', hL, e1, e2, ⟨hEn, hP2, hD2, hF⟩, hce, hcv, hcE, hsteps⟩
  · exact absurd hf id
  · obtain ⟨k1, k2, k3⟩ := vx_keep h0 e1 hS (fun q _ h => va_A_in hD hS hA q h) (fun q h => va_A_in hD hS hA q h) hL hF
    by_cases htb : ∀ x ∈ c.exceptionTable.toList, False
    · have hout := vx_out (p := p) (l := l) (e := e) (R := rmOf d mc ms) (m := m) (mc := mc) (ms := ms) (free := A) (Qc := QC D (fun _ _ => False) A) (XC := XQ D ws A) (rest := rest) (ls := ls) (pc := pc) (args := args) (below := below) (cells := k + mc') (slots := n + ms') (H := T'.heap) (fun x hx => absurd (htb x hx) id) C.2.2.2.2.2.2.1 (by rw [e1]; exact hce) hcv hcE (fun t2 ht2 _ => ⟨hEn, by rw [ht2, e1]; exact hP2, hD, k3.F ht2⟩) k3.2.2 hk hn
      obtain ⟨t2, a1, b1⟩ := hout T' rfl X'
      exact ⟨t2, hsteps.trans a1, fun _ => b1⟩
    · exact ⟨_, Steps.refl _, fun z => absurd z htb⟩
def wIo : List Cond := vx_atS RX5 300 ioN ["java/lang/RuntimeException", "java/lang/Exception"]
theorem wIo_ot : (Cond.classLink RX5 296 ioN :: Cond.initialized ioN :: wIo).all vx_ot = true := by decide +kernel
theorem wIo_good : (wIo.filter goodWord).all (fun w => decide (w ∈ lw_good)) = true := by decide +kernel
theorem wIo_bad : (wIo.filter (fun w => !goodWord w)).all (fun w => decide (w ∈ xtrW)) = true := by decide +kernel
theorem cl_io : Cond.classLink RX5 296 ioN ∈ lw_good := gdi 922 (by decide +kernel) rfl
theorem in_io : Cond.initialized ioN ∈ lw_good := gdi 117 (by decide +kernel) rfl
theorem xtr_use {w : Cond} {args : Array Value} {s : State} (hw : w ∈ xtrW) (h : va_Nw w s) : w.before args s = true := by
  simp only [xtrW, List.mem_cons, List.not_mem_nil, or_false] at hw
  rcases hw with rfl | rfl | rfl | rfl <;> exact va_Nw.use rfl h
theorem E_throwW {i sc : Nat} {tx : String} (hF : F.1 = RX5) (hi : strs[i]? = some (RX5, sc, tx)) (hd6 : 6 ≤ d) (hk : k + 1 ≤ mc) (hn : n + 6 ≤ ms) (hst : (st.map fun v => v.category).sum ≤ 8)
    (d0 : decode F.2.1 pc = .ok (.new 296, 3)) (d3 : decode F.2.1 (pc + 3) = .ok (.dup, 1)) (d4 : decode F.2.1 (pc + 4) = .ok (.ldc_w sc, 3)) (d7 : decode F.2.1 (pc + 7) = .ok (.invokespecial 300, 3)) (d10 : decode F.2.1 (pc + 10) = .ok (.athrow, 1)) : V D F (rmOf d mc ms) (QT D ws mc ms) k n pc locs st ws := by
  intro p l e s m args below meth c A H lc ls C hlen hkc hnc hP hD hS hl
  have hts := C.2.2.2.2.2.1
  have hE := C.2.2.2.2.2.2.2.2.2.1
  obtain ⟨adK, adV, hks, -⟩ := hE.2.2.2.2.1
  have hown : s.vm.findClass RX5 = some m.cls := by rw [← hF]; exact C.2.2.2.2.1
  have hfl : l.stackTraces = false := by
    unfold Launch.stackTraces
    rw [C.2.2.2.2.2.2.2.2.2.2]
    decide +kernel
  have hat : ∀ w ∈ wIo, w.before args s = true := vx_hat (B := xtrW) (fun w hw => hts w (of_decide_eq_true (List.all_eq_true.mp wIo_good w hw))) (fun w hw => of_decide_eq_true (List.all_eq_true.mp wIo_bad w hw)) (fun w hw => xtr_use hw (hE.2.2.2.2.2.2.2.2 w hw))
  intro T hT X
  by_cases htb : ∀ x ∈ c.exceptionTable.toList, False
  · obtain ⟨t2, a1, b1⟩ := vx_throwSW (p := p) (l := l) (e := e) (R := rmOf d mc ms) (m := m) (below := below) (mc := mc) (ms := ms) (free := A) (Qc := QC D (fun _ _ => False) A) (XC := XQ D ws A) (rest := st) (ls := ls) (pc := pc) (names := ["java/lang/RuntimeException", "java/lang/Exception"]) C.1 C.2.1 hfl hown (by decide +kernel) (by decide +kernel) (hts _ cl_io) (hts _ in_io) (hks i _ hi) hat (fun w hw => List.all_eq_true.mp wIo_ot w hw) hE.2.1 hE.2.2.1 hS (by rw [hl.1]; exact hlen ▸ C.2.2.1.symm) d0 d3 d4 d7 d10 (fun x hx => absurd (htb x hx) id) (show 2 + 3 < d by omega) (show _ + (13 * (2 + 1) + 43) ≤ 40 * d by omega) hk hn C.2.2.2.2.2.2.1
      (fun t _ h1 h2 => ⟨rfl, hP.kept (fun k x hx => h2 x.1 ((hP k x hx).lt)), hD, ⟨Nat.le_trans hS.1 h1, fun q z1 z2 => (h2 q (Nat.lt_of_lt_of_le z1 hS.1)).trans (hS.2.1 q z1 z2)⟩⟩) hS.2.2 hk hn T hT X
    exact ⟨t2, a1, fun _ => b1⟩
  · exact ⟨_, Steps.refl _, fun z => absurd z htb⟩
end THR
