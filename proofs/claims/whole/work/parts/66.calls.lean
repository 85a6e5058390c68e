/-! CALLS of a private method of a class above, and of a super class's method -/
theorem smG : Cond.sameMethod RJ5 RJ5 "getValue" "()[B" ∈ lw_good := gdi 1367 (by decide +kernel) rfl
theorem spJ4 : Cond.superclass RJ4 RJ5 ∈ lw_good := gdi 340 (by decide +kernel) rfl
section VRX
variable {p : Program} {l : Launch} {e : Env} {R : Room} {s : State} {m : MethodId} {args : Array Value} {below : List Frame} {meth : Method} {c : Code} {H : Heap} {locs : List Loc} {cells slots : Nat}
variable {y : MethodName} {bytes cc : ByteArray} {maxL nL mc ms n index : Nat} {ret : Option FieldType} {ws : List Cond} {rm : Room} {Pc : Array Value → State → Prop} {Qc : Array Value → State → Outcome → State → Prop} {free : Addr → Prop} {Ts : List Cond} {own C : String} {b : Addr} {As rest : List Value} {g : JFrame}
theorem va_runPr (S : CallFix p m c cc nL s args Ts own) (hM : Met l y ws rm Pc Qc mc ms free) (cw : CallB R s args own index y bytes maxL ret ws rm mc ms n) (hin : (Cond.instanceMethod y).before args s = true) (hpr : (Cond.privateMethod y).before args s = true) (hse : (Cond.selects y.cls y y).before args s = true) (hp : PreV s H C b Pc As)
    (hg : g.method = m) (hn : As.length = n) (hsize : g.locals.size = nL) (hstack : g.stack = As.reverse ++ .ref b :: rest) (hW : 2 * g.monitorRoom + (rest.map fun v => v.category).sum ≤ 8) (hdg : decode cc g.pc = .ok (.invokevirtual index, 3)) (hf : cells + mc ≤ R.cells ∧ slots + ms ≤ R.slots) :
    va_Run p l e R s m args below meth c H locs cells slots mc ms g rest (Qc (Value.ref b :: As).toArray) (free) := by
  have hK : Back l R p e below s args y 3 8 (PreOf R mc ms Pc) (PostOf Qc mc ms free) := callBack cw hM hp.1
  obtain ⟨-, -, -, -, -, -, hcode, -, hy, hlen, hl⟩ := cw
  obtain ⟨hx, hb, hml, ho, -⟩ := S
  obtain ⟨-, ⟨cellB, hcB, hoB, hclB⟩, hPc⟩ := hp
  intro T hT X
  obtain ⟨v, vm₁, ⟨U', l2, c2, s2⟩, hW₁, X', ⟨g', mk, t, L, e1, e2, hq, h1, hL, h2, h3⟩, st⟩ := Stand.privateBack X hx (bytes := bytes) (maxL := maxL) (ret := ret) ho hl hin hse (Cond.privateMethod_at hpr) hcode hy hK hg (hsize.trans hml.symm) (Steps.refl _) (cell := cellB) (by rw [hT]; exact hcB) (fun z h => by rw [h] at hoB; cases hoB) (argsL := As) (rest := rest) (fun sig h => hn.trans (hlen sig h)) hstack hW (by rw [hb]; exact hdg)
    (fun vm₁ hW₁ => ⟨hf.1, hf.2, hPc (T.setVm vm₁) hT hW₁⟩)
  dsimp only [Pt.U, Pt.locs, Pt.cells, Pt.slots] at X' e1 e2 h1 h2 h3 st
  subst h1; subst h2; subst h3
  exact ⟨v, (T.setVm vm₁).calling g' mk (Value.ref b :: As).toArray, t, U', L, hT, X', hL, e1, e2, hq, fun target h => st.trans h⟩
theorem va_runUp {kc : Class} (S : CallFix p m c cc nL s args Ts own) (hM : Met l y ws rm Pc Qc mc ms free) (cw : CallB R s args own index y bytes maxL ret ws rm mc ms n) (hin : (Cond.instanceMethod y).before args s = true) (hno : y.name ≠ "<init>") (hsup : (Cond.superclass own y.cls).before args s = true) (hni : (Cond.sameMethod y.cls y.cls "getValue" "()[B").before args s = true) (hp : PreV s H C b Pc As) (hkc : ∀ cl, s.vm.findClass C = some cl → s.vm.classes[cl]? = some kc)
    (hg : g.method = m) (hn : As.length = n) (hsize : g.locals.size = nL) (hstack : g.stack = As.reverse ++ .ref b :: rest) (hW : 2 * g.monitorRoom + (rest.map fun v => v.category).sum ≤ 8) (hdg : decode cc g.pc = .ok (.invokespecial index, 3)) (hf : cells + mc ≤ R.cells ∧ slots + ms ≤ R.slots) :
    va_Run p l e R s m args below meth c H locs cells slots mc ms g rest (Qc (Value.ref b :: As).toArray) (free) := by
  have hK : Back l R p e below s args y 3 8 (PreOf R mc ms Pc) (PostOf Qc mc ms free) := callBack cw hM hp.1
  obtain ⟨-, -, -, -, -, -, hcode, -, hy, hlen, hl⟩ := cw
  obtain ⟨hx, hb, hml, ho, -⟩ := S
  obtain ⟨-, ⟨cellB, hcB, hoB, hclB⟩, hPc⟩ := hp
  obtain ⟨r0, r, hnm, hrm, hstatic, habs⟩ := Cond.instanceMethod_spec hin
  obtain ⟨cn, dk, kp, hcn, hdk, hkp, hsuper, -, -, hnid⟩ := Cond.superclass_spec ho hsup
  have hcn' : s.vm.findClass y.cls = some r0.cls := findClass_of_methodNamed hnm
  cases hcn.symm.trans hcn'
  obtain ⟨cx, ck, -, hcx, hck, hnif, -⟩ := Cond.sameMethod_found hni
  cases hcx.symm.trans hcn'
  obtain ⟨methL, cL, hmL, -, -, -, -, -, -, hsigL⟩ := Cond.code_spec hnm hcode
  cases hrm.symm.trans hmL
  have hsame : (Cond.sameMethod y.cls y.cls y.name y.desc).before args s = true := by
    have hfd : s.methodFound? y.cls y.name y.desc = some r0 := State.methodFound?_of_named hnm hy
    simp only [Cond.before, Cond.holds, Cond.value, hcn', hfd]
    rw [show s.methodNamed? ⟨y.cls, y.name, y.desc⟩ = some r0 from hnm]
    simp [hck, hnif]
  intro T hT X
  obtain ⟨v, vm₁, ⟨U', l2, c2, s2⟩, hW₁, X', ⟨g', mk, t, L, e1, e2, hq, h1, hL, h2, h3⟩, st⟩ := Stand.specialUpBack X hx (own := own) (owner := y.cls) (index := index) (x := y) ho hl hsame (show s.methodNamed? ⟨y.cls, y.name, y.desc⟩ = some r0 from hnm) hrm hstatic habs hno hdk hnid hcn' hsuper (Jvm.Free.SB.SBLen.isSubclass_self _ _ _ hck)
    (a := b) (cell := cellB) (by rw [hT]; exact hcB) (fun z h => by rw [h] at hoB; cases hoB) (hkc _ hclB) hK hg (hsize.trans hml.symm) (Steps.refl _) (argsL := As) (rest := rest) (hn.trans (hlen _ hsigL)) hstack hW (by rw [hb]; exact hdg)
    (fun vm₁ hW₁ => ⟨hf.1, hf.2, hPc (T.setVm vm₁) hT hW₁⟩)
  dsimp only [Pt.U, Pt.locs, Pt.cells, Pt.slots] at X' e1 e2 h1 h2 h3 st
  subst h1; subst h2; subst h3
  exact ⟨v, (T.setVm vm₁).calling g' mk (Value.ref b :: As).toArray, t, U', L, hT, X', hL, e1, e2, hq, fun target h => st.trans h⟩
end VRX
theorem pm_ens : yJ5_ensureCapacityInternal_d00df ∈ privN := List.mem_cons_self
theorem pm_cap : yJ5_newCapacity_0f7a4 ∈ privN := List.mem_cons_of_mem _ List.mem_cons_self
theorem se_lat : Cond.selects RJ4 yJ5_isLatin1_aae02 yJ5_isLatin1_aae02 ∈ lw_good := gdi 1275 (by decide +kernel) rfl
def LkP (own : String) (idx : Nat) (y : MethodName) (F' : Cfg) (n : Nat) : Prop := LkB y F' n ∧ Cond.methodLink own idx y ∈ lw_good ∧ Cond.instanceMethod y ∈ lw_good ∧ y ∈ privN ∧ y.cls = RJ5
def LkU (own : String) (idx : Nat) (y : MethodName) (F' : Cfg) (n : Nat) : Prop := LkB y F' n ∧ Cond.methodLink own idx y ∈ lw_good ∧ Cond.instanceMethod y ∈ lw_good ∧ y.name ≠ "<init>" ∧ own = RJ4 ∧ y.cls = RJ5
def LkC (own : String) (idx : Nat) (y : MethodName) (F' : Cfg) (n : Nat) (C : String) : Prop := LkB y F' n ∧ Cond.methodLink own idx y ∈ lw_good ∧ Cond.instanceMethod y ∈ lw_good ∧ Cond.selects C y y ∈ lw_good
section VCALLS
variable {D : va_G} {F F' : Cfg} {Qf : QF} {k n pc q d d' mc ms mc' ms' idx : Nat} {locs : List (Option Value)} {st rest ar : List Value} {ws : va_W} {y : MethodName} {b : Nat} {post : Option Value → va_W → Prop} {Cn : String}
theorem E_callC (lk : LkC F.1 idx y F' ar.length Cn) (hs : Spec D d' y F' (.ref b :: ar) ws mc' ms' post) (hr : Recv ws b Cn) (hd' : d' < d) (hk : k + mc' ≤ mc) (hn : n + ms' ≤ ms) (hst : (rest.map fun v => v.category).sum ≤ 8) (hd : decode F.2.1 pc = .ok (.invokevirtual idx, 3)) (hstk : st = ar.reverse ++ .ref b :: rest) (hq : pc + 3 = q)
    (kk : ∀ v ws', post v ws' → V D F (rmOf d mc ms) Qf (k + mc') (n + ms') q locs (v.toList ++ rest) ws') : V D F (rmOf d mc ms) Qf k n pc locs st ws := by
  intro p l e s m args below meth c A H lc ls C hlen hkc hnc hP hD hS hl
  subst hq; subst hstk
  obtain ⟨q0, ci, fs, T, N, hq0, hcl⟩ := hr
  have hts := C.2.2.2.2.2.1
  have hK := C.2.2.2.2.2.2.2.2.1
  have hA := C.2.2.2.2.2.2.2.1
  have hE := C.2.2.2.2.2.2.2.2.2.1
  have hrun := va_runV (As := ar) (rest := rest) (cells := k) (slots := n) (g := F0 m pc ls (ar.reverse ++ .ref b :: rest)) (p := p) (l := l) (e := e) (below := below) (meth := meth) (locs := lc) ⟨C.1, C.2.1, C.2.2.1, C.2.2.2.2.1, hts⟩ (hs l H.size C.2.2.2.2.2.2.2.2.2.2) ⟨lk.1.callB lk.2.1 hd' hts, hts _ lk.2.2.1, hts _ lk.2.2.2⟩ ⟨PC_blind, va_recv hK hP hcl hq0, fun U hU hW => PC_now hU hW hP hK hD hS hA hE⟩ rfl rfl (by rw [hl.1]; exact hlen) rfl (lv_room hst) hd ⟨hk, hn⟩
  refine va_callC hrun hS (va_A_in hD hS C.2.2.2.2.2.2.2.1) (va_A_in hD hS C.2.2.2.2.2.2.2.1) (fun v ws' H1 lc1 hp hP1 hD1 hS1 => ?_)
  exact kk v ws' hp p l e s m args below meth c A H1 lc1 ls C hlen hk hn hP1 hD1 hS1 hl
theorem E_callP (lk : LkP F.1 idx y F' ar.length) (hs : Spec D d' y F' (.ref b :: ar) ws mc' ms' post) (hr : Recv ws b Cn) (hd' : d' < d) (hk : k + mc' ≤ mc) (hn : n + ms' ≤ ms) (hst : (rest.map fun v => v.category).sum ≤ 8) (hd : decode F.2.1 pc = .ok (.invokevirtual idx, 3)) (hstk : st = ar.reverse ++ .ref b :: rest) (hq : pc + 3 = q)
    (kk : ∀ v ws', post v ws' → V D F (rmOf d mc ms) Qf (k + mc') (n + ms') q locs (v.toList ++ rest) ws') : V D F (rmOf d mc ms) Qf k n pc locs st ws := by
  intro p l e s m args below meth c A H lc ls C hlen hkc hnc hP hD hS hl
  subst hq; subst hstk
  obtain ⟨q0, ci, fs, T, N, hq0, hcl⟩ := hr
  have hts := C.2.2.2.2.2.1
  have hK := C.2.2.2.2.2.2.2.2.1
  have hA := C.2.2.2.2.2.2.2.1
  have hE := C.2.2.2.2.2.2.2.2.2.1
  obtain ⟨cx, ck, -, hcx, hck, hnif, -⟩ := Cond.sameMethod_found (hts _ smG)
  have hpv : (Cond.privateMethod y).before args s = true := hE.2.2.2.2.2.2.2.1 y lk.2.2.2.1
  have hse := Stand.selects_self_of_private (lk.2.2.2.2 ▸ hcx) hck hnif (Cond.privateMethod_at hpv) (hts _ lk.2.2.1) (by rw [lk.2.2.2.2]; exact ⟨by decide, by decide⟩)
  have hrun := va_runPr (As := ar) (rest := rest) (cells := k) (slots := n) (g := F0 m pc ls (ar.reverse ++ .ref b :: rest)) (p := p) (l := l) (e := e) (below := below) (meth := meth) (locs := lc) ⟨C.1, C.2.1, C.2.2.1, C.2.2.2.2.1, hts⟩ (hs l H.size C.2.2.2.2.2.2.2.2.2.2) (lk.1.callB lk.2.1 hd' hts) (hts _ lk.2.2.1) hpv hse ⟨PC_blind, va_recv hK hP hcl hq0, fun U hU hW => PC_now hU hW hP hK hD hS hA hE⟩ rfl rfl (by rw [hl.1]; exact hlen) rfl (lv_room hst) hd ⟨hk, hn⟩
  refine va_callC hrun hS (va_A_in hD hS C.2.2.2.2.2.2.2.1) (va_A_in hD hS C.2.2.2.2.2.2.2.1) (fun v ws' H1 lc1 hp hP1 hD1 hS1 => ?_)
  exact kk v ws' hp p l e s m args below meth c A H1 lc1 ls C hlen hk hn hP1 hD1 hS1 hl
theorem E_callU (lk : LkU F.1 idx y F' ar.length) (hs : Spec D d' y F' (.ref b :: ar) ws mc' ms' post) (hr : Recv ws b Cn) (hd' : d' < d) (hk : k + mc' ≤ mc) (hn : n + ms' ≤ ms) (hst : (rest.map fun v => v.category).sum ≤ 8) (hd : decode F.2.1 pc = .ok (.invokespecial idx, 3)) (hstk : st = ar.reverse ++ .ref b :: rest) (hq : pc + 3 = q)
    (kk : ∀ v ws', post v ws' → V D F (rmOf d mc ms) Qf (k + mc') (n + ms') q locs (v.toList ++ rest) ws') : V D F (rmOf d mc ms) Qf k n pc locs st ws := by
  intro p l e s m args below meth c A H lc ls C hlen hkc hnc hP hD hS hl
  subst hq; subst hstk
  obtain ⟨q0, ci, fs, T, N, hq0, hcl⟩ := hr
  have hts := C.2.2.2.2.2.1
  have hK := C.2.2.2.2.2.2.2.2.1
  have hA := C.2.2.2.2.2.2.2.1
  have hE := C.2.2.2.2.2.2.2.2.2.1
  obtain ⟨hf1, kC, hkC, -⟩ := (hK.1 ci _ hcl).2
  have hrun := va_runUp (kc := kC) (As := ar) (rest := rest) (cells := k) (slots := n) (g := F0 m pc ls (ar.reverse ++ .ref b :: rest)) (p := p) (l := l) (e := e) (below := below) (meth := meth) (locs := lc) ⟨C.1, C.2.1, C.2.2.1, C.2.2.2.2.1, hts⟩ (hs l H.size C.2.2.2.2.2.2.2.2.2.2) (lk.1.callB lk.2.1 hd' hts) (hts _ lk.2.2.1) lk.2.2.2.1 (by rw [lk.2.2.2.2.1, lk.2.2.2.2.2]; exact hts _ spJ4) (by rw [lk.2.2.2.2.2]; exact hts _ smG) ⟨PC_blind, va_recv hK hP hcl hq0, fun U hU hW => PC_now hU hW hP hK hD hS hA hE⟩ (fun cl h => by cases hf1.symm.trans h; exact hkC) rfl rfl (by rw [hl.1]; exact hlen) rfl (lv_room hst) hd ⟨hk, hn⟩
  refine va_callC hrun hS (va_A_in hD hS C.2.2.2.2.2.2.2.1) (va_A_in hD hS C.2.2.2.2.2.2.2.1) (fun v ws' H1 lc1 hp hP1 hD1 hS1 => ?_)
  exact kk v ws' hp p l e s m args below meth c A H1 lc1 ls C hlen hk hn hP1 hD1 hS1 hl
end VCALLS
