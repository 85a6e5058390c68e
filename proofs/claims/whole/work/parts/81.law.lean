
/-! CALLS out of the law's own frame: any room that is enough; the script -/
section LAWR
variable {D : va_G} {F F' : Cfg} {R : Room} {Qf : QF} {k n pc q idx d' mc' ms' : Nat} {locs : List (Option Value)} {st rest ar : List Value} {ws : va_W} {y : MethodName} {b : Nat} {post : Option Value → va_W → Prop} {hh : List (Nat × Nat × Nat × Nat)}
def RmOK (R : Room) (d' : Nat) : Prop := d' + 1 ≤ R.frames ∧ 40 + 40 * d' ≤ R.locals
theorem LkB.callBR {own : String} {args : Array Value} {s : State} {nn : Nat} (h : LkB y F' nn) (hl : Cond.methodLink own idx y ∈ lw_good) (hrm : RmOK R d') (hts : ∀ w ∈ lw_good, w.before args s = true) : CallB R s args own idx y F'.2.1 F'.2.2.1 F'.2.2.2 (wsOf y F') (rmOf d' mc' ms') mc' ms' nn :=
  callB_of nn hts (goodIn_wsOf h.2.1) rfl rfl rfl (hts _ h.1) (hts _ hl) ⟨h.2.2.1 ▸ h.2.2.2.1.1, h.2.2.1 ▸ h.2.2.2.1.2, h.2.2.2.2.1⟩ ⟨hrm.1, by have := h.2.2.2.2.2; have := hrm.2; show 8 + (F'.2.2.1 + 11) + 40 * d' ≤ R.locals; omega⟩
theorem E_callVR (lk : LkV F.1 idx y F' ar.length) (hs : Spec D d' y F' (.ref b :: ar) ws mc' ms' post) (hr : Recv ws b F'.1) (hrm : RmOK R d') (hk : k + mc' ≤ R.cells) (hn : n + ms' ≤ R.slots) (hst : (rest.map fun v => v.category).sum ≤ 8) (hd : decode F.2.1 pc = .ok (.invokevirtual idx, 3)) (hstk : st = ar.reverse ++ .ref b :: rest) (hq : pc + 3 = q)
    (kk : ∀ v ws', post v ws' → V D F R Qf (k + mc') (n + ms') q locs (v.toList ++ rest) ws') : V D F R Qf k n pc locs st ws := by
  intro p l e s m args below meth c A H lc ls C hlen hkc hnc hP hD hS hl
  subst hq; subst hstk
  obtain ⟨q0, ci, fs, T, N, hq0, hcl⟩ := hr
  have hts := C.2.2.2.2.2.1
  have hK := C.2.2.2.2.2.2.2.2.1
  have hA := C.2.2.2.2.2.2.2.1
  have hE := C.2.2.2.2.2.2.2.2.2.1
  have hrun := va_runV (As := ar) (rest := rest) (cells := k) (slots := n) (g := F0 m pc ls (ar.reverse ++ .ref b :: rest)) (p := p) (l := l) (e := e) (below := below) (meth := meth) (locs := lc) ⟨C.1, C.2.1, C.2.2.1, C.2.2.2.2.1, hts⟩ (hs l H.size C.2.2.2.2.2.2.2.2.2.2) ⟨lk.1.callBR lk.2.1 hrm hts, hts _ lk.2.2.1, hts _ lk.2.2.2⟩ ⟨PC_blind, va_recv hK hP hcl hq0, fun U hU hW => PC_now hU hW hP hK hD hS hA hE⟩ rfl rfl (by rw [hl.1]; exact hlen) rfl (lv_room hst) hd ⟨hk, hn⟩
  refine va_callC hrun hS (va_A_in hD hS C.2.2.2.2.2.2.2.1) (va_A_in hD hS C.2.2.2.2.2.2.2.1) (fun v ws' H1 lc1 hp hP1 hD1 hS1 => ?_)
  exact kk v ws' hp p l e s m args below meth c A H1 lc1 ls C hlen hk hn hP1 hD1 hS1 hl
theorem E_callSHR (lk : LkH F.1 idx y F' hh ar.length) (hs : SpecH D d' y F' hh ar ws mc' ms' post) (hrm : RmOK R d') (hk : k + mc' ≤ R.cells) (hn : n + ms' ≤ R.slots) (hst : (rest.map fun v => v.category).sum ≤ 8) (hd : decode F.2.1 pc = .ok (.invokestatic idx, 3)) (hstk : st = ar.reverse ++ rest) (hq : pc + 3 = q)
    (kk : ∀ v ws', post v ws' → V D F R Qf (k + mc') (n + ms') q locs (v.toList ++ rest) ws') : V D F R Qf k n pc locs st ws := by
  intro p l e s m args below meth c A H lc ls C hlen hkc hnc hP hD hS hl
  subst hq; subst hstk
  have hts := C.2.2.2.2.2.1
  have hK := C.2.2.2.2.2.2.2.2.1
  have hA := C.2.2.2.2.2.2.2.1
  have hE := C.2.2.2.2.2.2.2.2.2.1
  obtain ⟨l1, l2, l3, l4, l5, l6, l7⟩ := lk
  have hG : GoodIn lw_good (wsH y F' hh) := fun w hw => by
    have hm : w ∈ lw_good := by
      rcases List.mem_cons.mp hw with rfl | hw
      · exact l1
      · exact hw
    exact ⟨hm, good_of_word (gd_word hm)⟩
  have hrun := vx_runSW (As := ar) (rest := rest) (cells := k) (slots := n) (g := F0 m pc ls (ar.reverse ++ rest)) (p := p) (l := l) (e := e) (below := below) (meth := meth) (locs := lc) ⟨C.1, C.2.1, C.2.2.1, C.2.2.2.2.1, hts⟩ (hs l H.size C.2.2.2.2.2.2.2.2.2.2) ⟨⟨rfl, rfl, hrm.1, by have := hrm.2; show 8 + (F'.2.2.1 + 11) + 40 * d' ≤ R.locals; omega, pay_in hts hG, List.mem_cons_self⟩, hts _ l1, hts _ l2, l3, fun sig h => by rw [h] at l4; exact (Option.some.inj l4).symm, hts _ l6, hts _ l7⟩ ⟨PC_blind, fun U hU hW => PC_now hU hW hP hK hD hS hA hE⟩ rfl rfl (by rw [hl.1]; exact hlen) rfl (lv_room hst) hd ⟨hk, hn⟩
  refine va_callC hrun hS (va_A_in hD hS C.2.2.2.2.2.2.2.1) (va_A_in hD hS C.2.2.2.2.2.2.2.1) (fun v ws' H1 lc1 hp hP1 hD1 hS1 => ?_)
  exact kk v ws' hp p l e s m args below meth c A H1 lc1 ls C hlen hk hn hP1 hD1 hS1 hl
/-- the script's cell, that nobody writes -/
def StX (b L : Nat) (xs : Nat → Int32) : GF := fun s A => va_X b L xs s s.heap ∧ b < s.heap.size ∧ ¬ A b
variable {sb L : Nat} {xs : Nat → Int32} {rm : Room}
theorem E_sld {i : Nat} (hi : i < L) (hL : L < 2 ^ 31) (hd : decode F.2.1 pc = .ok (.iaload, 1)) (hq : pc + 1 = q) (kk : V D F rm (QG (StX sb L xs) Qf) k n q locs (.int (xs i) :: st) ws) : V D F rm (QG (StX sb L xs) Qf) k n pc locs (.int (nI i) :: .ref sb :: st) ws := by
  subst hq
  refine V_useG ?_
  intro p l e s m args below meth c A H lc ls C0 hG hlen hk hn hP hD hS hll
  refine va_sld C0.1 C0.2.1 hG.1 hG.2.1 hG.2.2 hS (vp_in_nI hi hL) hd ?_
  rw [nI_clamp (by omega)]
  exact kk p l e s m args below meth c A H lc ls C0 hlen hk hn hP hD hS hll
theorem E_slen (hd : decode F.2.1 pc = .ok (.arraylength, 1)) (hq : pc + 1 = q) (kk : V D F rm (QG (StX sb L xs) Qf) k n q locs (.int (nI L) :: st) ws) : V D F rm (QG (StX sb L xs) Qf) k n pc locs (.ref sb :: st) ws := by
  subst hq
  refine V_useG ?_
  intro p l e s m args below meth c A H lc ls C0 hG hlen hk hn hP hD hS hll
  exact va_slen C0.1 C0.2.1 hG.1 hG.2.1 hG.2.2 hS hd (kk p l e s m args below meth c A H lc ls C0 hlen hk hn hP hD hS hll)
end LAWR
