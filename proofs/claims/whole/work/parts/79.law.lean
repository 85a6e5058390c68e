
/-! THE LAW's helper that writes; static calls of methods that catch -/
section LAWW
variable {D : va_G} {ad : Nat → Nat} {M : Mem} {A : AS} {y : Int32} {cap v : Nat} {T : List Nat}
def LwQ (D : va_G) (ad : Nat → Nat) (M : Mem) (T : List Nat) : va_W → Prop := fun w => ∃ (ad' : Nat → Nat) (M' : Mem), w = wl D ad' (outM M' (nI T.length)) ∧ (∃ cap, CapOK cap ∧ SbC M' cap T) ∧ FrB ad M ad' M'
theorem sp_L_writeOut (h : SI M 1 A) (hv : v < 6) (ht : th A (16 + v)) (hc : CapOK cap) (ho : SbC M cap T) : SpecH D 15 yL_writeOut cfL_writeOut [(0, 9, 12, 13)] [.ref (ad 0), .int (nI v), .ref (ad 165)] (wl D ad M) 4 532 (PX (fun y w => y = nI 0 ∧ LwQ D ad M (outT A v) w)) := by
  refine SpecH.of (by decide) rfl (Nat.le_of_ble_eq_true rfl) rfl ?_
  refine V_toH ?_
  refine E_aload2 (q := 1) dL_writeOut_0 rfl ?_
  refine E_iconst (v := nI 0) (q := 2) dL_writeOut_1 (by decide) rfl ?_
  refine E_aload0 (q := 3) dL_writeOut_2 rfl ?_
  refine E_iload1 (q := 4) dL_writeOut_3 rfl ?_
  refine E_callV (ar := [.int (nI v)]) (q := 7) lk_L_89 (sp_X5_writeOut h hv ht hc ho) rc_X5 (by decide) (by omega) (by omega) (Nat.le_of_ble_eq_true rfl) dL_writeOut_4 rfl rfl ?_
  rintro v' w ⟨r, hv', hr, ad', M', hw, hs', hf'⟩
  rw [hv', hr, hw, ← hf'.1 0 (by decide), ← hf'.1 165 (by decide)]
  refine E_i2l (q := 8) dL_writeOut_7 rfl ?_
  refine E_last (q := 9) sk_165 (by decide) (by decide) dL_writeOut_8 rfl ?_
  refine E_goto (q := 15) dL_writeOut_9 (by decide) ?_
  refine E_iconst (v := nI 0) (q := 16) dL_writeOut_15 (by decide) rfl ?_
  exact E_ireturn rfl rfl dL_writeOut_16 ⟨_, rfl, rfl, ad', M', rfl, hs', hf'⟩
theorem sp_LX_writeOut {p0 : Int32} (hs : SpecT D 10 yX5_writeOut cfX5_writeOut [.ref (ad 0), .int p0] (wl D ad M) 1 6) : SpecH D 15 yL_writeOut cfL_writeOut [(0, 9, 12, 13)] [.ref (ad 0), .int p0, .ref (ad 165)] (wl D ad M) 4 532 (PI (nI 1) (wl D ad M)) := by
  refine SpecH.of (by decide) rfl (Nat.le_of_ble_eq_true rfl) rfl ?_
  have hcat : ∀ q, V D cfL_writeOut (rmOf 15 4 532) (QM D (PI (nI 1) (wl D ad M)) 4 532) 1 6 12 [some (.ref (ad 0)), some (.int p0), some (.ref (ad 165)), none] [.ref q] (wl D ad M) := by
    intro q
    refine E_astore3 (q := 13) dL_writeOut_12 rfl rfl ?_
    refine E_iconst (v := nI 1) (q := 14) dL_writeOut_13 (by decide) rfl ?_
    exact E_ireturn rfl rfl dL_writeOut_14 (PI_of rfl rfl)
  refine E_aload2 (q := 1) dL_writeOut_0 rfl ?_
  refine E_iconst (v := nI 0) (q := 2) dL_writeOut_1 (by decide) rfl ?_
  refine E_aload0 (q := 3) dL_writeOut_2 rfl ?_
  refine E_iload1 (q := 4) dL_writeOut_3 rfl ?_
  exact E_callVH (ar := [.int p0]) lk_L_89 rfl hs rc_X5 (by decide) (by omega) (by omega) (Nat.le_of_ble_eq_true rfl) dL_writeOut_4 rfl rfl rfl rfl (fun q => V_toH (hcat q))
end LAWW
section CSH
variable {D : va_G} {F F' : Cfg} {Qf : QF} {k n pc q idx d d' mc ms mc' ms' : Nat} {locs : List (Option Value)} {st rest ar : List Value} {ws : va_W} {y : MethodName} {post : Option Value → va_W → Prop} {hh : List (Nat × Nat × Nat × Nat)}
def LkH (own : String) (idx : Nat) (y : MethodName) (F' : Cfg) (hh : List (Nat × Nat × Nat × Nat)) (n : Nat) : Prop := Cond.codeWith y F'.2.1 F'.2.2.1 F'.2.2.2 hh ∈ lw_good ∧ Cond.initialized y.cls ∈ lw_good ∧ (y.cls ≠ "java/lang/invoke/MethodHandle" ∧ y.cls ≠ "java/lang/invoke/VarHandle") ∧ (parseMethodDescriptor y.desc).map (fun d => d.parameters.length) = some n ∧ F'.2.2.1 ≤ 21 ∧ Cond.methodLink own idx y ∈ lw_good ∧ Cond.static y ∈ lw_good
theorem E_callSH (lk : LkH F.1 idx y F' hh ar.length) (hs : SpecH D d' y F' hh ar ws mc' ms' post) (hd' : d' < d) (hk : k + mc' ≤ mc) (hn : n + ms' ≤ ms) (hst : (rest.map fun v => v.category).sum ≤ 8) (hd : decode F.2.1 pc = .ok (.invokestatic idx, 3)) (hstk : st = ar.reverse ++ rest) (hq : pc + 3 = q)
    (kk : ∀ v ws', post v ws' → V D F (rmOf d mc ms) Qf (k + mc') (n + ms') q locs (v.toList ++ rest) ws') : V D F (rmOf d mc ms) Qf k n pc locs st ws := by
  intro p l e s m args below meth c A H lc ls C hlen hkc hnc hP hD hS hl
  subst hq; subst hstk
  have hts := C.2.2.2.2.2.1
  have hK := C.2.2.2.2.2.2.2.2.1
  have hA := C.2.2.2.2.2.2.2.1
  have hE := C.2.2.2.2.2.2.2.2.2.1
  obtain ⟨l1, l2, l3, l4, l5, l6, l7⟩ := lk
  have hG : GoodIn lw_good (wsH y F' hh) := fun w hw => by
    have hm : w ∈ lw_good := by
      rcases List.mem_cons.mp hw with rfl | hw
      · exact l1
      · exact hw
    exact ⟨hm, good_of_word (gd_word hm)⟩
  have hrm := room_ok (mc := mc) (ms := ms) (mc' := mc') (ms' := ms') hd' l5
  have hrun := vx_runSW (As := ar) (rest := rest) (cells := k) (slots := n) (g := F0 m pc ls (ar.reverse ++ rest)) (p := p) (l := l) (e := e) (below := below) (meth := meth) (locs := lc) ⟨C.1, C.2.1, C.2.2.1, C.2.2.2.2.1, hts⟩ (hs l H.size C.2.2.2.2.2.2.2.2.2.2) ⟨⟨rfl, rfl, hrm.1, hrm.2, pay_in hts hG, List.mem_cons_self⟩, hts _ l1, hts _ l2, l3, fun sig h => by rw [h] at l4; exact (Option.some.inj l4).symm, hts _ l6, hts _ l7⟩ ⟨PC_blind, fun U hU hW => PC_now hU hW hP hK hD hS hA hE⟩ rfl rfl (by rw [hl.1]; exact hlen) rfl (lv_room hst) hd ⟨hk, hn⟩
  refine va_callC hrun hS (va_A_in hD hS C.2.2.2.2.2.2.2.1) (va_A_in hD hS C.2.2.2.2.2.2.2.1) (fun v ws' H1 lc1 hp hP1 hD1 hS1 => ?_)
  exact kk v ws' hp p l e s m args below meth c A H1 lc1 ls C hlen hk hn hP1 hD1 hS1 hl
end CSH
