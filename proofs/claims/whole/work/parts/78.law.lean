
/-! THE LAW's helpers: they catch -/
section THH
variable {D : va_G} {F F' : Cfg} {rm : Room} {Qf : QF} {k n pc q idx d d' mc ms mc' ms' : Nat} {locs : List (Option Value)} {st rest ar : List Value} {ws : va_W} {y : MethodName} {b : Nat} {post : Option Value → va_W → Prop} {hh : List (Nat × Nat × Nat × Nat)}
def wsH (y : MethodName) (F : Cfg) (hh : List (Nat × Nat × Nat × Nat)) : List Cond := Cond.codeWith y F.2.1 F.2.2.1 F.2.2.2 hh :: lw_good
def SpecH (D : va_G) (d : Nat) (y : MethodName) (F : Cfg) (hh : List (Nat × Nat × Nat × Nat)) (args : List Value) (ws : va_W) (mc ms : Nat) (post : Option Value → va_W → Prop) : Prop :=
  ∀ (l : Launch) (sz : Nat), l.flags = flags0 → Met l y (wsH y F hh) (rmOf d mc ms) (PC D args ws sz) (QC D post (va_A ws sz)) mc ms (va_A ws sz)
def QH (D : va_G) (post : Option Value → va_W → Prop) (mc ms : Nat) (hh : List (Nat × Nat × Nat × Nat)) : QF := fun _ s _ args below c A t => c.exceptionTable.toList = tableOf hh → vx_MQ below (QC D post A) (fun _ _ _ => False) args s mc ms A t
theorem SpecH.of {args : List Value} (hy : plainName y.cls = true) (hc : y.cls = F.1) (hn : (lg_sl args).length ≤ F.2.2.1) (hle : locsOf args F.2.2.1 = locs)
    (hv : V D F (rmOf d mc ms) (QH D post mc ms hh) 0 0 0 locs [] ws) : SpecH D d y F hh args ws mc ms post := by
  intro l sz hfl
  have hX : vx_Met l y (wsH y F hh) (rmOf d mc ms) (PC D args ws sz) (QC D post (va_A ws sz)) (fun _ _ _ => False) mc ms (va_A ws sz) := by
    refine vx_ofWH (cc := F.2.1) (maxL := F.2.2.1) (ret := F.2.2.2) (hh := hh) hy rfl ?_
    intro p e s m a below meth c s₁ B hml hvv
    have htb := vx_table (x := y) B (atoms_spec (ws := wsH y F hh) B.pre (Cond.codeWith y F.2.1 F.2.2.1 F.2.2.2 hh) List.mem_cons_self)
    obtain ⟨rfl, hsz, hP, hK, hD0, hE⟩ := hvv
    subst hsz
    have hD := hD0.self (sz := s.heap.size)
    have hl := lv_entry args (n := F.2.2.1) hn
    rw [lg_entry_eq]
    subst hle
    intro T hT X
    obtain ⟨t, a1, b1⟩ := hv p l e s m _ below meth c (va_A ws s.heap.size) s.heap [] _ ⟨B.exec, B.bytes, hml, B.returns, hc ▸ findClass_of_methodNamed B.named, fun w h => atoms_spec (ws := wsH y F hh) B.pre w (List.mem_cons_of_mem _ h), B.notSynchronized, fun q h => Or.inr h, hK, hE, hfl⟩ (by simp [locsOf]) (Nat.zero_le _) (Nat.zero_le _) hP hD va_S.rf (LocOK.entry hl) T hT X
    exact ⟨t, a1, b1 htb⟩
  refine MetFree.mono hX (fun _ _ q => q) (fun _ _ _ _ _ q => q) ?_
  rintro a st o t - (h | ⟨q, -, hT⟩)
  · exact h
  · obtain ⟨E, ce, L, hf, -⟩ := hT
    exact absurd hf id
theorem V_toH (h : V D F rm (QM D post mc ms) k n pc locs st ws) : V D F rm (QH D post mc ms hh) k n pc locs st ws := by
  intro p l e s m args below meth c A H lc ls C h1 h2 h3 h4 h5 h6 h7 T hT X
  obtain ⟨t, a1, o, b1, b2, b3, b4⟩ := h p l e s m args below meth c A H lc ls C h1 h2 h3 h4 h5 h6 h7 T hT X
  exact ⟨t, a1, fun _ => ⟨o, b1, b2, Or.inl ⟨b3, b4⟩⟩⟩
theorem cl_L13 : Cond.classLink RL 13 ioN ∈ lw_good := gdi 913 (by decide +kernel) rfl
theorem E_callVH {x : ExceptionTableEntry} (lk : LkV F.1 idx y F' ar.length) (hF : F.1 = RL) (hs : SpecT D d' y F' (.ref b :: ar) ws mc' ms') (hr : Recv ws b F'.1) (hd' : d' < d) (hk : k + mc' ≤ mc) (hn : n + ms' ≤ ms) (hst : (rest.map fun v => v.category).sum ≤ 8) (hd : decode F.2.1 pc = .ok (.invokevirtual idx, 3)) (hstk : st = ar.reverse ++ .ref b :: rest)
    (htab : tableOf hh = [x]) (hx : covers x pc = true) (h13 : x.catchType = 13) (kk : ∀ q, V D F (rmOf d mc ms) (QH D post mc ms hh) (k + mc') (n + ms') x.handlerPc locs [.ref q] ws) : V D F (rmOf d mc ms) (QH D post mc ms hh) k n pc locs st ws := by
  intro p l e s m args below meth c A H lc ls C hlen hkc hnc hP hD hS hl
  subst hstk
  obtain ⟨q0, ci, fs, T, N, hq0, hcl⟩ := hr
  have hts := C.2.2.2.2.2.1
  have hK := C.2.2.2.2.2.2.2.2.1
  have hA := C.2.2.2.2.2.2.2.1
  have hE := C.2.2.2.2.2.2.2.2.2.1
  have hrun := vx_runV (As := ar) (rest := rest) (cells := k) (slots := n) (g := F0 m pc ls (ar.reverse ++ .ref b :: rest)) (p := p) (l := l) (e := e) (below := below) (meth := meth) (locs := lc) ⟨C.1, C.2.1, C.2.2.1, C.2.2.2.2.1, hts⟩ (hs l H.size C.2.2.2.2.2.2.2.2.2.2) ⟨lk.1.callB lk.2.1 hd' hts, hts _ lk.2.2.1, hts _ lk.2.2.2⟩ ⟨PC_blind, va_recv hK hP hcl hq0, fun U hU hW => PC_now hU hW hP hK hD hS hA hE⟩ rfl rfl (by rw [hl.1]; exact hlen) rfl (lv_room hst) hd ⟨hk, hn⟩
  intro T1 hT X
  rcases hrun T1 hT X with ⟨v, st₀, t, T', L, h0, X', hL, e1, e2, ⟨⟨v', ws', -, hf, -⟩, -⟩, -⟩ | ⟨q, st₀, t, T', L, E, ce, h0, X', hL, e1, e2, ⟨hEn, hP2, hD2, hFr⟩, hce, hcv, hcE, hsteps⟩
  · exact absurd hf id
  · obtain ⟨k1, k2, k3⟩ := vx_keep h0 e1 hS (fun q _ h => va_A_in hD hS hA q h) (fun q h => va_A_in hD hS hA q h) hL hFr
    by_cases htb : c.exceptionTable.toList = tableOf hh
    · subst hEn
      have hcast : (Cond.castable ioN ioN).before args s = true := xtr_use (w := .castable ioN ioN) (List.mem_cons_self) (hE.2.2.2.2.2.2.2.2 _ List.mem_cons_self)
      have hown : s.vm.findClass RL = some m.cls := by rw [← hF]; exact C.2.2.2.2.1
      have hcat := vx_catch (p := p) (l := l) (e := e) (R := rmOf d mc ms) (m := m) (args := args) (below := below) (meth := meth) (c := c) (H := T'.heap) (locs := lc ++ L) (cells := k + mc') (slots := n + ms') (ls := ls) (rest := rest) (pc := pc) (q := q) (Q := QH D post mc ms hh l s m args below c A) (name := ioN) hown [] x [] (by rw [htb, htab]; rfl) (fun z hz => by cases hz) hx (by rw [h13]; decide) (by rw [h13]; exact hts _ cl_L13) hcast (by rw [e1]; exact hce) hcv hcE
        (kk q p l e s m args below meth c A T'.heap (lc ++ L) ls C hlen hk hn (by rw [e1]; exact hP2) hD k3 hl)
      obtain ⟨t2, a1, b1⟩ := hcat T' rfl X'
      exact ⟨t2, hsteps.trans a1, b1⟩
    · exact ⟨_, Steps.refl _, fun z => absurd z htb⟩
end THH
section LAWH
variable {D : va_G} {ad : Nat → Nat} {M : Mem} {A : AS} {y : Int32}
def outM (M : Mem) (y : Int32) : Mem := upd2 (upd2 M 165 0 (lgHi y.toInt64)) 165 1 (lgLo y.toInt64)
abbrev cfL_volumeNumber : Cfg := (RL, cL_volumeNumber, 5, (some .int))
theorem cw_L_volumeNumber : Cond.codeWith yL_volumeNumber cL_volumeNumber 5 (some .int) [(0, 10, 13, 13)] ∈ lw_good := gdi 912 (by decide +kernel) rfl
theorem sp_L_volumeNumber {p0 p1 : Int32} {d : Nat} (hd : d < 15) (hs : Spec D d yX5_volumeNumber cfX5_volumeNumber [.ref (ad 0), .int p0, .int p1] (wl D ad M) 0 0 (PI y (wl D ad M))) : SpecH D 15 yL_volumeNumber cfL_volumeNumber [(0, 10, 13, 13)] [.ref (ad 0), .int p0, .int p1, .ref (ad 165)] (wl D ad M) 1 6 (PI (nI 0) (wl D ad (outM M y))) := by
  refine SpecH.of (by decide) rfl (Nat.le_of_ble_eq_true rfl) rfl ?_
  refine V_toH ?_
  refine E_aload3 (q := 1) dL_volumeNumber_0 rfl ?_
  refine E_iconst (v := nI 0) (q := 2) dL_volumeNumber_1 (by decide) rfl ?_
  refine E_aload0 (q := 3) dL_volumeNumber_2 rfl ?_
  refine E_iload1 (q := 4) dL_volumeNumber_3 rfl ?_
  refine E_iload2 (q := 5) dL_volumeNumber_4 rfl ?_
  refine E_callV (ar := [.int p0, .int p1]) (q := 8) lk_L_7 hs rc_X5 hd (by omega) (by omega) (Nat.le_of_ble_eq_true rfl) dL_volumeNumber_5 rfl rfl ?_
  rintro v w ⟨hv, hw⟩
  rw [hv, hw]
  refine E_i2l (q := 9) dL_volumeNumber_8 rfl ?_
  refine E_last (q := 10) sk_165 (by decide) (by decide) dL_volumeNumber_9 rfl ?_
  refine E_goto (q := 17) dL_volumeNumber_10 (by decide) ?_
  refine E_iconst (v := nI 0) (q := 18) dL_volumeNumber_17 (by decide) rfl ?_
  exact E_ireturn rfl rfl dL_volumeNumber_18 (PI_of rfl rfl)
theorem sp_LX_volumeNumber {p0 p1 : Int32} (hs : SpecT D 10 yX5_volumeNumber cfX5_volumeNumber [.ref (ad 0), .int p0, .int p1] (wl D ad M) 1 6) : SpecH D 15 yL_volumeNumber cfL_volumeNumber [(0, 10, 13, 13)] [.ref (ad 0), .int p0, .int p1, .ref (ad 165)] (wl D ad M) 1 6 (PI (nI 1) (wl D ad M)) := by
  refine SpecH.of (by decide) rfl (Nat.le_of_ble_eq_true rfl) rfl ?_
  have hcat : ∀ q, V D cfL_volumeNumber (rmOf 15 1 6) (QM D (PI (nI 1) (wl D ad M)) 1 6) 1 6 13 [some (.ref (ad 0)), some (.int p0), some (.int p1), some (.ref (ad 165)), none] [.ref q] (wl D ad M) := by
    intro q
    refine E_astore4 (q := 15) dL_volumeNumber_13 rfl rfl ?_
    refine E_iconst (v := nI 1) (q := 16) dL_volumeNumber_15 (by decide) rfl ?_
    exact E_ireturn rfl rfl dL_volumeNumber_16 (PI_of rfl rfl)
  refine E_aload3 (q := 1) dL_volumeNumber_0 rfl ?_
  refine E_iconst (v := nI 0) (q := 2) dL_volumeNumber_1 (by decide) rfl ?_
  refine E_aload0 (q := 3) dL_volumeNumber_2 rfl ?_
  refine E_iload1 (q := 4) dL_volumeNumber_3 rfl ?_
  refine E_iload2 (q := 5) dL_volumeNumber_4 rfl ?_
  exact E_callVH (ar := [.int p0, .int p1]) lk_L_7 rfl hs rc_X5 (by decide) (by omega) (by omega) (Nat.le_of_ble_eq_true rfl) dL_volumeNumber_5 rfl rfl rfl rfl (fun q => V_toH (hcat q))
abbrev cfL_snapshotNumber : Cfg := (RL, cL_snapshotNumber, 5, (some .int))
theorem cw_L_snapshotNumber : Cond.codeWith yL_snapshotNumber cL_snapshotNumber 5 (some .int) [(0, 10, 13, 13)] ∈ lw_good := gdi 991 (by decide +kernel) rfl
theorem sp_L_snapshotNumber {p0 p1 : Int32} {d : Nat} (hd : d < 15) (hs : Spec D d yX5_snapshotNumber cfX5_snapshotNumber [.ref (ad 0), .int p0, .int p1] (wl D ad M) 0 0 (PI y (wl D ad M))) : SpecH D 15 yL_snapshotNumber cfL_snapshotNumber [(0, 10, 13, 13)] [.ref (ad 0), .int p0, .int p1, .ref (ad 165)] (wl D ad M) 1 6 (PI (nI 0) (wl D ad (outM M y))) := by
  refine SpecH.of (by decide) rfl (Nat.le_of_ble_eq_true rfl) rfl ?_
  refine V_toH ?_
  refine E_aload3 (q := 1) dL_snapshotNumber_0 rfl ?_
  refine E_iconst (v := nI 0) (q := 2) dL_snapshotNumber_1 (by decide) rfl ?_
  refine E_aload0 (q := 3) dL_snapshotNumber_2 rfl ?_
  refine E_iload1 (q := 4) dL_snapshotNumber_3 rfl ?_
  refine E_iload2 (q := 5) dL_snapshotNumber_4 rfl ?_
  refine E_callV (ar := [.int p0, .int p1]) (q := 8) lk_L_15 hs rc_X5 hd (by omega) (by omega) (Nat.le_of_ble_eq_true rfl) dL_snapshotNumber_5 rfl rfl ?_
  rintro v w ⟨hv, hw⟩
  rw [hv, hw]
  refine E_i2l (q := 9) dL_snapshotNumber_8 rfl ?_
  refine E_last (q := 10) sk_165 (by decide) (by decide) dL_snapshotNumber_9 rfl ?_
  refine E_goto (q := 17) dL_snapshotNumber_10 (by decide) ?_
  refine E_iconst (v := nI 0) (q := 18) dL_snapshotNumber_17 (by decide) rfl ?_
  exact E_ireturn rfl rfl dL_snapshotNumber_18 (PI_of rfl rfl)
theorem sp_LX_snapshotNumber {p0 p1 : Int32} (hs : SpecT D 10 yX5_snapshotNumber cfX5_snapshotNumber [.ref (ad 0), .int p0, .int p1] (wl D ad M) 1 6) : SpecH D 15 yL_snapshotNumber cfL_snapshotNumber [(0, 10, 13, 13)] [.ref (ad 0), .int p0, .int p1, .ref (ad 165)] (wl D ad M) 1 6 (PI (nI 1) (wl D ad M)) := by
  refine SpecH.of (by decide) rfl (Nat.le_of_ble_eq_true rfl) rfl ?_
  have hcat : ∀ q, V D cfL_snapshotNumber (rmOf 15 1 6) (QM D (PI (nI 1) (wl D ad M)) 1 6) 1 6 13 [some (.ref (ad 0)), some (.int p0), some (.int p1), some (.ref (ad 165)), none] [.ref q] (wl D ad M) := by
    intro q
    refine E_astore4 (q := 15) dL_snapshotNumber_13 rfl rfl ?_
    refine E_iconst (v := nI 1) (q := 16) dL_snapshotNumber_15 (by decide) rfl ?_
    exact E_ireturn rfl rfl dL_snapshotNumber_16 (PI_of rfl rfl)
  refine E_aload3 (q := 1) dL_snapshotNumber_0 rfl ?_
  refine E_iconst (v := nI 0) (q := 2) dL_snapshotNumber_1 (by decide) rfl ?_
  refine E_aload0 (q := 3) dL_snapshotNumber_2 rfl ?_
  refine E_iload1 (q := 4) dL_snapshotNumber_3 rfl ?_
  refine E_iload2 (q := 5) dL_snapshotNumber_4 rfl ?_
  exact E_callVH (ar := [.int p0, .int p1]) lk_L_15 rfl hs rc_X5 (by decide) (by omega) (by omega) (Nat.le_of_ble_eq_true rfl) dL_snapshotNumber_5 rfl rfl rfl rfl (fun q => V_toH (hcat q))
abbrev cfL_snapshotAt : Cfg := (RL, cL_snapshotAt, 5, (some .int))
theorem cw_L_snapshotAt : Cond.codeWith yL_snapshotAt cL_snapshotAt 5 (some .int) [(0, 10, 13, 13)] ∈ lw_good := gdi 1008 (by decide +kernel) rfl
theorem sp_L_snapshotAt {p0 p1 : Int32} {d : Nat} (hd : d < 15) (hs : Spec D d yX5_snapshotAt cfX5_snapshotAt [.ref (ad 0), .int p0, .int p1] (wl D ad M) 0 0 (PI y (wl D ad M))) : SpecH D 15 yL_snapshotAt cfL_snapshotAt [(0, 10, 13, 13)] [.ref (ad 0), .int p0, .int p1, .ref (ad 165)] (wl D ad M) 1 6 (PI (nI 0) (wl D ad (outM M y))) := by
  refine SpecH.of (by decide) rfl (Nat.le_of_ble_eq_true rfl) rfl ?_
  refine V_toH ?_
  refine E_aload3 (q := 1) dL_snapshotAt_0 rfl ?_
  refine E_iconst (v := nI 0) (q := 2) dL_snapshotAt_1 (by decide) rfl ?_
  refine E_aload0 (q := 3) dL_snapshotAt_2 rfl ?_
  refine E_iload1 (q := 4) dL_snapshotAt_3 rfl ?_
  refine E_iload2 (q := 5) dL_snapshotAt_4 rfl ?_
  refine E_callV (ar := [.int p0, .int p1]) (q := 8) lk_L_18 hs rc_X5 hd (by omega) (by omega) (Nat.le_of_ble_eq_true rfl) dL_snapshotAt_5 rfl rfl ?_
  rintro v w ⟨hv, hw⟩
  rw [hv, hw]
  refine E_i2l (q := 9) dL_snapshotAt_8 rfl ?_
  refine E_last (q := 10) sk_165 (by decide) (by decide) dL_snapshotAt_9 rfl ?_
  refine E_goto (q := 17) dL_snapshotAt_10 (by decide) ?_
  refine E_iconst (v := nI 0) (q := 18) dL_snapshotAt_17 (by decide) rfl ?_
  exact E_ireturn rfl rfl dL_snapshotAt_18 (PI_of rfl rfl)
theorem sp_LX_snapshotAt {p0 p1 : Int32} (hs : SpecT D 10 yX5_snapshotAt cfX5_snapshotAt [.ref (ad 0), .int p0, .int p1] (wl D ad M) 1 6) : SpecH D 15 yL_snapshotAt cfL_snapshotAt [(0, 10, 13, 13)] [.ref (ad 0), .int p0, .int p1, .ref (ad 165)] (wl D ad M) 1 6 (PI (nI 1) (wl D ad M)) := by
  refine SpecH.of (by decide) rfl (Nat.le_of_ble_eq_true rfl) rfl ?_
  have hcat : ∀ q, V D cfL_snapshotAt (rmOf 15 1 6) (QM D (PI (nI 1) (wl D ad M)) 1 6) 1 6 13 [some (.ref (ad 0)), some (.int p0), some (.int p1), some (.ref (ad 165)), none] [.ref q] (wl D ad M) := by
    intro q
    refine E_astore4 (q := 15) dL_snapshotAt_13 rfl rfl ?_
    refine E_iconst (v := nI 1) (q := 16) dL_snapshotAt_15 (by decide) rfl ?_
    exact E_ireturn rfl rfl dL_snapshotAt_16 (PI_of rfl rfl)
  refine E_aload3 (q := 1) dL_snapshotAt_0 rfl ?_
  refine E_iconst (v := nI 0) (q := 2) dL_snapshotAt_1 (by decide) rfl ?_
  refine E_aload0 (q := 3) dL_snapshotAt_2 rfl ?_
  refine E_iload1 (q := 4) dL_snapshotAt_3 rfl ?_
  refine E_iload2 (q := 5) dL_snapshotAt_4 rfl ?_
  exact E_callVH (ar := [.int p0, .int p1]) lk_L_18 rfl hs rc_X5 (by decide) (by omega) (by omega) (Nat.le_of_ble_eq_true rfl) dL_snapshotAt_5 rfl rfl rfl rfl (fun q => V_toH (hcat q))
abbrev cfL_clonesOf : Cfg := (RL, cL_clonesOf, 4, (some .int))
theorem cw_L_clonesOf : Cond.codeWith yL_clonesOf cL_clonesOf 4 (some .int) [(0, 9, 12, 13)] ∈ lw_good := gdi 1015 (by decide +kernel) rfl
theorem sp_L_clonesOf {p0 : Int32} {d : Nat} (hd : d < 15) (hs : Spec D d yX5_clonesOf cfX5_clonesOf [.ref (ad 0), .int p0] (wl D ad M) 0 0 (PI y (wl D ad M))) : SpecH D 15 yL_clonesOf cfL_clonesOf [(0, 9, 12, 13)] [.ref (ad 0), .int p0, .ref (ad 165)] (wl D ad M) 1 6 (PI (nI 0) (wl D ad (outM M y))) := by
  refine SpecH.of (by decide) rfl (Nat.le_of_ble_eq_true rfl) rfl ?_
  refine V_toH ?_
  refine E_aload2 (q := 1) dL_clonesOf_0 rfl ?_
  refine E_iconst (v := nI 0) (q := 2) dL_clonesOf_1 (by decide) rfl ?_
  refine E_aload0 (q := 3) dL_clonesOf_2 rfl ?_
  refine E_iload1 (q := 4) dL_clonesOf_3 rfl ?_
  refine E_callV (ar := [.int p0]) (q := 7) lk_L_21 hs rc_X5 hd (by omega) (by omega) (Nat.le_of_ble_eq_true rfl) dL_clonesOf_4 rfl rfl ?_
  rintro v w ⟨hv, hw⟩
  rw [hv, hw]
  refine E_i2l (q := 8) dL_clonesOf_7 rfl ?_
  refine E_last (q := 9) sk_165 (by decide) (by decide) dL_clonesOf_8 rfl ?_
  refine E_goto (q := 15) dL_clonesOf_9 (by decide) ?_
  refine E_iconst (v := nI 0) (q := 16) dL_clonesOf_15 (by decide) rfl ?_
  exact E_ireturn rfl rfl dL_clonesOf_16 (PI_of rfl rfl)
theorem sp_LX_clonesOf {p0 : Int32} (hs : SpecT D 10 yX5_clonesOf cfX5_clonesOf [.ref (ad 0), .int p0] (wl D ad M) 1 6) : SpecH D 15 yL_clonesOf cfL_clonesOf [(0, 9, 12, 13)] [.ref (ad 0), .int p0, .ref (ad 165)] (wl D ad M) 1 6 (PI (nI 1) (wl D ad M)) := by
  refine SpecH.of (by decide) rfl (Nat.le_of_ble_eq_true rfl) rfl ?_
  have hcat : ∀ q, V D cfL_clonesOf (rmOf 15 1 6) (QM D (PI (nI 1) (wl D ad M)) 1 6) 1 6 12 [some (.ref (ad 0)), some (.int p0), some (.ref (ad 165)), none] [.ref q] (wl D ad M) := by
    intro q
    refine E_astore3 (q := 13) dL_clonesOf_12 rfl rfl ?_
    refine E_iconst (v := nI 1) (q := 14) dL_clonesOf_13 (by decide) rfl ?_
    exact E_ireturn rfl rfl dL_clonesOf_14 (PI_of rfl rfl)
  refine E_aload2 (q := 1) dL_clonesOf_0 rfl ?_
  refine E_iconst (v := nI 0) (q := 2) dL_clonesOf_1 (by decide) rfl ?_
  refine E_aload0 (q := 3) dL_clonesOf_2 rfl ?_
  refine E_iload1 (q := 4) dL_clonesOf_3 rfl ?_
  exact E_callVH (ar := [.int p0]) lk_L_21 rfl hs rc_X5 (by decide) (by omega) (by omega) (Nat.le_of_ble_eq_true rfl) dL_clonesOf_4 rfl rfl rfl rfl (fun q => V_toH (hcat q))
abbrev cfL_before : Cfg := (RL, cL_before, 4, (some .int))
theorem cw_L_before : Cond.codeWith yL_before cL_before 4 (some .int) [(0, 9, 12, 13)] ∈ lw_good := gdi 1022 (by decide +kernel) rfl
theorem sp_L_before {p0 : Int32} {d : Nat} (hd : d < 15) (hs : Spec D d yX5_before cfX5_before [.ref (ad 0), .int p0] (wl D ad M) 0 0 (PI y (wl D ad M))) : SpecH D 15 yL_before cfL_before [(0, 9, 12, 13)] [.ref (ad 0), .int p0, .ref (ad 165)] (wl D ad M) 1 6 (PI (nI 0) (wl D ad (outM M y))) := by
  refine SpecH.of (by decide) rfl (Nat.le_of_ble_eq_true rfl) rfl ?_
  refine V_toH ?_
  refine E_aload2 (q := 1) dL_before_0 rfl ?_
  refine E_iconst (v := nI 0) (q := 2) dL_before_1 (by decide) rfl ?_
  refine E_aload0 (q := 3) dL_before_2 rfl ?_
  refine E_iload1 (q := 4) dL_before_3 rfl ?_
  refine E_callV (ar := [.int p0]) (q := 7) lk_L_25 hs rc_X5 hd (by omega) (by omega) (Nat.le_of_ble_eq_true rfl) dL_before_4 rfl rfl ?_
  rintro v w ⟨hv, hw⟩
  rw [hv, hw]
  refine E_i2l (q := 8) dL_before_7 rfl ?_
  refine E_last (q := 9) sk_165 (by decide) (by decide) dL_before_8 rfl ?_
  refine E_goto (q := 15) dL_before_9 (by decide) ?_
  refine E_iconst (v := nI 0) (q := 16) dL_before_15 (by decide) rfl ?_
  exact E_ireturn rfl rfl dL_before_16 (PI_of rfl rfl)
theorem sp_LX_before {p0 : Int32} (hs : SpecT D 10 yX5_before cfX5_before [.ref (ad 0), .int p0] (wl D ad M) 1 6) : SpecH D 15 yL_before cfL_before [(0, 9, 12, 13)] [.ref (ad 0), .int p0, .ref (ad 165)] (wl D ad M) 1 6 (PI (nI 1) (wl D ad M)) := by
  refine SpecH.of (by decide) rfl (Nat.le_of_ble_eq_true rfl) rfl ?_
  have hcat : ∀ q, V D cfL_before (rmOf 15 1 6) (QM D (PI (nI 1) (wl D ad M)) 1 6) 1 6 12 [some (.ref (ad 0)), some (.int p0), some (.ref (ad 165)), none] [.ref q] (wl D ad M) := by
    intro q
    refine E_astore3 (q := 13) dL_before_12 rfl rfl ?_
    refine E_iconst (v := nI 1) (q := 14) dL_before_13 (by decide) rfl ?_
    exact E_ireturn rfl rfl dL_before_14 (PI_of rfl rfl)
  refine E_aload2 (q := 1) dL_before_0 rfl ?_
  refine E_iconst (v := nI 0) (q := 2) dL_before_1 (by decide) rfl ?_
  refine E_aload0 (q := 3) dL_before_2 rfl ?_
  refine E_iload1 (q := 4) dL_before_3 rfl ?_
  exact E_callVH (ar := [.int p0]) lk_L_25 rfl hs rc_X5 (by decide) (by omega) (by omega) (Nat.le_of_ble_eq_true rfl) dL_before_4 rfl rfl rfl rfl (fun q => V_toH (hcat q))
abbrev cfL_behind : Cfg := (RL, cL_behind, 4, (some .int))
theorem cw_L_behind : Cond.codeWith yL_behind cL_behind 4 (some .int) [(0, 9, 12, 13)] ∈ lw_good := gdi 1041 (by decide +kernel) rfl
theorem sp_L_behind {p0 : Int32} {d : Nat} (hd : d < 15) (hs : Spec D d yX5_behind cfX5_behind [.ref (ad 0), .int p0] (wl D ad M) 0 0 (PI y (wl D ad M))) : SpecH D 15 yL_behind cfL_behind [(0, 9, 12, 13)] [.ref (ad 0), .int p0, .ref (ad 165)] (wl D ad M) 1 6 (PI (nI 0) (wl D ad (outM M y))) := by
  refine SpecH.of (by decide) rfl (Nat.le_of_ble_eq_true rfl) rfl ?_
  refine V_toH ?_
  refine E_aload2 (q := 1) dL_behind_0 rfl ?_
  refine E_iconst (v := nI 0) (q := 2) dL_behind_1 (by decide) rfl ?_
  refine E_aload0 (q := 3) dL_behind_2 rfl ?_
  refine E_iload1 (q := 4) dL_behind_3 rfl ?_
  refine E_callV (ar := [.int p0]) (q := 7) lk_L_28 hs rc_X5 hd (by omega) (by omega) (Nat.le_of_ble_eq_true rfl) dL_behind_4 rfl rfl ?_
  rintro v w ⟨hv, hw⟩
  rw [hv, hw]
  refine E_i2l (q := 8) dL_behind_7 rfl ?_
  refine E_last (q := 9) sk_165 (by decide) (by decide) dL_behind_8 rfl ?_
  refine E_goto (q := 15) dL_behind_9 (by decide) ?_
  refine E_iconst (v := nI 0) (q := 16) dL_behind_15 (by decide) rfl ?_
  exact E_ireturn rfl rfl dL_behind_16 (PI_of rfl rfl)
theorem sp_LX_behind {p0 : Int32} (hs : SpecT D 10 yX5_behind cfX5_behind [.ref (ad 0), .int p0] (wl D ad M) 1 6) : SpecH D 15 yL_behind cfL_behind [(0, 9, 12, 13)] [.ref (ad 0), .int p0, .ref (ad 165)] (wl D ad M) 1 6 (PI (nI 1) (wl D ad M)) := by
  refine SpecH.of (by decide) rfl (Nat.le_of_ble_eq_true rfl) rfl ?_
  have hcat : ∀ q, V D cfL_behind (rmOf 15 1 6) (QM D (PI (nI 1) (wl D ad M)) 1 6) 1 6 12 [some (.ref (ad 0)), some (.int p0), some (.ref (ad 165)), none] [.ref q] (wl D ad M) := by
    intro q
    refine E_astore3 (q := 13) dL_behind_12 rfl rfl ?_
    refine E_iconst (v := nI 1) (q := 14) dL_behind_13 (by decide) rfl ?_
    exact E_ireturn rfl rfl dL_behind_14 (PI_of rfl rfl)
  refine E_aload2 (q := 1) dL_behind_0 rfl ?_
  refine E_iconst (v := nI 0) (q := 2) dL_behind_1 (by decide) rfl ?_
  refine E_aload0 (q := 3) dL_behind_2 rfl ?_
  refine E_iload1 (q := 4) dL_behind_3 rfl ?_
  exact E_callVH (ar := [.int p0]) lk_L_28 rfl hs rc_X5 (by decide) (by omega) (by omega) (Nat.le_of_ble_eq_true rfl) dL_behind_4 rfl rfl rfl rfl (fun q => V_toH (hcat q))
abbrev cfL_depthOf : Cfg := (RL, cL_depthOf, 4, (some .int))
theorem cw_L_depthOf : Cond.codeWith yL_depthOf cL_depthOf 4 (some .int) [(0, 9, 12, 13)] ∈ lw_good := gdi 1055 (by decide +kernel) rfl
theorem sp_L_depthOf {p0 : Int32} {d : Nat} (hd : d < 15) (hs : Spec D d yX5_depthOf cfX5_depthOf [.ref (ad 0), .int p0] (wl D ad M) 0 0 (PI y (wl D ad M))) : SpecH D 15 yL_depthOf cfL_depthOf [(0, 9, 12, 13)] [.ref (ad 0), .int p0, .ref (ad 165)] (wl D ad M) 1 6 (PI (nI 0) (wl D ad (outM M y))) := by
  refine SpecH.of (by decide) rfl (Nat.le_of_ble_eq_true rfl) rfl ?_
  refine V_toH ?_
  refine E_aload2 (q := 1) dL_depthOf_0 rfl ?_
  refine E_iconst (v := nI 0) (q := 2) dL_depthOf_1 (by decide) rfl ?_
  refine E_aload0 (q := 3) dL_depthOf_2 rfl ?_
  refine E_iload1 (q := 4) dL_depthOf_3 rfl ?_
  refine E_callV (ar := [.int p0]) (q := 7) lk_L_31 hs rc_X5 hd (by omega) (by omega) (Nat.le_of_ble_eq_true rfl) dL_depthOf_4 rfl rfl ?_
  rintro v w ⟨hv, hw⟩
  rw [hv, hw]
  refine E_i2l (q := 8) dL_depthOf_7 rfl ?_
  refine E_last (q := 9) sk_165 (by decide) (by decide) dL_depthOf_8 rfl ?_
  refine E_goto (q := 15) dL_depthOf_9 (by decide) ?_
  refine E_iconst (v := nI 0) (q := 16) dL_depthOf_15 (by decide) rfl ?_
  exact E_ireturn rfl rfl dL_depthOf_16 (PI_of rfl rfl)
theorem sp_LX_depthOf {p0 : Int32} (hs : SpecT D 10 yX5_depthOf cfX5_depthOf [.ref (ad 0), .int p0] (wl D ad M) 1 6) : SpecH D 15 yL_depthOf cfL_depthOf [(0, 9, 12, 13)] [.ref (ad 0), .int p0, .ref (ad 165)] (wl D ad M) 1 6 (PI (nI 1) (wl D ad M)) := by
  refine SpecH.of (by decide) rfl (Nat.le_of_ble_eq_true rfl) rfl ?_
  have hcat : ∀ q, V D cfL_depthOf (rmOf 15 1 6) (QM D (PI (nI 1) (wl D ad M)) 1 6) 1 6 12 [some (.ref (ad 0)), some (.int p0), some (.ref (ad 165)), none] [.ref q] (wl D ad M) := by
    intro q
    refine E_astore3 (q := 13) dL_depthOf_12 rfl rfl ?_
    refine E_iconst (v := nI 1) (q := 14) dL_depthOf_13 (by decide) rfl ?_
    exact E_ireturn rfl rfl dL_depthOf_14 (PI_of rfl rfl)
  refine E_aload2 (q := 1) dL_depthOf_0 rfl ?_
  refine E_iconst (v := nI 0) (q := 2) dL_depthOf_1 (by decide) rfl ?_
  refine E_aload0 (q := 3) dL_depthOf_2 rfl ?_
  refine E_iload1 (q := 4) dL_depthOf_3 rfl ?_
  exact E_callVH (ar := [.int p0]) lk_L_31 rfl hs rc_X5 (by decide) (by omega) (by omega) (Nat.le_of_ble_eq_true rfl) dL_depthOf_4 rfl rfl rfl rfl (fun q => V_toH (hcat q))
abbrev cfL_common : Cfg := (RL, cL_common, 5, (some .int))
theorem cw_L_common : Cond.codeWith yL_common cL_common 5 (some .int) [(0, 10, 13, 13)] ∈ lw_good := gdi 1067 (by decide +kernel) rfl
theorem sp_L_common {p0 p1 : Int32} {d : Nat} (hd : d < 15) (hs : Spec D d yX5_common cfX5_common [.ref (ad 0), .int p0, .int p1] (wl D ad M) 0 0 (PI y (wl D ad M))) : SpecH D 15 yL_common cfL_common [(0, 10, 13, 13)] [.ref (ad 0), .int p0, .int p1, .ref (ad 165)] (wl D ad M) 1 6 (PI (nI 0) (wl D ad (outM M y))) := by
  refine SpecH.of (by decide) rfl (Nat.le_of_ble_eq_true rfl) rfl ?_
  refine V_toH ?_
  refine E_aload3 (q := 1) dL_common_0 rfl ?_
  refine E_iconst (v := nI 0) (q := 2) dL_common_1 (by decide) rfl ?_
  refine E_aload0 (q := 3) dL_common_2 rfl ?_
  refine E_iload1 (q := 4) dL_common_3 rfl ?_
  refine E_iload2 (q := 5) dL_common_4 rfl ?_
  refine E_callV (ar := [.int p0, .int p1]) (q := 8) lk_L_34 hs rc_X5 hd (by omega) (by omega) (Nat.le_of_ble_eq_true rfl) dL_common_5 rfl rfl ?_
  rintro v w ⟨hv, hw⟩
  rw [hv, hw]
  refine E_i2l (q := 9) dL_common_8 rfl ?_
  refine E_last (q := 10) sk_165 (by decide) (by decide) dL_common_9 rfl ?_
  refine E_goto (q := 17) dL_common_10 (by decide) ?_
  refine E_iconst (v := nI 0) (q := 18) dL_common_17 (by decide) rfl ?_
  exact E_ireturn rfl rfl dL_common_18 (PI_of rfl rfl)
theorem sp_LX_common {p0 p1 : Int32} (hs : SpecT D 10 yX5_common cfX5_common [.ref (ad 0), .int p0, .int p1] (wl D ad M) 1 6) : SpecH D 15 yL_common cfL_common [(0, 10, 13, 13)] [.ref (ad 0), .int p0, .int p1, .ref (ad 165)] (wl D ad M) 1 6 (PI (nI 1) (wl D ad M)) := by
  refine SpecH.of (by decide) rfl (Nat.le_of_ble_eq_true rfl) rfl ?_
  have hcat : ∀ q, V D cfL_common (rmOf 15 1 6) (QM D (PI (nI 1) (wl D ad M)) 1 6) 1 6 13 [some (.ref (ad 0)), some (.int p0), some (.int p1), some (.ref (ad 165)), none] [.ref q] (wl D ad M) := by
    intro q
    refine E_astore4 (q := 15) dL_common_13 rfl rfl ?_
    refine E_iconst (v := nI 1) (q := 16) dL_common_15 (by decide) rfl ?_
    exact E_ireturn rfl rfl dL_common_16 (PI_of rfl rfl)
  refine E_aload3 (q := 1) dL_common_0 rfl ?_
  refine E_iconst (v := nI 0) (q := 2) dL_common_1 (by decide) rfl ?_
  refine E_aload0 (q := 3) dL_common_2 rfl ?_
  refine E_iload1 (q := 4) dL_common_3 rfl ?_
  refine E_iload2 (q := 5) dL_common_4 rfl ?_
  exact E_callVH (ar := [.int p0, .int p1]) lk_L_34 rfl hs rc_X5 (by decide) (by omega) (by omega) (Nat.le_of_ble_eq_true rfl) dL_common_5 rfl rfl rfl rfl (fun q => V_toH (hcat q))
abbrev cfL_blockAt : Cfg := (RL, cL_blockAt, 5, (some .int))
theorem cw_L_blockAt : Cond.codeWith yL_blockAt cL_blockAt 5 (some .int) [(0, 10, 13, 13)] ∈ lw_good := gdi 1075 (by decide +kernel) rfl
theorem sp_L_blockAt {p0 p1 : Int32} {d : Nat} (hd : d < 15) (hs : Spec D d yX5_blockAt cfX5_blockAt [.ref (ad 0), .int p0, .int p1] (wl D ad M) 0 0 (PI y (wl D ad M))) : SpecH D 15 yL_blockAt cfL_blockAt [(0, 10, 13, 13)] [.ref (ad 0), .int p0, .int p1, .ref (ad 165)] (wl D ad M) 1 6 (PI (nI 0) (wl D ad (outM M y))) := by
  refine SpecH.of (by decide) rfl (Nat.le_of_ble_eq_true rfl) rfl ?_
  refine V_toH ?_
  refine E_aload3 (q := 1) dL_blockAt_0 rfl ?_
  refine E_iconst (v := nI 0) (q := 2) dL_blockAt_1 (by decide) rfl ?_
  refine E_aload0 (q := 3) dL_blockAt_2 rfl ?_
  refine E_iload1 (q := 4) dL_blockAt_3 rfl ?_
  refine E_iload2 (q := 5) dL_blockAt_4 rfl ?_
  refine E_callV (ar := [.int p0, .int p1]) (q := 8) lk_L_37 hs rc_X5 hd (by omega) (by omega) (Nat.le_of_ble_eq_true rfl) dL_blockAt_5 rfl rfl ?_
  rintro v w ⟨hv, hw⟩
  rw [hv, hw]
  refine E_i2l (q := 9) dL_blockAt_8 rfl ?_
  refine E_last (q := 10) sk_165 (by decide) (by decide) dL_blockAt_9 rfl ?_
  refine E_goto (q := 17) dL_blockAt_10 (by decide) ?_
  refine E_iconst (v := nI 0) (q := 18) dL_blockAt_17 (by decide) rfl ?_
  exact E_ireturn rfl rfl dL_blockAt_18 (PI_of rfl rfl)
theorem sp_LX_blockAt {p0 p1 : Int32} (hs : SpecT D 10 yX5_blockAt cfX5_blockAt [.ref (ad 0), .int p0, .int p1] (wl D ad M) 1 6) : SpecH D 15 yL_blockAt cfL_blockAt [(0, 10, 13, 13)] [.ref (ad 0), .int p0, .int p1, .ref (ad 165)] (wl D ad M) 1 6 (PI (nI 1) (wl D ad M)) := by
  refine SpecH.of (by decide) rfl (Nat.le_of_ble_eq_true rfl) rfl ?_
  have hcat : ∀ q, V D cfL_blockAt (rmOf 15 1 6) (QM D (PI (nI 1) (wl D ad M)) 1 6) 1 6 13 [some (.ref (ad 0)), some (.int p0), some (.int p1), some (.ref (ad 165)), none] [.ref q] (wl D ad M) := by
    intro q
    refine E_astore4 (q := 15) dL_blockAt_13 rfl rfl ?_
    refine E_iconst (v := nI 1) (q := 16) dL_blockAt_15 (by decide) rfl ?_
    exact E_ireturn rfl rfl dL_blockAt_16 (PI_of rfl rfl)
  refine E_aload3 (q := 1) dL_blockAt_0 rfl ?_
  refine E_iconst (v := nI 0) (q := 2) dL_blockAt_1 (by decide) rfl ?_
  refine E_aload0 (q := 3) dL_blockAt_2 rfl ?_
  refine E_iload1 (q := 4) dL_blockAt_3 rfl ?_
  refine E_iload2 (q := 5) dL_blockAt_4 rfl ?_
  exact E_callVH (ar := [.int p0, .int p1]) lk_L_37 rfl hs rc_X5 (by decide) (by omega) (by omega) (Nat.le_of_ble_eq_true rfl) dL_blockAt_5 rfl rfl rfl rfl (fun q => V_toH (hcat q))
abbrev cfL_birthIn : Cfg := (RL, cL_birthIn, 5, (some .int))
theorem cw_L_birthIn : Cond.codeWith yL_birthIn cL_birthIn 5 (some .int) [(0, 10, 13, 13)] ∈ lw_good := gdi 1087 (by decide +kernel) rfl
theorem sp_L_birthIn {p0 p1 : Int32} {d : Nat} (hd : d < 15) (hs : Spec D d yX5_birthIn cfX5_birthIn [.ref (ad 0), .int p0, .int p1] (wl D ad M) 0 0 (PI y (wl D ad M))) : SpecH D 15 yL_birthIn cfL_birthIn [(0, 10, 13, 13)] [.ref (ad 0), .int p0, .int p1, .ref (ad 165)] (wl D ad M) 1 6 (PI (nI 0) (wl D ad (outM M y))) := by
  refine SpecH.of (by decide) rfl (Nat.le_of_ble_eq_true rfl) rfl ?_
  refine V_toH ?_
  refine E_aload3 (q := 1) dL_birthIn_0 rfl ?_
  refine E_iconst (v := nI 0) (q := 2) dL_birthIn_1 (by decide) rfl ?_
  refine E_aload0 (q := 3) dL_birthIn_2 rfl ?_
  refine E_iload1 (q := 4) dL_birthIn_3 rfl ?_
  refine E_iload2 (q := 5) dL_birthIn_4 rfl ?_
  refine E_callV (ar := [.int p0, .int p1]) (q := 8) lk_L_40 hs rc_X5 hd (by omega) (by omega) (Nat.le_of_ble_eq_true rfl) dL_birthIn_5 rfl rfl ?_
  rintro v w ⟨hv, hw⟩
  rw [hv, hw]
  refine E_i2l (q := 9) dL_birthIn_8 rfl ?_
  refine E_last (q := 10) sk_165 (by decide) (by decide) dL_birthIn_9 rfl ?_
  refine E_goto (q := 17) dL_birthIn_10 (by decide) ?_
  refine E_iconst (v := nI 0) (q := 18) dL_birthIn_17 (by decide) rfl ?_
  exact E_ireturn rfl rfl dL_birthIn_18 (PI_of rfl rfl)
theorem sp_LX_birthIn {p0 p1 : Int32} (hs : SpecT D 10 yX5_birthIn cfX5_birthIn [.ref (ad 0), .int p0, .int p1] (wl D ad M) 1 6) : SpecH D 15 yL_birthIn cfL_birthIn [(0, 10, 13, 13)] [.ref (ad 0), .int p0, .int p1, .ref (ad 165)] (wl D ad M) 1 6 (PI (nI 1) (wl D ad M)) := by
  refine SpecH.of (by decide) rfl (Nat.le_of_ble_eq_true rfl) rfl ?_
  have hcat : ∀ q, V D cfL_birthIn (rmOf 15 1 6) (QM D (PI (nI 1) (wl D ad M)) 1 6) 1 6 13 [some (.ref (ad 0)), some (.int p0), some (.int p1), some (.ref (ad 165)), none] [.ref q] (wl D ad M) := by
    intro q
    refine E_astore4 (q := 15) dL_birthIn_13 rfl rfl ?_
    refine E_iconst (v := nI 1) (q := 16) dL_birthIn_15 (by decide) rfl ?_
    exact E_ireturn rfl rfl dL_birthIn_16 (PI_of rfl rfl)
  refine E_aload3 (q := 1) dL_birthIn_0 rfl ?_
  refine E_iconst (v := nI 0) (q := 2) dL_birthIn_1 (by decide) rfl ?_
  refine E_aload0 (q := 3) dL_birthIn_2 rfl ?_
  refine E_iload1 (q := 4) dL_birthIn_3 rfl ?_
  refine E_iload2 (q := 5) dL_birthIn_4 rfl ?_
  exact E_callVH (ar := [.int p0, .int p1]) lk_L_40 rfl hs rc_X5 (by decide) (by omega) (by omega) (Nat.le_of_ble_eq_true rfl) dL_birthIn_5 rfl rfl rfl rfl (fun q => V_toH (hcat q))
abbrev cfL_sameAt : Cfg := (RL, cL_sameAt, 5, (some .int))
theorem cw_L_sameAt : Cond.codeWith yL_sameAt cL_sameAt 5 (some .int) [(0, 10, 13, 13)] ∈ lw_good := gdi 1102 (by decide +kernel) rfl
theorem sp_L_sameAt {p0 p1 : Int32} {d : Nat} (hd : d < 15) (hs : Spec D d yX5_sameAt cfX5_sameAt [.ref (ad 0), .int p0, .int p1] (wl D ad M) 0 0 (PI y (wl D ad M))) : SpecH D 15 yL_sameAt cfL_sameAt [(0, 10, 13, 13)] [.ref (ad 0), .int p0, .int p1, .ref (ad 165)] (wl D ad M) 1 6 (PI (nI 0) (wl D ad (outM M y))) := by
  refine SpecH.of (by decide) rfl (Nat.le_of_ble_eq_true rfl) rfl ?_
  refine V_toH ?_
  refine E_aload3 (q := 1) dL_sameAt_0 rfl ?_
  refine E_iconst (v := nI 0) (q := 2) dL_sameAt_1 (by decide) rfl ?_
  refine E_aload0 (q := 3) dL_sameAt_2 rfl ?_
  refine E_iload1 (q := 4) dL_sameAt_3 rfl ?_
  refine E_iload2 (q := 5) dL_sameAt_4 rfl ?_
  refine E_callV (ar := [.int p0, .int p1]) (q := 8) lk_L_44 hs rc_X5 hd (by omega) (by omega) (Nat.le_of_ble_eq_true rfl) dL_sameAt_5 rfl rfl ?_
  rintro v w ⟨hv, hw⟩
  rw [hv, hw]
  refine E_i2l (q := 9) dL_sameAt_8 rfl ?_
  refine E_last (q := 10) sk_165 (by decide) (by decide) dL_sameAt_9 rfl ?_
  refine E_goto (q := 17) dL_sameAt_10 (by decide) ?_
  refine E_iconst (v := nI 0) (q := 18) dL_sameAt_17 (by decide) rfl ?_
  exact E_ireturn rfl rfl dL_sameAt_18 (PI_of rfl rfl)
theorem sp_LX_sameAt {p0 p1 : Int32} (hs : SpecT D 10 yX5_sameAt cfX5_sameAt [.ref (ad 0), .int p0, .int p1] (wl D ad M) 1 6) : SpecH D 15 yL_sameAt cfL_sameAt [(0, 10, 13, 13)] [.ref (ad 0), .int p0, .int p1, .ref (ad 165)] (wl D ad M) 1 6 (PI (nI 1) (wl D ad M)) := by
  refine SpecH.of (by decide) rfl (Nat.le_of_ble_eq_true rfl) rfl ?_
  have hcat : ∀ q, V D cfL_sameAt (rmOf 15 1 6) (QM D (PI (nI 1) (wl D ad M)) 1 6) 1 6 13 [some (.ref (ad 0)), some (.int p0), some (.int p1), some (.ref (ad 165)), none] [.ref q] (wl D ad M) := by
    intro q
    refine E_astore4 (q := 15) dL_sameAt_13 rfl rfl ?_
    refine E_iconst (v := nI 1) (q := 16) dL_sameAt_15 (by decide) rfl ?_
    exact E_ireturn rfl rfl dL_sameAt_16 (PI_of rfl rfl)
  refine E_aload3 (q := 1) dL_sameAt_0 rfl ?_
  refine E_iconst (v := nI 0) (q := 2) dL_sameAt_1 (by decide) rfl ?_
  refine E_aload0 (q := 3) dL_sameAt_2 rfl ?_
  refine E_iload1 (q := 4) dL_sameAt_3 rfl ?_
  refine E_iload2 (q := 5) dL_sameAt_4 rfl ?_
  exact E_callVH (ar := [.int p0, .int p1]) lk_L_44 rfl hs rc_X5 (by decide) (by omega) (by omega) (Nat.le_of_ble_eq_true rfl) dL_sameAt_5 rfl rfl rfl rfl (fun q => V_toH (hcat q))
abbrev cfL_besideOrigin : Cfg := (RL, cL_besideOrigin, 4, (some .int))
theorem cw_L_besideOrigin : Cond.codeWith yL_besideOrigin cL_besideOrigin 4 (some .int) [(0, 9, 12, 13)] ∈ lw_good := gdi 1113 (by decide +kernel) rfl
theorem sp_L_besideOrigin {p0 : Int32} {d : Nat} (hd : d < 15) (hs : Spec D d yX5_besideOrigin cfX5_besideOrigin [.ref (ad 0), .int p0] (wl D ad M) 0 0 (PI y (wl D ad M))) : SpecH D 15 yL_besideOrigin cfL_besideOrigin [(0, 9, 12, 13)] [.ref (ad 0), .int p0, .ref (ad 165)] (wl D ad M) 1 6 (PI (nI 0) (wl D ad (outM M y))) := by
  refine SpecH.of (by decide) rfl (Nat.le_of_ble_eq_true rfl) rfl ?_
  refine V_toH ?_
  refine E_aload2 (q := 1) dL_besideOrigin_0 rfl ?_
  refine E_iconst (v := nI 0) (q := 2) dL_besideOrigin_1 (by decide) rfl ?_
  refine E_aload0 (q := 3) dL_besideOrigin_2 rfl ?_
  refine E_iload1 (q := 4) dL_besideOrigin_3 rfl ?_
  refine E_callV (ar := [.int p0]) (q := 7) lk_L_47 hs rc_X5 hd (by omega) (by omega) (Nat.le_of_ble_eq_true rfl) dL_besideOrigin_4 rfl rfl ?_
  rintro v w ⟨hv, hw⟩
  rw [hv, hw]
  refine E_i2l (q := 8) dL_besideOrigin_7 rfl ?_
  refine E_last (q := 9) sk_165 (by decide) (by decide) dL_besideOrigin_8 rfl ?_
  refine E_goto (q := 15) dL_besideOrigin_9 (by decide) ?_
  refine E_iconst (v := nI 0) (q := 16) dL_besideOrigin_15 (by decide) rfl ?_
  exact E_ireturn rfl rfl dL_besideOrigin_16 (PI_of rfl rfl)
theorem sp_LX_besideOrigin {p0 : Int32} (hs : SpecT D 10 yX5_besideOrigin cfX5_besideOrigin [.ref (ad 0), .int p0] (wl D ad M) 1 6) : SpecH D 15 yL_besideOrigin cfL_besideOrigin [(0, 9, 12, 13)] [.ref (ad 0), .int p0, .ref (ad 165)] (wl D ad M) 1 6 (PI (nI 1) (wl D ad M)) := by
  refine SpecH.of (by decide) rfl (Nat.le_of_ble_eq_true rfl) rfl ?_
  have hcat : ∀ q, V D cfL_besideOrigin (rmOf 15 1 6) (QM D (PI (nI 1) (wl D ad M)) 1 6) 1 6 12 [some (.ref (ad 0)), some (.int p0), some (.ref (ad 165)), none] [.ref q] (wl D ad M) := by
    intro q
    refine E_astore3 (q := 13) dL_besideOrigin_12 rfl rfl ?_
    refine E_iconst (v := nI 1) (q := 14) dL_besideOrigin_13 (by decide) rfl ?_
    exact E_ireturn rfl rfl dL_besideOrigin_14 (PI_of rfl rfl)
  refine E_aload2 (q := 1) dL_besideOrigin_0 rfl ?_
  refine E_iconst (v := nI 0) (q := 2) dL_besideOrigin_1 (by decide) rfl ?_
  refine E_aload0 (q := 3) dL_besideOrigin_2 rfl ?_
  refine E_iload1 (q := 4) dL_besideOrigin_3 rfl ?_
  exact E_callVH (ar := [.int p0]) lk_L_47 rfl hs rc_X5 (by decide) (by omega) (by omega) (Nat.le_of_ble_eq_true rfl) dL_besideOrigin_4 rfl rfl rfl rfl (fun q => V_toH (hcat q))
abbrev cfL_wouldFree : Cfg := (RL, cL_wouldFree, 5, (some .int))
theorem cw_L_wouldFree : Cond.codeWith yL_wouldFree cL_wouldFree 5 (some .int) [(0, 10, 13, 13)] ∈ lw_good := gdi 1120 (by decide +kernel) rfl
theorem sp_L_wouldFree {p0 p1 : Int32} {d : Nat} (hd : d < 15) (hs : Spec D d yX5_wouldFree cfX5_wouldFree [.ref (ad 0), .int p0, .int p1] (wl D ad M) 0 0 (PI y (wl D ad M))) : SpecH D 15 yL_wouldFree cfL_wouldFree [(0, 10, 13, 13)] [.ref (ad 0), .int p0, .int p1, .ref (ad 165)] (wl D ad M) 1 6 (PI (nI 0) (wl D ad (outM M y))) := by
  refine SpecH.of (by decide) rfl (Nat.le_of_ble_eq_true rfl) rfl ?_
  refine V_toH ?_
  refine E_aload3 (q := 1) dL_wouldFree_0 rfl ?_
  refine E_iconst (v := nI 0) (q := 2) dL_wouldFree_1 (by decide) rfl ?_
  refine E_aload0 (q := 3) dL_wouldFree_2 rfl ?_
  refine E_iload1 (q := 4) dL_wouldFree_3 rfl ?_
  refine E_iload2 (q := 5) dL_wouldFree_4 rfl ?_
  refine E_callV (ar := [.int p0, .int p1]) (q := 8) lk_L_50 hs rc_X5 hd (by omega) (by omega) (Nat.le_of_ble_eq_true rfl) dL_wouldFree_5 rfl rfl ?_
  rintro v w ⟨hv, hw⟩
  rw [hv, hw]
  refine E_i2l (q := 9) dL_wouldFree_8 rfl ?_
  refine E_last (q := 10) sk_165 (by decide) (by decide) dL_wouldFree_9 rfl ?_
  refine E_goto (q := 17) dL_wouldFree_10 (by decide) ?_
  refine E_iconst (v := nI 0) (q := 18) dL_wouldFree_17 (by decide) rfl ?_
  exact E_ireturn rfl rfl dL_wouldFree_18 (PI_of rfl rfl)
theorem sp_LX_wouldFree {p0 p1 : Int32} (hs : SpecT D 10 yX5_wouldFree cfX5_wouldFree [.ref (ad 0), .int p0, .int p1] (wl D ad M) 1 6) : SpecH D 15 yL_wouldFree cfL_wouldFree [(0, 10, 13, 13)] [.ref (ad 0), .int p0, .int p1, .ref (ad 165)] (wl D ad M) 1 6 (PI (nI 1) (wl D ad M)) := by
  refine SpecH.of (by decide) rfl (Nat.le_of_ble_eq_true rfl) rfl ?_
  have hcat : ∀ q, V D cfL_wouldFree (rmOf 15 1 6) (QM D (PI (nI 1) (wl D ad M)) 1 6) 1 6 13 [some (.ref (ad 0)), some (.int p0), some (.int p1), some (.ref (ad 165)), none] [.ref q] (wl D ad M) := by
    intro q
    refine E_astore4 (q := 15) dL_wouldFree_13 rfl rfl ?_
    refine E_iconst (v := nI 1) (q := 16) dL_wouldFree_15 (by decide) rfl ?_
    exact E_ireturn rfl rfl dL_wouldFree_16 (PI_of rfl rfl)
  refine E_aload3 (q := 1) dL_wouldFree_0 rfl ?_
  refine E_iconst (v := nI 0) (q := 2) dL_wouldFree_1 (by decide) rfl ?_
  refine E_aload0 (q := 3) dL_wouldFree_2 rfl ?_
  refine E_iload1 (q := 4) dL_wouldFree_3 rfl ?_
  refine E_iload2 (q := 5) dL_wouldFree_4 rfl ?_
  exact E_callVH (ar := [.int p0, .int p1]) lk_L_50 rfl hs rc_X5 (by decide) (by omega) (by omega) (Nat.le_of_ble_eq_true rfl) dL_wouldFree_5 rfl rfl rfl rfl (fun q => V_toH (hcat q))
abbrev cfL_referenced : Cfg := (RL, cL_referenced, 4, (some .int))
theorem cw_L_referenced : Cond.codeWith yL_referenced cL_referenced 4 (some .int) [(0, 9, 12, 13)] ∈ lw_good := gdi 1128 (by decide +kernel) rfl
theorem sp_L_referenced {p0 : Int32} {d : Nat} (hd : d < 15) (hs : Spec D d yX5_referenced cfX5_referenced [.ref (ad 0), .int p0] (wl D ad M) 0 0 (PI y (wl D ad M))) : SpecH D 15 yL_referenced cfL_referenced [(0, 9, 12, 13)] [.ref (ad 0), .int p0, .ref (ad 165)] (wl D ad M) 1 6 (PI (nI 0) (wl D ad (outM M y))) := by
  refine SpecH.of (by decide) rfl (Nat.le_of_ble_eq_true rfl) rfl ?_
  refine V_toH ?_
  refine E_aload2 (q := 1) dL_referenced_0 rfl ?_
  refine E_iconst (v := nI 0) (q := 2) dL_referenced_1 (by decide) rfl ?_
  refine E_aload0 (q := 3) dL_referenced_2 rfl ?_
  refine E_iload1 (q := 4) dL_referenced_3 rfl ?_
  refine E_callV (ar := [.int p0]) (q := 7) lk_L_53 hs rc_X5 hd (by omega) (by omega) (Nat.le_of_ble_eq_true rfl) dL_referenced_4 rfl rfl ?_
  rintro v w ⟨hv, hw⟩
  rw [hv, hw]
  refine E_i2l (q := 8) dL_referenced_7 rfl ?_
  refine E_last (q := 9) sk_165 (by decide) (by decide) dL_referenced_8 rfl ?_
  refine E_goto (q := 15) dL_referenced_9 (by decide) ?_
  refine E_iconst (v := nI 0) (q := 16) dL_referenced_15 (by decide) rfl ?_
  exact E_ireturn rfl rfl dL_referenced_16 (PI_of rfl rfl)
theorem sp_LX_referenced {p0 : Int32} (hs : SpecT D 10 yX5_referenced cfX5_referenced [.ref (ad 0), .int p0] (wl D ad M) 1 6) : SpecH D 15 yL_referenced cfL_referenced [(0, 9, 12, 13)] [.ref (ad 0), .int p0, .ref (ad 165)] (wl D ad M) 1 6 (PI (nI 1) (wl D ad M)) := by
  refine SpecH.of (by decide) rfl (Nat.le_of_ble_eq_true rfl) rfl ?_
  have hcat : ∀ q, V D cfL_referenced (rmOf 15 1 6) (QM D (PI (nI 1) (wl D ad M)) 1 6) 1 6 12 [some (.ref (ad 0)), some (.int p0), some (.ref (ad 165)), none] [.ref q] (wl D ad M) := by
    intro q
    refine E_astore3 (q := 13) dL_referenced_12 rfl rfl ?_
    refine E_iconst (v := nI 1) (q := 14) dL_referenced_13 (by decide) rfl ?_
    exact E_ireturn rfl rfl dL_referenced_14 (PI_of rfl rfl)
  refine E_aload2 (q := 1) dL_referenced_0 rfl ?_
  refine E_iconst (v := nI 0) (q := 2) dL_referenced_1 (by decide) rfl ?_
  refine E_aload0 (q := 3) dL_referenced_2 rfl ?_
  refine E_iload1 (q := 4) dL_referenced_3 rfl ?_
  exact E_callVH (ar := [.int p0]) lk_L_53 rfl hs rc_X5 (by decide) (by omega) (by omega) (Nat.le_of_ble_eq_true rfl) dL_referenced_4 rfl rfl rfl rfl (fun q => V_toH (hcat q))
abbrev cfL_exclusive : Cfg := (RL, cL_exclusive, 4, (some .int))
theorem cw_L_exclusive : Cond.codeWith yL_exclusive cL_exclusive 4 (some .int) [(0, 9, 12, 13)] ∈ lw_good := gdi 1135 (by decide +kernel) rfl
theorem sp_L_exclusive {p0 : Int32} {d : Nat} (hd : d < 15) (hs : Spec D d yX5_exclusive cfX5_exclusive [.ref (ad 0), .int p0] (wl D ad M) 0 0 (PI y (wl D ad M))) : SpecH D 15 yL_exclusive cfL_exclusive [(0, 9, 12, 13)] [.ref (ad 0), .int p0, .ref (ad 165)] (wl D ad M) 1 6 (PI (nI 0) (wl D ad (outM M y))) := by
  refine SpecH.of (by decide) rfl (Nat.le_of_ble_eq_true rfl) rfl ?_
  refine V_toH ?_
  refine E_aload2 (q := 1) dL_exclusive_0 rfl ?_
  refine E_iconst (v := nI 0) (q := 2) dL_exclusive_1 (by decide) rfl ?_
  refine E_aload0 (q := 3) dL_exclusive_2 rfl ?_
  refine E_iload1 (q := 4) dL_exclusive_3 rfl ?_
  refine E_callV (ar := [.int p0]) (q := 7) lk_L_56 hs rc_X5 hd (by omega) (by omega) (Nat.le_of_ble_eq_true rfl) dL_exclusive_4 rfl rfl ?_
  rintro v w ⟨hv, hw⟩
  rw [hv, hw]
  refine E_i2l (q := 8) dL_exclusive_7 rfl ?_
  refine E_last (q := 9) sk_165 (by decide) (by decide) dL_exclusive_8 rfl ?_
  refine E_goto (q := 15) dL_exclusive_9 (by decide) ?_
  refine E_iconst (v := nI 0) (q := 16) dL_exclusive_15 (by decide) rfl ?_
  exact E_ireturn rfl rfl dL_exclusive_16 (PI_of rfl rfl)
theorem sp_LX_exclusive {p0 : Int32} (hs : SpecT D 10 yX5_exclusive cfX5_exclusive [.ref (ad 0), .int p0] (wl D ad M) 1 6) : SpecH D 15 yL_exclusive cfL_exclusive [(0, 9, 12, 13)] [.ref (ad 0), .int p0, .ref (ad 165)] (wl D ad M) 1 6 (PI (nI 1) (wl D ad M)) := by
  refine SpecH.of (by decide) rfl (Nat.le_of_ble_eq_true rfl) rfl ?_
  have hcat : ∀ q, V D cfL_exclusive (rmOf 15 1 6) (QM D (PI (nI 1) (wl D ad M)) 1 6) 1 6 12 [some (.ref (ad 0)), some (.int p0), some (.ref (ad 165)), none] [.ref q] (wl D ad M) := by
    intro q
    refine E_astore3 (q := 13) dL_exclusive_12 rfl rfl ?_
    refine E_iconst (v := nI 1) (q := 14) dL_exclusive_13 (by decide) rfl ?_
    exact E_ireturn rfl rfl dL_exclusive_14 (PI_of rfl rfl)
  refine E_aload2 (q := 1) dL_exclusive_0 rfl ?_
  refine E_iconst (v := nI 0) (q := 2) dL_exclusive_1 (by decide) rfl ?_
  refine E_aload0 (q := 3) dL_exclusive_2 rfl ?_
  refine E_iload1 (q := 4) dL_exclusive_3 rfl ?_
  exact E_callVH (ar := [.int p0]) lk_L_56 rfl hs rc_X5 (by decide) (by omega) (by omega) (Nat.le_of_ble_eq_true rfl) dL_exclusive_4 rfl rfl rfl rfl (fun q => V_toH (hcat q))
abbrev cfL_shared : Cfg := (RL, cL_shared, 5, (some .int))
theorem cw_L_shared : Cond.codeWith yL_shared cL_shared 5 (some .int) [(0, 10, 13, 13)] ∈ lw_good := gdi 1142 (by decide +kernel) rfl
theorem sp_L_shared {p0 p1 : Int32} {d : Nat} (hd : d < 15) (hs : Spec D d yX5_shared cfX5_shared [.ref (ad 0), .int p0, .int p1] (wl D ad M) 0 0 (PI y (wl D ad M))) : SpecH D 15 yL_shared cfL_shared [(0, 10, 13, 13)] [.ref (ad 0), .int p0, .int p1, .ref (ad 165)] (wl D ad M) 1 6 (PI (nI 0) (wl D ad (outM M y))) := by
  refine SpecH.of (by decide) rfl (Nat.le_of_ble_eq_true rfl) rfl ?_
  refine V_toH ?_
  refine E_aload3 (q := 1) dL_shared_0 rfl ?_
  refine E_iconst (v := nI 0) (q := 2) dL_shared_1 (by decide) rfl ?_
  refine E_aload0 (q := 3) dL_shared_2 rfl ?_
  refine E_iload1 (q := 4) dL_shared_3 rfl ?_
  refine E_iload2 (q := 5) dL_shared_4 rfl ?_
  refine E_callV (ar := [.int p0, .int p1]) (q := 8) lk_L_59 hs rc_X5 hd (by omega) (by omega) (Nat.le_of_ble_eq_true rfl) dL_shared_5 rfl rfl ?_
  rintro v w ⟨hv, hw⟩
  rw [hv, hw]
  refine E_i2l (q := 9) dL_shared_8 rfl ?_
  refine E_last (q := 10) sk_165 (by decide) (by decide) dL_shared_9 rfl ?_
  refine E_goto (q := 17) dL_shared_10 (by decide) ?_
  refine E_iconst (v := nI 0) (q := 18) dL_shared_17 (by decide) rfl ?_
  exact E_ireturn rfl rfl dL_shared_18 (PI_of rfl rfl)
theorem sp_LX_shared {p0 p1 : Int32} (hs : SpecT D 10 yX5_shared cfX5_shared [.ref (ad 0), .int p0, .int p1] (wl D ad M) 1 6) : SpecH D 15 yL_shared cfL_shared [(0, 10, 13, 13)] [.ref (ad 0), .int p0, .int p1, .ref (ad 165)] (wl D ad M) 1 6 (PI (nI 1) (wl D ad M)) := by
  refine SpecH.of (by decide) rfl (Nat.le_of_ble_eq_true rfl) rfl ?_
  have hcat : ∀ q, V D cfL_shared (rmOf 15 1 6) (QM D (PI (nI 1) (wl D ad M)) 1 6) 1 6 13 [some (.ref (ad 0)), some (.int p0), some (.int p1), some (.ref (ad 165)), none] [.ref q] (wl D ad M) := by
    intro q
    refine E_astore4 (q := 15) dL_shared_13 rfl rfl ?_
    refine E_iconst (v := nI 1) (q := 16) dL_shared_15 (by decide) rfl ?_
    exact E_ireturn rfl rfl dL_shared_16 (PI_of rfl rfl)
  refine E_aload3 (q := 1) dL_shared_0 rfl ?_
  refine E_iconst (v := nI 0) (q := 2) dL_shared_1 (by decide) rfl ?_
  refine E_aload0 (q := 3) dL_shared_2 rfl ?_
  refine E_iload1 (q := 4) dL_shared_3 rfl ?_
  refine E_iload2 (q := 5) dL_shared_4 rfl ?_
  exact E_callVH (ar := [.int p0, .int p1]) lk_L_59 rfl hs rc_X5 (by decide) (by omega) (by omega) (Nat.le_of_ble_eq_true rfl) dL_shared_5 rfl rfl rfl rfl (fun q => V_toH (hcat q))
abbrev cfL_unlike : Cfg := (RL, cL_unlike, 5, (some .int))
theorem cw_L_unlike : Cond.codeWith yL_unlike cL_unlike 5 (some .int) [(0, 10, 13, 13)] ∈ lw_good := gdi 1149 (by decide +kernel) rfl
theorem sp_L_unlike {p0 p1 : Int32} {d : Nat} (hd : d < 15) (hs : Spec D d yX5_unlike cfX5_unlike [.ref (ad 0), .int p0, .int p1] (wl D ad M) 0 0 (PI y (wl D ad M))) : SpecH D 15 yL_unlike cfL_unlike [(0, 10, 13, 13)] [.ref (ad 0), .int p0, .int p1, .ref (ad 165)] (wl D ad M) 1 6 (PI (nI 0) (wl D ad (outM M y))) := by
  refine SpecH.of (by decide) rfl (Nat.le_of_ble_eq_true rfl) rfl ?_
  refine V_toH ?_
  refine E_aload3 (q := 1) dL_unlike_0 rfl ?_
  refine E_iconst (v := nI 0) (q := 2) dL_unlike_1 (by decide) rfl ?_
  refine E_aload0 (q := 3) dL_unlike_2 rfl ?_
  refine E_iload1 (q := 4) dL_unlike_3 rfl ?_
  refine E_iload2 (q := 5) dL_unlike_4 rfl ?_
  refine E_callV (ar := [.int p0, .int p1]) (q := 8) lk_L_62 hs rc_X5 hd (by omega) (by omega) (Nat.le_of_ble_eq_true rfl) dL_unlike_5 rfl rfl ?_
  rintro v w ⟨hv, hw⟩
  rw [hv, hw]
  refine E_i2l (q := 9) dL_unlike_8 rfl ?_
  refine E_last (q := 10) sk_165 (by decide) (by decide) dL_unlike_9 rfl ?_
  refine E_goto (q := 17) dL_unlike_10 (by decide) ?_
  refine E_iconst (v := nI 0) (q := 18) dL_unlike_17 (by decide) rfl ?_
  exact E_ireturn rfl rfl dL_unlike_18 (PI_of rfl rfl)
theorem sp_LX_unlike {p0 p1 : Int32} (hs : SpecT D 10 yX5_unlike cfX5_unlike [.ref (ad 0), .int p0, .int p1] (wl D ad M) 1 6) : SpecH D 15 yL_unlike cfL_unlike [(0, 10, 13, 13)] [.ref (ad 0), .int p0, .int p1, .ref (ad 165)] (wl D ad M) 1 6 (PI (nI 1) (wl D ad M)) := by
  refine SpecH.of (by decide) rfl (Nat.le_of_ble_eq_true rfl) rfl ?_
  have hcat : ∀ q, V D cfL_unlike (rmOf 15 1 6) (QM D (PI (nI 1) (wl D ad M)) 1 6) 1 6 13 [some (.ref (ad 0)), some (.int p0), some (.int p1), some (.ref (ad 165)), none] [.ref q] (wl D ad M) := by
    intro q
    refine E_astore4 (q := 15) dL_unlike_13 rfl rfl ?_
    refine E_iconst (v := nI 1) (q := 16) dL_unlike_15 (by decide) rfl ?_
    exact E_ireturn rfl rfl dL_unlike_16 (PI_of rfl rfl)
  refine E_aload3 (q := 1) dL_unlike_0 rfl ?_
  refine E_iconst (v := nI 0) (q := 2) dL_unlike_1 (by decide) rfl ?_
  refine E_aload0 (q := 3) dL_unlike_2 rfl ?_
  refine E_iload1 (q := 4) dL_unlike_3 rfl ?_
  refine E_iload2 (q := 5) dL_unlike_4 rfl ?_
  exact E_callVH (ar := [.int p0, .int p1]) lk_L_62 rfl hs rc_X5 (by decide) (by omega) (by omega) (Nat.le_of_ble_eq_true rfl) dL_unlike_5 rfl rfl rfl rfl (fun q => V_toH (hcat q))
abbrev cfL_writtenSince : Cfg := (RL, cL_writtenSince, 5, (some .int))
theorem cw_L_writtenSince : Cond.codeWith yL_writtenSince cL_writtenSince 5 (some .int) [(0, 10, 13, 13)] ∈ lw_good := gdi 1156 (by decide +kernel) rfl
theorem sp_L_writtenSince {p0 p1 : Int32} {d : Nat} (hd : d < 15) (hs : Spec D d yX5_writtenSince cfX5_writtenSince [.ref (ad 0), .int p0, .int p1] (wl D ad M) 0 0 (PI y (wl D ad M))) : SpecH D 15 yL_writtenSince cfL_writtenSince [(0, 10, 13, 13)] [.ref (ad 0), .int p0, .int p1, .ref (ad 165)] (wl D ad M) 1 6 (PI (nI 0) (wl D ad (outM M y))) := by
  refine SpecH.of (by decide) rfl (Nat.le_of_ble_eq_true rfl) rfl ?_
  refine V_toH ?_
  refine E_aload3 (q := 1) dL_writtenSince_0 rfl ?_
  refine E_iconst (v := nI 0) (q := 2) dL_writtenSince_1 (by decide) rfl ?_
  refine E_aload0 (q := 3) dL_writtenSince_2 rfl ?_
  refine E_iload1 (q := 4) dL_writtenSince_3 rfl ?_
  refine E_iload2 (q := 5) dL_writtenSince_4 rfl ?_
  refine E_callV (ar := [.int p0, .int p1]) (q := 8) lk_L_65 hs rc_X5 hd (by omega) (by omega) (Nat.le_of_ble_eq_true rfl) dL_writtenSince_5 rfl rfl ?_
  rintro v w ⟨hv, hw⟩
  rw [hv, hw]
  refine E_i2l (q := 9) dL_writtenSince_8 rfl ?_
  refine E_last (q := 10) sk_165 (by decide) (by decide) dL_writtenSince_9 rfl ?_
  refine E_goto (q := 17) dL_writtenSince_10 (by decide) ?_
  refine E_iconst (v := nI 0) (q := 18) dL_writtenSince_17 (by decide) rfl ?_
  exact E_ireturn rfl rfl dL_writtenSince_18 (PI_of rfl rfl)
theorem sp_LX_writtenSince {p0 p1 : Int32} (hs : SpecT D 10 yX5_writtenSince cfX5_writtenSince [.ref (ad 0), .int p0, .int p1] (wl D ad M) 1 6) : SpecH D 15 yL_writtenSince cfL_writtenSince [(0, 10, 13, 13)] [.ref (ad 0), .int p0, .int p1, .ref (ad 165)] (wl D ad M) 1 6 (PI (nI 1) (wl D ad M)) := by
  refine SpecH.of (by decide) rfl (Nat.le_of_ble_eq_true rfl) rfl ?_
  have hcat : ∀ q, V D cfL_writtenSince (rmOf 15 1 6) (QM D (PI (nI 1) (wl D ad M)) 1 6) 1 6 13 [some (.ref (ad 0)), some (.int p0), some (.int p1), some (.ref (ad 165)), none] [.ref q] (wl D ad M) := by
    intro q
    refine E_astore4 (q := 15) dL_writtenSince_13 rfl rfl ?_
    refine E_iconst (v := nI 1) (q := 16) dL_writtenSince_15 (by decide) rfl ?_
    exact E_ireturn rfl rfl dL_writtenSince_16 (PI_of rfl rfl)
  refine E_aload3 (q := 1) dL_writtenSince_0 rfl ?_
  refine E_iconst (v := nI 0) (q := 2) dL_writtenSince_1 (by decide) rfl ?_
  refine E_aload0 (q := 3) dL_writtenSince_2 rfl ?_
  refine E_iload1 (q := 4) dL_writtenSince_3 rfl ?_
  refine E_iload2 (q := 5) dL_writtenSince_4 rfl ?_
  exact E_callVH (ar := [.int p0, .int p1]) lk_L_65 rfl hs rc_X5 (by decide) (by omega) (by omega) (Nat.le_of_ble_eq_true rfl) dL_writtenSince_5 rfl rfl rfl rfl (fun q => V_toH (hcat q))
abbrev cfL_deadCount : Cfg := (RL, cL_deadCount, 4, (some .int))
theorem cw_L_deadCount : Cond.codeWith yL_deadCount cL_deadCount 4 (some .int) [(0, 9, 12, 13)] ∈ lw_good := gdi 1163 (by decide +kernel) rfl
theorem sp_L_deadCount {p0 : Int32} {d : Nat} (hd : d < 15) (hs : Spec D d yX5_deadCount cfX5_deadCount [.ref (ad 0), .int p0] (wl D ad M) 0 0 (PI y (wl D ad M))) : SpecH D 15 yL_deadCount cfL_deadCount [(0, 9, 12, 13)] [.ref (ad 0), .int p0, .ref (ad 165)] (wl D ad M) 1 6 (PI (nI 0) (wl D ad (outM M y))) := by
  refine SpecH.of (by decide) rfl (Nat.le_of_ble_eq_true rfl) rfl ?_
  refine V_toH ?_
  refine E_aload2 (q := 1) dL_deadCount_0 rfl ?_
  refine E_iconst (v := nI 0) (q := 2) dL_deadCount_1 (by decide) rfl ?_
  refine E_aload0 (q := 3) dL_deadCount_2 rfl ?_
  refine E_iload1 (q := 4) dL_deadCount_3 rfl ?_
  refine E_callV (ar := [.int p0]) (q := 7) lk_L_68 hs rc_X5 hd (by omega) (by omega) (Nat.le_of_ble_eq_true rfl) dL_deadCount_4 rfl rfl ?_
  rintro v w ⟨hv, hw⟩
  rw [hv, hw]
  refine E_i2l (q := 8) dL_deadCount_7 rfl ?_
  refine E_last (q := 9) sk_165 (by decide) (by decide) dL_deadCount_8 rfl ?_
  refine E_goto (q := 15) dL_deadCount_9 (by decide) ?_
  refine E_iconst (v := nI 0) (q := 16) dL_deadCount_15 (by decide) rfl ?_
  exact E_ireturn rfl rfl dL_deadCount_16 (PI_of rfl rfl)
theorem sp_LX_deadCount {p0 : Int32} (hs : SpecT D 10 yX5_deadCount cfX5_deadCount [.ref (ad 0), .int p0] (wl D ad M) 1 6) : SpecH D 15 yL_deadCount cfL_deadCount [(0, 9, 12, 13)] [.ref (ad 0), .int p0, .ref (ad 165)] (wl D ad M) 1 6 (PI (nI 1) (wl D ad M)) := by
  refine SpecH.of (by decide) rfl (Nat.le_of_ble_eq_true rfl) rfl ?_
  have hcat : ∀ q, V D cfL_deadCount (rmOf 15 1 6) (QM D (PI (nI 1) (wl D ad M)) 1 6) 1 6 12 [some (.ref (ad 0)), some (.int p0), some (.ref (ad 165)), none] [.ref q] (wl D ad M) := by
    intro q
    refine E_astore3 (q := 13) dL_deadCount_12 rfl rfl ?_
    refine E_iconst (v := nI 1) (q := 14) dL_deadCount_13 (by decide) rfl ?_
    exact E_ireturn rfl rfl dL_deadCount_14 (PI_of rfl rfl)
  refine E_aload2 (q := 1) dL_deadCount_0 rfl ?_
  refine E_iconst (v := nI 0) (q := 2) dL_deadCount_1 (by decide) rfl ?_
  refine E_aload0 (q := 3) dL_deadCount_2 rfl ?_
  refine E_iload1 (q := 4) dL_deadCount_3 rfl ?_
  exact E_callVH (ar := [.int p0]) lk_L_68 rfl hs rc_X5 (by decide) (by omega) (by omega) (Nat.le_of_ble_eq_true rfl) dL_deadCount_4 rfl rfl rfl rfl (fun q => V_toH (hcat q))
abbrev cfL_deadBlock : Cfg := (RL, cL_deadBlock, 5, (some .int))
theorem cw_L_deadBlock : Cond.codeWith yL_deadBlock cL_deadBlock 5 (some .int) [(0, 10, 13, 13)] ∈ lw_good := gdi 1170 (by decide +kernel) rfl
theorem sp_L_deadBlock {p0 p1 : Int32} {d : Nat} (hd : d < 15) (hs : Spec D d yX5_deadBlock cfX5_deadBlock [.ref (ad 0), .int p0, .int p1] (wl D ad M) 0 0 (PI y (wl D ad M))) : SpecH D 15 yL_deadBlock cfL_deadBlock [(0, 10, 13, 13)] [.ref (ad 0), .int p0, .int p1, .ref (ad 165)] (wl D ad M) 1 6 (PI (nI 0) (wl D ad (outM M y))) := by
  refine SpecH.of (by decide) rfl (Nat.le_of_ble_eq_true rfl) rfl ?_
  refine V_toH ?_
  refine E_aload3 (q := 1) dL_deadBlock_0 rfl ?_
  refine E_iconst (v := nI 0) (q := 2) dL_deadBlock_1 (by decide) rfl ?_
  refine E_aload0 (q := 3) dL_deadBlock_2 rfl ?_
  refine E_iload1 (q := 4) dL_deadBlock_3 rfl ?_
  refine E_iload2 (q := 5) dL_deadBlock_4 rfl ?_
  refine E_callV (ar := [.int p0, .int p1]) (q := 8) lk_L_71 hs rc_X5 hd (by omega) (by omega) (Nat.le_of_ble_eq_true rfl) dL_deadBlock_5 rfl rfl ?_
  rintro v w ⟨hv, hw⟩
  rw [hv, hw]
  refine E_i2l (q := 9) dL_deadBlock_8 rfl ?_
  refine E_last (q := 10) sk_165 (by decide) (by decide) dL_deadBlock_9 rfl ?_
  refine E_goto (q := 17) dL_deadBlock_10 (by decide) ?_
  refine E_iconst (v := nI 0) (q := 18) dL_deadBlock_17 (by decide) rfl ?_
  exact E_ireturn rfl rfl dL_deadBlock_18 (PI_of rfl rfl)
theorem sp_LX_deadBlock {p0 p1 : Int32} (hs : SpecT D 10 yX5_deadBlock cfX5_deadBlock [.ref (ad 0), .int p0, .int p1] (wl D ad M) 1 6) : SpecH D 15 yL_deadBlock cfL_deadBlock [(0, 10, 13, 13)] [.ref (ad 0), .int p0, .int p1, .ref (ad 165)] (wl D ad M) 1 6 (PI (nI 1) (wl D ad M)) := by
  refine SpecH.of (by decide) rfl (Nat.le_of_ble_eq_true rfl) rfl ?_
  have hcat : ∀ q, V D cfL_deadBlock (rmOf 15 1 6) (QM D (PI (nI 1) (wl D ad M)) 1 6) 1 6 13 [some (.ref (ad 0)), some (.int p0), some (.int p1), some (.ref (ad 165)), none] [.ref q] (wl D ad M) := by
    intro q
    refine E_astore4 (q := 15) dL_deadBlock_13 rfl rfl ?_
    refine E_iconst (v := nI 1) (q := 16) dL_deadBlock_15 (by decide) rfl ?_
    exact E_ireturn rfl rfl dL_deadBlock_16 (PI_of rfl rfl)
  refine E_aload3 (q := 1) dL_deadBlock_0 rfl ?_
  refine E_iconst (v := nI 0) (q := 2) dL_deadBlock_1 (by decide) rfl ?_
  refine E_aload0 (q := 3) dL_deadBlock_2 rfl ?_
  refine E_iload1 (q := 4) dL_deadBlock_3 rfl ?_
  refine E_iload2 (q := 5) dL_deadBlock_4 rfl ?_
  exact E_callVH (ar := [.int p0, .int p1]) lk_L_71 rfl hs rc_X5 (by decide) (by omega) (by omega) (Nat.le_of_ble_eq_true rfl) dL_deadBlock_5 rfl rfl rfl rfl (fun q => V_toH (hcat q))
abbrev cfL_byDeadBlocks : Cfg := (RL, cL_byDeadBlocks, 4, (some .int))
theorem cw_L_byDeadBlocks : Cond.codeWith yL_byDeadBlocks cL_byDeadBlocks 4 (some .int) [(0, 9, 12, 13)] ∈ lw_good := gdi 1177 (by decide +kernel) rfl
theorem sp_L_byDeadBlocks {p0 : Int32} {d : Nat} (hd : d < 15) (hs : Spec D d yX5_byDeadBlocks cfX5_byDeadBlocks [.ref (ad 0), .int p0] (wl D ad M) 0 0 (PI y (wl D ad M))) : SpecH D 15 yL_byDeadBlocks cfL_byDeadBlocks [(0, 9, 12, 13)] [.ref (ad 0), .int p0, .ref (ad 165)] (wl D ad M) 1 6 (PI (nI 0) (wl D ad (outM M y))) := by
  refine SpecH.of (by decide) rfl (Nat.le_of_ble_eq_true rfl) rfl ?_
  refine V_toH ?_
  refine E_aload2 (q := 1) dL_byDeadBlocks_0 rfl ?_
  refine E_iconst (v := nI 0) (q := 2) dL_byDeadBlocks_1 (by decide) rfl ?_
  refine E_aload0 (q := 3) dL_byDeadBlocks_2 rfl ?_
  refine E_iload1 (q := 4) dL_byDeadBlocks_3 rfl ?_
  refine E_callV (ar := [.int p0]) (q := 7) lk_L_74 hs rc_X5 hd (by omega) (by omega) (Nat.le_of_ble_eq_true rfl) dL_byDeadBlocks_4 rfl rfl ?_
  rintro v w ⟨hv, hw⟩
  rw [hv, hw]
  refine E_i2l (q := 8) dL_byDeadBlocks_7 rfl ?_
  refine E_last (q := 9) sk_165 (by decide) (by decide) dL_byDeadBlocks_8 rfl ?_
  refine E_goto (q := 15) dL_byDeadBlocks_9 (by decide) ?_
  refine E_iconst (v := nI 0) (q := 16) dL_byDeadBlocks_15 (by decide) rfl ?_
  exact E_ireturn rfl rfl dL_byDeadBlocks_16 (PI_of rfl rfl)
theorem sp_LX_byDeadBlocks {p0 : Int32} (hs : SpecT D 10 yX5_byDeadBlocks cfX5_byDeadBlocks [.ref (ad 0), .int p0] (wl D ad M) 1 6) : SpecH D 15 yL_byDeadBlocks cfL_byDeadBlocks [(0, 9, 12, 13)] [.ref (ad 0), .int p0, .ref (ad 165)] (wl D ad M) 1 6 (PI (nI 1) (wl D ad M)) := by
  refine SpecH.of (by decide) rfl (Nat.le_of_ble_eq_true rfl) rfl ?_
  have hcat : ∀ q, V D cfL_byDeadBlocks (rmOf 15 1 6) (QM D (PI (nI 1) (wl D ad M)) 1 6) 1 6 12 [some (.ref (ad 0)), some (.int p0), some (.ref (ad 165)), none] [.ref q] (wl D ad M) := by
    intro q
    refine E_astore3 (q := 13) dL_byDeadBlocks_12 rfl rfl ?_
    refine E_iconst (v := nI 1) (q := 14) dL_byDeadBlocks_13 (by decide) rfl ?_
    exact E_ireturn rfl rfl dL_byDeadBlocks_14 (PI_of rfl rfl)
  refine E_aload2 (q := 1) dL_byDeadBlocks_0 rfl ?_
  refine E_iconst (v := nI 0) (q := 2) dL_byDeadBlocks_1 (by decide) rfl ?_
  refine E_aload0 (q := 3) dL_byDeadBlocks_2 rfl ?_
  refine E_iload1 (q := 4) dL_byDeadBlocks_3 rfl ?_
  exact E_callVH (ar := [.int p0]) lk_L_74 rfl hs rc_X5 (by decide) (by omega) (by omega) (Nat.le_of_ble_eq_true rfl) dL_byDeadBlocks_4 rfl rfl rfl rfl (fun q => V_toH (hcat q))
abbrev cfL_freedByVolume : Cfg := (RL, cL_freedByVolume, 4, (some .int))
theorem cw_L_freedByVolume : Cond.codeWith yL_freedByVolume cL_freedByVolume 4 (some .int) [(0, 9, 12, 13)] ∈ lw_good := gdi 1184 (by decide +kernel) rfl
theorem sp_L_freedByVolume {p0 : Int32} {d : Nat} (hd : d < 15) (hs : Spec D d yX5_freedByVolume cfX5_freedByVolume [.ref (ad 0), .int p0] (wl D ad M) 0 0 (PI y (wl D ad M))) : SpecH D 15 yL_freedByVolume cfL_freedByVolume [(0, 9, 12, 13)] [.ref (ad 0), .int p0, .ref (ad 165)] (wl D ad M) 1 6 (PI (nI 0) (wl D ad (outM M y))) := by
  refine SpecH.of (by decide) rfl (Nat.le_of_ble_eq_true rfl) rfl ?_
  refine V_toH ?_
  refine E_aload2 (q := 1) dL_freedByVolume_0 rfl ?_
  refine E_iconst (v := nI 0) (q := 2) dL_freedByVolume_1 (by decide) rfl ?_
  refine E_aload0 (q := 3) dL_freedByVolume_2 rfl ?_
  refine E_iload1 (q := 4) dL_freedByVolume_3 rfl ?_
  refine E_callV (ar := [.int p0]) (q := 7) lk_L_77 hs rc_X5 hd (by omega) (by omega) (Nat.le_of_ble_eq_true rfl) dL_freedByVolume_4 rfl rfl ?_
  rintro v w ⟨hv, hw⟩
  rw [hv, hw]
  refine E_i2l (q := 8) dL_freedByVolume_7 rfl ?_
  refine E_last (q := 9) sk_165 (by decide) (by decide) dL_freedByVolume_8 rfl ?_
  refine E_goto (q := 15) dL_freedByVolume_9 (by decide) ?_
  refine E_iconst (v := nI 0) (q := 16) dL_freedByVolume_15 (by decide) rfl ?_
  exact E_ireturn rfl rfl dL_freedByVolume_16 (PI_of rfl rfl)
theorem sp_LX_freedByVolume {p0 : Int32} (hs : SpecT D 10 yX5_freedByVolume cfX5_freedByVolume [.ref (ad 0), .int p0] (wl D ad M) 1 6) : SpecH D 15 yL_freedByVolume cfL_freedByVolume [(0, 9, 12, 13)] [.ref (ad 0), .int p0, .ref (ad 165)] (wl D ad M) 1 6 (PI (nI 1) (wl D ad M)) := by
  refine SpecH.of (by decide) rfl (Nat.le_of_ble_eq_true rfl) rfl ?_
  have hcat : ∀ q, V D cfL_freedByVolume (rmOf 15 1 6) (QM D (PI (nI 1) (wl D ad M)) 1 6) 1 6 12 [some (.ref (ad 0)), some (.int p0), some (.ref (ad 165)), none] [.ref q] (wl D ad M) := by
    intro q
    refine E_astore3 (q := 13) dL_freedByVolume_12 rfl rfl ?_
    refine E_iconst (v := nI 1) (q := 14) dL_freedByVolume_13 (by decide) rfl ?_
    exact E_ireturn rfl rfl dL_freedByVolume_14 (PI_of rfl rfl)
  refine E_aload2 (q := 1) dL_freedByVolume_0 rfl ?_
  refine E_iconst (v := nI 0) (q := 2) dL_freedByVolume_1 (by decide) rfl ?_
  refine E_aload0 (q := 3) dL_freedByVolume_2 rfl ?_
  refine E_iload1 (q := 4) dL_freedByVolume_3 rfl ?_
  exact E_callVH (ar := [.int p0]) lk_L_77 rfl hs rc_X5 (by decide) (by omega) (by omega) (Nat.le_of_ble_eq_true rfl) dL_freedByVolume_4 rfl rfl rfl rfl (fun q => V_toH (hcat q))
abbrev cfL_usedBySnapshots : Cfg := (RL, cL_usedBySnapshots, 4, (some .int))
theorem cw_L_usedBySnapshots : Cond.codeWith yL_usedBySnapshots cL_usedBySnapshots 4 (some .int) [(0, 9, 12, 13)] ∈ lw_good := gdi 1191 (by decide +kernel) rfl
theorem sp_L_usedBySnapshots {p0 : Int32} {d : Nat} (hd : d < 15) (hs : Spec D d yX5_usedBySnapshots cfX5_usedBySnapshots [.ref (ad 0), .int p0] (wl D ad M) 0 0 (PI y (wl D ad M))) : SpecH D 15 yL_usedBySnapshots cfL_usedBySnapshots [(0, 9, 12, 13)] [.ref (ad 0), .int p0, .ref (ad 165)] (wl D ad M) 1 6 (PI (nI 0) (wl D ad (outM M y))) := by
  refine SpecH.of (by decide) rfl (Nat.le_of_ble_eq_true rfl) rfl ?_
  refine V_toH ?_
  refine E_aload2 (q := 1) dL_usedBySnapshots_0 rfl ?_
  refine E_iconst (v := nI 0) (q := 2) dL_usedBySnapshots_1 (by decide) rfl ?_
  refine E_aload0 (q := 3) dL_usedBySnapshots_2 rfl ?_
  refine E_iload1 (q := 4) dL_usedBySnapshots_3 rfl ?_
  refine E_callV (ar := [.int p0]) (q := 7) lk_L_80 hs rc_X5 hd (by omega) (by omega) (Nat.le_of_ble_eq_true rfl) dL_usedBySnapshots_4 rfl rfl ?_
  rintro v w ⟨hv, hw⟩
  rw [hv, hw]
  refine E_i2l (q := 8) dL_usedBySnapshots_7 rfl ?_
  refine E_last (q := 9) sk_165 (by decide) (by decide) dL_usedBySnapshots_8 rfl ?_
  refine E_goto (q := 15) dL_usedBySnapshots_9 (by decide) ?_
  refine E_iconst (v := nI 0) (q := 16) dL_usedBySnapshots_15 (by decide) rfl ?_
  exact E_ireturn rfl rfl dL_usedBySnapshots_16 (PI_of rfl rfl)
theorem sp_LX_usedBySnapshots {p0 : Int32} (hs : SpecT D 10 yX5_usedBySnapshots cfX5_usedBySnapshots [.ref (ad 0), .int p0] (wl D ad M) 1 6) : SpecH D 15 yL_usedBySnapshots cfL_usedBySnapshots [(0, 9, 12, 13)] [.ref (ad 0), .int p0, .ref (ad 165)] (wl D ad M) 1 6 (PI (nI 1) (wl D ad M)) := by
  refine SpecH.of (by decide) rfl (Nat.le_of_ble_eq_true rfl) rfl ?_
  have hcat : ∀ q, V D cfL_usedBySnapshots (rmOf 15 1 6) (QM D (PI (nI 1) (wl D ad M)) 1 6) 1 6 12 [some (.ref (ad 0)), some (.int p0), some (.ref (ad 165)), none] [.ref q] (wl D ad M) := by
    intro q
    refine E_astore3 (q := 13) dL_usedBySnapshots_12 rfl rfl ?_
    refine E_iconst (v := nI 1) (q := 14) dL_usedBySnapshots_13 (by decide) rfl ?_
    exact E_ireturn rfl rfl dL_usedBySnapshots_14 (PI_of rfl rfl)
  refine E_aload2 (q := 1) dL_usedBySnapshots_0 rfl ?_
  refine E_iconst (v := nI 0) (q := 2) dL_usedBySnapshots_1 (by decide) rfl ?_
  refine E_aload0 (q := 3) dL_usedBySnapshots_2 rfl ?_
  refine E_iload1 (q := 4) dL_usedBySnapshots_3 rfl ?_
  exact E_callVH (ar := [.int p0]) lk_L_80 rfl hs rc_X5 (by decide) (by omega) (by omega) (Nat.le_of_ble_eq_true rfl) dL_usedBySnapshots_4 rfl rfl rfl rfl (fun q => V_toH (hcat q))
abbrev cfL_whyKept : Cfg := (RL, cL_whyKept, 4, (some .int))
theorem cw_L_whyKept : Cond.codeWith yL_whyKept cL_whyKept 4 (some .int) [(0, 9, 12, 13)] ∈ lw_good := gdi 1198 (by decide +kernel) rfl
theorem sp_L_whyKept {p0 : Int32} {d : Nat} (hd : d < 15) (hs : Spec D d yX5_whyKept cfX5_whyKept [.ref (ad 0), .int p0] (wl D ad M) 0 0 (PI y (wl D ad M))) : SpecH D 15 yL_whyKept cfL_whyKept [(0, 9, 12, 13)] [.ref (ad 0), .int p0, .ref (ad 165)] (wl D ad M) 1 6 (PI (nI 0) (wl D ad (outM M y))) := by
  refine SpecH.of (by decide) rfl (Nat.le_of_ble_eq_true rfl) rfl ?_
  refine V_toH ?_
  refine E_aload2 (q := 1) dL_whyKept_0 rfl ?_
  refine E_iconst (v := nI 0) (q := 2) dL_whyKept_1 (by decide) rfl ?_
  refine E_aload0 (q := 3) dL_whyKept_2 rfl ?_
  refine E_iload1 (q := 4) dL_whyKept_3 rfl ?_
  refine E_callV (ar := [.int p0]) (q := 7) lk_L_83 hs rc_X5 hd (by omega) (by omega) (Nat.le_of_ble_eq_true rfl) dL_whyKept_4 rfl rfl ?_
  rintro v w ⟨hv, hw⟩
  rw [hv, hw]
  refine E_i2l (q := 8) dL_whyKept_7 rfl ?_
  refine E_last (q := 9) sk_165 (by decide) (by decide) dL_whyKept_8 rfl ?_
  refine E_goto (q := 15) dL_whyKept_9 (by decide) ?_
  refine E_iconst (v := nI 0) (q := 16) dL_whyKept_15 (by decide) rfl ?_
  exact E_ireturn rfl rfl dL_whyKept_16 (PI_of rfl rfl)
theorem sp_LX_whyKept {p0 : Int32} (hs : SpecT D 10 yX5_whyKept cfX5_whyKept [.ref (ad 0), .int p0] (wl D ad M) 1 6) : SpecH D 15 yL_whyKept cfL_whyKept [(0, 9, 12, 13)] [.ref (ad 0), .int p0, .ref (ad 165)] (wl D ad M) 1 6 (PI (nI 1) (wl D ad M)) := by
  refine SpecH.of (by decide) rfl (Nat.le_of_ble_eq_true rfl) rfl ?_
  have hcat : ∀ q, V D cfL_whyKept (rmOf 15 1 6) (QM D (PI (nI 1) (wl D ad M)) 1 6) 1 6 12 [some (.ref (ad 0)), some (.int p0), some (.ref (ad 165)), none] [.ref q] (wl D ad M) := by
    intro q
    refine E_astore3 (q := 13) dL_whyKept_12 rfl rfl ?_
    refine E_iconst (v := nI 1) (q := 14) dL_whyKept_13 (by decide) rfl ?_
    exact E_ireturn rfl rfl dL_whyKept_14 (PI_of rfl rfl)
  refine E_aload2 (q := 1) dL_whyKept_0 rfl ?_
  refine E_iconst (v := nI 0) (q := 2) dL_whyKept_1 (by decide) rfl ?_
  refine E_aload0 (q := 3) dL_whyKept_2 rfl ?_
  refine E_iload1 (q := 4) dL_whyKept_3 rfl ?_
  exact E_callVH (ar := [.int p0]) lk_L_83 rfl hs rc_X5 (by decide) (by omega) (by omega) (Nat.le_of_ble_eq_true rfl) dL_whyKept_4 rfl rfl rfl rfl (fun q => V_toH (hcat q))
abbrev cfL_wouldMove : Cfg := (RL, cL_wouldMove, 4, (some .int))
theorem cw_L_wouldMove : Cond.codeWith yL_wouldMove cL_wouldMove 4 (some .int) [(0, 9, 12, 13)] ∈ lw_good := gdi 1205 (by decide +kernel) rfl
theorem sp_L_wouldMove {p0 : Int32} {d : Nat} (hd : d < 15) (hs : Spec D d yX5_wouldMove cfX5_wouldMove [.ref (ad 0), .int p0] (wl D ad M) 0 0 (PI y (wl D ad M))) : SpecH D 15 yL_wouldMove cfL_wouldMove [(0, 9, 12, 13)] [.ref (ad 0), .int p0, .ref (ad 165)] (wl D ad M) 1 6 (PI (nI 0) (wl D ad (outM M y))) := by
  refine SpecH.of (by decide) rfl (Nat.le_of_ble_eq_true rfl) rfl ?_
  refine V_toH ?_
  refine E_aload2 (q := 1) dL_wouldMove_0 rfl ?_
  refine E_iconst (v := nI 0) (q := 2) dL_wouldMove_1 (by decide) rfl ?_
  refine E_aload0 (q := 3) dL_wouldMove_2 rfl ?_
  refine E_iload1 (q := 4) dL_wouldMove_3 rfl ?_
  refine E_callV (ar := [.int p0]) (q := 7) lk_L_86 hs rc_X5 hd (by omega) (by omega) (Nat.le_of_ble_eq_true rfl) dL_wouldMove_4 rfl rfl ?_
  rintro v w ⟨hv, hw⟩
  rw [hv, hw]
  refine E_i2l (q := 8) dL_wouldMove_7 rfl ?_
  refine E_last (q := 9) sk_165 (by decide) (by decide) dL_wouldMove_8 rfl ?_
  refine E_goto (q := 15) dL_wouldMove_9 (by decide) ?_
  refine E_iconst (v := nI 0) (q := 16) dL_wouldMove_15 (by decide) rfl ?_
  exact E_ireturn rfl rfl dL_wouldMove_16 (PI_of rfl rfl)
theorem sp_LX_wouldMove {p0 : Int32} (hs : SpecT D 10 yX5_wouldMove cfX5_wouldMove [.ref (ad 0), .int p0] (wl D ad M) 1 6) : SpecH D 15 yL_wouldMove cfL_wouldMove [(0, 9, 12, 13)] [.ref (ad 0), .int p0, .ref (ad 165)] (wl D ad M) 1 6 (PI (nI 1) (wl D ad M)) := by
  refine SpecH.of (by decide) rfl (Nat.le_of_ble_eq_true rfl) rfl ?_
  have hcat : ∀ q, V D cfL_wouldMove (rmOf 15 1 6) (QM D (PI (nI 1) (wl D ad M)) 1 6) 1 6 12 [some (.ref (ad 0)), some (.int p0), some (.ref (ad 165)), none] [.ref q] (wl D ad M) := by
    intro q
    refine E_astore3 (q := 13) dL_wouldMove_12 rfl rfl ?_
    refine E_iconst (v := nI 1) (q := 14) dL_wouldMove_13 (by decide) rfl ?_
    exact E_ireturn rfl rfl dL_wouldMove_14 (PI_of rfl rfl)
  refine E_aload2 (q := 1) dL_wouldMove_0 rfl ?_
  refine E_iconst (v := nI 0) (q := 2) dL_wouldMove_1 (by decide) rfl ?_
  refine E_aload0 (q := 3) dL_wouldMove_2 rfl ?_
  refine E_iload1 (q := 4) dL_wouldMove_3 rfl ?_
  exact E_callVH (ar := [.int p0]) lk_L_86 rfl hs rc_X5 (by decide) (by omega) (by omega) (Nat.le_of_ble_eq_true rfl) dL_wouldMove_4 rfl rfl rfl rfl (fun q => V_toH (hcat q))
abbrev cfL_writeOut : Cfg := (RL, cL_writeOut, 4, (some .int))
theorem cw_L_writeOut : Cond.codeWith yL_writeOut cL_writeOut 4 (some .int) [(0, 9, 12, 13)] ∈ lw_good := gdi 1212 (by decide +kernel) rfl
end LAWH
