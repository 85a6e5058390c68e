
/-! TEXTS that the tables hold; statics -/
section STR
variable {D : va_G} {F F' : Cfg} {rm : Room} {Qf : QF} {k n pc q d d' mc ms mc' ms' idx : Nat} {locs : List (Option Value)} {st rest ar : List Value} {ws : va_W} {y : MethodName} {b : Nat} {post : Option Value → va_W → Prop}
theorem E_getsZ {C nm ds : String} {v : Value} (hZ : ∀ (A : Nat → Prop) (s : State), EV A s s.heap → va_Z C nm ds v A s s.heap) (hl : Cond.fieldLink F.1 idx C nm ds ∈ lw_good) (hd : decode F.2.1 pc = .ok (.getstatic idx, 3)) (hq : pc + 3 = q) (kk : V D F rm Qf k n q locs (v :: st) ws) : V D F rm Qf k n pc locs st ws := by
  subst hq
  intro p l e s m args below meth c A H lc ls C0 hlen hk hn hP hD hS hll
  exact va_gets C0.1 C0.2.1 (hZ A s C0.2.2.2.2.2.2.2.2.2.1) hS C0.2.2.2.2.1 (C0.2.2.2.2.2.1 _ hl) (fun _ h => h) hd (kk p l e s m args below meth c A H lc ls C0 hlen hk hn hP hD hS hll)
theorem E_getsCS (hl : Cond.fieldLink F.1 idx "java/lang/String" "COMPACT_STRINGS" "Z" ∈ lw_good) (hd : decode F.2.1 pc = .ok (.getstatic idx, 3)) (hq : pc + 3 = q) (kk : V D F rm Qf k n q locs (.int (nI 1) :: st) ws) : V D F rm Qf k n pc locs st ws := E_getsZ (fun A s h => h.2.2.2.1) hl hd hq kk
theorem E_getsFm (hl : Cond.fieldLink F.1 idx "jdk/internal/util/Preconditions" "SIOOBE_FORMATTER" "Ljava/util/function/BiFunction;" ∈ lw_good) (hd : decode F.2.1 pc = .ok (.getstatic idx, 3)) (hq : pc + 3 = q) (k0 : V D F rm Qf k n q locs (.null :: st) ws) (k1 : ∀ t : Nat, V D F rm Qf k n q locs (.ref t :: st) ws) : V D F rm Qf k n pc locs st ws := by
  subst hq
  intro p l e s m args below meth c A H lc ls C0 hlen hk hn hP hD hS hll
  rcases C0.2.2.2.2.2.2.2.2.2.1.2.2.2.2.2.2.1 with h | ⟨t, h⟩
  · exact va_gets C0.1 C0.2.1 h hS C0.2.2.2.2.1 (C0.2.2.2.2.2.1 _ hl) (fun _ h => h) hd (k0 p l e s m args below meth c A H lc ls C0 hlen hk hn hP hD hS hll)
  · exact va_gets C0.1 C0.2.1 h hS C0.2.2.2.2.1 (C0.2.2.2.2.2.1 _ hl) (fun _ h => h) hd (k1 t p l e s m args below meth c A H lc ls C0 hlen hk hn hP hD hS hll)
/-- what is known of the start besides -/
abbrev GF : Type := State → (Nat → Prop) → Prop
def QG (G : GF) (Qf : QF) : QF := fun l s m args below c A t => G s A → Qf l s m args below c A t
theorem V_useG {G : GF} (h : ∀ (p : Program) (l : Launch) (e : Env) (s : State) (m : MethodId) (args : Array Value) (below : List Frame) (meth : Method) (c : Code) (A : Nat → Prop) (H : Heap) (lc : List Loc) (ls : Array Slot),
    VX D F p l s m args meth c A → G s A → locs.length = F.2.2.1 → k ≤ rm.cells → n ≤ rm.slots → va_P D vwCl ws H → va_D A ws → va_S A s.heap H lc → LocOK ls locs → W p l e rm s m args below meth c H lc k n (QG G Qf l s m args below c A) (F0 m pc ls st)) : V D F rm (QG G Qf) k n pc locs st ws := by
  intro p l e s m args below meth c A H lc ls C h1 h2 h3 h4 h5 h6 h7
  by_cases hG : G s A
  · exact h p l e s m args below meth c A H lc ls C hG h1 h2 h3 h4 h5 h6 h7
  · intro T hT X
    exact ⟨_, Steps.refl _, fun z => absurd z hG⟩
theorem V_noG {G : GF} (h : V D F rm Qf k n pc locs st ws) : V D F rm (QG G Qf) k n pc locs st ws := by
  intro p l e s m args below meth c A H lc ls C h1 h2 h3 h4 h5 h6 h7
  intro T hT X
  obtain ⟨t, a1, b1⟩ := h p l e s m args below meth c A H lc ls C h1 h2 h3 h4 h5 h6 h7 T hT X
  exact ⟨t, a1, fun _ => b1⟩
/-- G stays through calls -/
def GSt (G : GF) : Prop := (∀ (s U : State) (A B : Nat → Prop) (H : Heap) (lc : List Loc), U.heap = H → s.WarmedH U.vm → va_S A s.heap H lc → (∀ q, B q → A q) → G s A → G U B) ∧ ∀ (a : Array Value) (U : State) (g : JFrame) (mk : MethodId) (A : Nat → Prop), G U A → G (U.calling g mk a) A
def SpecG (D : va_G) (d : Nat) (y : MethodName) (F : Cfg) (G : GF) (args : List Value) (ws : va_W) (mc ms : Nat) (post : Option Value → va_W → Prop) : Prop :=
  ∀ (l : Launch) (sz : Nat), l.flags = flags0 → Met l y (wsOf y F) (rmOf d mc ms) (fun a U => PC D args ws sz a U ∧ G U (va_A ws sz)) (QC D post (va_A ws sz)) mc ms (va_A ws sz)
theorem SpecG.of {G : GF} {args : List Value} {locs : List (Option Value)} (hy : plainName y.cls = true) (hc : y.cls = F.1) (hn : (lg_sl args).length ≤ F.2.2.1) (hle : locsOf args F.2.2.1 = locs)
    (hv : V D F (rmOf d mc ms) (QG G (QM D post mc ms)) 0 0 0 locs [] ws) : SpecG D d y F G args ws mc ms post := by
  intro l sz hfl
  refine Met.ofW (cc := F.2.1) (maxL := F.2.2.1) (ret := F.2.2.2) hy rfl ?_
  intro p e s m a below meth c s₁ B hml hvv
  obtain ⟨⟨rfl, hsz, hP, hK, hD0, hE⟩, hG⟩ := hvv
  subst hsz
  have hD := hD0.self (sz := s.heap.size)
  have hl := lv_entry args (n := F.2.2.1) hn
  rw [lg_entry_eq]
  subst hle
  intro T hT X
  obtain ⟨t, a1, b1⟩ := hv p l e s m _ below meth c (va_A ws s.heap.size) s.heap [] _ ⟨B.exec, B.bytes, hml, B.returns, hc ▸ findClass_of_methodNamed B.named, fun w h => atoms_spec (ws := wsOf y F) B.pre w (List.mem_cons_of_mem _ h), B.notSynchronized, fun q h => Or.inr h, hK, hE, hfl⟩ (by simp [locsOf]) (Nat.zero_le _) (Nat.zero_le _) hP hD va_S.rf (LocOK.entry hl) T hT X
  exact ⟨t, a1, b1 hG⟩
theorem PCG_blind {G : GF} (hg : GSt G) {args : List Value} {sz : Nat} : FrameBlind (fun a U => PC D args ws sz a U ∧ G U (va_A ws sz)) := fun a U g mk h => ⟨PC_blind a U g mk h.1, hg.2 a U g mk _ h.2⟩
theorem E_callVG {G : GF} (hg : GSt G) (lk : LkV F.1 idx y F' ar.length) (hs : SpecG D d' y F' G (.ref b :: ar) ws mc' ms' post) (hr : ∀ (s : State) (A : Nat → Prop) (H : Heap) (lc : List Loc), va_K D vwCl (TY D) s → va_P D vwCl ws H → G s A → va_S A s.heap H lc → ∃ cell : Cell, H[b]? = some cell ∧ cell.vm.isStatics = false ∧ s.vm.findClass F'.1 = some cell.cls) (hd' : d' < d) (hk : k + mc' ≤ mc) (hn : n + ms' ≤ ms) (hst : (rest.map fun v => v.category).sum ≤ 8) (hd : decode F.2.1 pc = .ok (.invokevirtual idx, 3)) (hstk : st = ar.reverse ++ .ref b :: rest) (hq : pc + 3 = q)
    (kk : ∀ v ws', post v ws' → V D F (rmOf d mc ms) (QG G Qf) (k + mc') (n + ms') q locs (v.toList ++ rest) ws') : V D F (rmOf d mc ms) (QG G Qf) k n pc locs st ws := by
  refine V_useG ?_
  intro p l e s m args below meth c A H lc ls C hG hlen hkc hnc hP hD hS hl
  subst hq; subst hstk
  have hts := C.2.2.2.2.2.1
  have hK := C.2.2.2.2.2.2.2.2.1
  have hA := C.2.2.2.2.2.2.2.1
  have hE := C.2.2.2.2.2.2.2.2.2.1
  have hrun := va_runV (As := ar) (rest := rest) (cells := k) (slots := n) (g := F0 m pc ls (ar.reverse ++ .ref b :: rest)) (p := p) (l := l) (e := e) (below := below) (meth := meth) (locs := lc) ⟨C.1, C.2.1, C.2.2.1, C.2.2.2.2.1, hts⟩ (hs l H.size C.2.2.2.2.2.2.2.2.2.2) ⟨lk.1.callB lk.2.1 hd' hts, hts _ lk.2.2.1, hts _ lk.2.2.2⟩ ⟨PCG_blind hg, hr s A H lc hK hP hG hS, fun U hU hW => ⟨PC_now hU hW hP hK hD hS hA hE, hg.1 s U A _ H lc hU hW hS (va_A_in hD hS hA) hG⟩⟩ rfl rfl (by rw [hl.1]; exact hlen) rfl (lv_room hst) hd ⟨hk, hn⟩
  refine va_callC hrun hS (va_A_in hD hS C.2.2.2.2.2.2.2.1) (va_A_in hD hS C.2.2.2.2.2.2.2.1) (fun v ws' H1 lc1 hp hP1 hD1 hS1 => ?_)
  exact kk v ws' hp p l e s m args below meth c A H1 lc1 ls C hlen hk hn hP1 hD1 hS1 hl
theorem E_callSG {G : GF} (hg : GSt G) (lk : LkS F.1 idx y F' ar.length) (hs : SpecG D d' y F' G ar ws mc' ms' post) (hd' : d' < d) (hk : k + mc' ≤ mc) (hn : n + ms' ≤ ms) (hst : (rest.map fun v => v.category).sum ≤ 8) (hd : decode F.2.1 pc = .ok (.invokestatic idx, 3)) (hstk : st = ar.reverse ++ rest) (hq : pc + 3 = q)
    (kk : ∀ v ws', post v ws' → V D F (rmOf d mc ms) (QG G Qf) (k + mc') (n + ms') q locs (v.toList ++ rest) ws') : V D F (rmOf d mc ms) (QG G Qf) k n pc locs st ws := by
  refine V_useG ?_
  intro p l e s m args below meth c A H lc ls C hG hlen hkc hnc hP hD hS hl
  subst hq; subst hstk
  have hts := C.2.2.2.2.2.1
  have hK := C.2.2.2.2.2.2.2.2.1
  have hA := C.2.2.2.2.2.2.2.1
  have hE := C.2.2.2.2.2.2.2.2.2.1
  have hrun := va_runS (As := ar) (rest := rest) (cells := k) (slots := n) (g := F0 m pc ls (ar.reverse ++ rest)) (p := p) (l := l) (e := e) (below := below) (meth := meth) (locs := lc) ⟨C.1, C.2.1, C.2.2.1, C.2.2.2.2.1, hts⟩ (hs l H.size C.2.2.2.2.2.2.2.2.2.2) ⟨lk.1.callB lk.2.1 hd' hts, hts _ lk.2.2⟩ ⟨PCG_blind hg, fun U hU hW => ⟨PC_now hU hW hP hK hD hS hA hE, hg.1 s U A _ H lc hU hW hS (va_A_in hD hS hA) hG⟩⟩ rfl rfl (by rw [hl.1]; exact hlen) rfl (lv_room hst) hd ⟨hk, hn⟩
  refine va_callC hrun hS (va_A_in hD hS C.2.2.2.2.2.2.2.1) (va_A_in hD hS C.2.2.2.2.2.2.2.1) (fun v ws' H1 lc1 hp hP1 hD1 hS1 => ?_)
  exact kk v ws' hp p l e s m args below meth c A H1 lc1 ls C hlen hk hn hP1 hD1 hS1 hl
/-- the texts -/
def StG (adK adV : Nat → Nat) : GF := fun s A => (∀ (i : Nat) (q : String × Nat × String), strs[i]? = some q → vk_R q.1 q.2.1 q.2.2 (adK i) s) ∧ vk_S 9 strLens strBytes adK adV A s s.heap
variable {adK adV : Nat → Nat}
theorem StG_st : GSt (StG adK adV) := ⟨fun s U A B H lc hU hW hS hAB h => ⟨fun i q hq => vk_R.warm hW (h.1 i q hq), by
    rw [hU]
    exact (vk_S.moved hW.alike ((h.2.kept hS.2.1).narrow hAB))⟩, fun a U g mk A h => ⟨fun i q hq => vk_R.same (u := U) (U := U.calling g mk a) rfl (h.1 i q hq), vk_S.moved (u := U) (U := U.calling g mk a) (Vm.Alike.refl U.vm) h.2⟩⟩
theorem E_openS (kk : ∀ adK adV : Nat → Nat, V D F rm (QG (StG adK adV) Qf) k n pc locs st ws) : V D F rm Qf k n pc locs st ws := by
  intro p l e s m args below meth c A H lc ls C h1 h2 h3 h4 h5 h6 h7
  obtain ⟨adK, adV, g1, g2⟩ := C.2.2.2.2.2.2.2.2.2.1.2.2.2.2.1
  intro T hT X
  obtain ⟨t, a1, b1⟩ := kk adK adV p l e s m args below meth c A H lc ls C h1 h2 h3 h4 h5 h6 h7 T hT X
  exact ⟨t, a1, b1 ⟨g1, g2⟩⟩
theorem E_ldcS {i : Nat} {tx : String} (hi : strs[i]? = some (F.1, idx, tx)) (hd : decode F.2.1 pc = .ok (.ldc idx, 2)) (hq : pc + 2 = q) (kk : V D F rm (QG (StG adK adV) Qf) k n q locs (.ref (adK i) :: st) ws) : V D F rm (QG (StG adK adV) Qf) k n pc locs st ws := by
  subst hq
  refine V_useG ?_
  intro p l e s m args below meth c A H lc ls C hG hlen hkc hnc hP hD hS hl
  exact va_ldcS C.1 C.2.1 C.2.2.2.2.1 (hG.1 i _ hi) hd (kk p l e s m args below meth c A H lc ls C hlen hkc hnc hP hD hS hl)
theorem E_strV {i : Nat} (hi : i < 9) (hl : Cond.fieldLink F.1 idx "java/lang/String" "value" "[B" ∈ lw_good) (hd : decode F.2.1 pc = .ok (.getfield idx, 3)) (hq : pc + 3 = q) (kk : V D F rm (QG (StG adK adV) Qf) k n q locs (.ref (adV i) :: st) ws) : V D F rm (QG (StG adK adV) Qf) k n pc locs (.ref (adK i) :: st) ws := by
  subst hq
  refine V_useG ?_
  intro p l e s m args below meth c A H lc ls C hG hlen hkc hnc hP hD hS hll
  exact vk_getf C.1 C.2.1 (hG.2.1 i hi).2.2.1 hS C.2.2.2.2.1 (C.2.2.2.2.2.1 _ hl) (fun _ h => h) hd (kk p l e s m args below meth c A H lc ls C hlen hkc hnc hP hD hS hll)
theorem E_strC {i : Nat} (hi : i < 9) (hl : Cond.fieldLink F.1 idx "java/lang/String" "coder" "B" ∈ lw_good) (hd : decode F.2.1 pc = .ok (.getfield idx, 3)) (hq : pc + 3 = q) (kk : V D F rm (QG (StG adK adV) Qf) k n q locs (.int (nI 0) :: st) ws) : V D F rm (QG (StG adK adV) Qf) k n pc locs (.ref (adK i) :: st) ws := by
  subst hq
  refine V_useG ?_
  intro p l e s m args below meth c A H lc ls C hG hlen hkc hnc hP hD hS hll
  exact vk_getf C.1 C.2.1 (hG.2.1 i hi).2.1 hS C.2.2.2.2.1 (C.2.2.2.2.2.1 _ hl) (fun _ h => h) hd (kk p l e s m args below meth c A H lc ls C hlen hkc hnc hP hD hS hll)
theorem E_strL {i : Nat} (hi : i < 9) (hd : decode F.2.1 pc = .ok (.arraylength, 1)) (hq : pc + 1 = q) (kk : V D F rm (QG (StG adK adV) Qf) k n q locs (.int (nI (strLens.getD i 0)) :: st) ws) : V D F rm (QG (StG adK adV) Qf) k n pc locs (.ref (adV i) :: st) ws := by
  subst hq
  refine V_useG ?_
  intro p l e s m args below meth c A H lc ls C hG hlen hkc hnc hP hD hS hll
  exact va_tlen C.1 C.2.1 (hG.2.1 i hi).2.2.2 hS rfl hd (kk p l e s m args below meth c A H lc ls C hlen hkc hnc hP hD hS hll)
theorem E_strB {i j : Nat} (hi : i < 9) (hj : j < strLens.getD i 0) (h7 : strLens.getD i 0 < 2 ^ 31) (hd : decode F.2.1 pc = .ok (.baload, 1)) (hq : pc + 1 = q) (kk : V D F rm (QG (StG adK adV) Qf) k n q locs (.int ((strBytes.getD i []).getD j 0) :: st) ws) : V D F rm (QG (StG adK adV) Qf) k n pc locs (.int (nI j) :: .ref (adV i) :: st) ws := by
  subst hq
  refine V_useG ?_
  intro p l e s m args below meth c A H lc ls C hG hlen hkc hnc hP hD hS hll
  exact va_tb C.1 C.2.1 (hG.2.1 i hi).2.2.2 hS (vp_in_nI hj h7) (by rw [nI_clamp (by omega)]) hd (kk p l e s m args below meth c A H lc ls C hlen hkc hnc hP hD hS hll)
theorem StG.recv {i : Nat} (hi : i < 9) : ∀ (s : State) (A : Nat → Prop) (H : Heap) (lc : List Loc), va_K D vwCl (TY D) s → va_P D vwCl ws H → StG adK adV s A → va_S A s.heap H lc → ∃ cell : Cell, H[adK i]? = some cell ∧ cell.vm.isStatics = false ∧ s.vm.findClass "java/lang/String" = some cell.cls := fun s A H lc _ _ hG hS => vk_recv hG.2 hi hS
def wordL (i : Nat) : List Nat := [[118, 111, 108, 117, 109, 101], [119, 114, 105, 116, 101], [116, 114, 105, 109], [115, 110, 97, 112], [99, 108, 111, 110, 101], [104, 111, 108, 100], [115, 101, 116], [112, 111, 111, 108], [99, 108, 111, 110, 101, 115]].getD i []
theorem word_len : ∀ i, i < 9 → strLens.getD i 0 = (wordL i).length ∧ (wordL i).length ≤ 6 := by decide
theorem word_ch : ∀ i, i < 9 → ∀ j, j < 6 → j < (wordL i).length → ((((strBytes.getD i []).getD j 0) &&& nI 255).toUInt32 % 65536).toInt32 = nI ((wordL i).getD j 0) ∧ (wordL i).getD j 0 < 256 := by decide
theorem word_ok : ∀ i, i < 9 → ∀ c, c ∈ wordL i → 97 ≤ c ∧ c ≤ 122 := by decide
theorem cs_J0_38 : Cond.fieldLink RJ0 38 "java/lang/String" "COMPACT_STRINGS" "Z" ∈ lw_good := gdi 407 (by decide +kernel) rfl
theorem cs_J5_18 : Cond.fieldLink RJ5 18 "java/lang/String" "COMPACT_STRINGS" "Z" ∈ lw_good := gdi 318 (by decide +kernel) rfl
theorem fm_J0_1053 : Cond.fieldLink RJ0 1053 "jdk/internal/util/Preconditions" "SIOOBE_FORMATTER" "Ljava/util/function/BiFunction;" ∈ lw_good := gdi 422 (by decide +kernel) rfl
theorem sv_J0_9 : Cond.fieldLink RJ0 9 "java/lang/String" "value" "[B" ∈ lw_good := gdi 1391 (by decide +kernel) rfl
theorem sc_J0_15 : Cond.fieldLink RJ0 15 "java/lang/String" "coder" "B" ∈ lw_good := gdi 1392 (by decide +kernel) rfl
theorem sp_J3_checkIndex0 {i m : Nat} (hi : i < m) (hm : m < 2 ^ 31) : Spec D 1 yJ3_checkIndex_8e157 cfJ3_checkIndex_8e157 [.int (nI i), .int (nI m), .null] ws 0 0 (PI (nI i) ws) := by
  refine Spec.of (by decide) rfl (Nat.le_of_ble_eq_true rfl) rfl ?_
  refine E_iload0 (q := 1) dJ3_checkIndex_8e157_0 rfl ?_
  refine E_if_lt (tgt := 9) (q := 4) dJ3_checkIndex_8e157_1 (by decide) rfl (fun h1 => ?_) (fun h1 => ?_)
  · skip
    exact absurd h1 (nI_pos (by omega))
  · skip
    refine E_iload0 (q := 5) dJ3_checkIndex_8e157_4 rfl ?_
    refine E_iload1 (q := 6) dJ3_checkIndex_8e157_5 rfl ?_
    refine E_icmp_ltN (tgt := 16) (q := 9) dJ3_checkIndex_8e157_6 (by decide) rfl (by omega) (by omega) (fun h6 => ?_) (fun h6 => ?_)
    · skip
      refine E_iload0 (q := 17) dJ3_checkIndex_8e157_16 rfl ?_
      exact E_ireturn rfl rfl dJ3_checkIndex_8e157_17 (PI_of rfl rfl)
    · skip
      exact absurd hi (by omega)
theorem sp_J3_checkIndex1 {i m t : Nat} (hi : i < m) (hm : m < 2 ^ 31) : Spec D 1 yJ3_checkIndex_8e157 cfJ3_checkIndex_8e157 [.int (nI i), .int (nI m), .ref t] ws 0 0 (PI (nI i) ws) := by
  refine Spec.of (by decide) rfl (Nat.le_of_ble_eq_true rfl) rfl ?_
  refine E_iload0 (q := 1) dJ3_checkIndex_8e157_0 rfl ?_
  refine E_if_lt (tgt := 9) (q := 4) dJ3_checkIndex_8e157_1 (by decide) rfl (fun h1 => ?_) (fun h1 => ?_)
  · skip
    exact absurd h1 (nI_pos (by omega))
  · skip
    refine E_iload0 (q := 5) dJ3_checkIndex_8e157_4 rfl ?_
    refine E_iload1 (q := 6) dJ3_checkIndex_8e157_5 rfl ?_
    refine E_icmp_ltN (tgt := 16) (q := 9) dJ3_checkIndex_8e157_6 (by decide) rfl (by omega) (by omega) (fun h6 => ?_) (fun h6 => ?_)
    · skip
      refine E_iload0 (q := 17) dJ3_checkIndex_8e157_16 rfl ?_
      exact E_ireturn rfl rfl dJ3_checkIndex_8e157_17 (PI_of rfl rfl)
    · skip
      exact absurd hi (by omega)
theorem sp_J0_checkIndex_df160 {i m : Nat} (hi : i < m) (hm : m < 2 ^ 31) : Spec D 2 yJ0_checkIndex_df160 cfJ0_checkIndex_df160 [.int (nI (i)), .int (nI (m))] ws 0 0 (PV ws) := by
  refine Spec.of (by decide) rfl (Nat.le_of_ble_eq_true rfl) rfl ?_
  refine E_iload0 (q := 1) dJ0_checkIndex_df160_0 rfl ?_
  refine E_iload1 (q := 2) dJ0_checkIndex_df160_1 rfl ?_
  refine E_getsFm (q := 5) fm_J0_1053 dJ0_checkIndex_df160_2 rfl ?_ (fun t => ?_)
  · refine C_S3I (q := 8) lk_J0_1059 (sp_J3_checkIndex0 hi hm) dJ0_checkIndex_df160_5 (by decide) (Nat.le_of_ble_eq_true rfl) rfl ?_
    refine E_pop (q := 9) dJ0_checkIndex_df160_8 rfl rfl ?_
    exact E_vreturn rfl rfl dJ0_checkIndex_df160_9 (PV_of rfl)
  · refine C_S3I (q := 8) lk_J0_1059 (sp_J3_checkIndex1 hi hm) dJ0_checkIndex_df160_5 (by decide) (Nat.le_of_ble_eq_true rfl) rfl ?_
    refine E_pop (q := 9) dJ0_checkIndex_df160_8 rfl rfl ?_
    exact E_vreturn rfl rfl dJ0_checkIndex_df160_9 (PV_of rfl)
theorem sp_J0_coder {i : Nat} (hi : i < 9) : SpecG D 1 yJ0_coder_7d493 cfJ0_coder_7d493 (StG adK adV) [.ref (adK i)] ws 0 0 (PI (nI 0) ws) := by
  refine SpecG.of (by decide) rfl (Nat.le_of_ble_eq_true rfl) rfl ?_
  refine E_getsCS (q := 3) cs_J0_38 dJ0_coder_7d493_0 rfl ?_
  refine E_if_eq (tgt := 13) (q := 6) dJ0_coder_7d493_3 (by decide) rfl (fun h3 => ?_) (fun h3 => ?_)
  · first | exact absurd h3 (by decide) | exact absurd (by decide) h3
  · skip
    refine E_aload0 (q := 7) dJ0_coder_7d493_6 rfl ?_
    refine E_strC (q := 10) hi sc_J0_15 dJ0_coder_7d493_7 rfl ?_
    refine E_goto (q := 14) dJ0_coder_7d493_10 (by decide) ?_
    exact V_noG (E_zreturn rfl rfl rfl dJ0_coder_7d493_14 (PI_of rfl rfl))
theorem sp_J0_isLatin1 {i : Nat} (hi : i < 9) : SpecG D 1 yJ0_isLatin1_aae02 cfJ0_isLatin1_aae02 (StG adK adV) [.ref (adK i)] ws 0 0 (PI (nI 1) ws) := by
  refine SpecG.of (by decide) rfl (Nat.le_of_ble_eq_true rfl) rfl ?_
  refine E_getsCS (q := 3) cs_J0_38 dJ0_isLatin1_aae02_0 rfl ?_
  refine E_if_eq (tgt := 17) (q := 6) dJ0_isLatin1_aae02_3 (by decide) rfl (fun h3 => ?_) (fun h3 => ?_)
  · first | exact absurd h3 (by decide) | exact absurd (by decide) h3
  · skip
    refine E_aload0 (q := 7) dJ0_isLatin1_aae02_6 rfl ?_
    refine E_strC (q := 10) hi sc_J0_15 dJ0_isLatin1_aae02_7 rfl ?_
    refine E_if_ne (tgt := 17) (q := 13) dJ0_isLatin1_aae02_10 (by decide) rfl (fun h10 => ?_) (fun h10 => ?_)
    · first | exact absurd h10 (by decide) | exact absurd (by decide) h10
    · skip
      refine E_iconst (v := nI 1) (q := 14) dJ0_isLatin1_aae02_13 (by decide) rfl ?_
      refine E_goto (q := 18) dJ0_isLatin1_aae02_14 (by decide) ?_
      exact V_noG (E_zreturn rfl rfl rfl dJ0_isLatin1_aae02_18 (PI_of rfl rfl))
theorem sp_J0_length {i : Nat} (hi : i < 9) : SpecG D 2 yJ0_length_8abf5 cfJ0_length_8abf5 (StG adK adV) [.ref (adK i)] ws 0 0 (PI (nI (wordL i).length) ws) := by
  obtain ⟨w1, w2⟩ := word_len i hi
  refine SpecG.of (by decide) rfl (Nat.le_of_ble_eq_true rfl) rfl ?_
  refine E_aload0 (q := 1) dJ0_length_8abf5_0 rfl ?_
  refine E_strV (q := 4) hi sv_J0_9 dJ0_length_8abf5_1 rfl ?_
  refine E_strL (q := 5) hi dJ0_length_8abf5_4 rfl ?_
  refine E_aload0 (q := 6) dJ0_length_8abf5_5 rfl ?_
  refine E_callVG (ar := []) (q := 9) StG_st lk_J0_335 (sp_J0_coder hi) (StG.recv hi) (by decide) (Nat.le_refl _) (Nat.le_refl _) (Nat.le_of_ble_eq_true rfl) dJ0_length_8abf5_6 rfl rfl ?_
  rintro v w' ⟨rfl, rfl⟩
  refine E_ishr (q := 10) dJ0_length_8abf5_9 rfl ?_
  refine V_int (show _ = nI (wordL i).length by rw [shr_nI (by omega) (by decide), Nat.pow_zero, Nat.div_one, w1]) ?_
  exact V_noG (E_ireturn rfl rfl dJ0_length_8abf5_10 (PI_of rfl rfl))
theorem sp_J1_charAtS {i j : Nat} (hi : i < 9) (hj : j < (wordL i).length) : SpecG D 3 yJ1_charAt_3b067 cfJ1_charAt_3b067 (StG adK adV) [.ref (adV i), .int (nI j)] ws 0 0 (PI (nI ((wordL i).getD j 0)) ws) := by
  obtain ⟨w1, w2⟩ := word_len i hi
  obtain ⟨w3, w4⟩ := word_ch i hi j (by omega) hj
  refine SpecG.of (by decide) rfl (Nat.le_of_ble_eq_true rfl) rfl ?_
  refine E_iload1 (q := 1) dJ1_charAt_3b067_0 rfl ?_
  refine E_aload0 (q := 2) dJ1_charAt_3b067_1 rfl ?_
  refine E_strL (q := 3) hi dJ1_charAt_3b067_2 rfl ?_
  refine C_S2V (q := 6) lk_J1_9 (sp_J0_checkIndex_df160 (by omega) (by omega)) dJ1_charAt_3b067_3 (by decide) (Nat.le_of_ble_eq_true rfl) rfl ?_
  refine E_aload0 (q := 7) dJ1_charAt_3b067_6 rfl ?_
  refine E_iload1 (q := 8) dJ1_charAt_3b067_7 rfl ?_
  refine E_strB (q := 9) hi (by omega) (by omega) dJ1_charAt_3b067_8 rfl ?_
  refine E_sipush (v := nI 255) (q := 12) dJ1_charAt_3b067_9 (by decide) rfl ?_
  refine E_iand (q := 13) dJ1_charAt_3b067_12 rfl ?_
  refine E_i2c (q := 14) dJ1_charAt_3b067_13 rfl ?_
  refine V_int w3 ?_
  exact V_noG (E_zreturn rfl rfl (pk_charN (by omega)).1 dJ1_charAt_3b067_14 (PI_of rfl rfl))
theorem sp_J0_charAt {i j : Nat} (hi : i < 9) (hj : j < (wordL i).length) : SpecG D 4 yJ0_charAt_5068e cfJ0_charAt_5068e (StG adK adV) [.ref (adK i), .int (nI j)] ws 0 0 (PI (nI ((wordL i).getD j 0)) ws) := by
  obtain ⟨w1, w2⟩ := word_len i hi
  obtain ⟨w3, w4⟩ := word_ch i hi j (by omega) hj
  refine SpecG.of (by decide) rfl (Nat.le_of_ble_eq_true rfl) rfl ?_
  refine E_aload0 (q := 1) dJ0_charAt_5068e_0 rfl ?_
  refine E_callVG (ar := []) (q := 4) StG_st lk_J0_492 (sp_J0_isLatin1 hi) (StG.recv hi) (by decide) (Nat.le_refl _) (Nat.le_refl _) (Nat.le_of_ble_eq_true rfl) dJ0_charAt_5068e_1 rfl rfl ?_
  rintro v w' ⟨rfl, rfl⟩
  refine E_if_eq (tgt := 16) (q := 7) dJ0_charAt_5068e_4 (by decide) rfl (fun h4 => ?_) (fun h4 => ?_)
  · first | exact absurd h4 (by decide) | exact absurd (by decide) h4
  · skip
    refine E_aload0 (q := 8) dJ0_charAt_5068e_7 rfl ?_
    refine E_strV (q := 11) hi sv_J0_9 dJ0_charAt_5068e_8 rfl ?_
    refine E_iload1 (q := 12) dJ0_charAt_5068e_11 rfl ?_
    refine E_callSG (ar := [.ref (adV i), .int (nI j)]) (q := 15) StG_st lk_J0_495 (sp_J1_charAtS hi hj) (by decide) (Nat.le_refl _) (Nat.le_refl _) (Nat.le_of_ble_eq_true rfl) dJ0_charAt_5068e_12 rfl rfl ?_
    rintro v w' ⟨rfl, rfl⟩
    exact V_noG (E_zreturn rfl rfl (pk_charN (by omega)).1 dJ0_charAt_5068e_15 (PI_of rfl rfl))
end STR
section CLS
variable {D : va_G} {ad : Nat → Nat} {M : Mem} {ws : va_W} {A : AS} {b : Nat → Nat} {n s e p q g : Nat} {adK adV : Nat → Nat}
theorem sp_X2_isWord {i : Nat} (h : LdC M b n s g A) (hi : i < 9) : SpecG D 5 yX2_isWord cfX2_isWord (StG adK adV) [.ref (ad 133), .ref (adK i)] (wl D ad M) 0 0 (PI (zI (knd b n s = 1 ∧ isWd b s (tokE b n s) (wordL i))) (wl D ad M)) := by
  obtain ⟨w1, w2⟩ := word_len i hi
  have hle := tokE_le (b := b) h.1.2.1
  have h1000 := h.1.1
  have hk4 := knd_le (b := b) (n := n) (q := s)
  refine SpecG.of (by decide) rfl (Nat.le_of_ble_eq_true rfl) rfl ?_
  have hmain : knd b n s = 1 → tokE b n s - s = (wordL i).length → V D cfX2_isWord (rmOf 5 0 0) (QG (StG adK adV) (QM D (PI (zI (knd b n s = 1 ∧ isWd b s (tokE b n s) (wordL i))) (wl D ad M)) 0 0)) 0 0 28 [some (.ref (ad 133)), some (.ref (adK i)), some (.int (nI 0))] [] (wl D ad M) := by
    intro hk hl
    refine (upto0 (n := (wordL i).length) (P := fun j => (∀ u, u < j → b (s + u) = (wordL i).getD u 0) → V D cfX2_isWord (rmOf 5 0 0) (QG (StG adK adV) (QM D (PI (zI (knd b n s = 1 ∧ isWd b s (tokE b n s) (wordL i))) (wl D ad M)) 0 0)) 0 0 28 [some (.ref (ad 133)), some (.ref (adK i)), some (.int (nI j))] [] (wl D ad M)) ?_ ?_) (fun u hu => absurd hu (by omega))
    · intro hall
      refine E_iload2 (q := 29) dX2_isWord_28 rfl ?_
      refine E_aload1 (q := 30) dX2_isWord_29 rfl ?_
      refine E_callVG (ar := []) (q := 33) StG_st lk_X2_197 (sp_J0_length hi) (StG.recv hi) (by decide) (Nat.le_refl _) (Nat.le_refl _) (Nat.le_of_ble_eq_true rfl) dX2_isWord_30 rfl rfl ?_
      rintro v w' ⟨hv1, hv2⟩
      rw [hv1, hv2]
      clear hv1 hv2
      refine E_icmp_geN (tgt := 62) (q := 36) dX2_isWord_33 (by decide) rfl (by omega) (by omega) (fun h33 => ?_) (fun h33 => ?_)
      · skip
        refine E_iconst (v := nI 1) (q := 63) dX2_isWord_62 (by decide) rfl ?_
        exact V_noG (E_zreturn rfl rfl rfl dX2_isWord_63 (PI_of (zI_t ⟨hk, hl, fun u c hc => by rw [hall u (List.getElem?_eq_some_iff.mp hc).1, List.getD_eq_getElem?_getD, hc]; rfl⟩) rfl))
      · skip
        exact absurd h33 (Nat.lt_irrefl _)
    · intro j hj ih hall
      obtain ⟨w3, w4⟩ := word_ch i hi j (by omega) hj
      have h256 := h.1.2.2.1 (s + j)
      refine E_iload2 (q := 29) dX2_isWord_28 rfl ?_
      refine E_aload1 (q := 30) dX2_isWord_29 rfl ?_
      refine E_callVG (ar := []) (q := 33) StG_st lk_X2_197 (sp_J0_length hi) (StG.recv hi) (by decide) (Nat.le_refl _) (Nat.le_refl _) (Nat.le_of_ble_eq_true rfl) dX2_isWord_30 rfl rfl ?_
      rintro v w' ⟨hv1, hv2⟩
      rw [hv1, hv2]
      clear hv1 hv2
      refine E_icmp_geN (tgt := 62) (q := 36) dX2_isWord_33 (by decide) rfl (by omega) (by omega) (fun h33 => ?_) (fun h33 => ?_)
      · skip
        exact absurd h33 (by omega)
      · skip
        refine E_aload0 (q := 37) dX2_isWord_36 rfl ?_
        refine E_aload0 (q := 38) dX2_isWord_37 rfl ?_
        refine G_X2_start (q := 41) fl_X2_35 dX2_isWord_38 rfl ?_
        refine V_int h.2.1.2.1 ?_
        refine E_iload2 (q := 42) dX2_isWord_41 rfl ?_
        refine E_iaddN (q := 43) dX2_isWord_42 rfl ?_
        refine C_V1I (q := 46) lk_X2_201 (sp_X2_charAt (show s + j < n by omega) h.1.1 h.1.2.2.1 h.2.2.1) rc_X2 dX2_isWord_43 (by decide) (Nat.le_of_ble_eq_true rfl) rfl ?_
        refine E_aload1 (q := 47) dX2_isWord_46 rfl ?_
        refine E_iload2 (q := 48) dX2_isWord_47 rfl ?_
        refine E_callVG (ar := [.int (nI j)]) (q := 51) StG_st lk_X2_205 (sp_J0_charAt hi hj) (StG.recv hi) (by decide) (Nat.le_refl _) (Nat.le_refl _) (Nat.le_of_ble_eq_true rfl) dX2_isWord_48 rfl rfl ?_
        rintro v w' ⟨hv1, hv2⟩
        rw [hv1, hv2]
        clear hv1 hv2
        refine E_icmp_eqN (tgt := 56) (q := 54) dX2_isWord_51 (by decide) rfl (by omega) (by omega) (fun h51 => ?_) (fun h51 => ?_)
        · skip
          refine E_iinc2 (q := 59) dX2_isWord_56 (nI_inc _) rfl rfl ?_
          refine E_goto (q := 28) dX2_isWord_59 (by decide) ?_
          exact ih (fun u hu => by rcases Nat.lt_or_ge u j with c | c; exact hall u c; rw [show u = j by omega]; exact h51)
        · skip
          refine E_iconst (v := nI 0) (q := 55) dX2_isWord_54 (by decide) rfl ?_
          exact V_noG (E_zreturn rfl rfl rfl dX2_isWord_55 (PI_of (zI_f (fun z => h51 (z.2.2 j _ (by rw [List.getD_eq_getElem?_getD]; rw [List.getElem?_eq_getElem hj]; rfl)))) rfl))
  refine E_aload0 (q := 1) dX2_isWord_0 rfl ?_
  refine G_X2_kind (q := 4) fl_X2_41 dX2_isWord_1 rfl ?_
  refine V_int h.2.1.2.2.2.1 ?_
  refine E_iconst (v := nI 1) (q := 5) dX2_isWord_4 (by decide) rfl ?_
  refine E_icmp_neN (tgt := 24) (q := 8) dX2_isWord_5 (by decide) rfl (by omega) (by omega) (fun h5 => ?_) (fun h5 => ?_)
  · skip
    refine E_iconst (v := nI 0) (q := 25) dX2_isWord_24 (by decide) rfl ?_
    exact V_noG (E_zreturn rfl rfl rfl dX2_isWord_25 (PI_of (zI_f (fun z => h5 z.1)) rfl))
  · skip
    refine E_aload0 (q := 9) dX2_isWord_8 rfl ?_
    refine G_X2_stop (q := 12) fl_X2_38 dX2_isWord_9 rfl ?_
    refine V_int h.2.1.2.2.1 ?_
    refine E_aload0 (q := 13) dX2_isWord_12 rfl ?_
    refine G_X2_start (q := 16) fl_X2_35 dX2_isWord_13 rfl ?_
    refine V_int h.2.1.2.1 ?_
    refine E_isubN (q := 17) dX2_isWord_16 (by omega) rfl ?_
    refine E_aload1 (q := 18) dX2_isWord_17 rfl ?_
    refine E_callVG (ar := []) (q := 21) StG_st lk_X2_197 (sp_J0_length hi) (StG.recv hi) (by decide) (Nat.le_refl _) (Nat.le_refl _) (Nat.le_of_ble_eq_true rfl) dX2_isWord_18 rfl rfl ?_
    rintro v w' ⟨hv1, hv2⟩
    rw [hv1, hv2]
    clear hv1 hv2
    refine E_icmp_eqN (tgt := 26) (q := 24) dX2_isWord_21 (by decide) rfl (by omega) (by omega) (fun h21 => ?_) (fun h21 => ?_)
    · skip
      refine E_iconst (v := nI 0) (q := 27) dX2_isWord_26 (by decide) rfl ?_
      refine E_istore2 (q := 28) dX2_isWord_27 rfl rfl ?_
      exact hmain h5 h21
    · skip
      refine E_iconst (v := nI 0) (q := 25) dX2_isWord_24 (by decide) rfl ?_
      exact V_noG (E_zreturn rfl rfl rfl dX2_isWord_25 (PI_of (zI_f (fun z => h21 z.2.1)) rfl))
end CLS
