
/-! BETWEEN TWO CALLS -/
section LINV
variable {D : va_G} {ad : Nat → Nat} {M M' : Mem} {A B : AS} {H : List AS} {f cap N : Nat} {tx : Nat → Nat} {T : List Nat} {e v : Int32}
/-- the class's cells -/
def CI (M : Mem) (A : AS) (H : List AS) (f : Nat) (tx : Nat → Nat) (cap : Nat) (T : List Nat) (e : Int32) : Prop := StoreIs M 1 A ∧ HistC M H ∧ TxC M f tx ∧ M 133 3 = e ∧ SbC M cap T
/-- the reference's cells -/
def RQm (M : Mem) (A : AS) (H : List AS) (f : Nat) (tx : Nat → Nat) (T : List Nat) (e : Int32) : Prop := RI M 158 A ∧ HistR M H ∧ TxQ M f tx ∧ M 157 10 = e ∧ OutR M T
def MI (A : AS) (H : List AS) (N : Nat) (T : List Nat) : Prop := WFC A ∧ (∀ B, B ∈ H → WF B ∧ WFC B ∧ aT B ≤ N) ∧ aT A ≤ N ∧ T.length ≤ 300
def LIx (N : Nat) (M : Mem) (A : AS) (H : List AS) (f : Nat) (tx : Nat → Nat) (cap : Nat) (T : List Nat) (e : Int32) : Prop := CI M A H f tx cap T e ∧ RQm M A H f tx T e ∧ MI A H N T ∧ CapOK cap
def LI (N : Nat) (M : Mem) : Prop := ∃ A H f tx cap T e, LIx N M A H f tx cap T e
theorem CI.same (h : CI M A H f tx cap T e) (hc : ∀ c, c < 157 → M' c = M c) (h3 : M' 157 3 = M 157 3) : CI M' A H f tx cap T e := by
  obtain ⟨h1, h2, ⟨t1, t2, t3, t4⟩, h4, ⟨⟨s1, s2, s3, s4⟩, s5, s6, s7⟩⟩ := h
  have c133 := hc 133 (by decide)
  have c134 := hc 134 (by decide)
  have c155 := hc 155 (by decide)
  have c156 := hc 156 (by decide)
  refine ⟨h1.congr (fun c _ hc' => hc c (by omega)), h2.congr (fun c _ hc' => hc c (by omega)), ⟨t1, by rw [c133]; exact t2, t3, fun i hi => by rw [c134]; exact t4 i hi⟩, by rw [c133]; exact h4, ⟨⟨by rw [c155]; exact s1, by rw [c155]; exact s2, by rw [c156]; exact s3, by rw [h3]; exact s4⟩, s5, fun i c hi => by rw [c156]; exact s6 i c hi, fun i hi => by rw [c156]; exact s7 i hi⟩⟩
theorem RQm.gen (h : RQm M A H f tx T e) (h2 : M' 157 2 = M 157 2) (h3 : M' 157 3 = M 157 3) (h9 : M' 157 9 = M 157 9) (h10 : M' 157 10 = M 157 10) (h23 : M' 157 23 = M 157 23) (e158 : M' 158 = M 158) (e159 : M' 159 = M 159) (e162 : M' 162 = M 162) (e164 : M' 164 = M 164) : RQm M' A H f tx T e := by
  obtain ⟨g1, ⟨g2, g3, g4⟩, ⟨t1, t2, t3, t4⟩, g5, o1, o2⟩ := h
  exact ⟨g1.cg e158 h3, ⟨by rw [h2]; exact g2, g3, fun i B hi => by rw [e159]; exact g4 i B hi⟩, ⟨t1, by rw [h9]; exact t2, t3, fun i hi => by rw [e162]; exact t4 i hi⟩, by rw [h10]; exact g5, by rw [h23]; exact o1, fun i c hi => by rw [e164]; exact o2 i c hi⟩
theorem MI.up (h : MI A H N T) : MI A H (N + 1) T := ⟨h.1, fun B hB => ⟨(h.2.1 B hB).1, (h.2.1 B hB).2.1, Nat.le_succ_of_le (h.2.1 B hB).2.2⟩, Nat.le_succ_of_le h.2.2.1, h.2.2.2⟩
theorem LIx.si (h : LIx N M A H f tx cap T e) : SI M 1 A := ⟨isSt_1, h.1.1, h.2.1.1.2.2⟩
theorem LIx.ri (h : LIx N M A H f tx cap T e) : RI M 158 A := h.2.1.1
theorem LIx.wf (h : LIx N M A H f tx cap T e) : WF A := h.2.1.1.2.2
theorem LIx.hc (h : LIx N M A H f tx cap T e) : HistC M H := h.1.2.1
theorem LIx.th (h : LIx N M A H f tx cap T e) : LIx N (upd2 M 157 4 v) A H f tx cap T e :=
  ⟨h.1.same (fun c hc => upd2_row (by omega)) (upd2_ne (by decide)), h.2.1.gen (upd2_ne (by decide)) (upd2_ne (by decide)) (upd2_ne (by decide)) (upd2_ne (by decide)) (upd2_ne (by decide)) (upd2_row (by decide)) (upd2_row (by decide)) (upd2_row (by decide)) (upd2_row (by decide)), h.2.2⟩
theorem outM_row {y : Int32} {c : Nat} (h : c ≠ 165) : outM M y c = M c := by
  unfold outM
  rw [upd2_row h, upd2_row h]
theorem LIx.out {y : Int32} (h : LIx N M A H f tx cap T e) : LIx N (outM M y) A H f tx cap T e := by
  have e157 : outM M y 157 = M 157 := outM_row (by decide)
  exact ⟨h.1.same (fun c hc => outM_row (by omega)) (by rw [e157]), h.2.1.gen (by rw [e157]) (by rw [e157]) (by rw [e157]) (by rw [e157]) (by rw [e157]) (outM_row (by decide)) (outM_row (by decide)) (outM_row (by decide)) (outM_row (by decide)), h.2.2⟩
theorem LIx.li (h : LIx N M A H f tx cap T e) : LI N M := ⟨_, _, _, _, _, _, _, h⟩
theorem LIx.up (h : LIx N M A H f tx cap T e) : LIx (N + 1) M A H f tx cap T e := ⟨h.1, h.2.1, h.2.2.1.up, h.2.2.2⟩
theorem LIx.q (h : LIx N M A H f tx cap T e) : LI (N + 1) (upd2 M 157 4 v) := h.th.up.li
theorem LIx.qo {y : Int32} (h : LIx N M A H f tx cap T e) : LI (N + 1) (upd2 (outM M y) 157 4 v) := h.out.q
theorem int_cases (n : Nat) (hn : n < 2 ^ 31) (q : Int32) : (q.toInt < 0 ∨ (n : Int) < q.toInt) ∨ ∃ k, k ≤ n ∧ q = nI k := by
  by_cases h : q.toInt < 0 ∨ (n : Int) < q.toInt
  · exact .inl h
  · refine .inr ⟨q.toInt.toNat, by omega, ?_⟩
    apply Int32.toInt_inj.mp
    rw [nI_toInt (by omega)]
    omega
section ANS
variable {yc yr yh : MethodName} {cc cr ch : Cfg} {as ah : List Value} {Q : Mem → Prop} {y : Int32} {d1 d2 : Nat} {hh : List (Nat × Nat × Nat × Nat)}
theorem Ans.q (h1 : Spec D d1 yc cc (.ref (ad 0) :: as) (wl D ad M) 0 0 (PI y (wl D ad M))) (h2 : Spec D d2 yr cr (.ref (ad 157) :: as) (wl D ad M) 0 0 (PI y (wl D ad M'))) (e1 : d1 ≤ 15) (e2 : d2 ≤ 15) (hQ : Q M') : Ans D ad M yc cc yr cr as Q :=
  ⟨d1, d2, fun z M1 => z = y ∧ M1 = M, e1, e2, h1.mono (fun v w h => ⟨y, h.1, M, h.2, rfl, rfl⟩), fun z M1 h => by
    obtain ⟨rfl, rfl⟩ := h
    exact h2.mono (fun v w h => ⟨z, h.1, rfl, M', h.2, hQ⟩)⟩
theorem AnsT.q (hs : SpecH D 15 yh ch hh ah (wl D ad M) 1 6 (PI (nI 0) (wl D ad (outM M y)))) (h2 : Spec D d2 yr cr (.ref (ad 157) :: as) (wl D ad (outM M y)) 0 0 (PI y (wl D ad (upd2 (outM M y) 157 4 (nI 0))))) (e2 : d2 ≤ 15) (hQ : Q (upd2 (outM M y) 157 4 (nI 0))) : AnsT D ad M yh ch hh yr cr ah as Q :=
  .inl ⟨d2, y, _, e2, hs, h2, upd2_same, upd2_row (by decide), hQ⟩
theorem AnsT.x (hs : SpecH D 15 yh ch hh ah (wl D ad M) 1 6 (PI (nI 1) (wl D ad M))) (h2 : Spec D d2 yr cr (.ref (ad 157) :: as) (wl D ad M) 0 0 (PI (nI 0) (wl D ad (upd2 M 157 4 (nI 1))))) (e2 : d2 ≤ 15) (hQ : Q (upd2 M 157 4 (nI 1))) : AnsT D ad M yh ch hh yr cr ah as Q :=
  .inr ⟨d2, _, _, e2, hs, h2, upd2_same, hQ⟩
end ANS
theorem sem_clonesOf {p0 : Int32} (hI : LI N M) : AnsT D ad M yL_clonesOf cfL_clonesOf [(0, 9, 12, 13)] yX6_clonesOf cfX6_clonesOf [.ref (ad 0), .int p0, .ref (ad 165)] [.int p0] (LI (N + 1)) := by
  obtain ⟨A, H, f, tx, cap, T, e, h⟩ := hI
  by_cases hp : SnpA A p0
  · obtain ⟨s, hs, rfl, ht⟩ := hp
    exact AnsT.q (sp_L_clonesOf (by decide) (sp_X5_clonesOf h.si hs ht)) (sp_X6_clonesOf h.out.ri hs ht) (by decide) h.qo
  · exact AnsT.x (sp_LX_clonesOf (sp_Ta_clonesOf h.si hp)) (sp_X6_clonesOfB h.ri hp) (by decide) h.q
theorem sem_before {p0 : Int32} (hI : LI N M) : AnsT D ad M yL_before cfL_before [(0, 9, 12, 13)] yX6_before cfX6_before [.ref (ad 0), .int p0, .ref (ad 165)] [.int p0] (LI (N + 1)) := by
  obtain ⟨A, H, f, tx, cap, T, e, h⟩ := hI
  by_cases hp : VerA A p0
  · obtain ⟨w, hs, rfl, ht⟩ := hp
    exact AnsT.q (sp_L_before (by decide) (sp_X5_before h.si hs ht)) (sp_X6_before h.out.ri hs ht) (by decide) h.qo
  · exact AnsT.x (sp_LX_before (sp_Ta_before h.si hp)) (sp_X6_beforeB h.ri hp) (by decide) h.q
theorem sem_behind {p0 : Int32} (hI : LI N M) : AnsT D ad M yL_behind cfL_behind [(0, 9, 12, 13)] yX6_behind cfX6_behind [.ref (ad 0), .int p0, .ref (ad 165)] [.int p0] (LI (N + 1)) := by
  obtain ⟨A, H, f, tx, cap, T, e, h⟩ := hI
  by_cases hp : SnpA A p0
  · obtain ⟨s, hs, rfl, ht⟩ := hp
    exact AnsT.q (sp_L_behind (by decide) (sp_X5_behind h.si hs ht)) (sp_X6_behind h.out.ri hs ht) (by decide) h.qo
  · exact AnsT.x (sp_LX_behind (sp_Ta_behind h.si hp)) (sp_X6_behindB h.ri hp) (by decide) h.q
theorem sem_depthOf {p0 : Int32} (hI : LI N M) : AnsT D ad M yL_depthOf cfL_depthOf [(0, 9, 12, 13)] yX6_depthOf cfX6_depthOf [.ref (ad 0), .int p0, .ref (ad 165)] [.int p0] (LI (N + 1)) := by
  obtain ⟨A, H, f, tx, cap, T, e, h⟩ := hI
  by_cases hp : VerA A p0
  · obtain ⟨w, hs, rfl, ht⟩ := hp
    exact AnsT.q (sp_L_depthOf (by decide) (sp_X5_depthOf h.si hs ht)) (sp_X6_depthOf h.out.ri hs ht) (by decide) h.qo
  · exact AnsT.x (sp_LX_depthOf (sp_Ta_depthOf h.si hp)) (sp_X6_depthOfB h.ri hp) (by decide) h.q
theorem sem_besideOrigin {p0 : Int32} (hI : LI N M) : AnsT D ad M yL_besideOrigin cfL_besideOrigin [(0, 9, 12, 13)] yX6_besideOrigin cfX6_besideOrigin [.ref (ad 0), .int p0, .ref (ad 165)] [.int p0] (LI (N + 1)) := by
  obtain ⟨A, H, f, tx, cap, T, e, h⟩ := hI
  by_cases hp : VolA A p0
  · obtain ⟨v, hs, rfl, ht⟩ := hp
    exact AnsT.q (sp_L_besideOrigin (by decide) (sp_X5_besideOrigin h.si hs ht)) (sp_X6_besideOrigin h.out.ri hs ht) (by decide) h.qo
  · exact AnsT.x (sp_LX_besideOrigin (sp_Ta_besideOrigin h.si hp)) (sp_X6_besideOriginB h.ri hp) (by decide) h.q
theorem sem_referenced {p0 : Int32} (hI : LI N M) : AnsT D ad M yL_referenced cfL_referenced [(0, 9, 12, 13)] yX6_referenced cfX6_referenced [.ref (ad 0), .int p0, .ref (ad 165)] [.int p0] (LI (N + 1)) := by
  obtain ⟨A, H, f, tx, cap, T, e, h⟩ := hI
  by_cases hp : VerA A p0
  · obtain ⟨w, hs, rfl, ht⟩ := hp
    exact AnsT.q (sp_L_referenced (by decide) (sp_X5_referenced h.si hs ht)) (sp_X6_referenced h.out.ri hs ht) (by decide) h.qo
  · exact AnsT.x (sp_LX_referenced (sp_Ta_referenced h.si hp)) (sp_X6_referencedB h.ri hp) (by decide) h.q
theorem sem_exclusive {p0 : Int32} (hI : LI N M) : AnsT D ad M yL_exclusive cfL_exclusive [(0, 9, 12, 13)] yX6_exclusive cfX6_exclusive [.ref (ad 0), .int p0, .ref (ad 165)] [.int p0] (LI (N + 1)) := by
  obtain ⟨A, H, f, tx, cap, T, e, h⟩ := hI
  by_cases hp : VerA A p0
  · obtain ⟨w, hs, rfl, ht⟩ := hp
    exact AnsT.q (sp_L_exclusive (by decide) (sp_X5_exclusive h.si hs ht)) (sp_X6_exclusive h.out.ri hs ht) (by decide) h.qo
  · exact AnsT.x (sp_LX_exclusive (sp_Ta_exclusive h.si hp)) (sp_X6_exclusiveB h.ri hp) (by decide) h.q
theorem sem_deadCount {p0 : Int32} (hI : LI N M) : AnsT D ad M yL_deadCount cfL_deadCount [(0, 9, 12, 13)] yX6_deadCount cfX6_deadCount [.ref (ad 0), .int p0, .ref (ad 165)] [.int p0] (LI (N + 1)) := by
  obtain ⟨A, H, f, tx, cap, T, e, h⟩ := hI
  by_cases hp : VerA A p0
  · obtain ⟨w, hs, rfl, ht⟩ := hp
    exact AnsT.q (sp_L_deadCount (by decide) (sp_X5_deadCount h.si hs ht)) (sp_X6_deadCount h.out.ri hs ht) (by decide) h.qo
  · exact AnsT.x (sp_LX_deadCount (sp_Ta_deadCount h.si hp)) (sp_X6_deadCountB h.ri hp) (by decide) h.q
theorem sem_byDeadBlocks {p0 : Int32} (hI : LI N M) : AnsT D ad M yL_byDeadBlocks cfL_byDeadBlocks [(0, 9, 12, 13)] yX6_byDeadBlocks cfX6_byDeadBlocks [.ref (ad 0), .int p0, .ref (ad 165)] [.int p0] (LI (N + 1)) := by
  obtain ⟨A, H, f, tx, cap, T, e, h⟩ := hI
  by_cases hp : SnpA A p0
  · obtain ⟨s, hs, rfl, ht⟩ := hp
    exact AnsT.q (sp_L_byDeadBlocks (by decide) (sp_X5_byDeadBlocks h.si hs ht)) (sp_X6_byDeadBlocks h.out.ri hs ht) (by decide) h.qo
  · exact AnsT.x (sp_LX_byDeadBlocks (sp_Ta_byDeadBlocks h.si hp)) (sp_X6_byDeadBlocksB h.ri hp) (by decide) h.q
theorem sem_freedByVolume {p0 : Int32} (hI : LI N M) : AnsT D ad M yL_freedByVolume cfL_freedByVolume [(0, 9, 12, 13)] yX6_freedByVolume cfX6_freedByVolume [.ref (ad 0), .int p0, .ref (ad 165)] [.int p0] (LI (N + 1)) := by
  obtain ⟨A, H, f, tx, cap, T, e, h⟩ := hI
  by_cases hp : VolA A p0
  · obtain ⟨v, hs, rfl, ht⟩ := hp
    exact AnsT.q (sp_L_freedByVolume (by decide) (sp_X5_freedByVolume h.si hs ht)) (sp_X6_freedByVolume h.out.ri hs ht) (by decide) h.qo
  · exact AnsT.x (sp_LX_freedByVolume (sp_Ta_freedByVolume h.si hp)) (sp_X6_freedByVolumeB h.ri hp) (by decide) h.q
theorem sem_usedBySnapshots {p0 : Int32} (hI : LI N M) : AnsT D ad M yL_usedBySnapshots cfL_usedBySnapshots [(0, 9, 12, 13)] yX6_usedBySnapshots cfX6_usedBySnapshots [.ref (ad 0), .int p0, .ref (ad 165)] [.int p0] (LI (N + 1)) := by
  obtain ⟨A, H, f, tx, cap, T, e, h⟩ := hI
  by_cases hp : VolA A p0
  · obtain ⟨v, hs, rfl, ht⟩ := hp
    exact AnsT.q (sp_L_usedBySnapshots (by decide) (sp_X5_usedBySnapshots h.si hs ht)) (sp_X6_usedBySnapshots h.out.ri hs ht) (by decide) h.qo
  · exact AnsT.x (sp_LX_usedBySnapshots (sp_Ta_usedBySnapshots h.si hp)) (sp_X6_usedBySnapshotsB h.ri hp) (by decide) h.q
theorem sem_whyKept {p0 : Int32} (hI : LI N M) : AnsT D ad M yL_whyKept cfL_whyKept [(0, 9, 12, 13)] yX6_whyKept cfX6_whyKept [.ref (ad 0), .int p0, .ref (ad 165)] [.int p0] (LI (N + 1)) := by
  obtain ⟨A, H, f, tx, cap, T, e, h⟩ := hI
  by_cases hp : SnpA A p0
  · obtain ⟨s, hs, rfl, ht⟩ := hp
    exact AnsT.q (sp_L_whyKept (by decide) (sp_X5_whyKept h.si hs ht)) (sp_X6_whyKept h.out.ri hs ht) (by decide) h.qo
  · exact AnsT.x (sp_LX_whyKept (sp_Ta_whyKept h.si hp)) (sp_X6_whyKeptB h.ri hp) (by decide) h.q
theorem sem_wouldMove {p0 : Int32} (hI : LI N M) : AnsT D ad M yL_wouldMove cfL_wouldMove [(0, 9, 12, 13)] yX6_wouldMove cfX6_wouldMove [.ref (ad 0), .int p0, .ref (ad 165)] [.int p0] (LI (N + 1)) := by
  obtain ⟨A, H, f, tx, cap, T, e, h⟩ := hI
  by_cases hp : VolA A p0
  · obtain ⟨v, hs, rfl, ht⟩ := hp
    exact AnsT.q (sp_L_wouldMove (by decide) (sp_X5_wouldMove h.si hs ht)) (sp_X6_wouldMove h.out.ri hs ht) (by decide) h.qo
  · exact AnsT.x (sp_LX_wouldMove (sp_Ta_wouldMove h.si hp)) (sp_X6_wouldMoveB h.ri hp) (by decide) h.q
theorem sem_snapshotAt {p0 p1 : Int32} (hI : LI N M) : AnsT D ad M yL_snapshotAt cfL_snapshotAt [(0, 10, 13, 13)] yX6_snapshotAt cfX6_snapshotAt [.ref (ad 0), .int p0, .int p1, .ref (ad 165)] [.int p0, .int p1] (LI (N + 1)) := by
  obtain ⟨A, H, f, tx, cap, T, e, h⟩ := hI
  by_cases hp : VolA A p0
  · obtain ⟨v, hs, rfl, ht⟩ := hp
    exact AnsT.q (sp_L_snapshotAt (by decide) (sp_X5_snapshotAt h.si hs ht)) (sp_X6_snapshotAt h.out.ri hs ht) (by decide) h.qo
  · exact AnsT.x (sp_LX_snapshotAt (sp_Ta_snapshotAt h.si hp)) (sp_X6_snapshotAtB h.ri hp) (by decide) h.q
theorem sem_deadBlock {p0 p1 : Int32} (hI : LI N M) : AnsT D ad M yL_deadBlock cfL_deadBlock [(0, 10, 13, 13)] yX6_deadBlock cfX6_deadBlock [.ref (ad 0), .int p0, .int p1, .ref (ad 165)] [.int p0, .int p1] (LI (N + 1)) := by
  obtain ⟨A, H, f, tx, cap, T, e, h⟩ := hI
  by_cases hp : VerA A p0
  · obtain ⟨w, hs, rfl, ht⟩ := hp
    exact AnsT.q (sp_L_deadBlock (by decide) (sp_X5_deadBlock h.si hs ht)) (sp_X6_deadBlock h.out.ri hs ht) (by decide) h.qo
  · exact AnsT.x (sp_LX_deadBlock (sp_Ta_deadBlock h.si hp)) (sp_X6_deadBlockB h.ri hp) (by decide) h.q
theorem sem_volumeNumber {p0 p1 : Int32} (hI : LI N M) : AnsT D ad M yL_volumeNumber cfL_volumeNumber [(0, 10, 13, 13)] yX6_volumeNumber cfX6_volumeNumber [.ref (ad 0), .int p0, .int p1, .ref (ad 165)] [.int p0, .int p1] (LI (N + 1)) := by
  obtain ⟨A, H, f, tx, cap, T, e, h⟩ := hI
  by_cases hp : VolA A p0
  · obtain ⟨v, hs, rfl, ht⟩ := hp
    have h6 := sp_X6_volumeNumber (D := D) (ad := ad) (q := p1) (M := outM M (volNum A v p1)) h.out.ri hs ht
    refine AnsT.q (sp_L_volumeNumber (by decide) (d := 10) ?_) h6 (by decide) h.qo
    rcases int_cases 2 (by decide) p1 with hq | ⟨k, hk, rfl⟩
    · rw [show volNum A v p1 = -2 by
        unfold volNum
        rw [if_neg (fun e => by subst e; revert hq; decide), if_neg (fun e => by subst e; revert hq; decide), if_neg (fun e => by subst e; revert hq; decide)]]
      exact sp_X5_volumeNumberX h.si hs ht hq
    · rcases (show k = 0 ∨ k = 1 ∨ k = 2 by omega) with rfl | rfl | rfl
      · exact sp_X5_volumeNumber0 h.si hs ht
      · exact sp_X5_volumeNumber1 h.si hs ht
      · exact sp_X5_volumeNumber2 h.si hs ht
  · exact AnsT.x (sp_LX_volumeNumber (sp_Ta_volumeNumber h.si hp)) (sp_X6_volumeNumberB h.ri hp) (by decide) h.q
theorem sem_snapshotNumber {p0 p1 : Int32} (hI : LI N M) : AnsT D ad M yL_snapshotNumber cfL_snapshotNumber [(0, 10, 13, 13)] yX6_snapshotNumber cfX6_snapshotNumber [.ref (ad 0), .int p0, .int p1, .ref (ad 165)] [.int p0, .int p1] (LI (N + 1)) := by
  obtain ⟨A, H, f, tx, cap, T, e, h⟩ := hI
  by_cases hp : SnpA A p0
  · obtain ⟨s, hs, rfl, ht⟩ := hp
    rcases int_cases 4 (by decide) p1 with hq | ⟨k, hk, rfl⟩
    · exact AnsT.q (sp_L_snapshotNumber (by decide) (sp_X5_snapshotNumberX h.si hs ht hq)) (sp_X6_snapshotNumberX h.out.ri hs ht hq) (by decide) h.qo
    · rcases (show k = 0 ∨ k = 1 ∨ k = 2 ∨ k = 3 ∨ k = 4 by omega) with rfl | rfl | rfl | rfl | rfl
      · exact AnsT.q (sp_L_snapshotNumber (by decide) (sp_X5_snapshotNumber0 h.si hs ht)) (sp_X6_snapshotNumber0 h.out.ri hs ht) (by decide) h.qo
      · exact AnsT.q (sp_L_snapshotNumber (by decide) (sp_X5_snapshotNumber1 h.si hs ht)) (sp_X6_snapshotNumber1 h.out.ri hs ht) (by decide) h.qo
      · exact AnsT.q (sp_L_snapshotNumber (by decide) (sp_X5_snapshotNumber2 h.si hs ht)) (sp_X6_snapshotNumber2 h.out.ri hs ht) (by decide) h.qo
      · exact AnsT.q (sp_L_snapshotNumber (by decide) (sp_X5_snapshotNumber3 h.si hs ht)) (sp_X6_snapshotNumber3 h.out.ri hs ht) (by decide) h.qo
      · exact AnsT.q (sp_L_snapshotNumber (by decide) (sp_X5_snapshotNumber4 h.si hs ht)) (sp_X6_snapshotNumber4 h.out.ri hs ht) (by decide) h.qo
  · exact AnsT.x (sp_LX_snapshotNumber (sp_Ta_snapshotNumber h.si hp)) (sp_X6_snapshotNumberB h.ri hp) (by decide) h.q
theorem sem_common {p0 p1 : Int32} (hI : LI N M) : AnsT D ad M yL_common cfL_common [(0, 10, 13, 13)] yX6_common cfX6_common [.ref (ad 0), .int p0, .int p1, .ref (ad 165)] [.int p0, .int p1] (LI (N + 1)) := by
  obtain ⟨A, H, f, tx, cap, T, e, h⟩ := hI
  by_cases hp : VerA A p0
  · by_cases hq : VerA A p1
    · obtain ⟨w, hs, rfl, ht⟩ := hp
      obtain ⟨t, hs2, rfl, ht2⟩ := hq
      exact AnsT.q (sp_L_common (by decide) (sp_X5_common h.si hs ht hs2 ht2)) (sp_X6_common h.out.ri hs ht hs2 ht2) (by decide) h.qo
    · exact AnsT.x (sp_LX_common (sp_Tb_common h.si hp hq)) (sp_X6_commonB h.ri (fun z => hq z.2)) (by decide) h.q
  · exact AnsT.x (sp_LX_common (sp_Ta_common h.si hp)) (sp_X6_commonB h.ri (fun z => hp z.1)) (by decide) h.q
theorem sem_blockAt {p0 p1 : Int32} (hI : LI N M) : AnsT D ad M yL_blockAt cfL_blockAt [(0, 10, 13, 13)] yX6_blockAt cfX6_blockAt [.ref (ad 0), .int p0, .int p1, .ref (ad 165)] [.int p0, .int p1] (LI (N + 1)) := by
  obtain ⟨A, H, f, tx, cap, T, e, h⟩ := hI
  by_cases hp : VerA A p0
  · by_cases hq : AdrP p1
    · obtain ⟨w, hs, rfl, ht⟩ := hp
      obtain ⟨a, ha, rfl⟩ := hq
      exact AnsT.q (sp_L_blockAt (by decide) (sp_X5_blockAt h.si hs ht ha)) (sp_X6_blockAt h.out.ri hs ht ha) (by decide) h.qo
    · exact AnsT.x (sp_LX_blockAt (sp_Tb_blockAt h.si hp hq)) (sp_X6_blockAtB h.ri (fun z => hq z.2)) (by decide) h.q
  · exact AnsT.x (sp_LX_blockAt (sp_Ta_blockAt h.si hp)) (sp_X6_blockAtB h.ri (fun z => hp z.1)) (by decide) h.q
theorem sem_sameAt {p0 p1 : Int32} (hI : LI N M) : AnsT D ad M yL_sameAt cfL_sameAt [(0, 10, 13, 13)] yX6_sameAt cfX6_sameAt [.ref (ad 0), .int p0, .int p1, .ref (ad 165)] [.int p0, .int p1] (LI (N + 1)) := by
  obtain ⟨A, H, f, tx, cap, T, e, h⟩ := hI
  by_cases hp : VerA A p0
  · by_cases hq : AdrP p1
    · obtain ⟨w, hs, rfl, ht⟩ := hp
      obtain ⟨a, ha, rfl⟩ := hq
      exact AnsT.q (sp_L_sameAt (by decide) (sp_X5_sameAt h.si hs ht ha)) (sp_X6_sameAt h.out.ri hs ht ha) (by decide) h.qo
    · exact AnsT.x (sp_LX_sameAt (sp_Tb_sameAt h.si hp hq)) (sp_X6_sameAtB h.ri (fun z => hq z.2)) (by decide) h.q
  · exact AnsT.x (sp_LX_sameAt (sp_Ta_sameAt h.si hp)) (sp_X6_sameAtB h.ri (fun z => hp z.1)) (by decide) h.q
theorem sem_wouldFree {p0 p1 : Int32} (hI : LI N M) : AnsT D ad M yL_wouldFree cfL_wouldFree [(0, 10, 13, 13)] yX6_wouldFree cfX6_wouldFree [.ref (ad 0), .int p0, .int p1, .ref (ad 165)] [.int p0, .int p1] (LI (N + 1)) := by
  obtain ⟨A, H, f, tx, cap, T, e, h⟩ := hI
  by_cases hp : VolA A p0
  · by_cases hq : AdrP p1
    · obtain ⟨w, hs, rfl, ht⟩ := hp
      obtain ⟨a, ha, rfl⟩ := hq
      exact AnsT.q (sp_L_wouldFree (by decide) (sp_X5_wouldFree h.si hs ht ha)) (sp_X6_wouldFree h.out.ri hs ht ha) (by decide) h.qo
    · exact AnsT.x (sp_LX_wouldFree (sp_Tb_wouldFree h.si hp hq)) (sp_X6_wouldFreeB h.ri (fun z => hq z.2)) (by decide) h.q
  · exact AnsT.x (sp_LX_wouldFree (sp_Ta_wouldFree h.si hp)) (sp_X6_wouldFreeB h.ri (fun z => hp z.1)) (by decide) h.q
theorem sem_shared {p0 p1 : Int32} (hI : LI N M) : AnsT D ad M yL_shared cfL_shared [(0, 10, 13, 13)] yX6_shared cfX6_shared [.ref (ad 0), .int p0, .int p1, .ref (ad 165)] [.int p0, .int p1] (LI (N + 1)) := by
  obtain ⟨A, H, f, tx, cap, T, e, h⟩ := hI
  by_cases hp : VerA A p0
  · by_cases hq : VerA A p1
    · obtain ⟨w, hs, rfl, ht⟩ := hp
      obtain ⟨t, hs2, rfl, ht2⟩ := hq
      exact AnsT.q (sp_L_shared (by decide) (sp_X5_shared h.si hs ht hs2 ht2)) (sp_X6_shared h.out.ri hs ht hs2 ht2) (by decide) h.qo
    · exact AnsT.x (sp_LX_shared (sp_Tb_shared h.si hp hq)) (sp_X6_sharedB h.ri (fun z => hq z.2)) (by decide) h.q
  · exact AnsT.x (sp_LX_shared (sp_Ta_shared h.si hp)) (sp_X6_sharedB h.ri (fun z => hp z.1)) (by decide) h.q
theorem sem_unlike {p0 p1 : Int32} (hI : LI N M) : AnsT D ad M yL_unlike cfL_unlike [(0, 10, 13, 13)] yX6_unlike cfX6_unlike [.ref (ad 0), .int p0, .int p1, .ref (ad 165)] [.int p0, .int p1] (LI (N + 1)) := by
  obtain ⟨A, H, f, tx, cap, T, e, h⟩ := hI
  by_cases hp : VerA A p0
  · by_cases hq : VerA A p1
    · obtain ⟨w, hs, rfl, ht⟩ := hp
      obtain ⟨t, hs2, rfl, ht2⟩ := hq
      exact AnsT.q (sp_L_unlike (by decide) (sp_X5_unlike h.si hs ht hs2 ht2)) (sp_X6_unlike h.out.ri hs ht hs2 ht2) (by decide) h.qo
    · exact AnsT.x (sp_LX_unlike (sp_Tb_unlike h.si hp hq)) (sp_X6_unlikeB h.ri (fun z => hq z.2)) (by decide) h.q
  · exact AnsT.x (sp_LX_unlike (sp_Ta_unlike h.si hp)) (sp_X6_unlikeB h.ri (fun z => hp z.1)) (by decide) h.q
theorem sem_writtenSince {p0 p1 : Int32} (hI : LI N M) : AnsT D ad M yL_writtenSince cfL_writtenSince [(0, 10, 13, 13)] yX6_writtenSince cfX6_writtenSince [.ref (ad 0), .int p0, .int p1, .ref (ad 165)] [.int p0, .int p1] (LI (N + 1)) := by
  obtain ⟨A, H, f, tx, cap, T, e, h⟩ := hI
  by_cases hp : VolA A p0
  · by_cases hq : SnpA A p1
    · obtain ⟨w, hs, rfl, ht⟩ := hp
      obtain ⟨t, hs2, rfl, ht2⟩ := hq
      exact AnsT.q (sp_L_writtenSince (by decide) (sp_X5_writtenSince h.si hs ht hs2 ht2)) (sp_X6_writtenSince h.out.ri hs ht hs2 ht2) (by decide) h.qo
    · exact AnsT.x (sp_LX_writtenSince (sp_Tb_writtenSince h.si hp hq)) (sp_X6_writtenSinceB h.ri (fun z => hq z.2)) (by decide) h.q
  · exact AnsT.x (sp_LX_writtenSince (sp_Ta_writtenSince h.si hp)) (sp_X6_writtenSinceB h.ri (fun z => hp z.1)) (by decide) h.q
theorem sem_birthIn1 {p0 : Int32} (hI : LI N M) : AnsT D ad M yL_birthIn cfL_birthIn [(0, 10, 13, 13)] yX6_birthIn cfX6_birthIn [.ref (ad 0), .int p0, .int (nI 1), .ref (ad 165)] [.int p0, .int (nI 1)] (LI (N + 1)) := by
  obtain ⟨A, H, f, tx, cap, T, e, h⟩ := hI
  by_cases hp : VerA A p0
  · obtain ⟨w, hs, rfl, ht⟩ := hp
    exact AnsT.q (sp_L_birthIn (by decide) (sp_X5_birthInN h.si hs ht)) (sp_X6_birthInN h.out.ri hs ht) (by decide) h.qo
  · exact AnsT.x (sp_LX_birthIn (sp_Ta_birthIn h.si hp)) (sp_X6_birthInB h.ri hp) (by decide) h.q
theorem sem_birthIn0 {p0 : Int32} (hI : LI N M) : AnsT D ad M yL_birthIn cfL_birthIn [(0, 10, 13, 13)] yX6_birthIn cfX6_birthIn [.ref (ad 0), .int p0, .int (nI 0), .ref (ad 165)] [.int p0, .int (nI 0)] (LI (N + 1)) := by
  obtain ⟨A, H, f, tx, cap, T, e, h⟩ := hI
  by_cases hp : VerA A p0
  · obtain ⟨w, hs, rfl, ht⟩ := hp
    exact AnsT.q (sp_L_birthIn (by decide) (sp_X5_birthInO h.si hs ht)) (sp_X6_birthInO h.out.ri hs ht) (by decide) h.qo
  · exact AnsT.x (sp_LX_birthIn (sp_Ta_birthIn h.si hp)) (sp_X6_birthInB h.ri hp) (by decide) h.q
theorem sem_used (hI : LI N M) : Ans D ad M yX5_used cfX5_used yX6_used cfX6_used [] (LI (N + 1)) := by
  obtain ⟨A, H, f, tx, cap, T, e, h⟩ := hI
  exact Ans.q (sp_X5_used h.si) (sp_X6_used h.ri) (by decide) (by decide) h.q
theorem sem_mostExclusive (hI : LI N M) : Ans D ad M yX5_mostExclusive cfX5_mostExclusive yX6_mostExclusive cfX6_mostExclusive [] (LI (N + 1)) := by
  obtain ⟨A, H, f, tx, cap, T, e, h⟩ := hI
  exact Ans.q (sp_X5_mostExclusive h.si) (sp_X6_mostExclusive h.ri) (by decide) (by decide) h.q
theorem sem_isThere {p0 : Int32} (hI : LI N M) : Ans D ad M yX5_isThere cfX5_isThere yX6_isThere cfX6_isThere [.int p0] (LI (N + 1)) := by
  obtain ⟨A, H, f, tx, cap, T, e, h⟩ := hI
  exact Ans.q (sp_X5_isThere h.si) (sp_X6_isThere h.ri) (by decide) (by decide) h.q
theorem sem_sizeOf {p0 : Int32} (hI : LI N M) : Ans D ad M yX5_sizeOf cfX5_sizeOf yX6_sizeOf cfX6_sizeOf [.int p0] (LI (N + 1)) := by
  obtain ⟨A, H, f, tx, cap, T, e, h⟩ := hI
  exact Ans.q (sp_X5_sizeOf h.si) (sp_X6_sizeOf h.ri) (by decide) (by decide) h.q
theorem sem_holders {p0 : Int32} (hI : LI N M) : Ans D ad M yX5_holders cfX5_holders yX6_holders cfX6_holders [.int p0] (LI (N + 1)) := by
  obtain ⟨A, H, f, tx, cap, T, e, h⟩ := hI
  exact Ans.q (sp_X5_holders h.si) (sp_X6_holders h.ri) (by decide) (by decide) h.q
theorem sem_named1 {p0 : Int32} (hI : LI N M) : Ans D ad M yX5_named cfX5_named yX6_named cfX6_named [.int (nI 1), .int p0] (LI (N + 1)) := by
  obtain ⟨A, H, f, tx, cap, T, e, h⟩ := hI
  exact Ans.q (sp_X5_namedS h.si) (sp_X6_namedS h.ri) (by decide) (by decide) h.q
theorem sem_named0 {p0 : Int32} (hI : LI N M) : Ans D ad M yX5_named cfX5_named yX6_named cfX6_named [.int (nI 0), .int p0] (LI (N + 1)) := by
  obtain ⟨A, H, f, tx, cap, T, e, h⟩ := hI
  exact Ans.q (sp_X5_namedV h.si) (sp_X6_namedV h.ri) (by decide) (by decide) h.q
theorem sem_errorPosition (hI : LI N M) : Ans D ad M yX5_errorPosition cfX5_errorPosition yX6_errorPosition cfX6_errorPosition [] (LI (N + 1)) := by
  obtain ⟨A, H, f, tx, cap, T, e, h⟩ := hI
  exact Ans.q (sp_X5_errorPosition h.1.2.2.2.1) (sp_X6_errorPosition h.2.1.2.2.2.1) (by decide) (by decide) h.q
theorem sem_undoCount (hI : LI N M) : Ans D ad M yX5_undoCount cfX5_undoCount yX6_undoCount cfX6_undoCount [] (LI (N + 1)) := by
  obtain ⟨A, H, f, tx, cap, T, e, h⟩ := hI
  obtain ⟨nx, -, -, h2, -⟩ := h.hc
  exact Ans.q (sp_X5_undoCount h2) (sp_X6_undoCount h.2.1.2.1.1) (by decide) (by decide) h.q
theorem sem_count {p0 : Int32} (hI : LI N M) : Ans D ad M yX5_count cfX5_count yX6_count cfX6_count [.int p0] (LI (N + 1)) := by
  obtain ⟨A, H, f, tx, cap, T, e, h⟩ := hI
  rcases int_cases 5 (by decide) p0 with hq | ⟨k, hk, rfl⟩
  · exact Ans.q (sp_X5_countX h.si hq) (sp_X6_countX hq h.ri) (by decide) (by decide) h.q
  · rcases (show k = 0 ∨ k = 1 ∨ k = 2 ∨ k = 3 ∨ k = 4 ∨ k = 5 by omega) with rfl | rfl | rfl | rfl | rfl | rfl
    · exact Ans.q (sp_X5_count0 h.si) (sp_X6_count0 h.ri) (by decide) (by decide) h.q
    · exact Ans.q (sp_X5_count1 h.si) (sp_X6_count1 h.ri) (by decide) (by decide) h.q
    · exact Ans.q (sp_X5_count2 h.si) (sp_X6_count2 h.ri) (by decide) (by decide) h.q
    · exact Ans.q (sp_X5_count3 h.si) (sp_X6_count3 h.ri) (by decide) (by decide) h.q
    · exact Ans.q (sp_X5_count4 h.si) (sp_X6_count4 h.ri) (by decide) (by decide) h.q
    · exact Ans.q (sp_X5_count5 h.si) (sp_X6_count5 h.ri) (by decide) (by decide) h.q
theorem sem_getSetting {p0 : Int32} (hI : LI N M) : Ans D ad M yX5_getSetting cfX5_getSetting yX6_getSetting cfX6_getSetting [.int p0] (LI (N + 1)) := by
  obtain ⟨A, H, f, tx, cap, T, e, h⟩ := hI
  by_cases h0 : p0 = 0
  · subst h0
    exact Ans.q (sp_X5_getSetting0 h.si) (sp_X6_getSetting0 h.ri) (by decide) (by decide) h.q
  · by_cases h1 : p0 = nI 1
    · subst h1
      exact Ans.q (sp_X5_getSetting1 h.si) (sp_X6_getSetting1 h.ri) (by decide) (by decide) h.q
    · exact Ans.q (sp_X5_getSettingX h.si h0 h1) (sp_X6_getSettingX h.ri h0 h1) (by decide) (by decide) h.q
theorem sem_freedBy {p0 : Int32} (hI : LI N M) : Ans D ad M yX5_freedBy cfX5_freedBy yX6_freedBy cfX6_freedBy [.int p0] (LI (N + 1)) := by
  obtain ⟨A, H, f, tx, cap, T, e, h⟩ := hI
  by_cases hq : p0 &&& (nI (snps A) ^^^ (-1)) = 0
  · obtain ⟨m, rfl, hm, -⟩ := snps_mask hq
    exact Ans.q (sp_X5_freedBy h.si (by omega) hq) (sp_X6_freedBy h.ri (by omega) hq) (by decide) (by decide) h.q
  · exact Ans.q (sp_X5_freedByB h.si hq) (sp_X6_freedByB h.ri hq) (by decide) (by decide) h.q
theorem sem_wouldWrite {p0 p1 p2 : Int32} (hI : LI N M) : Ans D ad M yX5_wouldWrite cfX5_wouldWrite yX6_wouldWrite cfX6_wouldWrite [.int p0, .int p1, .int p2] (LI (N + 1)) := by
  obtain ⟨A, H, f, tx, cap, T, e, h⟩ := hI
  by_cases hp : VolA A p0
  · by_cases hq : AdrP p1 ∧ SizP p2
    · obtain ⟨v, hs, rfl, ht⟩ := hp
      obtain ⟨⟨a, ha, rfl⟩, hz⟩ := hq
      obtain ⟨z, z1, z2, rfl⟩ := SizP_nI hz
      exact Ans.q (sp_X5_wouldWrite h.si hs ht ha ⟨z1, z2⟩) (sp_X6_wouldWrite h.ri hs ht ha ⟨z1, z2⟩) (by decide) (by decide) h.q
    · exact Ans.q (sp_X5_wouldWriteB h.si hp hq) (sp_X6_wouldWriteB h.ri hp hq) (by decide) (by decide) h.q
  · exact Ans.q (sp_X5_wouldWriteV h.si hp) (sp_X6_wouldWriteV h.ri hp) (by decide) (by decide) h.q
theorem sem_outputAt {p0 : Int32} (hI : LI N M) : Ans D ad M yX5_outputAt cfX5_outputAt yX6_outputAt cfX6_outputAt [.int p0] (LI (N + 1)) := by
  obtain ⟨A, H, f, tx, cap, T, e, h⟩ := hI
  have ho := sp_X6_outputAt (D := D) (ad := ad) (q := p0) h.2.1.2.2.2.2 h.2.2.1.2.2.2
  by_cases hk : ∃ k, k < T.length ∧ p0 = nI k
  · obtain ⟨k, hk, rfl⟩ := hk
    have hc : T[k]? = some T[k] := List.getElem?_eq_getElem hk
    rw [ouI_hit (by have := h.2.2.1.2.2.2; omega) hc] at ho
    exact Ans.q (sp_X5_outputAtH h.1.2.2.2.2 hc) ho (by decide) (by decide) h.q
  · have e1 : ouI T p0 = -1 := by
      unfold ouI
      by_cases h0 : 0 ≤ p0
      · rw [if_pos h0]
        have hn : T[p0.toNatClampNeg]? = none := by
          apply List.getElem?_eq_none
          refine Nat.le_of_not_lt fun hlt => hk ⟨_, hlt, ?_⟩
          apply Int32.toInt_inj.mp
          have h0' := Int32.le_iff_toInt_le.mp h0
          have hz : (0 : Int32).toInt = 0 := by decide
          have : p0.toNatClampNeg = p0.toInt.toNat := rfl
          have hT := h.2.2.1.2.2.2
          rw [nI_toInt (by omega)]
          omega
        rw [hn]
      · rw [if_neg h0]
    rw [e1] at ho
    exact Ans.q (sp_X5_outputAtM h.1.2.2.2.2 hk) ho (by decide) (by decide) h.q
end LINV
