/-! CALLS whose answers and worlds are told by a property -/
def PX (P : Int32 → va_W → Prop) : Option Value → va_W → Prop := fun v w => ∃ r, v = some (.int r) ∧ P r w
def PY (P : va_W → Prop) : Option Value → va_W → Prop := fun v w => v = none ∧ P w
section CALLX
variable {D : va_G} {F : Cfg} {rm : Room} {Qf : QF} {k n pc q idx : Nat} {locs : List (Option Value)} {st : List Value}
theorem C_V0X {F' : Cfg} {y : MethodName} {d d' mc ms : Nat} {ws : va_W} {a : Nat} {P : Int32 → va_W → Prop} (lk : LkV F.1 idx y F' 0) (hs : Spec D d' y F' (.ref a :: []) ws 0 0 (PX P)) (hr : Recv ws a F'.1) (hd : decode F.2.1 pc = .ok (.invokevirtual idx, 3)) (hd' : d' < d) (hst : (st.map fun v => v.category).sum ≤ 8) (hq : pc + 3 = q) (kk : ∀ r w, P r w → V D F (rmOf d mc ms) Qf k n q locs (.int r :: st) w) : V D F (rmOf d mc ms) Qf k n pc locs (.ref a :: st) ws := by
  refine V_le (fun hk hn => ?_)
  refine E_callV (ar := []) (rest := st) lk hs hr hd' (by simpa using hk) (by simpa using hn) hst hd rfl hq ?_
  rintro v ws' ⟨r, rfl, hp⟩
  exact kk r ws' hp
theorem C_V0Y {F' : Cfg} {y : MethodName} {d d' mc ms : Nat} {ws : va_W} {a : Nat} {P : va_W → Prop} (lk : LkV F.1 idx y F' 0) (hs : Spec D d' y F' (.ref a :: []) ws 0 0 (PY P)) (hr : Recv ws a F'.1) (hd : decode F.2.1 pc = .ok (.invokevirtual idx, 3)) (hd' : d' < d) (hst : (st.map fun v => v.category).sum ≤ 8) (hq : pc + 3 = q) (kk : ∀ w, P w → V D F (rmOf d mc ms) Qf k n q locs st w) : V D F (rmOf d mc ms) Qf k n pc locs (.ref a :: st) ws := by
  refine V_le (fun hk hn => ?_)
  refine E_callV (ar := []) (rest := st) lk hs hr hd' (by simpa using hk) (by simpa using hn) hst hd rfl hq ?_
  rintro v ws' ⟨rfl, hp⟩
  exact kk ws' hp
theorem C_S0X {F' : Cfg} {y : MethodName} {d d' mc ms : Nat} {ws : va_W} {P : Int32 → va_W → Prop} (lk : LkS F.1 idx y F' 0) (hs : Spec D d' y F' [] ws 0 0 (PX P)) (hd : decode F.2.1 pc = .ok (.invokestatic idx, 3)) (hd' : d' < d) (hst : (st.map fun v => v.category).sum ≤ 8) (hq : pc + 3 = q) (kk : ∀ r w, P r w → V D F (rmOf d mc ms) Qf k n q locs (.int r :: st) w) : V D F (rmOf d mc ms) Qf k n pc locs (st) ws := by
  refine V_le (fun hk hn => ?_)
  refine E_callS (ar := []) (rest := st) lk hs hd' (by simpa using hk) (by simpa using hn) hst hd rfl hq ?_
  rintro v ws' ⟨r, rfl, hp⟩
  exact kk r ws' hp
theorem C_S0Y {F' : Cfg} {y : MethodName} {d d' mc ms : Nat} {ws : va_W} {P : va_W → Prop} (lk : LkS F.1 idx y F' 0) (hs : Spec D d' y F' [] ws 0 0 (PY P)) (hd : decode F.2.1 pc = .ok (.invokestatic idx, 3)) (hd' : d' < d) (hst : (st.map fun v => v.category).sum ≤ 8) (hq : pc + 3 = q) (kk : ∀ w, P w → V D F (rmOf d mc ms) Qf k n q locs st w) : V D F (rmOf d mc ms) Qf k n pc locs (st) ws := by
  refine V_le (fun hk hn => ?_)
  refine E_callS (ar := []) (rest := st) lk hs hd' (by simpa using hk) (by simpa using hn) hst hd rfl hq ?_
  rintro v ws' ⟨rfl, hp⟩
  exact kk ws' hp
theorem C_SN0X {F' : Cfg} {y : MethodName} {d d' mc ms : Nat} {ws : va_W} {host : String} {P : Int32 → va_W → Prop} (lk : LkSN F.1 idx y F' 0 host) (hs : Spec D d' y F' [] ws 0 0 (PX P)) (hd : decode F.2.1 pc = .ok (.invokestatic idx, 3)) (hd' : d' < d) (hst : (st.map fun v => v.category).sum ≤ 8) (hq : pc + 3 = q) (kk : ∀ r w, P r w → V D F (rmOf d mc ms) Qf k n q locs (.int r :: st) w) : V D F (rmOf d mc ms) Qf k n pc locs (st) ws := by
  refine V_le (fun hk hn => ?_)
  refine E_callSN (ar := []) (rest := st) lk hs hd' (by simpa using hk) (by simpa using hn) hst hd rfl hq ?_
  rintro v ws' ⟨r, rfl, hp⟩
  exact kk r ws' hp
theorem C_SN0Y {F' : Cfg} {y : MethodName} {d d' mc ms : Nat} {ws : va_W} {host : String} {P : va_W → Prop} (lk : LkSN F.1 idx y F' 0 host) (hs : Spec D d' y F' [] ws 0 0 (PY P)) (hd : decode F.2.1 pc = .ok (.invokestatic idx, 3)) (hd' : d' < d) (hst : (st.map fun v => v.category).sum ≤ 8) (hq : pc + 3 = q) (kk : ∀ w, P w → V D F (rmOf d mc ms) Qf k n q locs st w) : V D F (rmOf d mc ms) Qf k n pc locs (st) ws := by
  refine V_le (fun hk hn => ?_)
  refine E_callSN (ar := []) (rest := st) lk hs hd' (by simpa using hk) (by simpa using hn) hst hd rfl hq ?_
  rintro v ws' ⟨rfl, hp⟩
  exact kk ws' hp
theorem C_V1X {F' : Cfg} {y : MethodName} {d d' mc ms : Nat} {ws : va_W} {a : Nat} {x1 : Value} {P : Int32 → va_W → Prop} (lk : LkV F.1 idx y F' 1) (hs : Spec D d' y F' (.ref a :: [x1]) ws 0 0 (PX P)) (hr : Recv ws a F'.1) (hd : decode F.2.1 pc = .ok (.invokevirtual idx, 3)) (hd' : d' < d) (hst : (st.map fun v => v.category).sum ≤ 8) (hq : pc + 3 = q) (kk : ∀ r w, P r w → V D F (rmOf d mc ms) Qf k n q locs (.int r :: st) w) : V D F (rmOf d mc ms) Qf k n pc locs (x1 :: .ref a :: st) ws := by
  refine V_le (fun hk hn => ?_)
  refine E_callV (ar := [x1]) (rest := st) lk hs hr hd' (by simpa using hk) (by simpa using hn) hst hd rfl hq ?_
  rintro v ws' ⟨r, rfl, hp⟩
  exact kk r ws' hp
theorem C_V1Y {F' : Cfg} {y : MethodName} {d d' mc ms : Nat} {ws : va_W} {a : Nat} {x1 : Value} {P : va_W → Prop} (lk : LkV F.1 idx y F' 1) (hs : Spec D d' y F' (.ref a :: [x1]) ws 0 0 (PY P)) (hr : Recv ws a F'.1) (hd : decode F.2.1 pc = .ok (.invokevirtual idx, 3)) (hd' : d' < d) (hst : (st.map fun v => v.category).sum ≤ 8) (hq : pc + 3 = q) (kk : ∀ w, P w → V D F (rmOf d mc ms) Qf k n q locs st w) : V D F (rmOf d mc ms) Qf k n pc locs (x1 :: .ref a :: st) ws := by
  refine V_le (fun hk hn => ?_)
  refine E_callV (ar := [x1]) (rest := st) lk hs hr hd' (by simpa using hk) (by simpa using hn) hst hd rfl hq ?_
  rintro v ws' ⟨rfl, hp⟩
  exact kk ws' hp
theorem C_S1X {F' : Cfg} {y : MethodName} {d d' mc ms : Nat} {ws : va_W} {x1 : Value} {P : Int32 → va_W → Prop} (lk : LkS F.1 idx y F' 1) (hs : Spec D d' y F' [x1] ws 0 0 (PX P)) (hd : decode F.2.1 pc = .ok (.invokestatic idx, 3)) (hd' : d' < d) (hst : (st.map fun v => v.category).sum ≤ 8) (hq : pc + 3 = q) (kk : ∀ r w, P r w → V D F (rmOf d mc ms) Qf k n q locs (.int r :: st) w) : V D F (rmOf d mc ms) Qf k n pc locs (x1 :: st) ws := by
  refine V_le (fun hk hn => ?_)
  refine E_callS (ar := [x1]) (rest := st) lk hs hd' (by simpa using hk) (by simpa using hn) hst hd rfl hq ?_
  rintro v ws' ⟨r, rfl, hp⟩
  exact kk r ws' hp
theorem C_S1Y {F' : Cfg} {y : MethodName} {d d' mc ms : Nat} {ws : va_W} {x1 : Value} {P : va_W → Prop} (lk : LkS F.1 idx y F' 1) (hs : Spec D d' y F' [x1] ws 0 0 (PY P)) (hd : decode F.2.1 pc = .ok (.invokestatic idx, 3)) (hd' : d' < d) (hst : (st.map fun v => v.category).sum ≤ 8) (hq : pc + 3 = q) (kk : ∀ w, P w → V D F (rmOf d mc ms) Qf k n q locs st w) : V D F (rmOf d mc ms) Qf k n pc locs (x1 :: st) ws := by
  refine V_le (fun hk hn => ?_)
  refine E_callS (ar := [x1]) (rest := st) lk hs hd' (by simpa using hk) (by simpa using hn) hst hd rfl hq ?_
  rintro v ws' ⟨rfl, hp⟩
  exact kk ws' hp
theorem C_SN1X {F' : Cfg} {y : MethodName} {d d' mc ms : Nat} {ws : va_W} {x1 : Value} {host : String} {P : Int32 → va_W → Prop} (lk : LkSN F.1 idx y F' 1 host) (hs : Spec D d' y F' [x1] ws 0 0 (PX P)) (hd : decode F.2.1 pc = .ok (.invokestatic idx, 3)) (hd' : d' < d) (hst : (st.map fun v => v.category).sum ≤ 8) (hq : pc + 3 = q) (kk : ∀ r w, P r w → V D F (rmOf d mc ms) Qf k n q locs (.int r :: st) w) : V D F (rmOf d mc ms) Qf k n pc locs (x1 :: st) ws := by
  refine V_le (fun hk hn => ?_)
  refine E_callSN (ar := [x1]) (rest := st) lk hs hd' (by simpa using hk) (by simpa using hn) hst hd rfl hq ?_
  rintro v ws' ⟨r, rfl, hp⟩
  exact kk r ws' hp
theorem C_SN1Y {F' : Cfg} {y : MethodName} {d d' mc ms : Nat} {ws : va_W} {x1 : Value} {host : String} {P : va_W → Prop} (lk : LkSN F.1 idx y F' 1 host) (hs : Spec D d' y F' [x1] ws 0 0 (PY P)) (hd : decode F.2.1 pc = .ok (.invokestatic idx, 3)) (hd' : d' < d) (hst : (st.map fun v => v.category).sum ≤ 8) (hq : pc + 3 = q) (kk : ∀ w, P w → V D F (rmOf d mc ms) Qf k n q locs st w) : V D F (rmOf d mc ms) Qf k n pc locs (x1 :: st) ws := by
  refine V_le (fun hk hn => ?_)
  refine E_callSN (ar := [x1]) (rest := st) lk hs hd' (by simpa using hk) (by simpa using hn) hst hd rfl hq ?_
  rintro v ws' ⟨rfl, hp⟩
  exact kk ws' hp
theorem C_V2X {F' : Cfg} {y : MethodName} {d d' mc ms : Nat} {ws : va_W} {a : Nat} {x1 x2 : Value} {P : Int32 → va_W → Prop} (lk : LkV F.1 idx y F' 2) (hs : Spec D d' y F' (.ref a :: [x1, x2]) ws 0 0 (PX P)) (hr : Recv ws a F'.1) (hd : decode F.2.1 pc = .ok (.invokevirtual idx, 3)) (hd' : d' < d) (hst : (st.map fun v => v.category).sum ≤ 8) (hq : pc + 3 = q) (kk : ∀ r w, P r w → V D F (rmOf d mc ms) Qf k n q locs (.int r :: st) w) : V D F (rmOf d mc ms) Qf k n pc locs (x2 :: x1 :: .ref a :: st) ws := by
  refine V_le (fun hk hn => ?_)
  refine E_callV (ar := [x1, x2]) (rest := st) lk hs hr hd' (by simpa using hk) (by simpa using hn) hst hd rfl hq ?_
  rintro v ws' ⟨r, rfl, hp⟩
  exact kk r ws' hp
theorem C_V2Y {F' : Cfg} {y : MethodName} {d d' mc ms : Nat} {ws : va_W} {a : Nat} {x1 x2 : Value} {P : va_W → Prop} (lk : LkV F.1 idx y F' 2) (hs : Spec D d' y F' (.ref a :: [x1, x2]) ws 0 0 (PY P)) (hr : Recv ws a F'.1) (hd : decode F.2.1 pc = .ok (.invokevirtual idx, 3)) (hd' : d' < d) (hst : (st.map fun v => v.category).sum ≤ 8) (hq : pc + 3 = q) (kk : ∀ w, P w → V D F (rmOf d mc ms) Qf k n q locs st w) : V D F (rmOf d mc ms) Qf k n pc locs (x2 :: x1 :: .ref a :: st) ws := by
  refine V_le (fun hk hn => ?_)
  refine E_callV (ar := [x1, x2]) (rest := st) lk hs hr hd' (by simpa using hk) (by simpa using hn) hst hd rfl hq ?_
  rintro v ws' ⟨rfl, hp⟩
  exact kk ws' hp
theorem C_S2X {F' : Cfg} {y : MethodName} {d d' mc ms : Nat} {ws : va_W} {x1 x2 : Value} {P : Int32 → va_W → Prop} (lk : LkS F.1 idx y F' 2) (hs : Spec D d' y F' [x1, x2] ws 0 0 (PX P)) (hd : decode F.2.1 pc = .ok (.invokestatic idx, 3)) (hd' : d' < d) (hst : (st.map fun v => v.category).sum ≤ 8) (hq : pc + 3 = q) (kk : ∀ r w, P r w → V D F (rmOf d mc ms) Qf k n q locs (.int r :: st) w) : V D F (rmOf d mc ms) Qf k n pc locs (x2 :: x1 :: st) ws := by
  refine V_le (fun hk hn => ?_)
  refine E_callS (ar := [x1, x2]) (rest := st) lk hs hd' (by simpa using hk) (by simpa using hn) hst hd rfl hq ?_
  rintro v ws' ⟨r, rfl, hp⟩
  exact kk r ws' hp
theorem C_S2Y {F' : Cfg} {y : MethodName} {d d' mc ms : Nat} {ws : va_W} {x1 x2 : Value} {P : va_W → Prop} (lk : LkS F.1 idx y F' 2) (hs : Spec D d' y F' [x1, x2] ws 0 0 (PY P)) (hd : decode F.2.1 pc = .ok (.invokestatic idx, 3)) (hd' : d' < d) (hst : (st.map fun v => v.category).sum ≤ 8) (hq : pc + 3 = q) (kk : ∀ w, P w → V D F (rmOf d mc ms) Qf k n q locs st w) : V D F (rmOf d mc ms) Qf k n pc locs (x2 :: x1 :: st) ws := by
  refine V_le (fun hk hn => ?_)
  refine E_callS (ar := [x1, x2]) (rest := st) lk hs hd' (by simpa using hk) (by simpa using hn) hst hd rfl hq ?_
  rintro v ws' ⟨rfl, hp⟩
  exact kk ws' hp
theorem C_SN2X {F' : Cfg} {y : MethodName} {d d' mc ms : Nat} {ws : va_W} {x1 x2 : Value} {host : String} {P : Int32 → va_W → Prop} (lk : LkSN F.1 idx y F' 2 host) (hs : Spec D d' y F' [x1, x2] ws 0 0 (PX P)) (hd : decode F.2.1 pc = .ok (.invokestatic idx, 3)) (hd' : d' < d) (hst : (st.map fun v => v.category).sum ≤ 8) (hq : pc + 3 = q) (kk : ∀ r w, P r w → V D F (rmOf d mc ms) Qf k n q locs (.int r :: st) w) : V D F (rmOf d mc ms) Qf k n pc locs (x2 :: x1 :: st) ws := by
  refine V_le (fun hk hn => ?_)
  refine E_callSN (ar := [x1, x2]) (rest := st) lk hs hd' (by simpa using hk) (by simpa using hn) hst hd rfl hq ?_
  rintro v ws' ⟨r, rfl, hp⟩
  exact kk r ws' hp
theorem C_SN2Y {F' : Cfg} {y : MethodName} {d d' mc ms : Nat} {ws : va_W} {x1 x2 : Value} {host : String} {P : va_W → Prop} (lk : LkSN F.1 idx y F' 2 host) (hs : Spec D d' y F' [x1, x2] ws 0 0 (PY P)) (hd : decode F.2.1 pc = .ok (.invokestatic idx, 3)) (hd' : d' < d) (hst : (st.map fun v => v.category).sum ≤ 8) (hq : pc + 3 = q) (kk : ∀ w, P w → V D F (rmOf d mc ms) Qf k n q locs st w) : V D F (rmOf d mc ms) Qf k n pc locs (x2 :: x1 :: st) ws := by
  refine V_le (fun hk hn => ?_)
  refine E_callSN (ar := [x1, x2]) (rest := st) lk hs hd' (by simpa using hk) (by simpa using hn) hst hd rfl hq ?_
  rintro v ws' ⟨rfl, hp⟩
  exact kk ws' hp
theorem C_V3X {F' : Cfg} {y : MethodName} {d d' mc ms : Nat} {ws : va_W} {a : Nat} {x1 x2 x3 : Value} {P : Int32 → va_W → Prop} (lk : LkV F.1 idx y F' 3) (hs : Spec D d' y F' (.ref a :: [x1, x2, x3]) ws 0 0 (PX P)) (hr : Recv ws a F'.1) (hd : decode F.2.1 pc = .ok (.invokevirtual idx, 3)) (hd' : d' < d) (hst : (st.map fun v => v.category).sum ≤ 8) (hq : pc + 3 = q) (kk : ∀ r w, P r w → V D F (rmOf d mc ms) Qf k n q locs (.int r :: st) w) : V D F (rmOf d mc ms) Qf k n pc locs (x3 :: x2 :: x1 :: .ref a :: st) ws := by
  refine V_le (fun hk hn => ?_)
  refine E_callV (ar := [x1, x2, x3]) (rest := st) lk hs hr hd' (by simpa using hk) (by simpa using hn) hst hd rfl hq ?_
  rintro v ws' ⟨r, rfl, hp⟩
  exact kk r ws' hp
theorem C_V3Y {F' : Cfg} {y : MethodName} {d d' mc ms : Nat} {ws : va_W} {a : Nat} {x1 x2 x3 : Value} {P : va_W → Prop} (lk : LkV F.1 idx y F' 3) (hs : Spec D d' y F' (.ref a :: [x1, x2, x3]) ws 0 0 (PY P)) (hr : Recv ws a F'.1) (hd : decode F.2.1 pc = .ok (.invokevirtual idx, 3)) (hd' : d' < d) (hst : (st.map fun v => v.category).sum ≤ 8) (hq : pc + 3 = q) (kk : ∀ w, P w → V D F (rmOf d mc ms) Qf k n q locs st w) : V D F (rmOf d mc ms) Qf k n pc locs (x3 :: x2 :: x1 :: .ref a :: st) ws := by
  refine V_le (fun hk hn => ?_)
  refine E_callV (ar := [x1, x2, x3]) (rest := st) lk hs hr hd' (by simpa using hk) (by simpa using hn) hst hd rfl hq ?_
  rintro v ws' ⟨rfl, hp⟩
  exact kk ws' hp
theorem C_S3X {F' : Cfg} {y : MethodName} {d d' mc ms : Nat} {ws : va_W} {x1 x2 x3 : Value} {P : Int32 → va_W → Prop} (lk : LkS F.1 idx y F' 3) (hs : Spec D d' y F' [x1, x2, x3] ws 0 0 (PX P)) (hd : decode F.2.1 pc = .ok (.invokestatic idx, 3)) (hd' : d' < d) (hst : (st.map fun v => v.category).sum ≤ 8) (hq : pc + 3 = q) (kk : ∀ r w, P r w → V D F (rmOf d mc ms) Qf k n q locs (.int r :: st) w) : V D F (rmOf d mc ms) Qf k n pc locs (x3 :: x2 :: x1 :: st) ws := by
  refine V_le (fun hk hn => ?_)
  refine E_callS (ar := [x1, x2, x3]) (rest := st) lk hs hd' (by simpa using hk) (by simpa using hn) hst hd rfl hq ?_
  rintro v ws' ⟨r, rfl, hp⟩
  exact kk r ws' hp
theorem C_S3Y {F' : Cfg} {y : MethodName} {d d' mc ms : Nat} {ws : va_W} {x1 x2 x3 : Value} {P : va_W → Prop} (lk : LkS F.1 idx y F' 3) (hs : Spec D d' y F' [x1, x2, x3] ws 0 0 (PY P)) (hd : decode F.2.1 pc = .ok (.invokestatic idx, 3)) (hd' : d' < d) (hst : (st.map fun v => v.category).sum ≤ 8) (hq : pc + 3 = q) (kk : ∀ w, P w → V D F (rmOf d mc ms) Qf k n q locs st w) : V D F (rmOf d mc ms) Qf k n pc locs (x3 :: x2 :: x1 :: st) ws := by
  refine V_le (fun hk hn => ?_)
  refine E_callS (ar := [x1, x2, x3]) (rest := st) lk hs hd' (by simpa using hk) (by simpa using hn) hst hd rfl hq ?_
  rintro v ws' ⟨rfl, hp⟩
  exact kk ws' hp
theorem C_SN3X {F' : Cfg} {y : MethodName} {d d' mc ms : Nat} {ws : va_W} {x1 x2 x3 : Value} {host : String} {P : Int32 → va_W → Prop} (lk : LkSN F.1 idx y F' 3 host) (hs : Spec D d' y F' [x1, x2, x3] ws 0 0 (PX P)) (hd : decode F.2.1 pc = .ok (.invokestatic idx, 3)) (hd' : d' < d) (hst : (st.map fun v => v.category).sum ≤ 8) (hq : pc + 3 = q) (kk : ∀ r w, P r w → V D F (rmOf d mc ms) Qf k n q locs (.int r :: st) w) : V D F (rmOf d mc ms) Qf k n pc locs (x3 :: x2 :: x1 :: st) ws := by
  refine V_le (fun hk hn => ?_)
  refine E_callSN (ar := [x1, x2, x3]) (rest := st) lk hs hd' (by simpa using hk) (by simpa using hn) hst hd rfl hq ?_
  rintro v ws' ⟨r, rfl, hp⟩
  exact kk r ws' hp
theorem C_SN3Y {F' : Cfg} {y : MethodName} {d d' mc ms : Nat} {ws : va_W} {x1 x2 x3 : Value} {host : String} {P : va_W → Prop} (lk : LkSN F.1 idx y F' 3 host) (hs : Spec D d' y F' [x1, x2, x3] ws 0 0 (PY P)) (hd : decode F.2.1 pc = .ok (.invokestatic idx, 3)) (hd' : d' < d) (hst : (st.map fun v => v.category).sum ≤ 8) (hq : pc + 3 = q) (kk : ∀ w, P w → V D F (rmOf d mc ms) Qf k n q locs st w) : V D F (rmOf d mc ms) Qf k n pc locs (x3 :: x2 :: x1 :: st) ws := by
  refine V_le (fun hk hn => ?_)
  refine E_callSN (ar := [x1, x2, x3]) (rest := st) lk hs hd' (by simpa using hk) (by simpa using hn) hst hd rfl hq ?_
  rintro v ws' ⟨rfl, hp⟩
  exact kk ws' hp
theorem C_V4X {F' : Cfg} {y : MethodName} {d d' mc ms : Nat} {ws : va_W} {a : Nat} {x1 x2 x3 x4 : Value} {P : Int32 → va_W → Prop} (lk : LkV F.1 idx y F' 4) (hs : Spec D d' y F' (.ref a :: [x1, x2, x3, x4]) ws 0 0 (PX P)) (hr : Recv ws a F'.1) (hd : decode F.2.1 pc = .ok (.invokevirtual idx, 3)) (hd' : d' < d) (hst : (st.map fun v => v.category).sum ≤ 8) (hq : pc + 3 = q) (kk : ∀ r w, P r w → V D F (rmOf d mc ms) Qf k n q locs (.int r :: st) w) : V D F (rmOf d mc ms) Qf k n pc locs (x4 :: x3 :: x2 :: x1 :: .ref a :: st) ws := by
  refine V_le (fun hk hn => ?_)
  refine E_callV (ar := [x1, x2, x3, x4]) (rest := st) lk hs hr hd' (by simpa using hk) (by simpa using hn) hst hd rfl hq ?_
  rintro v ws' ⟨r, rfl, hp⟩
  exact kk r ws' hp
theorem C_V4Y {F' : Cfg} {y : MethodName} {d d' mc ms : Nat} {ws : va_W} {a : Nat} {x1 x2 x3 x4 : Value} {P : va_W → Prop} (lk : LkV F.1 idx y F' 4) (hs : Spec D d' y F' (.ref a :: [x1, x2, x3, x4]) ws 0 0 (PY P)) (hr : Recv ws a F'.1) (hd : decode F.2.1 pc = .ok (.invokevirtual idx, 3)) (hd' : d' < d) (hst : (st.map fun v => v.category).sum ≤ 8) (hq : pc + 3 = q) (kk : ∀ w, P w → V D F (rmOf d mc ms) Qf k n q locs st w) : V D F (rmOf d mc ms) Qf k n pc locs (x4 :: x3 :: x2 :: x1 :: .ref a :: st) ws := by
  refine V_le (fun hk hn => ?_)
  refine E_callV (ar := [x1, x2, x3, x4]) (rest := st) lk hs hr hd' (by simpa using hk) (by simpa using hn) hst hd rfl hq ?_
  rintro v ws' ⟨rfl, hp⟩
  exact kk ws' hp
theorem C_S4X {F' : Cfg} {y : MethodName} {d d' mc ms : Nat} {ws : va_W} {x1 x2 x3 x4 : Value} {P : Int32 → va_W → Prop} (lk : LkS F.1 idx y F' 4) (hs : Spec D d' y F' [x1, x2, x3, x4] ws 0 0 (PX P)) (hd : decode F.2.1 pc = .ok (.invokestatic idx, 3)) (hd' : d' < d) (hst : (st.map fun v => v.category).sum ≤ 8) (hq : pc + 3 = q) (kk : ∀ r w, P r w → V D F (rmOf d mc ms) Qf k n q locs (.int r :: st) w) : V D F (rmOf d mc ms) Qf k n pc locs (x4 :: x3 :: x2 :: x1 :: st) ws := by
  refine V_le (fun hk hn => ?_)
  refine E_callS (ar := [x1, x2, x3, x4]) (rest := st) lk hs hd' (by simpa using hk) (by simpa using hn) hst hd rfl hq ?_
  rintro v ws' ⟨r, rfl, hp⟩
  exact kk r ws' hp
theorem C_S4Y {F' : Cfg} {y : MethodName} {d d' mc ms : Nat} {ws : va_W} {x1 x2 x3 x4 : Value} {P : va_W → Prop} (lk : LkS F.1 idx y F' 4) (hs : Spec D d' y F' [x1, x2, x3, x4] ws 0 0 (PY P)) (hd : decode F.2.1 pc = .ok (.invokestatic idx, 3)) (hd' : d' < d) (hst : (st.map fun v => v.category).sum ≤ 8) (hq : pc + 3 = q) (kk : ∀ w, P w → V D F (rmOf d mc ms) Qf k n q locs st w) : V D F (rmOf d mc ms) Qf k n pc locs (x4 :: x3 :: x2 :: x1 :: st) ws := by
  refine V_le (fun hk hn => ?_)
  refine E_callS (ar := [x1, x2, x3, x4]) (rest := st) lk hs hd' (by simpa using hk) (by simpa using hn) hst hd rfl hq ?_
  rintro v ws' ⟨rfl, hp⟩
  exact kk ws' hp
theorem C_SN4X {F' : Cfg} {y : MethodName} {d d' mc ms : Nat} {ws : va_W} {x1 x2 x3 x4 : Value} {host : String} {P : Int32 → va_W → Prop} (lk : LkSN F.1 idx y F' 4 host) (hs : Spec D d' y F' [x1, x2, x3, x4] ws 0 0 (PX P)) (hd : decode F.2.1 pc = .ok (.invokestatic idx, 3)) (hd' : d' < d) (hst : (st.map fun v => v.category).sum ≤ 8) (hq : pc + 3 = q) (kk : ∀ r w, P r w → V D F (rmOf d mc ms) Qf k n q locs (.int r :: st) w) : V D F (rmOf d mc ms) Qf k n pc locs (x4 :: x3 :: x2 :: x1 :: st) ws := by
  refine V_le (fun hk hn => ?_)
  refine E_callSN (ar := [x1, x2, x3, x4]) (rest := st) lk hs hd' (by simpa using hk) (by simpa using hn) hst hd rfl hq ?_
  rintro v ws' ⟨r, rfl, hp⟩
  exact kk r ws' hp
theorem C_SN4Y {F' : Cfg} {y : MethodName} {d d' mc ms : Nat} {ws : va_W} {x1 x2 x3 x4 : Value} {host : String} {P : va_W → Prop} (lk : LkSN F.1 idx y F' 4 host) (hs : Spec D d' y F' [x1, x2, x3, x4] ws 0 0 (PY P)) (hd : decode F.2.1 pc = .ok (.invokestatic idx, 3)) (hd' : d' < d) (hst : (st.map fun v => v.category).sum ≤ 8) (hq : pc + 3 = q) (kk : ∀ w, P w → V D F (rmOf d mc ms) Qf k n q locs st w) : V D F (rmOf d mc ms) Qf k n pc locs (x4 :: x3 :: x2 :: x1 :: st) ws := by
  refine V_le (fun hk hn => ?_)
  refine E_callSN (ar := [x1, x2, x3, x4]) (rest := st) lk hs hd' (by simpa using hk) (by simpa using hn) hst hd rfl hq ?_
  rintro v ws' ⟨rfl, hp⟩
  exact kk ws' hp
theorem C_V5X {F' : Cfg} {y : MethodName} {d d' mc ms : Nat} {ws : va_W} {a : Nat} {x1 x2 x3 x4 x5 : Value} {P : Int32 → va_W → Prop} (lk : LkV F.1 idx y F' 5) (hs : Spec D d' y F' (.ref a :: [x1, x2, x3, x4, x5]) ws 0 0 (PX P)) (hr : Recv ws a F'.1) (hd : decode F.2.1 pc = .ok (.invokevirtual idx, 3)) (hd' : d' < d) (hst : (st.map fun v => v.category).sum ≤ 8) (hq : pc + 3 = q) (kk : ∀ r w, P r w → V D F (rmOf d mc ms) Qf k n q locs (.int r :: st) w) : V D F (rmOf d mc ms) Qf k n pc locs (x5 :: x4 :: x3 :: x2 :: x1 :: .ref a :: st) ws := by
  refine V_le (fun hk hn => ?_)
  refine E_callV (ar := [x1, x2, x3, x4, x5]) (rest := st) lk hs hr hd' (by simpa using hk) (by simpa using hn) hst hd rfl hq ?_
  rintro v ws' ⟨r, rfl, hp⟩
  exact kk r ws' hp
theorem C_V5Y {F' : Cfg} {y : MethodName} {d d' mc ms : Nat} {ws : va_W} {a : Nat} {x1 x2 x3 x4 x5 : Value} {P : va_W → Prop} (lk : LkV F.1 idx y F' 5) (hs : Spec D d' y F' (.ref a :: [x1, x2, x3, x4, x5]) ws 0 0 (PY P)) (hr : Recv ws a F'.1) (hd : decode F.2.1 pc = .ok (.invokevirtual idx, 3)) (hd' : d' < d) (hst : (st.map fun v => v.category).sum ≤ 8) (hq : pc + 3 = q) (kk : ∀ w, P w → V D F (rmOf d mc ms) Qf k n q locs st w) : V D F (rmOf d mc ms) Qf k n pc locs (x5 :: x4 :: x3 :: x2 :: x1 :: .ref a :: st) ws := by
  refine V_le (fun hk hn => ?_)
  refine E_callV (ar := [x1, x2, x3, x4, x5]) (rest := st) lk hs hr hd' (by simpa using hk) (by simpa using hn) hst hd rfl hq ?_
  rintro v ws' ⟨rfl, hp⟩
  exact kk ws' hp
theorem C_S5X {F' : Cfg} {y : MethodName} {d d' mc ms : Nat} {ws : va_W} {x1 x2 x3 x4 x5 : Value} {P : Int32 → va_W → Prop} (lk : LkS F.1 idx y F' 5) (hs : Spec D d' y F' [x1, x2, x3, x4, x5] ws 0 0 (PX P)) (hd : decode F.2.1 pc = .ok (.invokestatic idx, 3)) (hd' : d' < d) (hst : (st.map fun v => v.category).sum ≤ 8) (hq : pc + 3 = q) (kk : ∀ r w, P r w → V D F (rmOf d mc ms) Qf k n q locs (.int r :: st) w) : V D F (rmOf d mc ms) Qf k n pc locs (x5 :: x4 :: x3 :: x2 :: x1 :: st) ws := by
  refine V_le (fun hk hn => ?_)
  refine E_callS (ar := [x1, x2, x3, x4, x5]) (rest := st) lk hs hd' (by simpa using hk) (by simpa using hn) hst hd rfl hq ?_
  rintro v ws' ⟨r, rfl, hp⟩
  exact kk r ws' hp
theorem C_S5Y {F' : Cfg} {y : MethodName} {d d' mc ms : Nat} {ws : va_W} {x1 x2 x3 x4 x5 : Value} {P : va_W → Prop} (lk : LkS F.1 idx y F' 5) (hs : Spec D d' y F' [x1, x2, x3, x4, x5] ws 0 0 (PY P)) (hd : decode F.2.1 pc = .ok (.invokestatic idx, 3)) (hd' : d' < d) (hst : (st.map fun v => v.category).sum ≤ 8) (hq : pc + 3 = q) (kk : ∀ w, P w → V D F (rmOf d mc ms) Qf k n q locs st w) : V D F (rmOf d mc ms) Qf k n pc locs (x5 :: x4 :: x3 :: x2 :: x1 :: st) ws := by
  refine V_le (fun hk hn => ?_)
  refine E_callS (ar := [x1, x2, x3, x4, x5]) (rest := st) lk hs hd' (by simpa using hk) (by simpa using hn) hst hd rfl hq ?_
  rintro v ws' ⟨rfl, hp⟩
  exact kk ws' hp
theorem C_SN5X {F' : Cfg} {y : MethodName} {d d' mc ms : Nat} {ws : va_W} {x1 x2 x3 x4 x5 : Value} {host : String} {P : Int32 → va_W → Prop} (lk : LkSN F.1 idx y F' 5 host) (hs : Spec D d' y F' [x1, x2, x3, x4, x5] ws 0 0 (PX P)) (hd : decode F.2.1 pc = .ok (.invokestatic idx, 3)) (hd' : d' < d) (hst : (st.map fun v => v.category).sum ≤ 8) (hq : pc + 3 = q) (kk : ∀ r w, P r w → V D F (rmOf d mc ms) Qf k n q locs (.int r :: st) w) : V D F (rmOf d mc ms) Qf k n pc locs (x5 :: x4 :: x3 :: x2 :: x1 :: st) ws := by
  refine V_le (fun hk hn => ?_)
  refine E_callSN (ar := [x1, x2, x3, x4, x5]) (rest := st) lk hs hd' (by simpa using hk) (by simpa using hn) hst hd rfl hq ?_
  rintro v ws' ⟨r, rfl, hp⟩
  exact kk r ws' hp
theorem C_SN5Y {F' : Cfg} {y : MethodName} {d d' mc ms : Nat} {ws : va_W} {x1 x2 x3 x4 x5 : Value} {host : String} {P : va_W → Prop} (lk : LkSN F.1 idx y F' 5 host) (hs : Spec D d' y F' [x1, x2, x3, x4, x5] ws 0 0 (PY P)) (hd : decode F.2.1 pc = .ok (.invokestatic idx, 3)) (hd' : d' < d) (hst : (st.map fun v => v.category).sum ≤ 8) (hq : pc + 3 = q) (kk : ∀ w, P w → V D F (rmOf d mc ms) Qf k n q locs st w) : V D F (rmOf d mc ms) Qf k n pc locs (x5 :: x4 :: x3 :: x2 :: x1 :: st) ws := by
  refine V_le (fun hk hn => ?_)
  refine E_callSN (ar := [x1, x2, x3, x4, x5]) (rest := st) lk hs hd' (by simpa using hk) (by simpa using hn) hst hd rfl hq ?_
  rintro v ws' ⟨rfl, hp⟩
  exact kk ws' hp
end CALLX
/-! ROWS OF THE REFERENCE that change -/
theorem row2_upd {M : Mem} {k j : Nat} {f : Nat → Int32} {v : Int32} : upd2 (row2 M k f) k j v = row2 M k (upd f j v) := by
  funext a b
  unfold upd2 row2 upd
  by_cases h : a = k <;> simp [h]
theorem row2_self {M : Mem} {k : Nat} : row2 M k (M k) = M := by
  funext a
  unfold row2
  by_cases h : a = k
  · subst h; rw [if_pos rfl]
  · rw [if_neg h]
theorem row2_row2 {M : Mem} {k : Nat} {f g : Nat → Int32} : row2 (row2 M k f) k g = row2 M k g := by
  funext a
  unfold row2
  by_cases h : a = k <;> simp [h]
def RW (D : va_G) (ad : Nat → Nat) (M : Mem) (wx : Nat) (A : AS) : va_W → Prop := fun w => ∃ f, RowIs f A ∧ w = wl D ad (row2 M wx f)
/-- births and sizes laid at w's first k addresses -/
def layF (f : Nat → Int32) (w : Nat) (bs us : Nat → Int32) (k : Nat) : Nat → Int32 := fun j => if 211 + 12 * w ≤ j ∧ j < 211 + 12 * w + k then bs (j - (211 + 12 * w)) else if 475 + 12 * w ≤ j ∧ j < 475 + 12 * w + k then us (j - (475 + 12 * w)) else f j
theorem layF_0 {f : Nat → Int32} {w : Nat} {bs us : Nat → Int32} : layF f w bs us 0 = f := funext fun j => by unfold layF; rw [if_neg (by omega), if_neg (by omega)]
theorem layF_s {f : Nat → Int32} {w k : Nat} {bs us : Nat → Int32} (hw : w < 22) (hk : k < 12) : upd (upd (layF f w bs us k) (211 + 12 * w + k) (bs k)) (475 + 12 * w + k) (us k) = layF f w bs us (k + 1) := funext fun j => by
  unfold upd layF
  by_cases h1 : j = 475 + 12 * w + k
  · subst h1
    rw [if_pos rfl, if_neg (by omega), if_pos (by omega), show 475 + 12 * w + k - (475 + 12 * w) = k by omega]
  · rw [if_neg h1]
    by_cases h2 : j = 211 + 12 * w + k
    · subst h2
      rw [if_pos rfl, if_pos (by omega), show 211 + 12 * w + k - (211 + 12 * w) = k by omega]
    · rw [if_neg h2]
      by_cases h3 : 211 + 12 * w ≤ j ∧ j < 211 + 12 * w + k
      · rw [if_pos h3, if_pos (by omega)]
      · rw [if_neg h3, if_neg (show ¬ (211 + 12 * w ≤ j ∧ j < 211 + 12 * w + (k + 1)) by omega)]
        by_cases h4 : 475 + 12 * w ≤ j ∧ j < 475 + 12 * w + k
        · rw [if_pos h4, if_pos (by omega)]
        · rw [if_neg h4, if_neg (by omega)]
theorem layF_b {f : Nat → Int32} {w k a : Nat} {bs us : Nat → Int32} (ha : a < k) : layF f w bs us k (211 + 12 * w + a) = bs a := by
  unfold layF; rw [if_pos (by omega), show 211 + 12 * w + a - (211 + 12 * w) = a by omega]
theorem layF_u {f : Nat → Int32} {w k a : Nat} {bs us : Nat → Int32} (hw : w < 22) (ha : a < k) (hk : k ≤ 12) : layF f w bs us k (475 + 12 * w + a) = us a := by
  unfold layF; rw [if_neg (by omega), if_pos (by omega), show 475 + 12 * w + a - (475 + 12 * w) = a by omega]
theorem layF_ne {f : Nat → Int32} {w k j : Nat} {bs us : Nat → Int32} (h1 : ¬ (211 + 12 * w ≤ j ∧ j < 211 + 12 * w + k)) (h2 : ¬ (475 + 12 * w ≤ j ∧ j < 475 + 12 * w + k)) : layF f w bs us k j = f j := by
  unfold layF; rw [if_neg h1, if_neg h2]
