/-! ALL CELLS THAT LIVE THROUGH THE RUN: the class's and the reference's; M k j: the number at place j of the cell k -/
abbrev Sk : Type := Nat × Nat × List Nat
def sk : List Sk := [(0, 9, [4, 134, 136, 138, 158]), (0, 8, [0, 0, 0, 0, 0, 5, 6, 7, 8, 9, 10, 11, 12]), (1, 0, [2]), (1, 0, [16]), (1, 0, [16]), (1, 0, [16]), (1, 0, [6]), (1, 0, [6]), (1, 0, [6]), (0, 4, [13, 14, 15, 16, 0]), (1, 0, [264]), (1, 0, [264]), (1, 0, [264]), (1, 0, [264]), (0, 8, [0, 0, 0, 0, 0, 18, 19, 20, 21, 22, 23, 24, 25]), (1, 0, [2]), (1, 0, [16]), (1, 0, [16]), (1, 0, [16]), (1, 0, [6]), (1, 0, [6]), (1, 0, [6]), (0, 4, [26, 27, 28, 29, 0]), (1, 0, [264]), (1, 0, [264]), (1, 0, [264]), (1, 0, [264]), (0, 8, [0, 0, 0, 0, 0, 31, 32, 33, 34, 35, 36, 37, 38]), (1, 0, [2]), (1, 0, [16]), (1, 0, [16]), (1, 0, [16]), (1, 0, [6]), (1, 0, [6]), (1, 0, [6]), (0, 4, [39, 40, 41, 42, 0]), (1, 0, [264]), (1, 0, [264]), (1, 0, [264]), (1, 0, [264]), (0, 8, [0, 0, 0, 0, 0, 44, 45, 46, 47, 48, 49, 50, 51]), (1, 0, [2]), (1, 0, [16]), (1, 0, [16]), (1, 0, [16]), (1, 0, [6]), (1, 0, [6]), (1, 0, [6]), (0, 4, [52, 53, 54, 55, 0]), (1, 0, [264]), (1, 0, [264]), (1, 0, [264]), (1, 0, [264]), (0, 8, [0, 0, 0, 0, 0, 57, 58, 59, 60, 61, 62, 63, 64]), (1, 0, [2]), (1, 0, [16]), (1, 0, [16]), (1, 0, [16]), (1, 0, [6]), (1, 0, [6]), (1, 0, [6]), (0, 4, [65, 66, 67, 68, 0]), (1, 0, [264]), (1, 0, [264]), (1, 0, [264]), (1, 0, [264]), (0, 8, [0, 0, 0, 0, 0, 70, 71, 72, 73, 74, 75, 76, 77]), (1, 0, [2]), (1, 0, [16]), (1, 0, [16]), (1, 0, [16]), (1, 0, [6]), (1, 0, [6]), (1, 0, [6]), (0, 4, [78, 79, 80, 81, 0]), (1, 0, [264]), (1, 0, [264]), (1, 0, [264]), (1, 0, [264]), (0, 8, [0, 0, 0, 0, 0, 83, 84, 85, 86, 87, 88, 89, 90]), (1, 0, [2]), (1, 0, [16]), (1, 0, [16]), (1, 0, [16]), (1, 0, [6]), (1, 0, [6]), (1, 0, [6]), (0, 4, [91, 92, 93, 94, 0]), (1, 0, [264]), (1, 0, [264]), (1, 0, [264]), (1, 0, [264]), (0, 8, [0, 0, 0, 0, 0, 96, 97, 98, 99, 100, 101, 102, 103]), (1, 0, [2]), (1, 0, [16]), (1, 0, [16]), (1, 0, [16]), (1, 0, [6]), (1, 0, [6]), (1, 0, [6]), (0, 4, [104, 105, 106, 107, 0]), (1, 0, [264]), (1, 0, [264]), (1, 0, [264]), (1, 0, [264]), (0, 8, [0, 0, 0, 0, 0, 109, 110, 111, 112, 113, 114, 115, 116]), (1, 0, [2]), (1, 0, [16]), (1, 0, [16]), (1, 0, [16]), (1, 0, [6]), (1, 0, [6]), (1, 0, [6]), (0, 4, [117, 118, 119, 120, 0]), (1, 0, [264]), (1, 0, [264]), (1, 0, [264]), (1, 0, [264]), (0, 8, [0, 0, 0, 0, 0, 122, 123, 124, 125, 126, 127, 128, 129]), (1, 0, [2]), (1, 0, [16]), (1, 0, [16]), (1, 0, [16]), (1, 0, [6]), (1, 0, [6]), (1, 0, [6]), (0, 4, [130, 131, 132, 133, 0]), (1, 0, [264]), (1, 0, [264]), (1, 0, [264]), (1, 0, [264]), (0, 5, [135, 0, 0]), (2, 4, [27, 40, 53, 66, 79, 92, 105, 118]), (0, 6, [137, 0, 17, 0, 0, 0, 0, 0, 0, 0]), (1, 1, [1000]), (0, 7, [139, 0, 140]), (1, 0, [16]), (2, 5, [138, 139, 140, 141, 142, 143, 144, 145, 146, 147, 148, 149, 150, 151, 152, 153, 154]), (1, 0, [17]), (1, 0, [17]), (1, 0, [17]), (1, 0, [17]), (1, 0, [17]), (1, 0, [17]), (1, 0, [17]), (1, 0, [17]), (1, 0, [17]), (1, 0, [17]), (1, 0, [17]), (1, 0, [17]), (1, 0, [17]), (1, 0, [17]), (1, 0, [17]), (1, 0, [17]), (1, 0, [17]), (0, 1, [159, 0, 0, 0]), (4, 2, []), (0, 10, [161, 162, 0, 2, 0, 163, 164, 0, 165, 0, 0, 0, 0, 0, 0, 0, 1, 0, 0, 166, 0, 0, 167, 0]), (1, 0, [739]), (1, 0, [5912]), (1, 0, [192]), (1, 0, [192]), (1, 2, [1000]), (1, 0, [739]), (1, 0, [300]), (3, 3, [1])]
def lgOf (a b : Int32) : Int64 := Int64.ofBitVec (a.toBitVec ++ b.toBitVec)
def lgHi (x : Int64) : Int32 := Int32.ofBitVec (x.toBitVec.extractLsb' 32 32)
def lgLo (x : Int64) : Int32 := Int32.ofBitVec (x.toBitVec.extractLsb' 0 32)
theorem lgOf_hl (x : Int64) : lgOf (lgHi x) (lgLo x) = x := by
  unfold lgOf lgHi lgLo
  apply Int64.toBitVec_inj.mp
  show BitVec.extractLsb' 32 32 x.toBitVec ++ BitVec.extractLsb' 0 32 x.toBitVec = x.toBitVec
  apply BitVec.eq_of_getLsbD_eq
  intro i hi
  rw [BitVec.getLsbD_append]
  by_cases h : i < 32
  · simp [h]
  · have h2 : 32 + (i - 32) = i := by omega
    have h3 : i - 32 < 32 := by omega
    simp [h, h2, h3]
def fldV (ad : Nat → Nat) (m : Nat → Int32) (j : Nat) : Nat → Value
  | 0 => .int (m j)
  | 1 => .long (lgOf (m j) (m (j + 1000)))
  | 2 => .ref (ad (m j).toNatClampNeg)
  | r + 3 => .ref (ad r)
def cellE (D : va_G) (ad : Nat → Nat) (m : Nat → Int32) : Sk → va_E
  | (0, ci, fs) => .inr (ci, fs.mapIdx (fun j f => fldV ad m j f))
  | (1, t, n) => .inl (D.1 (100 + t), n.headD 0, .inl m)
  | (2, t, rs) => .inl (D.1 (100 + t), rs.length, .inr (.inr (.inr (.inr (fun j => (rs[j]?).map ad)))))
  | (3, t, n) => .inl (D.1 (100 + t), n.headD 0, .inr (.inl (fun j => lgOf (m (2 * j)) (m (2 * j + 1)))))
  | (_, t, _) => .inl (D.1 (100 + t), (m 100000).toNatClampNeg, .inl m)
def wl (D : va_G) (ad : Nat → Nat) (M : Mem) : va_W := sk.mapIdx (fun k c => (ad k, cellE D ad (M k) c))
def upd2 (M : Mem) (k j : Nat) (v : Int32) : Mem := fun a b => if a = k ∧ b = j then v else M a b
theorem upd2_same {M : Mem} {k j : Nat} {v : Int32} : upd2 M k j v k j = v := if_pos ⟨rfl, rfl⟩
theorem upd2_ne {M : Mem} {k j a b : Nat} {v : Int32} (h : ¬ (a = k ∧ b = j)) : upd2 M k j v a b = M a b := if_neg h
theorem upd2_row {M : Mem} {k j a : Nat} {v : Int32} (h : a ≠ k) : upd2 M k j v a = M a := funext fun b => if_neg fun q => h q.1
theorem upd2_upd {M : Mem} {k j : Nat} {v : Int32} : upd2 M k j v k = upd (M k) j v := funext fun b => by
  unfold upd2 upd
  by_cases h : b = j <;> simp [h]
/-- a whole row replaced -/
def row2 (M : Mem) (k : Nat) (f : Nat → Int32) : Mem := fun a => if a = k then f else M a
theorem row2_same {M : Mem} {k : Nat} {f : Nat → Int32} : row2 M k f k = f := if_pos rfl
theorem row2_ne {M : Mem} {k a : Nat} {f : Nat → Int32} (h : a ≠ k) : row2 M k f a = M a := if_neg h
theorem wl_get {D : va_G} {ad : Nat → Nat} {M : Mem} {k : Nat} {c : Sk} (h : sk[k]? = some c) : (wl D ad M)[k]? = some (ad k, cellE D ad (M k) c) := by
  simp [wl, List.getElem?_mapIdx, h]
theorem wl_set {D : va_G} {ad : Nat → Nat} {M M' : Mem} {k : Nat} {c : Sk} {e : va_E} (h : sk[k]? = some c) (he : e = cellE D ad (M' k) c) (hM : ∀ a, a ≠ k → M' a = M a) : (wl D ad M).set k (ad k, e) = wl D ad M' := by
  subst he
  apply List.ext_getElem?
  intro i
  by_cases hi : k = i
  · subst hi
    rw [wl_get h, List.getElem?_set_self]
    simp only [wl, List.length_mapIdx]
    exact (List.getElem?_eq_some_iff.mp h).1
  · rw [List.getElem?_set_ne hi]
    simp only [wl, List.getElem?_mapIdx]
    rw [hM i (fun q => hi q.symm)]
section VM
variable {D : va_G} {F : Cfg} {rm : Room} {Qf : QF} {k n pc q : Nat} {locs : List (Option Value)} {st : List Value} {ad : Nat → Nat} {M : Mem}
theorem E_getG {a ci j idx f : Nat} {fs : List Nat} (hcl : CLok ci) (hf : FL F.1 idx ci j) (hs : sk[a]? = some (0, ci, fs)) (hj : fs[j]? = some f) (hd : decode F.2.1 pc = .ok (.getfield idx, 3)) (hq : pc + 3 = q) (kk : V D F rm Qf k n q locs (fldV ad (M a) j f :: st) (wl D ad M)) : V D F rm Qf k n pc locs (.ref (ad a) :: st) (wl D ad M) := by
  subst hq
  intro p l e s m args below meth c A H lc ls C hlen hkc hnc hP hD hS hl
  obtain ⟨CC, T, N, h1, h2, h3⟩ := hf
  have hts := C.2.2.2.2.2.1
  exact va_get C.1 C.2.1 hts (hcl _ _ _ h1).1 C.2.2.2.2.1 C.2.2.2.2.2.2.2.2.1 hP a (wl_get hs) h1 j h2 (hts _ h3) (fun _ h => h) (by rw [List.getElem?_mapIdx, hj]; rfl) hd (kk p l e s m args below meth c A H lc ls C hlen hkc hnc hP hD hS hl)
theorem E_putG {a ci j idx f : Nat} {fs : List Nat} {ty : FieldType} {v : Value} {M' : Mem} (hcl : CLok ci) (hf : FL F.1 idx ci j) (hs : sk[a]? = some (0, ci, fs)) (hj : fs[j]? = some f) (hfp : FPok ci j ty) (hn : narrow ty v = v) (hfit : fits ty v = true) (hM : ∀ b, b ≠ a → M' b = M b) (hset : (fs.mapIdx (fun j f => fldV ad (M a) j f)).set j v = fs.mapIdx (fun j f => fldV ad (M' a) j f)) (hd : decode F.2.1 pc = .ok (.putfield idx, 3)) (hq : pc + 3 = q) (kk : V D F rm Qf k n q locs st (wl D ad M')) : V D F rm Qf k n pc locs (v :: .ref (ad a) :: st) (wl D ad M) := by
  subst hq
  intro p l e s m args below meth c A H lc ls C hlen hkc hnc hP hD hS hl
  obtain ⟨CC, T, N, h1, h2, h3⟩ := hf
  have hts := C.2.2.2.2.2.1
  obtain ⟨g1, ⟨ty0, g2⟩, g3⟩ := hcl _ _ _ h1
  have hw : (wl D ad M).set a (ad a, .inr (ci, (fs.mapIdx (fun j f => fldV ad (M a) j f)).set j v)) = wl D ad M' := wl_set hs (by rw [hset]; rfl) hM
  refine va_put C.1 C.2.1 hts g1 ty0 g2 g3 C.2.2.2.2.1 C.2.2.2.2.2.2.2.2.1 hP hD hS a (wl_get hs) h1 j h2 (hts _ h3) (fun _ h => h) (hfp _ _ _ h1).1 (hfp _ _ _ h1).2 hn hfit (by rw [List.length_mapIdx]; exact (List.getElem?_eq_some_iff.mp hj).1) hd (fun H1 lc1 hP1 hD1 hS1 => ?_)
  rw [hw] at hP1 hD1
  exact kk p l e s m args below meth c A H1 lc1 ls C hlen hkc hnc hP1 hD1 hS1 hl
theorem mapIdx_set {fs : List Nat} {j f : Nat} {m m' : Nat → Int32} {v : Value} (hj : fs[j]? = some f) (hv : v = fldV ad m' j f) (hm : ∀ i g, i ≠ j → fs[i]? = some g → fldV ad m' i g = fldV ad m i g) : (fs.mapIdx (fun j f => fldV ad m j f)).set j v = fs.mapIdx (fun j f => fldV ad m' j f) := by
  apply List.ext_getElem?
  intro i
  have hl := (List.getElem?_eq_some_iff.mp hj).1
  by_cases hi : j = i
  · subst hi
    rw [List.getElem?_set_self (by rw [List.length_mapIdx]; exact hl), List.getElem?_mapIdx, hj, hv]
    rfl
  · rw [List.getElem?_set_ne hi, List.getElem?_mapIdx, List.getElem?_mapIdx]
    cases hg : fs[i]? with
    | none => rfl
    | some g => simp only [Option.map_some]; rw [hm i g (fun z => hi z.symm) hg]
theorem fld_upd {m : Nat → Int32} {i j g : Nat} {v : Int32} (h : i ≠ j) (h2 : g ≠ 1 ∨ i + 1000 ≠ j) : fldV ad (upd m j v) i g = fldV ad m i g := by
  match g with
  | 0 => simp [fldV, upd, h]
  | 1 => simp [fldV, upd, h]; have := h2.resolve_left (by simp); simp [this]
  | 2 => simp [fldV, upd, h]
  | r + 3 => rfl
theorem E_getI {a ci j idx : Nat} {fs : List Nat} (hcl : CLok ci) (hf : FL F.1 idx ci j) (hs : sk[a]? = some (0, ci, fs)) (hj : fs[j]? = some 0) (hd : decode F.2.1 pc = .ok (.getfield idx, 3)) (hq : pc + 3 = q) (kk : V D F rm Qf k n q locs (.int (M a j) :: st) (wl D ad M)) : V D F rm Qf k n pc locs (.ref (ad a) :: st) (wl D ad M) := E_getG hcl hf hs hj hd hq kk
theorem E_getR {a ci j idx r : Nat} {fs : List Nat} (hcl : CLok ci) (hf : FL F.1 idx ci j) (hs : sk[a]? = some (0, ci, fs)) (hj : fs[j]? = some (r + 3)) (hd : decode F.2.1 pc = .ok (.getfield idx, 3)) (hq : pc + 3 = q) (kk : V D F rm Qf k n q locs (.ref (ad r) :: st) (wl D ad M)) : V D F rm Qf k n pc locs (.ref (ad a) :: st) (wl D ad M) := E_getG hcl hf hs hj hd hq kk
theorem E_getL {a ci j idx : Nat} {fs : List Nat} (hcl : CLok ci) (hf : FL F.1 idx ci j) (hs : sk[a]? = some (0, ci, fs)) (hj : fs[j]? = some 1) (hd : decode F.2.1 pc = .ok (.getfield idx, 3)) (hq : pc + 3 = q) (kk : V D F rm Qf k n q locs (.long (lgOf (M a j) (M a (j + 1000))) :: st) (wl D ad M)) : V D F rm Qf k n pc locs (.ref (ad a) :: st) (wl D ad M) := E_getG hcl hf hs hj hd hq kk
theorem E_getW {a ci j idx x : Nat} {fs : List Nat} (hx : (M a j).toNatClampNeg = x) (hcl : CLok ci) (hf : FL F.1 idx ci j) (hs : sk[a]? = some (0, ci, fs)) (hj : fs[j]? = some 2) (hd : decode F.2.1 pc = .ok (.getfield idx, 3)) (hq : pc + 3 = q) (kk : V D F rm Qf k n q locs (.ref (ad x) :: st) (wl D ad M)) : V D F rm Qf k n pc locs (.ref (ad a) :: st) (wl D ad M) := E_getG hcl hf hs hj hd hq (by subst hx; exact kk)
theorem E_putI {a ci j idx : Nat} {fs : List Nat} {v : Int32} (hcl : CLok ci) (hf : FL F.1 idx ci j) (hs : sk[a]? = some (0, ci, fs)) (hj : fs[j]? = some 0) (hlow : fs.length ≤ 1000) (hfp : FPok ci j .int) (hd : decode F.2.1 pc = .ok (.putfield idx, 3)) (hq : pc + 3 = q) (kk : V D F rm Qf k n q locs st (wl D ad (upd2 M a j v))) : V D F rm Qf k n pc locs (.int v :: .ref (ad a) :: st) (wl D ad M) := by
  refine E_putG hcl hf hs hj hfp rfl rfl (fun b h => upd2_row h) ?_ hd hq kk
  refine mapIdx_set hj (by simp [fldV, upd2_same]) (fun i g hi hg => ?_)
  rw [upd2_upd]
  exact fld_upd hi (Or.inr (by have := (List.getElem?_eq_some_iff.mp hj).1; omega))
theorem E_putL {a ci j idx : Nat} {fs : List Nat} {v : Int64} (hcl : CLok ci) (hf : FL F.1 idx ci j) (hs : sk[a]? = some (0, ci, fs)) (hj : fs[j]? = some 1) (hone : ∀ i, i ≠ j → fs[i]? ≠ some 1) (hlow : fs.length ≤ 1000) (hfp : FPok ci j .long) (hd : decode F.2.1 pc = .ok (.putfield idx, 3)) (hq : pc + 3 = q) (kk : V D F rm Qf k n q locs st (wl D ad (upd2 (upd2 M a j (lgHi v)) a (j + 1000) (lgLo v)))) : V D F rm Qf k n pc locs (.long v :: .ref (ad a) :: st) (wl D ad M) := by
  refine E_putG hcl hf hs hj hfp rfl rfl (fun b h => by rw [upd2_row h, upd2_row h]) ?_ hd hq kk
  refine mapIdx_set hj ?_ (fun i g hi hg => ?_)
  · rw [upd2_upd, upd2_upd]
    simp [fldV, upd, lgOf_hl]
  · rw [upd2_upd, upd2_upd]
    have h1 := (List.getElem?_eq_some_iff.mp hg).1
    have h2 : g ≠ 1 := fun z => hone i hi (by rw [hg, z])
    rw [fld_upd (by omega) (Or.inl h2), fld_upd hi (Or.inl h2)]
theorem E_putW {a ci j idx x : Nat} {fs : List Nat} {ty : FieldType} (hcl : CLok ci) (hf : FL F.1 idx ci j) (hs : sk[a]? = some (0, ci, fs)) (hj : fs[j]? = some 2) (hlow : fs.length ≤ 1000) (hfp : FPok ci j ty) (hn : ∀ z, narrow ty (.ref z) = .ref z) (hfit : ∀ z, fits ty (.ref z) = true) (hx : x < 2 ^ 31) (hd : decode F.2.1 pc = .ok (.putfield idx, 3)) (hq : pc + 3 = q) (kk : V D F rm Qf k n q locs st (wl D ad (upd2 M a j (nI x)))) : V D F rm Qf k n pc locs (.ref (ad x) :: .ref (ad a) :: st) (wl D ad M) := by
  refine E_putG hcl hf hs hj hfp (hn _) (hfit _) (fun b h => upd2_row h) ?_ hd hq kk
  refine mapIdx_set hj (by simp [fldV, upd2_same, nI_clamp hx]) (fun i g hi hg => ?_)
  rw [upd2_upd]
  exact fld_upd hi (Or.inr (by have := (List.getElem?_eq_some_iff.mp hj).1; omega))

theorem E_iald {a len : Nat} {i : Int32} (hs : sk[a]? = some (1, 0, [len])) (hi : vp_in i len) (hd : decode F.2.1 pc = .ok (.iaload, 1)) (hq : pc + 1 = q) (kk : V D F rm Qf k n q locs (.int (M a i.toNatClampNeg) :: st) (wl D ad M)) : V D F rm Qf k n pc locs (.int i :: .ref (ad a) :: st) (wl D ad M) := by
  subst hq
  intro p l e s m args below meth c A H lc ls C hlen hkc hnc hP hD hS hl
  exact va_iald C.1 C.2.1 C.2.2.2.2.2.2.2.2.1 hP a 0 (wl_get hs) rfl hi hd (kk p l e s m args below meth c A H lc ls C hlen hkc hnc hP hD hS hl)
theorem E_ialdN {a len i : Nat} (hs : sk[a]? = some (1, 0, [len])) (hi : i < len) (hlen : len < 2 ^ 31) (hd : decode F.2.1 pc = .ok (.iaload, 1)) (hq : pc + 1 = q) (kk : V D F rm Qf k n q locs (.int (M a i) :: st) (wl D ad M)) : V D F rm Qf k n pc locs (.int (nI i) :: .ref (ad a) :: st) (wl D ad M) := E_iald hs (vp_in_nI hi hlen) hd hq (by rw [nI_clamp (by omega)]; exact kk)
theorem E_cald {a len : Nat} {i : Int32} (hs : sk[a]? = some (1, 1, [len])) (hi : vp_in i len) (hd : decode F.2.1 pc = .ok (.caload, 1)) (hq : pc + 1 = q) (kk : V D F rm Qf k n q locs (.int (M a i.toNatClampNeg) :: st) (wl D ad M)) : V D F rm Qf k n pc locs (.int i :: .ref (ad a) :: st) (wl D ad M) := by
  subst hq
  intro p l e s m args below meth c A H lc ls C hlen hkc hnc hP hD hS hl
  exact va_cald C.1 C.2.1 C.2.2.2.2.2.2.2.2.1 hP a 1 (wl_get hs) rfl hi hd (kk p l e s m args below meth c A H lc ls C hlen hkc hnc hP hD hS hl)
theorem E_caldN {a len i : Nat} (hs : sk[a]? = some (1, 1, [len])) (hi : i < len) (hlen : len < 2 ^ 31) (hd : decode F.2.1 pc = .ok (.caload, 1)) (hq : pc + 1 = q) (kk : V D F rm Qf k n q locs (.int (M a i) :: st) (wl D ad M)) : V D F rm Qf k n pc locs (.int (nI i) :: .ref (ad a) :: st) (wl D ad M) := E_cald hs (vp_in_nI hi hlen) hd hq (by rw [nI_clamp (by omega)]; exact kk)
theorem E_bald {a len : Nat} {i : Int32} (hs : sk[a]? = some (1, 2, [len])) (hi : vp_in i len) (hd : decode F.2.1 pc = .ok (.baload, 1)) (hq : pc + 1 = q) (kk : V D F rm Qf k n q locs (.int (M a i.toNatClampNeg) :: st) (wl D ad M)) : V D F rm Qf k n pc locs (.int i :: .ref (ad a) :: st) (wl D ad M) := by
  subst hq
  intro p l e s m args below meth c A H lc ls C hlen hkc hnc hP hD hS hl
  exact va_bald C.1 C.2.1 C.2.2.2.2.2.2.2.2.1 hP a 2 (wl_get hs) rfl hi hd (kk p l e s m args below meth c A H lc ls C hlen hkc hnc hP hD hS hl)
theorem E_baldN {a len i : Nat} (hs : sk[a]? = some (1, 2, [len])) (hi : i < len) (hlen : len < 2 ^ 31) (hd : decode F.2.1 pc = .ok (.baload, 1)) (hq : pc + 1 = q) (kk : V D F rm Qf k n q locs (.int (M a i) :: st) (wl D ad M)) : V D F rm Qf k n pc locs (.int (nI i) :: .ref (ad a) :: st) (wl D ad M) := E_bald hs (vp_in_nI hi hlen) hd hq (by rw [nI_clamp (by omega)]; exact kk)
theorem E_iast {a len : Nat} {i v : Int32} (hs : sk[a]? = some (1, 0, [len])) (hi : vp_in i len) (hd : decode F.2.1 pc = .ok (.iastore, 1)) (hq : pc + 1 = q) (kk : V D F rm Qf k n q locs st (wl D ad (upd2 M a i.toNatClampNeg v))) : V D F rm Qf k n pc locs (.int v :: .int i :: .ref (ad a) :: st) (wl D ad M) := by
  subst hq
  intro p l e s m args below meth c A H lc ls C hlen hkc hnc hP hD hS hl
  have hw : (wl D ad M).set a (ad a, .inl (D.1 (100 + 0), [len].headD 0, .inl (upd (M a) i.toNatClampNeg v))) = wl D ad (upd2 M a i.toNatClampNeg v) := wl_set hs (by rw [upd2_upd]; rfl) (fun b h => upd2_row h)
  refine va_iast C.1 C.2.1 C.2.2.2.2.2.2.2.2.1 hP hD hS a 0 (wl_get hs) rfl hi hd (fun H1 lc1 hP1 hD1 hS1 => ?_)
  have hP1 : va_P D vwCl (wl D ad (upd2 M a i.toNatClampNeg v)) H1 := hw ▸ hP1
  have hD1 : va_D A (wl D ad (upd2 M a i.toNatClampNeg v)) := hw ▸ hD1
  exact kk p l e s m args below meth c A H1 lc1 ls C hlen hkc hnc hP1 hD1 hS1 hl
theorem E_iastN {a len i : Nat} {v : Int32} (hs : sk[a]? = some (1, 0, [len])) (hi : i < len) (hlen : len < 2 ^ 31) (hd : decode F.2.1 pc = .ok (.iastore, 1)) (hq : pc + 1 = q) (kk : V D F rm Qf k n q locs st (wl D ad (upd2 M a i v))) : V D F rm Qf k n pc locs (.int v :: .int (nI i) :: .ref (ad a) :: st) (wl D ad M) := E_iast hs (vp_in_nI hi hlen) hd hq (by rw [nI_clamp (by omega)]; exact kk)
theorem E_cast {a len : Nat} {i v : Int32} (hs : sk[a]? = some (1, 1, [len])) (hi : vp_in i len) (hd : decode F.2.1 pc = .ok (.castore, 1)) (hq : pc + 1 = q) (kk : V D F rm Qf k n q locs st (wl D ad (upd2 M a i.toNatClampNeg (vp_nar .char v)))) : V D F rm Qf k n pc locs (.int v :: .int i :: .ref (ad a) :: st) (wl D ad M) := by
  subst hq
  intro p l e s m args below meth c A H lc ls C hlen hkc hnc hP hD hS hl
  have hw : (wl D ad M).set a (ad a, .inl (D.1 (100 + 1), [len].headD 0, .inl (upd (M a) i.toNatClampNeg (vp_nar .char v)))) = wl D ad (upd2 M a i.toNatClampNeg (vp_nar .char v)) := wl_set hs (by rw [upd2_upd]; rfl) (fun b h => upd2_row h)
  refine va_cast C.1 C.2.1 C.2.2.2.2.2.2.2.2.1 hP hD hS a 1 (wl_get hs) rfl hi hd (fun H1 lc1 hP1 hD1 hS1 => ?_)
  have hP1 : va_P D vwCl (wl D ad (upd2 M a i.toNatClampNeg (vp_nar .char v))) H1 := hw ▸ hP1
  have hD1 : va_D A (wl D ad (upd2 M a i.toNatClampNeg (vp_nar .char v))) := hw ▸ hD1
  exact kk p l e s m args below meth c A H1 lc1 ls C hlen hkc hnc hP1 hD1 hS1 hl
theorem E_castN {a len i : Nat} {v : Int32} (hs : sk[a]? = some (1, 1, [len])) (hi : i < len) (hlen : len < 2 ^ 31) (hd : decode F.2.1 pc = .ok (.castore, 1)) (hq : pc + 1 = q) (kk : V D F rm Qf k n q locs st (wl D ad (upd2 M a i (vp_nar .char v)))) : V D F rm Qf k n pc locs (.int v :: .int (nI i) :: .ref (ad a) :: st) (wl D ad M) := E_cast hs (vp_in_nI hi hlen) hd hq (by rw [nI_clamp (by omega)]; exact kk)
theorem E_bast {a len : Nat} {i v : Int32} (hs : sk[a]? = some (1, 2, [len])) (hi : vp_in i len) (hd : decode F.2.1 pc = .ok (.bastore, 1)) (hq : pc + 1 = q) (kk : V D F rm Qf k n q locs st (wl D ad (upd2 M a i.toNatClampNeg (vp_nar .byte v)))) : V D F rm Qf k n pc locs (.int v :: .int i :: .ref (ad a) :: st) (wl D ad M) := by
  subst hq
  intro p l e s m args below meth c A H lc ls C hlen hkc hnc hP hD hS hl
  have hw : (wl D ad M).set a (ad a, .inl (D.1 (100 + 2), [len].headD 0, .inl (upd (M a) i.toNatClampNeg (vp_nar .byte v)))) = wl D ad (upd2 M a i.toNatClampNeg (vp_nar .byte v)) := wl_set hs (by rw [upd2_upd]; rfl) (fun b h => upd2_row h)
  refine va_bast C.1 C.2.1 C.2.2.2.2.2.2.2.2.1 hP hD hS a 2 (wl_get hs) rfl hi hd (fun H1 lc1 hP1 hD1 hS1 => ?_)
  have hP1 : va_P D vwCl (wl D ad (upd2 M a i.toNatClampNeg (vp_nar .byte v))) H1 := hw ▸ hP1
  have hD1 : va_D A (wl D ad (upd2 M a i.toNatClampNeg (vp_nar .byte v))) := hw ▸ hD1
  exact kk p l e s m args below meth c A H1 lc1 ls C hlen hkc hnc hP1 hD1 hS1 hl
theorem E_bastN {a len i : Nat} {v : Int32} (hs : sk[a]? = some (1, 2, [len])) (hi : i < len) (hlen : len < 2 ^ 31) (hd : decode F.2.1 pc = .ok (.bastore, 1)) (hq : pc + 1 = q) (kk : V D F rm Qf k n q locs st (wl D ad (upd2 M a i (vp_nar .byte v)))) : V D F rm Qf k n pc locs (.int v :: .int (nI i) :: .ref (ad a) :: st) (wl D ad M) := E_bast hs (vp_in_nI hi hlen) hd hq (by rw [nI_clamp (by omega)]; exact kk)
theorem E_last {a len : Nat} {i : Nat} {v : Int64} (hs : sk[a]? = some (3, 3, [len])) (hi : i < len) (hlen : len < 1000) (hd : decode F.2.1 pc = .ok (.lastore, 1)) (hq : pc + 1 = q) (kk : V D F rm Qf k n q locs st (wl D ad (upd2 (upd2 M a (2 * i) (lgHi v)) a (2 * i + 1) (lgLo v)))) : V D F rm Qf k n pc locs (.long v :: .int (nI i) :: .ref (ad a) :: st) (wl D ad M) := by
  subst hq
  intro p l e s m args below meth c A H lc ls C hlen0 hkc hnc hP hD hS hl
  have hw : (wl D ad M).set a (ad a, .inl (D.1 (100 + 3), [len].headD 0, .inr (.inl (vp_updL (fun j => lgOf (M a (2 * j)) (M a (2 * j + 1))) (nI i).toNatClampNeg v)))) = wl D ad (upd2 (upd2 M a (2 * i) (lgHi v)) a (2 * i + 1) (lgLo v)) := by
    refine wl_set hs ?_ (fun b h => by rw [upd2_row h, upd2_row h])
    rw [nI_clamp (by omega)]
    refine congrArg (fun f : Nat → Int64 => (Sum.inl (D.1 (100 + 3), [len].headD 0, Sum.inr (Sum.inl f)) : va_E)) (funext fun j => ?_)
    unfold vp_updL
    by_cases h : j = i
    · subst h
      rw [if_pos rfl, upd2_same, upd2_ne (by omega), upd2_same, lgOf_hl]
    · rw [if_neg h, upd2_ne (by omega), upd2_ne (by omega), upd2_ne (by omega), upd2_ne (by omega)]
  refine va_last C.1 C.2.1 C.2.2.2.2.2.2.2.2.1 hP hD hS a 3 (wl_get hs) rfl (vp_in_nI hi (show [len].headD 0 < 2 ^ 31 by simp; omega)) hd (fun H1 lc1 hP1 hD1 hS1 => ?_)
  have hP1 : va_P D vwCl (wl D ad (upd2 (upd2 M a (2 * i) (lgHi v)) a (2 * i + 1) (lgLo v))) H1 := hw ▸ hP1
  have hD1 : va_D A (wl D ad (upd2 (upd2 M a (2 * i) (lgHi v)) a (2 * i + 1) (lgLo v))) := hw ▸ hD1
  exact kk p l e s m args below meth c A H1 lc1 ls C hlen0 hkc hnc hP1 hD1 hS1 hl
theorem E_lald {a len : Nat} {i : Nat} (hs : sk[a]? = some (3, 3, [len])) (hi : i < len) (hlen : len < 1000) (hd : decode F.2.1 pc = .ok (.laload, 1)) (hq : pc + 1 = q) (kk : V D F rm Qf k n q locs (.long (lgOf (M a (2 * i)) (M a (2 * i + 1))) :: st) (wl D ad M)) : V D F rm Qf k n pc locs (.int (nI i) :: .ref (ad a) :: st) (wl D ad M) := by
  subst hq
  intro p l e s m args below meth c A H lc ls C hlen0 hkc hnc hP hD hS hl
  refine va_lald C.1 C.2.1 C.2.2.2.2.2.2.2.2.1 hP a 3 (wl_get hs) rfl (vp_in_nI hi (show [len].headD 0 < 2 ^ 31 by simp; omega)) hd ?_
  rw [nI_clamp (by omega)]
  exact kk p l e s m args below meth c A H lc ls C hlen0 hkc hnc hP hD hS hl
theorem E_aald {a t i r : Nat} {rs : List Nat} {Cn : String} (hs : sk[a]? = some (2, t, rs)) (ht : (TY D)[t]? = some (D.1 (100 + t), .object Cn)) (hi : rs[i]? = some r) (hlen : rs.length < 1000) (hd : decode F.2.1 pc = .ok (.aaload, 1)) (hq : pc + 1 = q) (kk : V D F rm Qf k n q locs (.ref (ad r) :: st) (wl D ad M)) : V D F rm Qf k n pc locs (.int (nI i) :: .ref (ad a) :: st) (wl D ad M) := by
  subst hq
  intro p l e s m args below meth c A H lc ls C hlen0 hkc hnc hP hD hS hl
  have hil := (List.getElem?_eq_some_iff.mp hi).1
  refine va_aldq C.1 C.2.1 C.2.2.2.2.2.2.2.2.1 hP a t (wl_get hs) ht (vp_in_nI hil (by omega)) hd ?_
  rw [nI_clamp (by omega)]
  have ev : va_rf ((fun j => (rs[j]?).map ad) i) = .ref (ad r) := by simp [hi, va_rf]
  rw [ev]
  exact kk p l e s m args below meth c A H lc ls C hlen0 hkc hnc hP hD hS hl
theorem Recv_wl {a ci : Nat} {fs : List Nat} {Cn : String} {T : u_T} {N : Nat} (hs : sk[a]? = some (0, ci, fs)) (hc : vwCl[ci]? = some (Cn, T, N)) : Recv (wl D ad M) (ad a) Cn := ⟨a, ci, _, T, N, wl_get hs, hc⟩
end VM
