
/-! THE START: all cells made, in their order -/
section START
variable {D : va_G}
/-- the cells one by one -/
def wlFrom (D : va_G) (ad : Nat → Nat) (M : Mem) : Nat → List Sk → va_W
  | _, [] => []
  | k, c :: cs => (ad k, cellE D ad (M k) c) :: wlFrom D ad M (k + 1) cs
theorem wlFrom_get {ad : Nat → Nat} {M : Mem} : ∀ (cs : List Sk) (k i : Nat), (wlFrom D ad M k cs)[i]? = (cs[i]?).map (fun c => (ad (k + i), cellE D ad (M (k + i)) c)) := by
  intro cs
  induction cs with
  | nil => intro k i; simp [wlFrom]
  | cons c cs ih =>
    intro k i
    cases i with
    | zero => simp [wlFrom]
    | succ i =>
      show (wlFrom D ad M (k + 1) cs)[i]? = (cs[i]?).map _
      rw [ih (k + 1) i, show k + 1 + i = k + (i + 1) by omega]
theorem wl_from {ad : Nat → Nat} {M : Mem} : wl D ad M = wlFrom D ad M 0 sk := by
  apply List.ext_getElem?
  intro i
  rw [wlFrom_get, Nat.zero_add]
  simp [wl, List.getElem?_mapIdx]
theorem wl_step {ad : Nat → Nat} {M : Mem} {k : Nat} {c : Sk} {cs : List Sk} {x : Nat × va_E} {l : va_W} (hx : (ad k, cellE D ad (M k) c) = x) (hl : wlFrom D ad M (k + 1) cs = l) : wlFrom D ad M k (c :: cs) = x :: l := by
  rw [← hx, ← hl]
  rfl
/-- the numbers at the start; g: the reference's pool -/
def M0 (g : Nat → Int32) : Mem := fun k => if k = 158 then g else if k = 133 then (fun j => if j = 3 then -1 else 0) else if k = 157 then (fun j => if j = 3 then nI 158 else if j = 10 then -1 else 0) else if k = 156 then (fun j => if j = 100000 then nI 16 else 0) else if k = 162 then (fun j => if j = 100000 then nI 1000 else 0) else if k = 2 then setF else if k = 15 then setF else if 28 ≤ k ∧ k < 131 ∧ k % 13 = 2 then setF else fun _ => 0
variable {x h kp l t p ln bs sb by0 o : Nat} {rs rl rp r6 : Nat → Nat} {s : Nat → Nat → Nat} {g : Nat → Int32}
def adS (x h kp l t p ln bs sb by0 o : Nat) (rs rl rp r6 : Nat → Nat) (s : Nat → Nat → Nat) : Nat → Nat := fun k => [x, rs 0, rs 1, rs 2, rs 3, rs 4, rs 5, rs 6, rs 7, rs 8, rs 9, rs 10, rs 11, rs 12, rl 0, rl 1, rl 2, rl 3, rl 4, rl 5, rl 6, rl 7, rl 8, rl 9, rl 10, rl 11, rl 12, s 0 0, s 0 1, s 0 2, s 0 3, s 0 4, s 0 5, s 0 6, s 0 7, s 0 8, s 0 9, s 0 10, s 0 11, s 0 12, s 1 0, s 1 1, s 1 2, s 1 3, s 1 4, s 1 5, s 1 6, s 1 7, s 1 8, s 1 9, s 1 10, s 1 11, s 1 12, s 2 0, s 2 1, s 2 2, s 2 3, s 2 4, s 2 5, s 2 6, s 2 7, s 2 8, s 2 9, s 2 10, s 2 11, s 2 12, s 3 0, s 3 1, s 3 2, s 3 3, s 3 4, s 3 5, s 3 6, s 3 7, s 3 8, s 3 9, s 3 10, s 3 11, s 3 12, s 4 0, s 4 1, s 4 2, s 4 3, s 4 4, s 4 5, s 4 6, s 4 7, s 4 8, s 4 9, s 4 10, s 4 11, s 4 12, s 5 0, s 5 1, s 5 2, s 5 3, s 5 4, s 5 5, s 5 6, s 5 7, s 5 8, s 5 9, s 5 10, s 5 11, s 5 12, s 6 0, s 6 1, s 6 2, s 6 3, s 6 4, s 6 5, s 6 6, s 6 7, s 6 8, s 6 9, s 6 10, s 6 11, s 6 12, s 7 0, s 7 1, s 7 2, s 7 3, s 7 4, s 7 5, s 7 6, s 7 7, s 7 8, s 7 9, s 7 10, s 7 11, s 7 12, h, kp, l, t, p, ln, bs, rp 0, rp 1, rp 2, rp 3, rp 4, rp 5, rp 6, rp 7, rp 8, rp 9, rp 10, rp 11, rp 12, rp 13, rp 14, rp 15, rp 16, sb, by0, r6 0, r6 1, r6 2, r6 3, r6 4, r6 5, r6 6, r6 7, o].getD k 0
abbrev AdS (x h kp l t p ln bs sb by0 o : Nat) (rs rl rp r6 : Nat → Nat) (s : Nat → Nat → Nat) := adS x h kp l t p ln bs sb by0 o rs rl rp r6 s
/-- in the order of the making -/
def wMade (D : va_G) (x h kp l t p ln bs sb by0 o : Nat) (rs rl rp r6 : Nat → Nat) (s : Nat → Nat → Nat) (g : Nat → Int32) : va_W := xC D x rs h kp s l t rl p ln bs rp sb by0 ++ (moC D r6 g ++ [(o, .inl (D.1 103, 1, .inr (.inl (fun _ => 0))))])
/-- in the order of the numbers -/
def wNum (D : va_G) (x h kp l t p ln bs sb by0 o : Nat) (rs rl rp r6 : Nat → Nat) (s : Nat → Nat → Nat) (g : Nat → Int32) : va_W := (x, .inr (9, [.ref (rs 0), .ref h, .ref l, .ref p, .ref sb])) :: (stC D rs ++ (stC D rl ++ ((stC D (s 0) ++ (stC D (s 1) ++ (stC D (s 2) ++ (stC D (s 3) ++ (stC D (s 4) ++ (stC D (s 5) ++ (stC D (s 6) ++ stC D (s 7)))))))) ++ ((h, .inr (5, [.ref kp, .int 0, .int 0])) :: (kp, .inl (D.1 104, 8, .inr (.inr (.inr (.inr (keptF fun i => s i 0)))))) :: (l, .inr (6, [.ref t, .int 0, .ref (rl 0), .int (-1), .int 0, .int 0, .int 0, .int 0, .int 0, .int 0])) :: (t, .inl (D.1 101, 1000, .inl (fun _ => 0))) :: (plC D p ln bs rp ++ (sbC D sb by0 ++ (moC D r6 g ++ [(o, .inl (D.1 103, 1, .inr (.inl (fun _ => 0))))])))))))
theorem perm3 {α : Type} (HK S LT R Z : List α) : (HK ++ (S ++ (LT ++ (R ++ Z)))).Perm (R ++ (S ++ (HK ++ (LT ++ Z)))) := by
  have e1 : (LT ++ (R ++ Z)).Perm (R ++ (LT ++ Z)) := List.perm_append_comm_assoc _ _ _
  have e2 : (S ++ (LT ++ (R ++ Z))).Perm (R ++ (S ++ (LT ++ Z))) := (e1.append_left S).trans (List.perm_append_comm_assoc _ _ _)
  have e3 : (HK ++ (S ++ (LT ++ (R ++ Z)))).Perm (R ++ (HK ++ (S ++ (LT ++ Z)))) := (e2.append_left HK).trans (List.perm_append_comm_assoc _ _ _)
  exact e3.trans ((List.perm_append_comm_assoc HK S (LT ++ Z)).append_left R)
theorem w_perm : (wMade D x h kp l t p ln bs sb by0 o rs rl rp r6 s g).Perm (wNum D x h kp l t p ln bs sb by0 o rs rl rp r6 s g) := by
  have e := perm3 [(h, .inr (5, [.ref kp, .int 0, .int 0])), (kp, .inl (D.1 104, 8, .inr (.inr (.inr (.inr (keptF fun i => s i 0))))))] (stC D (s 0) ++ (stC D (s 1) ++ (stC D (s 2) ++ (stC D (s 3) ++ (stC D (s 4) ++ (stC D (s 5) ++ (stC D (s 6) ++ stC D (s 7)))))))) [(l, .inr (6, [.ref t, .int 0, .ref (rl 0), .int (-1), .int 0, .int 0, .int 0, .int 0, .int 0, .int 0])), (t, .inl (D.1 101, 1000, .inl (fun _ => 0)))] (stC D rl) (plC D p ln bs rp ++ (sbC D sb by0 ++ (moC D r6 g ++ [(o, .inl (D.1 103, 1, .inr (.inl (fun _ => 0))))])))
  have e2 := (e.append_left (stC D rs)).cons (x, .inr (9, [.ref (rs 0), .ref h, .ref l, .ref p, .ref sb]))
  refine (List.Perm.of_eq ?_).trans (e2.trans (List.Perm.of_eq ?_))
  · simp only [wMade, xC, hiC, ldC, List.append_assoc, List.cons_append, List.nil_append]
  · simp only [wNum, List.append_assoc, List.cons_append, List.nil_append]
set_option maxRecDepth 4000 in
theorem bestF : (fun j => ([138, 139, 140, 141, 142, 143, 144, 145, 146, 147, 148, 149, 150, 151, 152, 153, 154][j]?).map (adS x h kp l t p ln bs sb by0 o rs rl rp r6 s)) = (fun i => if i < 17 then some (rp i) else none) := by
  funext j
  by_cases hj : j < 17
  · rw [if_pos hj]
    rcases (show j = 0 ∨ j = 1 ∨ j = 2 ∨ j = 3 ∨ j = 4 ∨ j = 5 ∨ j = 6 ∨ j = 7 ∨ j = 8 ∨ j = 9 ∨ j = 10 ∨ j = 11 ∨ j = 12 ∨ j = 13 ∨ j = 14 ∨ j = 15 ∨ j = 16 by omega) with rfl | rfl | rfl | rfl | rfl | rfl | rfl | rfl | rfl | rfl | rfl | rfl | rfl | rfl | rfl | rfl | rfl <;> rfl
  · rw [if_neg hj, List.getElem?_eq_none (by simp; omega)]
    rfl
set_option maxRecDepth 4000 in
theorem keptFe : (fun j => ([27, 40, 53, 66, 79, 92, 105, 118][j]?).map (adS x h kp l t p ln bs sb by0 o rs rl rp r6 s)) = keptF (fun i => s i 0) := by
  funext j
  unfold keptF
  by_cases hj : j < 8
  · rw [if_pos hj]
    rcases (show j = 0 ∨ j = 1 ∨ j = 2 ∨ j = 3 ∨ j = 4 ∨ j = 5 ∨ j = 6 ∨ j = 7 by omega) with rfl | rfl | rfl | rfl | rfl | rfl | rfl | rfl <;> rfl
  · rw [if_neg hj, List.getElem?_eq_none (by simp; omega)]
    rfl
theorem lg0 : lgOf 0 0 = 0 := by
  first | decide | (apply Int64.toBitVec_inj.mp; decide)
theorem c157 {ad : Nat → Nat} : cellE D ad (M0 g 157) (0, 10, [161, 162, 0, 2, 0, 163, 164, 0, 165, 0, 0, 0, 0, 0, 0, 0, 1, 0, 0, 166, 0, 0, 167, 0]) = .inr (10, [.ref (ad 158), .ref (ad 159), .int 0, .ref (ad 158), .int 0, .ref (ad 160), .ref (ad 161), .int 0, .ref (ad 162), .int 0, .int (-1), .int 0, .int 0, .int 0, .int 0, .int 0, .long 0, .int 0, .int 0, .ref (ad 163), .int 0, .int 0, .ref (ad 164), .int 0]) := by
  have e : ∀ j, M0 g 157 j = if j = 3 then nI 158 else if j = 10 then -1 else 0 := fun j => rfl
  have h3 : fldV ad (M0 g 157) 3 2 = .ref (ad 158) := by
    show Value.ref (ad (M0 g 157 3).toNatClampNeg) = _
    rw [e, if_pos rfl, nI_clamp (by decide)]
  have h16 : fldV ad (M0 g 157) 16 1 = .long 0 := by
    show Value.long (lgOf (M0 g 157 16) (M0 g 157 (16 + 1000))) = .long 0
    rw [e, e, if_neg (by decide), if_neg (by decide), if_neg (by decide), if_neg (by decide), lg0]
  have h0 : ∀ j, j ≠ 3 → j ≠ 10 → fldV ad (M0 g 157) j 0 = .int 0 := fun j a1 a2 => by
    show Value.int (M0 g 157 j) = _
    rw [e, if_neg a1, if_neg a2]
  have h10 : fldV ad (M0 g 157) 10 0 = .int (-1) := by
    show Value.int (M0 g 157 10) = _
    rw [e, if_neg (by decide), if_pos rfl]
  have hr : ∀ j r, fldV ad (M0 g 157) j (r + 3) = .ref (ad r) := fun j r => rfl
  simp only [cellE, List.mapIdx_cons, List.mapIdx_nil, Nat.zero_add, Nat.reduceAdd]
  rw [h3, h16, h10, h0 2 (by decide) (by decide), h0 4 (by decide) (by decide), h0 7 (by decide) (by decide), h0 9 (by decide) (by decide), h0 11 (by decide) (by decide), h0 12 (by decide) (by decide), h0 13 (by decide) (by decide), h0 14 (by decide) (by decide), h0 15 (by decide) (by decide), h0 17 (by decide) (by decide), h0 18 (by decide) (by decide), h0 20 (by decide) (by decide), h0 21 (by decide) (by decide), h0 23 (by decide) (by decide)]
  rfl
theorem c165 {ad : Nat → Nat} : cellE D ad (M0 g 165) (3, 3, [1]) = .inl (D.1 103, 1, .inr (.inl (fun _ => 0))) := by
  show (Sum.inl (D.1 103, 1, Sum.inr (Sum.inl (fun _ => lgOf 0 0))) : va_E) = _
  rw [lg0]

set_option maxRecDepth 8000 in
set_option maxHeartbeats 4000000 in
theorem w_wl : wl D (adS x h kp l t p ln bs sb by0 o rs rl rp r6 s) (M0 g) = wNum D x h kp l t p ln bs sb by0 o rs rl rp r6 s g := by
  rw [wl_from]
  refine wl_step (k := 0) rfl ?_
  refine wl_step (k := 1) rfl ?_
  refine wl_step (k := 2) rfl ?_
  refine wl_step (k := 3) rfl ?_
  refine wl_step (k := 4) rfl ?_
  refine wl_step (k := 5) rfl ?_
  refine wl_step (k := 6) rfl ?_
  refine wl_step (k := 7) rfl ?_
  refine wl_step (k := 8) rfl ?_
  refine wl_step (k := 9) rfl ?_
  refine wl_step (k := 10) rfl ?_
  refine wl_step (k := 11) rfl ?_
  refine wl_step (k := 12) rfl ?_
  refine wl_step (k := 13) rfl ?_
  refine wl_step (k := 14) rfl ?_
  refine wl_step (k := 15) rfl ?_
  refine wl_step (k := 16) rfl ?_
  refine wl_step (k := 17) rfl ?_
  refine wl_step (k := 18) rfl ?_
  refine wl_step (k := 19) rfl ?_
  refine wl_step (k := 20) rfl ?_
  refine wl_step (k := 21) rfl ?_
  refine wl_step (k := 22) rfl ?_
  refine wl_step (k := 23) rfl ?_
  refine wl_step (k := 24) rfl ?_
  refine wl_step (k := 25) rfl ?_
  refine wl_step (k := 26) rfl ?_
  refine wl_step (k := 27) rfl ?_
  refine wl_step (k := 28) rfl ?_
  refine wl_step (k := 29) rfl ?_
  refine wl_step (k := 30) rfl ?_
  refine wl_step (k := 31) rfl ?_
  refine wl_step (k := 32) rfl ?_
  refine wl_step (k := 33) rfl ?_
  refine wl_step (k := 34) rfl ?_
  refine wl_step (k := 35) rfl ?_
  refine wl_step (k := 36) rfl ?_
  refine wl_step (k := 37) rfl ?_
  refine wl_step (k := 38) rfl ?_
  refine wl_step (k := 39) rfl ?_
  refine wl_step (k := 40) rfl ?_
  refine wl_step (k := 41) rfl ?_
  refine wl_step (k := 42) rfl ?_
  refine wl_step (k := 43) rfl ?_
  refine wl_step (k := 44) rfl ?_
  refine wl_step (k := 45) rfl ?_
  refine wl_step (k := 46) rfl ?_
  refine wl_step (k := 47) rfl ?_
  refine wl_step (k := 48) rfl ?_
  refine wl_step (k := 49) rfl ?_
  refine wl_step (k := 50) rfl ?_
  refine wl_step (k := 51) rfl ?_
  refine wl_step (k := 52) rfl ?_
  refine wl_step (k := 53) rfl ?_
  refine wl_step (k := 54) rfl ?_
  refine wl_step (k := 55) rfl ?_
  refine wl_step (k := 56) rfl ?_
  refine wl_step (k := 57) rfl ?_
  refine wl_step (k := 58) rfl ?_
  refine wl_step (k := 59) rfl ?_
  refine wl_step (k := 60) rfl ?_
  refine wl_step (k := 61) rfl ?_
  refine wl_step (k := 62) rfl ?_
  refine wl_step (k := 63) rfl ?_
  refine wl_step (k := 64) rfl ?_
  refine wl_step (k := 65) rfl ?_
  refine wl_step (k := 66) rfl ?_
  refine wl_step (k := 67) rfl ?_
  refine wl_step (k := 68) rfl ?_
  refine wl_step (k := 69) rfl ?_
  refine wl_step (k := 70) rfl ?_
  refine wl_step (k := 71) rfl ?_
  refine wl_step (k := 72) rfl ?_
  refine wl_step (k := 73) rfl ?_
  refine wl_step (k := 74) rfl ?_
  refine wl_step (k := 75) rfl ?_
  refine wl_step (k := 76) rfl ?_
  refine wl_step (k := 77) rfl ?_
  refine wl_step (k := 78) rfl ?_
  refine wl_step (k := 79) rfl ?_
  refine wl_step (k := 80) rfl ?_
  refine wl_step (k := 81) rfl ?_
  refine wl_step (k := 82) rfl ?_
  refine wl_step (k := 83) rfl ?_
  refine wl_step (k := 84) rfl ?_
  refine wl_step (k := 85) rfl ?_
  refine wl_step (k := 86) rfl ?_
  refine wl_step (k := 87) rfl ?_
  refine wl_step (k := 88) rfl ?_
  refine wl_step (k := 89) rfl ?_
  refine wl_step (k := 90) rfl ?_
  refine wl_step (k := 91) rfl ?_
  refine wl_step (k := 92) rfl ?_
  refine wl_step (k := 93) rfl ?_
  refine wl_step (k := 94) rfl ?_
  refine wl_step (k := 95) rfl ?_
  refine wl_step (k := 96) rfl ?_
  refine wl_step (k := 97) rfl ?_
  refine wl_step (k := 98) rfl ?_
  refine wl_step (k := 99) rfl ?_
  refine wl_step (k := 100) rfl ?_
  refine wl_step (k := 101) rfl ?_
  refine wl_step (k := 102) rfl ?_
  refine wl_step (k := 103) rfl ?_
  refine wl_step (k := 104) rfl ?_
  refine wl_step (k := 105) rfl ?_
  refine wl_step (k := 106) rfl ?_
  refine wl_step (k := 107) rfl ?_
  refine wl_step (k := 108) rfl ?_
  refine wl_step (k := 109) rfl ?_
  refine wl_step (k := 110) rfl ?_
  refine wl_step (k := 111) rfl ?_
  refine wl_step (k := 112) rfl ?_
  refine wl_step (k := 113) rfl ?_
  refine wl_step (k := 114) rfl ?_
  refine wl_step (k := 115) rfl ?_
  refine wl_step (k := 116) rfl ?_
  refine wl_step (k := 117) rfl ?_
  refine wl_step (k := 118) rfl ?_
  refine wl_step (k := 119) rfl ?_
  refine wl_step (k := 120) rfl ?_
  refine wl_step (k := 121) rfl ?_
  refine wl_step (k := 122) rfl ?_
  refine wl_step (k := 123) rfl ?_
  refine wl_step (k := 124) rfl ?_
  refine wl_step (k := 125) rfl ?_
  refine wl_step (k := 126) rfl ?_
  refine wl_step (k := 127) rfl ?_
  refine wl_step (k := 128) rfl ?_
  refine wl_step (k := 129) rfl ?_
  refine wl_step (k := 130) rfl ?_
  refine wl_step (k := 131) rfl ?_
  refine wl_step (k := 132) (by rw [show cellE D _ (M0 g 132) (2, 4, [27, 40, 53, 66, 79, 92, 105, 118]) = .inl (D.1 104, 8, .inr (.inr (.inr (.inr (fun j => ([27, 40, 53, 66, 79, 92, 105, 118][j]?).map (adS x h kp l t p ln bs sb by0 o rs rl rp r6 s)))))) from rfl, keptFe]; rfl) ?_
  refine wl_step (k := 133) rfl ?_
  refine wl_step (k := 134) rfl ?_
  refine wl_step (k := 135) rfl ?_
  refine wl_step (k := 136) rfl ?_
  refine wl_step (k := 137) (by rw [show cellE D _ (M0 g 137) (2, 5, [138, 139, 140, 141, 142, 143, 144, 145, 146, 147, 148, 149, 150, 151, 152, 153, 154]) = .inl (D.1 105, 17, .inr (.inr (.inr (.inr (fun j => ([138, 139, 140, 141, 142, 143, 144, 145, 146, 147, 148, 149, 150, 151, 152, 153, 154][j]?).map (adS x h kp l t p ln bs sb by0 o rs rl rp r6 s)))))) from rfl, bestF]; rfl) ?_
  refine wl_step (k := 138) rfl ?_
  refine wl_step (k := 139) rfl ?_
  refine wl_step (k := 140) rfl ?_
  refine wl_step (k := 141) rfl ?_
  refine wl_step (k := 142) rfl ?_
  refine wl_step (k := 143) rfl ?_
  refine wl_step (k := 144) rfl ?_
  refine wl_step (k := 145) rfl ?_
  refine wl_step (k := 146) rfl ?_
  refine wl_step (k := 147) rfl ?_
  refine wl_step (k := 148) rfl ?_
  refine wl_step (k := 149) rfl ?_
  refine wl_step (k := 150) rfl ?_
  refine wl_step (k := 151) rfl ?_
  refine wl_step (k := 152) rfl ?_
  refine wl_step (k := 153) rfl ?_
  refine wl_step (k := 154) rfl ?_
  refine wl_step (k := 155) rfl ?_
  refine wl_step (k := 156) rfl ?_
  refine wl_step (k := 157) (by rw [c157]; rfl) ?_
  refine wl_step (k := 158) rfl ?_
  refine wl_step (k := 159) rfl ?_
  refine wl_step (k := 160) rfl ?_
  refine wl_step (k := 161) rfl ?_
  refine wl_step (k := 162) rfl ?_
  refine wl_step (k := 163) rfl ?_
  refine wl_step (k := 164) rfl ?_
  refine wl_step (k := 165) (by rw [c165]; rfl) ?_
  rfl
theorem V_perm {F : Cfg} {R : Room} {Qf : QF} {k n pc : Nat} {locs : List (Option Value)} {st : List Value} {ws ws' : va_W} (hp : ws.Perm ws') (kk : V D F R Qf k n pc locs st ws') : V D F R Qf k n pc locs st ws := by
  intro p l e s m args below meth c A H lc ls C hlen hkc hnc hP hD hS hl
  have hP' : va_P D vwCl ws' H := fun i q hq => by
    obtain ⟨j, hj⟩ := List.getElem?_of_mem (hp.mem_iff.mpr (List.mem_of_getElem? hq))
    exact hP j q hj
  have nd : ∀ w : va_W, (∀ (i j : Nat) (p q : Nat × va_E), w[i]? = some p → w[j]? = some q → p.1 = q.1 → i = j) ↔ (w.map Prod.fst).Nodup := fun w => by
    constructor
    · intro h
      refine List.pairwise_iff_getElem.mpr fun i j hi hj hij he => ?_
      rw [List.length_map] at hi hj
      rw [List.getElem_map, List.getElem_map] at he
      exact absurd (h i j _ _ (List.getElem?_eq_getElem hi) (List.getElem?_eq_getElem hj) he) (by omega)
    · intro h i j p q hi hj he
      have h2 := List.pairwise_iff_getElem.mp h
      obtain ⟨li, ei⟩ := List.getElem?_eq_some_iff.mp hi
      obtain ⟨lj, ej⟩ := List.getElem?_eq_some_iff.mp hj
      rcases Nat.lt_trichotomy i j with c1 | c1 | c1
      · exact absurd (by rw [List.getElem_map, List.getElem_map, ei, ej]; exact he) (h2 i j (by rw [List.length_map]; exact li) (by rw [List.length_map]; exact lj) c1)
      · exact c1
      · exact absurd (by rw [List.getElem_map, List.getElem_map, ei, ej]; exact he.symm) (h2 j i (by rw [List.length_map]; exact lj) (by rw [List.length_map]; exact li) c1)
  have hD' : va_D A ws' := ⟨(nd ws').mpr ((hp.map Prod.fst).nodup_iff.mp ((nd ws).mp hD.1)), fun i q hq => by
    obtain ⟨j, hj⟩ := List.getElem?_of_mem (hp.mem_iff.mpr (List.mem_of_getElem? hq))
    exact hD.2 j q hj⟩
  exact kk p l e s m args below meth c A H lc ls C hlen hkc hnc hP' hD' hS hl
/-- what holds of the start -/
theorem M0_st (b : Nat) (h0 : M0 g b = fun _ => 0) (h1 : M0 g (b + 1) = setF) (h8 : M0 g (b + 8) = fun _ => 0) : StoreIs (M0 g) b newA :=
  StoreIs.new (by rw [h0]; rfl) (by rw [h0]; rfl) (by rw [h0]; rfl) (by rw [h0]; rfl) (by rw [h0]; rfl) (by rw [h1]; rfl) (by rw [h1]; rfl) (by rw [h8]; rfl)
theorem M0_LI (hg : ∀ j, j < 739 → g j = begF j) : LI 1000 (M0 g) := by
  have e156 : M0 g 156 = fun j => if j = 100000 then nI 16 else 0 := rfl
  have e3 : (M0 g 157 3).toNatClampNeg = 158 := nI_clamp (n := 158) (by decide)
  refine ⟨newA, [], 0, fun _ => 0, 16, [], -1, ⟨M0_st 1 rfl rfl rfl, ⟨0, by decide, rfl, rfl, by decide, fun i B hi => by cases hi⟩, ⟨by decide, rfl, fun _ => (by decide : (0 : Nat) < 256), fun i hi => absurd hi (by omega)⟩, rfl, ⟨⟨rfl, rfl, rfl, by rw [e3]; decide⟩, ⟨by decide, by decide, by decide⟩, fun i c hi => by simp at hi, fun i hi => ?_⟩⟩, ⟨⟨⟨e3, rfl⟩, beg_RowIs hg, newA_WF⟩, ⟨rfl, by decide, fun i B hi => by cases hi⟩, ⟨by decide, rfl, fun _ => (by decide : (0 : Nat) < 256), fun i hi => absurd hi (by omega)⟩, rfl, rfl, fun i c hi => by simp at hi⟩, ⟨newA_WFC, fun B hB => (by cases hB), by decide, by decide⟩, .inl rfl⟩
  rw [e156]
  show fits .byte (.int (if i = 100000 then nI 16 else 0)) = true
  rw [if_neg (by omega)]
  rfl
end START
