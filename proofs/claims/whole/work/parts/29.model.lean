

/-! THE REFERENCE promotes -/
section ROWS
variable {A : AS} {f g : Nat → Int32}
theorem oI_dec (i : Nat) : nI i + (-1) = oI i := by
  unfold oI
  rw [Int32.sub_eq_add_neg]
  rfl
/-- the list of v moved up by m, from the i-th on -/
def shU (f : Nat → Int32) (v m n i : Nat) : Nat → Int32 := fun j => if 5 + 21 * v + 5 + m + i ≤ j ∧ j < 5 + 21 * v + 5 + m + n then f (j - m) else f j
theorem shU_n {v m n : Nat} : shU f v m n n = f := funext fun j => if_neg (by omega)
theorem shU_s {v m n i : Nat} (hi : i < n) : upd (shU f v m n (i + 1)) (5 + 21 * v + (5 + m + i)) (f (5 + 21 * v + (5 + i))) = shU f v m n i := funext fun j => by
  unfold upd shU
  by_cases e : j = 5 + 21 * v + (5 + m + i)
  · have e2 : 5 + 21 * v + (5 + i) = j - m := by omega
    rw [if_pos e, if_pos (by omega), e2]
  · rw [if_neg e]
    by_cases e2 : 5 + 21 * v + 5 + m + (i + 1) ≤ j ∧ j < 5 + 21 * v + 5 + m + n
    · rw [if_pos e2, if_pos (by omega)]
    · rw [if_neg e2, if_neg (by omega)]
theorem shU_ne {v m n i j : Nat} (h : ¬ (5 + 21 * v + 5 + m + i ≤ j ∧ j < 5 + 21 * v + 5 + m + n)) : shU f v m n i j = f j := if_neg h
theorem shU_in {v m n i j : Nat} (h : 5 + 21 * v + 5 + m + i ≤ j ∧ j < 5 + 21 * v + 5 + m + n) : shU f v m n i j = f (j - m) := if_pos h
/-- L's first k laid at v, their homes set -/
def laL (g : Nat → Int32) (v : Nat) (L : List Nat) : Nat → Nat → Int32
  | 0 => g
  | k + 1 => upd (upd (laL g v L k) (5 + 21 * v + (5 + k)) (nI (L.getD k 0))) (131 + 5 * L.getD k 0 + 1) (nI v)
theorem laL_ne {v k j : Nat} {L : List Nat} (hv : v < 6) (h1 : ¬ (5 + 21 * v + 5 ≤ j ∧ j < 5 + 21 * v + 5 + k)) (h2 : j < 131 ∨ 211 ≤ j ∨ (j - 131) % 5 ≠ 1) (hL : ∀ t, t ∈ L → t < 16) (hk : k ≤ L.length) : laL g v L k j = g j := by
  induction k with
  | zero => rfl
  | succ k ih =>
    have ht : L.getD k 0 < 16 := by
      rw [List.getD_eq_getElem?_getD, List.getElem?_eq_getElem (by omega)]
      exact hL _ (List.getElem_mem _)
    rw [laL, upd_ne (by omega), upd_ne (by omega), ih (by omega) (by omega)]
theorem laL_at {v k i t : Nat} {L : List Nat} (hv : v < 6) (hk : k ≤ L.length) (hl : k ≤ 16) (hi : i < k) (ht : L[i]? = some t) : laL g v L k (5 + 21 * v + (5 + i)) = nI t := by
  induction k with
  | zero => omega
  | succ k ih =>
    rw [laL, upd_ne (by omega)]
    by_cases e : i = k
    · subst e
      rw [upd_eq, List.getD_eq_getElem?_getD, ht]; rfl
    · rw [upd_ne (by omega)]
      exact ih (by omega) (by omega) (by omega)
theorem laL_home {v k t : Nat} {L : List Nat} (hv : v < 6) (hk : k ≤ L.length) (hl : k ≤ 16) : laL g v L k (131 + 5 * t + 1) = if t ∈ L.take k then nI v else g (131 + 5 * t + 1) := by
  induction k with
  | zero => simp [laL]
  | succ k ih =>
    have hg : L.getD k 0 = L[k] := by rw [List.getD_eq_getElem?_getD, List.getElem?_eq_getElem (by omega)]; rfl
    rw [laL, List.take_succ_eq_append_getElem (by omega)]
    by_cases e : t = L[k]
    · rw [hg, ← e, upd_eq, if_pos (by simp)]
    · rw [hg, upd_ne (by omega), upd_ne (by omega), ih (by omega) (by omega)]
      have : t ∈ L.take k ++ [L[k]] ↔ t ∈ L.take k := by
        rw [List.mem_append, List.mem_singleton]
        exact ⟨fun z => z.resolve_right e, Or.inl⟩
      by_cases c : t ∈ L.take k
      · rw [if_pos c, if_pos (this.mpr c)]
      · rw [if_neg c, if_neg (fun z => c (this.mp z))]
/-- u's list moved down by m -/
def shD (g : Nat → Int32) (u m k : Nat) : Nat → Int32 := fun j => if 5 + 21 * u + 5 ≤ j ∧ j < 5 + 21 * u + 5 + k then g (j + m) else g j
theorem shD_0 {u m : Nat} : shD g u m 0 = g := funext fun j => if_neg (by omega)
theorem shD_s {u m k : Nat} : upd (shD g u m k) (5 + 21 * u + (5 + k)) (g (5 + 21 * u + (5 + k) + m)) = shD g u m (k + 1) := funext fun j => by
  unfold upd shD
  by_cases e : j = 5 + 21 * u + (5 + k)
  · rw [if_pos e, if_pos (by omega), e]
  · rw [if_neg e]
    by_cases e2 : 5 + 21 * u + 5 ≤ j ∧ j < 5 + 21 * u + 5 + k
    · rw [if_pos e2, if_pos (by omega)]
    · rw [if_neg e2, if_neg (by omega)]
theorem shD_ne {u m k j : Nat} (h : ¬ (5 + 21 * u + 5 ≤ j ∧ j < 5 + 21 * u + 5 + k)) : shD g u m k j = g j := if_neg h
theorem shD_in {u m k j : Nat} (h : 5 + 21 * u + 5 ≤ j ∧ j < 5 + 21 * u + 5 + k) : shD g u m k j = g (j + m) := if_pos h
theorem mem_take' {L : List Nat} {n t : Nat} : t ∈ L.take n ↔ ∃ i, i < n ∧ L[i]? = some t := by
  rw [List.mem_iff_getElem?]
  constructor
  · rintro ⟨i, hi⟩
    rw [List.getElem?_take] at hi
    by_cases c : i < n
    · rw [if_pos c] at hi; exact ⟨i, c, hi⟩
    · rw [if_neg c] at hi; cases hi
  · rintro ⟨i, hi, h⟩
    exact ⟨i, by rw [List.getElem?_take, if_pos hi]; exact h⟩
theorem take_mem {s t : Nat} (hs : s < 16) (hts : th A s) : t ∈ (rowL A (home A s)).take (plc A s + 1) ↔ t ∈ rowL A (home A s) ∧ t ≤ s := by
  have hg := plc_get hs hts
  rw [mem_take']
  constructor
  · rintro ⟨i, hi, h⟩
    refine ⟨List.mem_of_getElem? h, ?_⟩
    by_cases e : i = plc A s
    · subst e; rw [hg] at h; have : s = t := by simpa using h
      omega
    · have := (pw_get_lt (rowL_pw A _) h hg).mp (by omega); omega
  · rintro ⟨h1, h2⟩
    obtain ⟨i, hi⟩ := List.mem_iff_getElem?.mp h1
    refine ⟨i, ?_, hi⟩
    rcases Nat.lt_or_ge (plc A s) i with c | c
    · have := (pw_get_lt (rowL_pw A _) hg hi).mp c; omega
    · omega
theorem drop_mem {s t : Nat} (hs : s < 16) (hts : th A s) : t ∈ (rowL A (home A s)).drop (plc A s + 1) ↔ t ∈ rowL A (home A s) ∧ s < t := by
  have hg := plc_get hs hts
  constructor
  · intro h
    obtain ⟨i, hi⟩ := List.mem_iff_getElem?.mp h
    rw [List.getElem?_drop] at hi
    exact ⟨List.mem_of_getElem? hi, (pw_get_lt (rowL_pw A _) hg hi).mp (by omega)⟩
  · rintro ⟨h1, h2⟩
    obtain ⟨i, hi⟩ := List.mem_iff_getElem?.mp h1
    have := (pw_get_lt (rowL_pw A _) hg hi).mpr h2
    refine List.mem_iff_getElem?.mpr ⟨i - (plc A s + 1), ?_⟩
    rw [List.getElem?_drop, show plc A s + 1 + (i - (plc A s + 1)) = i by omega]; exact hi
theorem pro_rowv {v s : Nat} (h : WF A) (hv : v < 6) (ht : th A (16 + v)) (ho : org A v = s + 1) : rowL (proA A v) v = (rowL A (home A s)).take (plc A s + 1) ++ rowL A v := by
  obtain ⟨hne, hs, hts⟩ := pro_ne h hv ht ho
  refine pw_ext (rowL_pw _ _) (List.pairwise_append.mpr ⟨List.Pairwise.sublist (List.take_sublist _ _) (rowL_pw A _), rowL_pw A v, fun x hx y hy => ?_⟩) (fun t => ?_)
  · have h1 := ((take_mem hs hts).mp hx).2
    have h2 := (h.2.1 v s hv ht ho).2 y hy
    omega
  · rw [proA_mem h hv ht ho, List.mem_append, take_mem hs hts]
    constructor
    · rintro (⟨-, q | q⟩ | ⟨q, -⟩ | ⟨q, -⟩)
      · exact Or.inr q
      · exact Or.inl q
      · omega
      · omega
    · rintro (q | q)
      · exact Or.inl ⟨rfl, Or.inr q⟩
      · exact Or.inl ⟨rfl, Or.inl q⟩
theorem pro_rowu {v s : Nat} (h : WF A) (hv : v < 6) (ht : th A (16 + v)) (ho : org A v = s + 1) : rowL (proA A v) (home A s) = (rowL A (home A s)).drop (plc A s + 1) := by
  obtain ⟨hne, hs, hts⟩ := pro_ne h hv ht ho
  refine pw_ext (rowL_pw _ _) (List.Pairwise.sublist (List.drop_sublist _ _) (rowL_pw A _)) (fun t => ?_)
  rw [proA_mem h hv ht ho, drop_mem hs hts]
  constructor
  · rintro (⟨q, -⟩ | ⟨-, q⟩ | ⟨-, q, -⟩)
    · omega
    · exact q
    · omega
  · intro q; exact Or.inr (Or.inl ⟨rfl, q⟩)
theorem pro_rowo {v s w : Nat} (h : WF A) (hv : v < 6) (ht : th A (16 + v)) (ho : org A v = s + 1) (h1 : w ≠ v) (h2 : w ≠ home A s) : rowL (proA A v) w = rowL A w := by
  refine pw_ext (rowL_pw _ _) (rowL_pw A _) (fun t => ?_)
  rw [proA_mem h hv ht ho]
  constructor
  · rintro (⟨q, -⟩ | ⟨q, -⟩ | ⟨-, -, q⟩)
    · omega
    · omega
    · exact q
  · intro q; exact Or.inr (Or.inr ⟨h1, h2, q⟩)
theorem pro_len {v s : Nat} (h : WF A) (hv : v < 6) (ht : th A (16 + v)) (ho : org A v = s + 1) : plc A s + 1 + (rowL A v).length ≤ 16 ∧ plc A s + 1 ≤ (rowL A (home A s)).length := by
  obtain ⟨hne, hs, hts⟩ := pro_ne h hv ht ho
  have h1 := rowL_len (proA A v) v
  have h2 := plc_lt16 hs hts
  rw [pro_rowv h hv ht ho, List.length_append, List.length_take] at h1
  omega
/-- the row once promoted -/
def proF (f : Nat → Int32) (v u s m n l : Nat) (L : List Nat) : Nat → Int32 :=
  upd (upd (upd (upd (shD (laL (shU f v m n 0) v L m) u m (l - m)) (5 + 21 * v + 4) (nI (n + m))) (5 + 21 * u + 4) (nI (l - m))) (5 + 21 * v + 1) (f (5 + 21 * u + 1))) (5 + 21 * u + 1) (nI (s + 1))
theorem RowIs.pro {v s : Nat} (hR : RowIs f A) (h : WF A) (hv : v < 6) (ht : th A (16 + v)) (ho : org A v = s + 1) : RowIs (proF f v (home A s) s (plc A s + 1) (rowL A v).length (rowL A (home A s)).length (rowL A (home A s))) (proA A v) := by
  obtain ⟨hne, hs, hts⟩ := pro_ne h hv ht ho
  obtain ⟨hl1, hl2⟩ := pro_len h hv ht ho
  have hu := h.hv6 hs hts
  have hlu := rowL_len A (home A s)
  have hL : ∀ t, t ∈ rowL A (home A s) → t < 16 := fun t q => (mem_rowL.mp q).1
  generalize hm : plc A s + 1 = m at hl1 hl2
  generalize hn : (rowL A v).length = n at hl1
  generalize hl : (rowL A (home A s)).length = l at hl2 hlu
  have hkl : m ≤ (rowL A (home A s)).length := by omega
  have hgood : ∀ j, (j < 131 ∨ 211 ≤ j ∨ (j - 131) % 5 ≠ 1) → ¬ (5 + 21 * v ≤ j ∧ j < 5 + 21 * v + 21) → ¬ (5 + 21 * home A s ≤ j ∧ j < 5 + 21 * home A s + 21) → proF f v (home A s) s m n l (rowL A (home A s)) j = f j := fun j h1 h2 h3 => by
    unfold proF
    rw [upd_ne (by omega), upd_ne (by omega), upd_ne (by omega), upd_ne (by omega), shD_ne (by omega), laL_ne hv (by omega) h1 hL hkl, shU_ne (by omega)]
  obtain ⟨⟨c0, c1, c2, c3, c4⟩, r1, r2, r3, r4, r5⟩ := hR
  have hc : ∀ i j, i ≠ 2 → i ≠ 5 → (proA A v).1 i j = A.1 i j := fun i j x y => proA_col x y
  have hth : ∀ w, th (proA A v) w ↔ th A w := fun w => by
    show (proA A v).1 1 w = 1 ↔ _
    rw [hc 1 w (by omega) (by omega)]; rfl
  obtain ⟨v1, v2, v3, v4, v5⟩ := r3 v hv ht
  obtain ⟨u1, u2, u3, u4, u5⟩ := r3 _ hu.1 hu.2
  refine ⟨⟨?_, ?_, ?_, ?_, ?_⟩, ?_, ?_, ?_, ?_, ?_⟩
  · rw [hgood 0 (by omega) (by omega) (by omega), c0]; unfold aP; rw [hc 0 _ (by omega) (by omega)]
  · rw [hgood 1 (by omega) (by omega) (by omega), c1]; unfold aC; rw [hc 0 _ (by omega) (by omega)]
  · rw [hgood 2 (by omega) (by omega) (by omega), c2]; unfold aT; rw [hc 0 _ (by omega) (by omega)]
  · rw [hgood 3 (by omega) (by omega) (by omega), c3]; unfold aV; rw [hc 0 _ (by omega) (by omega)]
  · rw [hgood 4 (by omega) (by omega) (by omega), c4]; unfold aS; rw [hc 0 _ (by omega) (by omega)]
  · intro w hw
    rw [hc 1 _ (by omega) (by omega), ← r1 w hw]
    unfold proF
    rw [upd_ne (by omega), upd_ne (by omega), upd_ne (by omega), upd_ne (by omega), shD_ne (by omega), laL_ne hv (by omega) (by omega) hL hkl, shU_ne (by omega)]
  · intro t ht16
    rw [hc 1 _ (by omega) (by omega), ← r2 t ht16]
    exact hgood _ (by omega) (by omega) (by omega)
  · intro w hw hwt
    rw [show quo (proA A v) w = quo A w from hc 6 w (by omega) (by omega), show vnm (proA A v) w = vnm A w from hc 8 w (by omega) (by omega), proA_org ho]
    by_cases e : w = v
    · subst e
      rw [if_pos rfl, pro_rowv h hw ht ho, hm]
      refine ⟨?_, ?_, ?_, ?_, fun k t hk => ?_⟩
      · unfold proF; rw [upd_ne (by omega), upd_eq, u1]
      · unfold proF; rw [upd_ne (by omega), upd_ne (by omega), upd_ne (by omega), upd_ne (by omega), shD_ne (by omega), laL_ne hv (by omega) (by omega) hL hkl, shU_ne (by omega), v2]
      · unfold proF; rw [upd_ne (by omega), upd_ne (by omega), upd_ne (by omega), upd_ne (by omega), shD_ne (by omega), laL_ne hv (by omega) (by omega) hL hkl, shU_ne (by omega), v3]
      · unfold proF; rw [upd_ne (by omega), upd_ne (by omega), upd_ne (by omega), upd_eq, List.length_append, List.length_take, hn]; exact congrArg nI (by omega)
      · have hk16 := (List.getElem?_eq_some_iff.mp hk).1
        rw [List.length_append, List.length_take] at hk16
        unfold proF
        rw [upd_ne (by omega), upd_ne (by omega), upd_ne (by omega), upd_ne (by omega), shD_ne (by omega)]
        by_cases c : k < m
        · rw [List.getElem?_append_left (by rw [List.length_take]; omega), List.getElem?_take_of_lt c] at hk
          exact laL_at hv hkl (by omega) c hk
        · rw [List.getElem?_append_right (by rw [List.length_take]; omega), List.length_take, Nat.min_eq_left hkl] at hk
          rw [laL_ne hv (by omega) (by omega) hL hkl, shU_in (by omega), show 5 + 21 * w + (5 + k) - m = 5 + 21 * w + (5 + (k - m)) by omega]
          exact v5 _ _ hk
    · rw [if_neg e]
      by_cases e2 : w = home A s
      · rw [if_pos e2, e2, pro_rowu h hv ht ho, hm]
        refine ⟨?_, ?_, ?_, ?_, fun k t hk => ?_⟩
        · unfold proF; rw [upd_eq]
        · unfold proF; rw [upd_ne (by omega), upd_ne (by omega), upd_ne (by omega), upd_ne (by omega), shD_ne (by omega), laL_ne hv (by omega) (by omega) hL hkl, shU_ne (by omega), u2]
        · unfold proF; rw [upd_ne (by omega), upd_ne (by omega), upd_ne (by omega), upd_ne (by omega), shD_ne (by omega), laL_ne hv (by omega) (by omega) hL hkl, shU_ne (by omega), u3]
        · unfold proF; rw [upd_ne (by omega), upd_ne (by omega), upd_eq, List.length_drop, hl]
        · have hk16 := (List.getElem?_eq_some_iff.mp hk).1
          rw [List.length_drop, hl] at hk16
          rw [List.getElem?_drop] at hk
          unfold proF
          rw [upd_ne (by omega), upd_ne (by omega), upd_ne (by omega), upd_ne (by omega), shD_in (by omega), laL_ne hv (by omega) (by omega) hL hkl, shU_ne (by omega), show 5 + 21 * home A s + (5 + k) + m = 5 + 21 * home A s + (5 + (m + k)) by omega]
          exact u5 _ _ hk
      · rw [if_neg e2, pro_rowo h hv ht ho e e2]
        obtain ⟨d1, d2, d3, d4, d5⟩ := r3 w hw ((hth _).mp hwt)
        have hlw := rowL_len A w
        rw [hgood _ (by omega) (by omega) (by omega), hgood _ (by omega) (by omega) (by omega), hgood _ (by omega) (by omega) (by omega), hgood _ (by omega) (by omega) (by omega)]
        refine ⟨d1, d2, d3, d4, fun k t hk => ?_⟩
        have := (List.getElem?_eq_some_iff.mp hk).1
        rw [hgood _ (by omega) (by omega) (by omega)]
        exact d5 k t hk
  · intro t ht16 htt
    have q := (hth t).mp htt
    obtain ⟨d1, d2, d3, d4⟩ := r4 t ht16 q
    rw [show stm (proA A v) t = stm A t from hc 3 t (by omega) (by omega), show snm (proA A v) t = snm A t from hc 7 t (by omega) (by omega), hc 4 t (by omega) (by omega), hgood (131 + 5 * t + 2) (by omega) (by omega) (by omega), hgood (131 + 5 * t + 3) (by omega) (by omega) (by omega), hgood (131 + 5 * t + 4) (by omega) (by omega) (by omega)]
    refine ⟨?_, d2, d3, d4⟩
    have htk := take_mem (A := A) (s := s) (t := t) hs hts
    rw [hm] at htk
    unfold proF
    rw [upd_ne (by omega), upd_ne (by omega), upd_ne (by omega), upd_ne (by omega), shD_ne (by omega), laL_home hv hkl (by omega), proA_home ho]
    by_cases c : t ∈ (rowL A (home A s)).take m
    · rw [if_pos c]
      have := htk.mp c
      have hm2 := mem_rowL.mp this.1
      rw [if_pos ⟨q, hm2.2.2, this.2⟩]
    · rw [if_neg c, if_neg, shU_ne (by omega), d1]
      rintro ⟨q1, q2, q3⟩
      exact c (htk.mpr ⟨mem_rowL.mpr ⟨ht16, q, q2⟩, q3⟩)
  · intro w a hw ha
    rw [show (proA A v).2 = A.2 from rfl, hgood _ (by omega) (by omega) (by omega), hgood _ (by omega) (by omega) (by omega)]
    exact r5 w a hw ha
end ROWS
section MODEL
variable {D : va_G} {ad : Nat → Nat} {M : Mem} {wx : Nat} {ws : va_W} {A : AS} {f : Nat → Int32}
theorem sp_X6_promoteV {p : Int32} (h : RI M 158 A) (hn : ¬ VolA A p) : Spec D 14 yX6_promote cfX6_promote [.ref (ad 157), .int (p)] (wl D ad M) 0 0 (PI (-1) (wl D ad (upd2 M 157 4 (nI 0)))) := by
  refine Spec.of (by decide) rfl (Nat.le_of_ble_eq_true rfl) rfl ?_
  refine E_aload0 (q := 1) dX6_promote_0 rfl ?_
  refine E_iconst (v := nI 0) (q := 2) dX6_promote_1 (by decide) rfl ?_
  refine P_X6_thrown (q := 5) fl_X6_43 dX6_promote_2 rfl ?_
  refine E_aload0 (q := 6) dX6_promote_5 rfl ?_
  refine E_iload1 (q := 7) dX6_promote_6 rfl ?_
  refine C_V1I (q := 10) lk_X6_74 (sp_X6_isVolF h.fl hn) rc_X6 dX6_promote_7 (by decide) (Nat.le_of_ble_eq_true rfl) rfl ?_
  refine E_if_ne (tgt := 15) (q := 13) dX6_promote_10 (by decide) rfl (fun h10 => ?_) (fun h10 => ?_)
  · first | exact absurd h10 (by decide) | exact absurd (by decide) h10
  · skip
    refine E_iconst (v := -1) (q := 14) dX6_promote_13 (by decide) rfl ?_
    exact E_ireturn rfl rfl dX6_promote_14 (PI_of rfl rfl)
theorem sp_X6_promoteN {v : Nat} (h : RI M 158 A) (hv : v < 6) (ht : th A (16 + v)) (ho : org A v = 0) : Spec D 14 yX6_promote cfX6_promote [.ref (ad 157), .int (nI (v))] (wl D ad M) 0 0 (PI (-4) (wl D ad (upd2 M 157 4 (nI 0)))) := by
  refine Spec.of (by decide) rfl (Nat.le_of_ble_eq_true rfl) rfl ?_
  refine E_aload0 (q := 1) dX6_promote_0 rfl ?_
  refine E_iconst (v := nI 0) (q := 2) dX6_promote_1 (by decide) rfl ?_
  refine P_X6_thrown (q := 5) fl_X6_43 dX6_promote_2 rfl ?_
  refine E_aload0 (q := 6) dX6_promote_5 rfl ?_
  refine E_iload1 (q := 7) dX6_promote_6 rfl ?_
  refine C_V1I (q := 10) lk_X6_74 (sp_X6_isVolT h.fl ((VolA_nI (by omega)).mpr ⟨hv, ht⟩)) rc_X6 dX6_promote_7 (by decide) (Nat.le_of_ble_eq_true rfl) rfl ?_
  refine E_if_ne (tgt := 15) (q := 13) dX6_promote_10 (by decide) rfl (fun h10 => ?_) (fun h10 => ?_)
  · skip
    refine E_aload0 (q := 16) dX6_promote_15 rfl ?_
    refine E_iload1 (q := 17) dX6_promote_16 rfl ?_
    refine C_V1I (q := 20) lk_X6_107 (sp_X6_origin h.fl.1 h.fl.2.1 hv ht) rc_X6 dX6_promote_17 (by decide) (Nat.le_of_ble_eq_true rfl) rfl ?_
    rw [ho, oI_0]
    refine E_istore2 (q := 21) dX6_promote_20 rfl rfl ?_
    refine E_iload2 (q := 22) dX6_promote_21 rfl ?_
    refine E_if_ge (tgt := 28) (q := 25) dX6_promote_22 (by decide) rfl (fun h22 => ?_) (fun h22 => ?_)
    · skip
      exact absurd h22 (by decide)
    · skip
      refine E_bipush (v := -4) (q := 27) dX6_promote_25 (by decide) rfl ?_
      exact E_ireturn rfl rfl dX6_promote_27 (PI_of rfl rfl)
  · first | exact absurd h10 (by decide) | exact absurd (by decide) h10
theorem sp_X6_promote {v s k : Nat} (h : RI M 158 A) (hk : M 157 2 = nI k) (hk8 : k ≤ 8) (hv : v < 6) (ht : th A (16 + v)) (ho : org A v = s + 1) : Spec D 14 yX6_promote cfX6_promote [.ref (ad 157), .int (nI (v))] (wl D ad M) 0 0 (PX (fun x w => x = nI (plc A s + 1) ∧ RW D ad (tM M k) 158 (proA A v) w)) := by
  refine Spec.of (by decide) rfl (Nat.le_of_ble_eq_true rfl) rfl ?_
  have hw0 := h.1
  have hk1 : upd2 M 157 4 (nI 0) 157 2 = nI k := by rw [upd2_ne (by decide)]; exact hk
  have h2 : RI (tM M k) 158 A := h.fl.rem
  have hw := h2.1
  have hr := h2.1.all
  have hs := h2.1.2
  have hq : RI (row2 (tM M k) 158 (tM M k 158)) 158 A := RI.row h2.1 h2.2.1 h2.2.2
  obtain ⟨hne, hs16, hts⟩ := pro_ne h.2.2 hv ht ho
  obtain ⟨hl1, hl2⟩ := pro_len h.2.2 hv ht ho
  have hu := h.2.2.hv6 hs16 hts
  have hlu := rowL_len A (home A s)
  have hL : ∀ t, t ∈ rowL A (home A s) → t < 16 := fun t q => (mem_rowL.mp q).1
  have hfin := h2.2.1.pro h.2.2 hv ht ho
  generalize hf : tM M k 158 = f at *
  have hRf : RowIs f A := hf ▸ h2.2.1
  obtain ⟨v1, v2, v3, v4, v5⟩ := hRf.2.2.2.1 v hv ht
  obtain ⟨u1, u2, u3, u4, u5⟩ := hRf.2.2.2.1 _ hu.1 hu.2
  obtain ⟨m, hm⟩ : ∃ m, plc A s + 1 = m := ⟨_, rfl⟩
  rw [hm] at hl1 hl2 hfin
  have hS := hRf.2.2.2.2.1 s hs16 hts
  have hend : ∀ x6 : Int32, V D cfX6_promote (rmOf 14 0 0) (QM D (PX (fun x w => x = nI (plc A s + 1) ∧ RW D ad (tM M k) 158 (proA A v) w)) 0 0) 0 0 194 [some (.ref (ad 157)), some (.int (nI (v))), some (.int (nI (s))), some (.int (nI (home A s))), some (.int (nI (m))), some (.int (nI ((rowL A (home A s)).length))), none] [] (wl D ad (row2 (tM M k) 158 (shD (laL (shU f v m (rowL A v).length 0) v (rowL A (home A s)) m) (home A s) m ((rowL A (home A s)).length - m)))) := by
    intro x6
    refine E_aload0 (q := 195) dX6_promote_194 rfl ?_
    refine G_X6_w (q := 198) (x := 158) (hr _) fl_X6_16 dX6_promote_195 rfl ?_
    refine E_iload1 (q := 199) dX6_promote_198 rfl ?_
    refine E_iconst (v := nI 4) (q := 200) dX6_promote_199 (by decide) rfl ?_
    refine C_S2I (q := 203) lk_X6_53 (sp_X6_ofVolume) dX6_promote_200 (by decide) (Nat.le_of_ble_eq_true rfl) rfl ?_
    refine E_dup2 (q := 204) dX6_promote_203 rfl rfl rfl ?_
    refine E_ialdN (q := 205) hs (by omega) (by decide) dX6_promote_204 rfl ?_
    refine V_int (congrFun row2_same _) ?_
    refine V_int (show _ = nI (rowL A v).length by rw [shD_ne (by omega), laL_ne hv (by omega) (by omega) hL hl2, shU_ne (by omega), v4]) ?_
    refine E_iload4 (q := 207) dX6_promote_205 rfl ?_
    refine E_iaddN (q := 208) dX6_promote_207 rfl ?_
    refine E_iastN (q := 209) hs (by omega) (by decide) dX6_promote_208 rfl ?_
    refine V_ws (congrArg (wl D ad) row2_upd) ?_
    refine E_aload0 (q := 210) dX6_promote_209 rfl ?_
    refine G_X6_w (q := 213) (x := 158) (hr _) fl_X6_16 dX6_promote_210 rfl ?_
    refine E_iload3 (q := 214) dX6_promote_213 rfl ?_
    refine E_iconst (v := nI 4) (q := 215) dX6_promote_214 (by decide) rfl ?_
    refine C_S2I (q := 218) lk_X6_53 (sp_X6_ofVolume) dX6_promote_215 (by decide) (Nat.le_of_ble_eq_true rfl) rfl ?_
    refine E_dup2 (q := 219) dX6_promote_218 rfl rfl rfl ?_
    refine E_ialdN (q := 220) hs (by omega) (by decide) dX6_promote_219 rfl ?_
    refine V_int (congrFun row2_same _) ?_
    refine V_int (show _ = nI (rowL A (home A s)).length by rw [upd_ne (by omega), shD_ne (by omega), laL_ne hv (by omega) (by omega) hL hl2, shU_ne (by omega), u4]) ?_
    refine E_iload4 (q := 222) dX6_promote_220 rfl ?_
    refine E_isubN (q := 223) dX6_promote_222 (by omega) rfl ?_
    refine E_iastN (q := 224) hs (by omega) (by decide) dX6_promote_223 rfl ?_
    refine V_ws (congrArg (wl D ad) row2_upd) ?_
    refine E_aload0 (q := 225) dX6_promote_224 rfl ?_
    refine G_X6_w (q := 228) (x := 158) (hr _) fl_X6_16 dX6_promote_225 rfl ?_
    refine E_iload1 (q := 229) dX6_promote_228 rfl ?_
    refine E_iconst (v := nI 1) (q := 230) dX6_promote_229 (by decide) rfl ?_
    refine C_S2I (q := 233) lk_X6_53 (sp_X6_ofVolume) dX6_promote_230 (by decide) (Nat.le_of_ble_eq_true rfl) rfl ?_
    refine E_aload0 (q := 234) dX6_promote_233 rfl ?_
    refine E_iload3 (q := 235) dX6_promote_234 rfl ?_
    refine E_iconst (v := nI 1) (q := 236) dX6_promote_235 (by decide) rfl ?_
    refine C_V2I (q := 239) lk_X6_64 (sp_X6_volumeR hw (by omega)) rc_X6 dX6_promote_236 (by decide) (Nat.le_of_ble_eq_true rfl) rfl ?_
    refine V_int (show _ = f (5 + 21 * home A s + 1) by rw [upd_ne (by omega), upd_ne (by omega), shD_ne (by omega), laL_ne hv (by omega) (by omega) hL hl2, shU_ne (by omega)]) ?_
    refine E_iastN (q := 240) hs (by omega) (by decide) dX6_promote_239 rfl ?_
    refine V_ws (congrArg (wl D ad) row2_upd) ?_
    refine E_aload0 (q := 241) dX6_promote_240 rfl ?_
    refine G_X6_w (q := 244) (x := 158) (hr _) fl_X6_16 dX6_promote_241 rfl ?_
    refine E_iload3 (q := 245) dX6_promote_244 rfl ?_
    refine E_iconst (v := nI 1) (q := 246) dX6_promote_245 (by decide) rfl ?_
    refine C_S2I (q := 249) lk_X6_53 (sp_X6_ofVolume) dX6_promote_246 (by decide) (Nat.le_of_ble_eq_true rfl) rfl ?_
    refine E_iload2 (q := 250) dX6_promote_249 rfl ?_
    refine E_iconst (v := nI 1) (q := 251) dX6_promote_250 (by decide) rfl ?_
    refine E_iaddN (q := 252) dX6_promote_251 rfl ?_
    refine E_iastN (q := 253) hs (by omega) (by decide) dX6_promote_252 rfl ?_
    refine V_ws (congrArg (wl D ad) row2_upd) ?_
    refine E_iload4 (q := 255) dX6_promote_253 rfl ?_
    exact E_ireturn rfl rfl dX6_promote_255 ⟨_, rfl, congrArg nI hm.symm, _, hfin, rfl⟩
  have h3 : ∀ i, i ≤ (rowL A (home A s)).length - m → V D cfX6_promote (rmOf 14 0 0) (QM D (PX (fun x w => x = nI (plc A s + 1) ∧ RW D ad (tM M k) 158 (proA A v) w)) 0 0) 0 0 152 [some (.ref (ad 157)), some (.int (nI (v))), some (.int (nI (s))), some (.int (nI (home A s))), some (.int (nI (m))), some (.int (nI (m + i))), none] [] (wl D ad (row2 (tM M k) 158 (shD (laL (shU f v m (rowL A v).length 0) v (rowL A (home A s)) m) (home A s) m i))) := by
    refine upto (n := (rowL A (home A s)).length - m) (P := fun i => V D cfX6_promote (rmOf 14 0 0) (QM D (PX (fun x w => x = nI (plc A s + 1) ∧ RW D ad (tM M k) 158 (proA A v) w)) 0 0) 0 0 152 [some (.ref (ad 157)), some (.int (nI (v))), some (.int (nI (s))), some (.int (nI (home A s))), some (.int (nI (m))), some (.int (nI (m + i))), none] [] (wl D ad (row2 (tM M k) 158 (shD (laL (shU f v m (rowL A v).length 0) v (rowL A (home A s)) m) (home A s) m i)))) ?_ ?_
    · have e : m + ((rowL A (home A s)).length - m) = (rowL A (home A s)).length := by omega
      rw [e]
      refine E_iload5 (q := 154) dX6_promote_152 rfl ?_
      refine E_aload0 (q := 155) dX6_promote_154 rfl ?_
      refine E_iload3 (q := 156) dX6_promote_155 rfl ?_
      refine E_iconst (v := nI 4) (q := 157) dX6_promote_156 (by decide) rfl ?_
      refine C_V2I (q := 160) lk_X6_64 (sp_X6_volumeR hw (by omega)) rc_X6 dX6_promote_157 (by decide) (Nat.le_of_ble_eq_true rfl) rfl ?_
      refine V_int (show _ = nI (rowL A (home A s)).length by rw [shD_ne (by omega), laL_ne hv (by omega) (by omega) hL hl2, shU_ne (by omega), u4]) ?_
      refine E_icmp_geN (tgt := 194) (q := 163) dX6_promote_160 (by decide) rfl (by omega) (by omega) (fun h160 => ?_) (fun h160 => ?_)
      · skip
        exact hend 0
      · skip
        exact absurd h160 (Nat.lt_irrefl _)
    · intro i hi ih
      refine E_iload5 (q := 154) dX6_promote_152 rfl ?_
      refine E_aload0 (q := 155) dX6_promote_154 rfl ?_
      refine E_iload3 (q := 156) dX6_promote_155 rfl ?_
      refine E_iconst (v := nI 4) (q := 157) dX6_promote_156 (by decide) rfl ?_
      refine C_V2I (q := 160) lk_X6_64 (sp_X6_volumeR hw (by omega)) rc_X6 dX6_promote_157 (by decide) (Nat.le_of_ble_eq_true rfl) rfl ?_
      refine V_int (show _ = nI (rowL A (home A s)).length by rw [shD_ne (by omega), laL_ne hv (by omega) (by omega) hL hl2, shU_ne (by omega), u4]) ?_
      refine E_icmp_geN (tgt := 194) (q := 163) dX6_promote_160 (by decide) rfl (by omega) (by omega) (fun h160 => ?_) (fun h160 => ?_)
      · skip
        exact absurd h160 (by omega)
      · skip
        refine E_aload0 (q := 164) dX6_promote_163 rfl ?_
        refine G_X6_w (q := 167) (x := 158) (hr _) fl_X6_16 dX6_promote_164 rfl ?_
        refine E_iload3 (q := 168) dX6_promote_167 rfl ?_
        refine E_iconst (v := nI 5) (q := 169) dX6_promote_168 (by decide) rfl ?_
        refine E_iload5 (q := 171) dX6_promote_169 rfl ?_
        refine E_iaddN (q := 172) dX6_promote_171 rfl ?_
        refine E_iload4 (q := 174) dX6_promote_172 rfl ?_
        refine E_isubN (q := 175) dX6_promote_174 (by omega) rfl ?_
        rw [show 5 + (m + i) - m = 5 + i by omega]
        refine C_S2I (q := 178) lk_X6_53 (sp_X6_ofVolume) dX6_promote_175 (by decide) (Nat.le_of_ble_eq_true rfl) rfl ?_
        refine E_aload0 (q := 179) dX6_promote_178 rfl ?_
        refine E_iload3 (q := 180) dX6_promote_179 rfl ?_
        refine E_iconst (v := nI 5) (q := 181) dX6_promote_180 (by decide) rfl ?_
        refine E_iload5 (q := 183) dX6_promote_181 rfl ?_
        refine E_iaddN (q := 184) dX6_promote_183 rfl ?_
        refine C_V2I (q := 187) lk_X6_64 (sp_X6_volumeR hw (by omega)) rc_X6 dX6_promote_184 (by decide) (Nat.le_of_ble_eq_true rfl) rfl ?_
        refine V_int (show _ = laL (shU f v m (rowL A v).length 0) v (rowL A (home A s)) m (5 + 21 * home A s + (5 + i) + m) by rw [shD_ne (by omega), show 5 + 21 * home A s + (5 + (m + i)) = 5 + 21 * home A s + (5 + i) + m by omega]) ?_
        refine E_iastN (q := 188) hs (by omega) (by decide) dX6_promote_187 rfl ?_
        refine V_ws (congrArg (wl D ad) row2_upd) ?_
        refine V_ws (congrArg (fun g => wl D ad (row2 (tM M k) 158 g)) shD_s) ?_
        refine E_iinc5 (q := 191) dX6_promote_188 (nI_inc _) rfl rfl ?_
        refine E_goto (q := 152) dX6_promote_191 (by decide) ?_
        exact ih
  have h2x : ∀ i, i ≤ m → V D cfX6_promote (rmOf 14 0 0) (QM D (PX (fun x w => x = nI (plc A s + 1) ∧ RW D ad (tM M k) 158 (proA A v) w)) 0 0) 0 0 97 [some (.ref (ad 157)), some (.int (nI (v))), some (.int (nI (s))), some (.int (nI (home A s))), some (.int (nI (m))), some (.int (nI (i))), none] [] (wl D ad (row2 (tM M k) 158 (laL (shU f v m (rowL A v).length 0) v (rowL A (home A s)) i))) := by
    refine upto (n := m) (P := fun i => V D cfX6_promote (rmOf 14 0 0) (QM D (PX (fun x w => x = nI (plc A s + 1) ∧ RW D ad (tM M k) 158 (proA A v) w)) 0 0) 0 0 97 [some (.ref (ad 157)), some (.int (nI (v))), some (.int (nI (s))), some (.int (nI (home A s))), some (.int (nI (m))), some (.int (nI (i))), none] [] (wl D ad (row2 (tM M k) 158 (laL (shU f v m (rowL A v).length 0) v (rowL A (home A s)) i)))) ?_ ?_
    · skip
      refine E_iload5 (q := 99) dX6_promote_97 rfl ?_
      refine E_iload4 (q := 101) dX6_promote_99 rfl ?_
      refine E_icmp_geN (tgt := 148) (q := 104) dX6_promote_101 (by decide) rfl (by omega) (by omega) (fun h101 => ?_) (fun h101 => ?_)
      · skip
        refine E_iload4 (q := 150) dX6_promote_148 rfl ?_
        refine E_istore5 (q := 152) dX6_promote_150 rfl rfl ?_
        have q := h3 0 (Nat.zero_le _)
        rw [shD_0] at q
        exact q
      · skip
        exact absurd h101 (Nat.lt_irrefl _)
    · intro i hi ih
      obtain ⟨t, hg⟩ : ∃ t, (rowL A (home A s))[i]? = some t := ⟨_, List.getElem?_eq_getElem (by omega)⟩
      have htm := List.mem_of_getElem? hg
      have ht16 := hL t htm
      have hd : (rowL A (home A s)).getD i 0 = t := by rw [List.getD_eq_getElem?_getD, hg]; rfl
      refine E_iload5 (q := 99) dX6_promote_97 rfl ?_
      refine E_iload4 (q := 101) dX6_promote_99 rfl ?_
      refine E_icmp_geN (tgt := 148) (q := 104) dX6_promote_101 (by decide) rfl (by omega) (by omega) (fun h101 => ?_) (fun h101 => ?_)
      · skip
        exact absurd h101 (by omega)
      · skip
        refine E_aload0 (q := 105) dX6_promote_104 rfl ?_
        refine E_iload3 (q := 106) dX6_promote_105 rfl ?_
        refine E_iconst (v := nI 5) (q := 107) dX6_promote_106 (by decide) rfl ?_
        refine E_iload5 (q := 109) dX6_promote_107 rfl ?_
        refine E_iaddN (q := 110) dX6_promote_109 rfl ?_
        refine C_V2I (q := 113) lk_X6_64 (sp_X6_volumeR hw (by omega)) rc_X6 dX6_promote_110 (by decide) (Nat.le_of_ble_eq_true rfl) rfl ?_
        refine V_int (show _ = nI t by rw [laL_ne hv (by omega) (by omega) hL (by omega), shU_ne (by omega)]; exact u5 i t hg) ?_
        refine E_istore6 (q := 115) dX6_promote_113 rfl rfl ?_
        refine E_aload0 (q := 116) dX6_promote_115 rfl ?_
        refine G_X6_w (q := 119) (x := 158) (hr _) fl_X6_16 dX6_promote_116 rfl ?_
        refine E_iload1 (q := 120) dX6_promote_119 rfl ?_
        refine E_iconst (v := nI 5) (q := 121) dX6_promote_120 (by decide) rfl ?_
        refine E_iload5 (q := 123) dX6_promote_121 rfl ?_
        refine E_iaddN (q := 124) dX6_promote_123 rfl ?_
        refine C_S2I (q := 127) lk_X6_53 (sp_X6_ofVolume) dX6_promote_124 (by decide) (Nat.le_of_ble_eq_true rfl) rfl ?_
        refine E_iload6 (q := 129) dX6_promote_127 rfl ?_
        refine E_iastN (q := 130) hs (by omega) (by decide) dX6_promote_129 rfl ?_
        refine V_ws (congrArg (wl D ad) row2_upd) ?_
        refine E_aload0 (q := 131) dX6_promote_130 rfl ?_
        refine G_X6_w (q := 134) (x := 158) (hr _) fl_X6_16 dX6_promote_131 rfl ?_
        refine E_iload6 (q := 136) dX6_promote_134 rfl ?_
        refine E_iconst (v := nI 1) (q := 137) dX6_promote_136 (by decide) rfl ?_
        refine C_S2I (q := 140) lk_X6_57 (sp_X6_ofSnapshot) dX6_promote_137 (by decide) (Nat.le_of_ble_eq_true rfl) rfl ?_
        refine E_iload1 (q := 141) dX6_promote_140 rfl ?_
        refine E_iastN (q := 142) hs (by omega) (by decide) dX6_promote_141 rfl ?_
        refine V_ws (congrArg (wl D ad) row2_upd) ?_
        refine V_ws (congrArg (fun g => wl D ad (row2 (tM M k) 158 g)) (show _ = laL (shU f v m (rowL A v).length 0) v (rowL A (home A s)) (i + 1) by rw [laL, hd])) ?_
        refine E_iinc5 (q := 145) dX6_promote_142 (nI_inc _) rfl rfl ?_
        refine E_goto (q := 97) dX6_promote_145 (by decide) ?_
        exact V_sub (by repeat (first | exact subL_nil | refine subL_s ?_ | refine subL_n ?_)) ih
  have h1 : ∀ i, i ≤ (rowL A v).length → V D cfX6_promote (rmOf 14 0 0) (QM D (PX (fun x w => x = nI (plc A s + 1) ∧ RW D ad (tM M k) 158 (proA A v) w)) 0 0) 0 0 58 [some (.ref (ad 157)), some (.int (nI (v))), some (.int (nI (s))), some (.int (nI (home A s))), some (.int (nI (m))), some (.int (oI i)), none] [] (wl D ad (row2 (tM M k) 158 (shU f v m (rowL A v).length i))) := by
    intro i
    induction i with
    | zero =>
      intro _
      rw [oI_0]
      refine E_iload5 (q := 60) dX6_promote_58 rfl ?_
      refine E_if_lt (tgt := 94) (q := 63) dX6_promote_60 (by decide) rfl (fun h60 => ?_) (fun h60 => ?_)
      · skip
        refine E_iconst (v := nI 0) (q := 95) dX6_promote_94 (by decide) rfl ?_
        refine E_istore5 (q := 97) dX6_promote_95 rfl rfl ?_
        exact h2x 0 (Nat.zero_le _)
      · skip
        exact absurd (by decide) h60
    | succ i ih =>
      intro hi
      rw [oI_s]
      refine E_iload5 (q := 60) dX6_promote_58 rfl ?_
      refine E_if_lt (tgt := 94) (q := 63) dX6_promote_60 (by decide) rfl (fun h60 => ?_) (fun h60 => ?_)
      · skip
        exact absurd h60 (nI_pos (by omega))
      · skip
        refine E_aload0 (q := 64) dX6_promote_63 rfl ?_
        refine G_X6_w (q := 67) (x := 158) (hr _) fl_X6_16 dX6_promote_64 rfl ?_
        refine E_iload1 (q := 68) dX6_promote_67 rfl ?_
        refine E_iconst (v := nI 5) (q := 69) dX6_promote_68 (by decide) rfl ?_
        refine E_iload4 (q := 71) dX6_promote_69 rfl ?_
        refine E_iaddN (q := 72) dX6_promote_71 rfl ?_
        refine E_iload5 (q := 74) dX6_promote_72 rfl ?_
        refine E_iaddN (q := 75) dX6_promote_74 rfl ?_
        refine C_S2I (q := 78) lk_X6_53 (sp_X6_ofVolume) dX6_promote_75 (by decide) (Nat.le_of_ble_eq_true rfl) rfl ?_
        refine E_aload0 (q := 79) dX6_promote_78 rfl ?_
        refine E_iload1 (q := 80) dX6_promote_79 rfl ?_
        refine E_iconst (v := nI 5) (q := 81) dX6_promote_80 (by decide) rfl ?_
        refine E_iload5 (q := 83) dX6_promote_81 rfl ?_
        refine E_iaddN (q := 84) dX6_promote_83 rfl ?_
        refine C_V2I (q := 87) lk_X6_64 (sp_X6_volumeR hw (by omega)) rc_X6 dX6_promote_84 (by decide) (Nat.le_of_ble_eq_true rfl) rfl ?_
        refine V_int (show _ = f (5 + 21 * v + (5 + i)) from shU_ne (by omega)) ?_
        refine E_iastN (q := 88) hs (by omega) (by decide) dX6_promote_87 rfl ?_
        refine V_ws (congrArg (wl D ad) row2_upd) ?_
        refine V_ws (congrArg (fun g => wl D ad (row2 (tM M k) 158 g)) (shU_s (by omega))) ?_
        refine E_iinc5 (q := 91) dX6_promote_88 (oI_dec _) rfl rfl ?_
        refine E_goto (q := 58) dX6_promote_91 (by decide) ?_
        exact ih (by omega)
  refine E_aload0 (q := 1) dX6_promote_0 rfl ?_
  refine E_iconst (v := nI 0) (q := 2) dX6_promote_1 (by decide) rfl ?_
  refine P_X6_thrown (q := 5) fl_X6_43 dX6_promote_2 rfl ?_
  refine E_aload0 (q := 6) dX6_promote_5 rfl ?_
  refine E_iload1 (q := 7) dX6_promote_6 rfl ?_
  refine C_V1I (q := 10) lk_X6_74 (sp_X6_isVolT h.fl ((VolA_nI (by omega)).mpr ⟨hv, ht⟩)) rc_X6 dX6_promote_7 (by decide) (Nat.le_of_ble_eq_true rfl) rfl ?_
  refine E_if_ne (tgt := 15) (q := 13) dX6_promote_10 (by decide) rfl (fun h10 => ?_) (fun h10 => ?_)
  · skip
    refine E_aload0 (q := 16) dX6_promote_15 rfl ?_
    refine E_iload1 (q := 17) dX6_promote_16 rfl ?_
    refine C_V1I (q := 20) lk_X6_107 (sp_X6_origin h.fl.1 h.fl.2.1 hv ht) rc_X6 dX6_promote_17 (by decide) (Nat.le_of_ble_eq_true rfl) rfl ?_
    rw [ho, oI_s]
    refine E_istore2 (q := 21) dX6_promote_20 rfl rfl ?_
    refine E_iload2 (q := 22) dX6_promote_21 rfl ?_
    refine E_if_ge (tgt := 28) (q := 25) dX6_promote_22 (by decide) rfl (fun h22 => ?_) (fun h22 => ?_)
    · skip
      refine E_aload0 (q := 29) dX6_promote_28 rfl ?_
      refine C_V0V (q := 32) lk_X6_183 (sp_X6_remember hk1 hk8) rc_X6 dX6_promote_29 (by decide) (Nat.le_of_ble_eq_true rfl) rfl ?_
      refine V_ws (show _ = wl D ad (row2 (tM M k) 158 f) from (congrArg (wl D ad) (hf ▸ row2_self.symm))) ?_
      refine E_aload0 (q := 33) dX6_promote_32 rfl ?_
      refine E_iload2 (q := 34) dX6_promote_33 rfl ?_
      refine E_iconst (v := nI 1) (q := 35) dX6_promote_34 (by decide) rfl ?_
      refine C_V2I (q := 38) lk_X6_67 (sp_X6_snapshotR hw (by omega)) rc_X6 dX6_promote_35 (by decide) (Nat.le_of_ble_eq_true rfl) rfl ?_
      refine V_int hS.1 ?_
      refine E_istore3 (q := 39) dX6_promote_38 rfl rfl ?_
      refine E_aload0 (q := 40) dX6_promote_39 rfl ?_
      refine E_iload2 (q := 41) dX6_promote_40 rfl ?_
      refine C_V1I (q := 44) lk_X6_104 (sp_X6_placeOf hq.1 hq.2.1 hq.2.2.1 hs16 hts) rc_X6 dX6_promote_41 (by decide) (Nat.le_of_ble_eq_true rfl) rfl ?_
      refine E_iconst (v := nI 1) (q := 45) dX6_promote_44 (by decide) rfl ?_
      refine E_iaddN (q := 46) dX6_promote_45 rfl ?_
      refine V_int (congrArg nI hm) ?_
      refine E_istore4 (q := 48) dX6_promote_46 rfl rfl ?_
      refine E_aload0 (q := 49) dX6_promote_48 rfl ?_
      refine E_iload1 (q := 50) dX6_promote_49 rfl ?_
      refine E_iconst (v := nI 4) (q := 51) dX6_promote_50 (by decide) rfl ?_
      refine C_V2I (q := 54) lk_X6_64 (sp_X6_volumeR hw (by omega)) rc_X6 dX6_promote_51 (by decide) (Nat.le_of_ble_eq_true rfl) rfl ?_
      refine V_int v4 ?_
      refine E_iconst (v := nI 1) (q := 55) dX6_promote_54 (by decide) rfl ?_
      refine E_isub (q := 56) dX6_promote_55 rfl ?_
      refine E_istore5 (q := 58) dX6_promote_56 rfl rfl ?_
      have q := h1 _ (Nat.le_refl _)
      rw [shU_n] at q
      exact q
    · skip
      exact absurd (nI_ge0 (by omega)) h22
  · first | exact absurd h10 (by decide) | exact absurd (by decide) h10
end MODEL
