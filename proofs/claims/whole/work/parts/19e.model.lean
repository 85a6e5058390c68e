

/-! THE REFERENCE removes snapshots -/
section ROWS
variable {A : AS} {f : Nat → Int32}
theorem pw_erase {L : List Nat} {p s : Nat} (hp : L.Pairwise (· < ·)) (h : L[p]? = some s) : L.filter (fun t => !(2 ^ s).testBit t) = L.eraseIdx p := by
  induction L generalizing p with
  | nil => simp at h
  | cons x L ih =>
    obtain ⟨h1, h2⟩ := List.pairwise_cons.mp hp
    cases p with
    | zero =>
      have : x = s := by simpa using h
      subst this
      rw [List.eraseIdx_cons_zero, List.filter_cons_of_neg (by simp [Nat.testBit_two_pow]), List.filter_eq_self]
      intro t ht
      have := h1 t ht
      simp [Nat.testBit_two_pow]; omega
    | succ p =>
      have h' : L[p]? = some s := by simpa using h
      have hx : x < s := h1 s (List.mem_of_getElem? h')
      rw [List.eraseIdx_cons_succ, List.filter_cons_of_pos (by simp [Nat.testBit_two_pow]; omega), ih h2 h']
theorem remA_th {m w : Nat} : th (remA A m) w ↔ th A w ∧ ¬ m.testBit w = true := drop_th (bl' := A.2)
theorem remA_col {m i j : Nat} (h : i ≠ 1) : (remA A m).1 i j = A.1 i j := drop_ne h
theorem remA_row1 {s v : Nat} (hs : s < 16) (ht : th A s) : rowL (remA A (2 ^ s)) v = if v = home A s then (rowL A v).eraseIdx (plc A s) else rowL A v := by
  rw [show remA A (2 ^ s) = (dropT A.1 (2 ^ s), relB A.2 (fun _ => 2 ^ s)) from rfl, drop_row]
  by_cases e : v = home A s
  · subst e
    rw [if_pos rfl]
    exact pw_erase (rowL_pw A _) (plc_get hs ht)
  · rw [if_neg e, List.filter_eq_self]
    intro t htt
    have := mem_rowL.mp htt
    simp only [Bool.not_eq_true']
    rw [Nat.testBit_two_pow]
    simp
    rintro rfl
    exact e this.2.2.symm
/-- the list of v's snapshots from p to k moved by one -/
def shF (f : Nat → Int32) (v p k : Nat) : Nat → Int32 := fun j => if 5 + 21 * v + 5 + p ≤ j ∧ j < 5 + 21 * v + 5 + k then f (j + 1) else f j
theorem shF_0 {v p : Nat} : shF f v p p = f := funext fun j => if_neg (by omega)
theorem shF_s {v p k : Nat} (h : p ≤ k) : upd (shF f v p k) (5 + 21 * v + (5 + k)) (f (5 + 21 * v + (5 + k) + 1)) = shF f v p (k + 1) := funext fun j => by
  unfold upd shF
  by_cases e : j = 5 + 21 * v + (5 + k)
  · subst e; rw [if_pos rfl, if_pos (by omega)]
  · rw [if_neg e]
    by_cases e2 : 5 + 21 * v + 5 + p ≤ j ∧ j < 5 + 21 * v + 5 + k
    · rw [if_pos e2, if_pos (by omega)]
    · rw [if_neg e2, if_neg (by omega)]
theorem shF_ne {v p k j : Nat} (h : ¬ (5 + 21 * v + 5 + p ≤ j ∧ j < 5 + 21 * v + 5 + k)) : shF f v p k j = f j := if_neg h
theorem shF_in {v p k j : Nat} (h : 5 + 21 * v + 5 + p ≤ j ∧ j < 5 + 21 * v + 5 + k) : shF f v p k j = f (j + 1) := if_pos h
def remF (f : Nat → Int32) (s v p l : Nat) : Nat → Int32 := layF (upd (upd (shF f v p l) (5 + 21 * v + 4) (nI l)) (131 + 5 * s + 0) (nI 0)) s (fun _ => nI 0) (fun _ => nI 0) 12
theorem remF_out {s v p l j : Nat} (h1 : ¬ (211 + 12 * s ≤ j ∧ j < 211 + 12 * s + 12)) (h2 : ¬ (475 + 12 * s ≤ j ∧ j < 475 + 12 * s + 12)) (h3 : j ≠ 131 + 5 * s) (h4 : ¬ (5 + 21 * v + 4 ≤ j ∧ j < 5 + 21 * v + 5 + l)) : remF f s v p l j = f j := by
  unfold remF
  rw [layF_ne h1 h2, upd_ne (show j ≠ 131 + 5 * s + 0 from h3), upd_ne (by omega), shF_ne (by omega)]
theorem RowIs.rem1 {s : Nat} (hR : RowIs f A) (h : WF A) (hs : s < 16) (ht : th A s) : RowIs (remF f s (home A s) (plc A s) ((rowL A (home A s)).length - 1)) (remA A (2 ^ s)) := by
  have hv := h.hv6 hs ht
  have hp := plc_lt16 hs ht
  have hl := rowL_len A (home A s)
  obtain ⟨⟨c0, c1, c2, c3, c4⟩, r1, r2, r3, r4, r5⟩ := hR
  have hth : ∀ w, th (remA A (2 ^ s)) w ↔ th A w ∧ w ≠ s := fun w => by
    rw [remA_th, pow_bit]
    exact and_congr_right fun _ => ⟨fun z e => z e.symm, fun z e => z e.symm⟩
  have hT : ∀ w, w ≠ s → (remA A (2 ^ s)).1 1 w = A.1 1 w := fun w hw => if_neg (fun z => hw (pow_bit.mp z.2).symm)
  refine ⟨⟨?_, ?_, ?_, ?_, ?_⟩, ?_, ?_, ?_, ?_, ?_⟩
  · rw [remF_out (by omega) (by omega) (by omega) (by omega), c0]; unfold aP; rw [remA_col (by omega)]
  · rw [remF_out (by omega) (by omega) (by omega) (by omega), c1]; unfold aC; rw [remA_col (by omega)]
  · rw [remF_out (by omega) (by omega) (by omega) (by omega), c2]; unfold aT; rw [remA_col (by omega)]
  · rw [remF_out (by omega) (by omega) (by omega) (by omega), c3]; unfold aV; rw [remA_col (by omega)]
  · rw [remF_out (by omega) (by omega) (by omega) (by omega), c4]; unfold aS; rw [remA_col (by omega)]
  · intro u hu
    rw [remF_out (by omega) (by omega) (by omega) (by omega), r1 u hu, hT _ (by omega)]
  · intro t ht16
    by_cases e : t = s
    · subst e
      unfold remF
      rw [layF_ne (by omega) (by omega)]
      show upd _ (131 + 5 * t + 0) _ (131 + 5 * t + 0) = _
      rw [upd_eq]
      exact congrArg nI (show (remA A (2 ^ t)).1 1 t = 0 from if_pos ⟨rfl, pow_bit.mpr rfl⟩).symm
    · rw [remF_out (by omega) (by omega) (by omega) (by omega), r2 t ht16, hT _ e]
  · intro u hu hut
    obtain ⟨d1, d2, d3, d4, d5⟩ := r3 u hu ((hth _).mp hut).1
    have hlu := rowL_len A u
    refine ⟨?_, ?_, ?_, ?_, ?_⟩
    · rw [remF_out (by omega) (by omega) (by omega) (by omega), d1]; unfold org; rw [remA_col (by omega)]
    · rw [remF_out (by omega) (by omega) (by omega) (by omega), d2]; unfold quo; rw [remA_col (by omega)]
    · rw [remF_out (by omega) (by omega) (by omega) (by omega), d3]; unfold vnm; rw [remA_col (by omega)]
    · rw [remA_row1 hs ht]
      by_cases e : u = home A s
      · subst e
        rw [if_pos rfl, List.length_eraseIdx, if_pos hp]
        unfold remF
        rw [layF_ne (by omega) (by omega), upd_ne (by omega), upd_eq]
      · rw [if_neg e, remF_out (by omega) (by omega) (by omega) (by omega), d4]
    · intro k t hk
      rw [remA_row1 hs ht] at hk
      by_cases e : u = home A s
      · subst e
        rw [if_pos rfl, List.getElem?_eraseIdx] at hk
        unfold remF
        by_cases hkp : k < plc A s
        · rw [if_pos hkp] at hk
          rw [layF_ne (by omega) (by omega), upd_ne (by omega), upd_ne (by omega), shF_ne (by omega)]
          exact d5 k t hk
        · rw [if_neg hkp] at hk
          have := (List.getElem?_eq_some_iff.mp hk).1
          rw [layF_ne (by omega) (by omega), upd_ne (by omega), upd_ne (by omega), shF_in (by omega)]
          exact d5 (k + 1) t hk
      · rw [if_neg e] at hk
        have := (List.getElem?_eq_some_iff.mp hk).1
        rw [remF_out (by omega) (by omega) (by omega) (by omega)]
        exact d5 k t hk
  · intro t ht16 htt
    have q := (hth t).mp htt
    obtain ⟨d1, d2, d3, d4⟩ := r4 t ht16 q.1
    rw [show home (remA A (2 ^ s)) t = home A t from remA_col (by omega), show stm (remA A (2 ^ s)) t = stm A t from remA_col (by omega), show snm (remA A (2 ^ s)) t = snm A t from remA_col (by omega), remA_col (by omega), remF_out (by omega) (by omega) (by omega) (by omega), remF_out (by omega) (by omega) (by omega) (by omega), remF_out (by omega) (by omega) (by omega) (by omega), remF_out (by omega) (by omega) (by omega) (by omega)]
    exact ⟨d1, d2, d3, d4⟩
  · intro w a hw ha
    have hbu := rel_bu (bl := A.2) (fun x hx => (h.2.2.2 x hx).2.2.2.2.2.2.1) (fun _ => 2 ^ s) w a
    rw [show (remA A (2 ^ s)).2 = relB A.2 (fun _ => 2 ^ s) from rfl, hbu.1, hbu.2]
    by_cases e : w = s
    · subst e
      rw [if_pos (pow_bit.mpr rfl), if_pos (pow_bit.mpr rfl)]
      unfold remF
      rw [layF_b ha, layF_u (by omega) ha (by omega)]
      exact ⟨rfl, rfl⟩
    · rw [if_neg (fun z => e (pow_bit.mp z).symm), if_neg (fun z => e (pow_bit.mp z).symm), remF_out (by omega) (by omega) (by omega) (by omega), remF_out (by omega) (by omega) (by omega) (by omega)]
      exact r5 w a hw ha
theorem dropT_or {T : Nat → Nat → Nat} {m n : Nat} : dropT (dropT T m) n = dropT T (m ||| n) := by
  funext i j
  unfold dropT
  by_cases hi : i = 1
  · by_cases h1 : n.testBit j = true
    · rw [if_pos ⟨hi, h1⟩, if_pos ⟨hi, or_bit.mpr (Or.inr h1)⟩]
    · rw [if_neg (fun z => h1 z.2)]
      by_cases h2 : m.testBit j = true
      · rw [if_pos ⟨hi, h2⟩, if_pos ⟨hi, or_bit.mpr (Or.inl h2)⟩]
      · rw [if_neg (fun z => h2 z.2), if_neg]
        rintro ⟨-, z⟩
        rcases or_bit.mp z with z | z
        · exact h2 z
        · exact h1 z
  · rw [if_neg (fun z => hi z.1), if_neg (fun z => hi z.1), if_neg (fun z => hi z.1)]
theorem andn_or {a m n : Nat} (ha : a < 2 ^ 32) : andn (andn a m) n = andn a (m ||| n) := eq_bits fun k => by
  rw [andn_bit (Nat.lt_of_le_of_lt andn_le ha), andn_bit ha, andn_bit ha, or_bit]
  constructor
  · rintro ⟨⟨q1, q2⟩, q3⟩; exact ⟨q1, fun z => z.elim q2 q3⟩
  · rintro ⟨q1, q2⟩; exact ⟨⟨q1, fun z => q2 (Or.inl z)⟩, fun z => q2 (Or.inr z)⟩
theorem relB_or {bl : List Blk} {g k : Nat → Nat} (h : ∀ x, x ∈ bl → own x < 2 ^ 32) : relB (relB bl g) k = relB bl (fun b => g b ||| k b) := by
  induction bl with
  | nil => rfl
  | cons x bl ih =>
    have ih := ih (fun y hy => h y (List.mem_cons_of_mem _ hy))
    have hx := andn_or (m := g (adr x)) (n := k (adr x)) (h x (List.mem_cons_self ..))
    rw [relB_cons, relB_cons (bl := bl) (g := fun b => g b ||| k b)]
    by_cases e : andn (own x) (g (adr x)) = 0
    · rw [if_pos e, ih, if_pos]
      rw [← hx, e]; unfold andn; rw [Nat.zero_and]
    · rw [if_neg e, relB_cons, ih]
      show (if andn (andn (own x) (g (adr x))) (k (adr x)) = 0 then _ else (x.1, siz x, adr x, andn (andn (own x) (g (adr x))) (k (adr x))) :: _) = _
      rw [hx]
theorem remA_or {m n : Nat} (h : WF A) : remA (remA A m) n = remA A (m ||| n) := by
  show (dropT (dropT A.1 m) n, relB (relB A.2 (fun _ => m)) (fun _ => n)) = (dropT A.1 (m ||| n), relB A.2 (fun _ => m ||| n))
  rw [dropT_or, relB_or (fun x hx => Nat.lt_trans (h.2.2.2 x hx).2.2.2.2.2.2.1 (by decide))]
theorem remA_0 (h : WF A) : remA A 0 = A := by
  have h1 : dropT A.1 0 = A.1 := by
    funext i j
    unfold dropT
    rw [if_neg]
    rintro ⟨-, z⟩
    rw [Nat.zero_testBit] at z
    cases z
  have h2 : ∀ bl : List Blk, (∀ x, x ∈ bl → own x ≠ 0 ∧ own x < 2 ^ 22) → relB bl (fun _ => 0) = bl := fun bl => by
    induction bl with
    | nil => exact fun _ => rfl
    | cons x bl ih =>
      intro hb
      have hx := hb x (List.mem_cons_self ..)
      have he : andn (own x) 0 = own x := eq_bits fun k => by
        rw [andn_bit (Nat.lt_trans hx.2 (by decide)), Nat.zero_testBit]; simp
      rw [relB_cons]
      rw [he, if_neg hx.1, ih (fun y hy => hb y (List.mem_cons_of_mem _ hy))]
  show (dropT A.1 0, relB A.2 (fun _ => 0)) = A
  rw [h1, h2 A.2 (fun x hx => ⟨(h.2.2.2 x hx).2.2.2.2.2.1, (h.2.2.2 x hx).2.2.2.2.2.2.1⟩)]
theorem remA_why {m s : Nat} (hm : m < 2 ^ 16) : whyN (remA A m) s = whyN A s := by
  have : clo (remA A m) s = clo A s := bset_congr fun v hv => by
    rw [remA_th, show org (remA A m) v = org A v from remA_col (by omega)]
    constructor
    · rintro ⟨⟨q, -⟩, r⟩; exact ⟨q, r⟩
    · rintro ⟨q, r⟩; exact ⟨⟨q, fun z => by have := lt16_bit hm z; omega⟩, r⟩
  unfold whyN
  rw [this, remA_col (by omega)]
/-- the bits of m below i -/
def lowM (m i : Nat) : Nat := m % 2 ^ i
theorem lowM_bit {m i k : Nat} : (lowM m i).testBit k = true ↔ k < i ∧ m.testBit k = true := by
  unfold lowM; rw [Nat.testBit_mod_two_pow, Bool.and_eq_true, decide_eq_true_eq]
theorem lowM_on {m i : Nat} (h : m.testBit i = true) : lowM m i ||| 2 ^ i = lowM m (i + 1) := eq_bits fun k => by
  rw [or_bit, lowM_bit, lowM_bit, pow_bit]
  constructor
  · rintro (⟨q1, q2⟩ | rfl)
    · exact ⟨by omega, q2⟩
    · exact ⟨by omega, h⟩
  · rintro ⟨q1, q2⟩
    by_cases e : i = k
    · exact Or.inr e
    · exact Or.inl ⟨by omega, q2⟩
theorem lowM_off {m i : Nat} (h : ¬ m.testBit i = true) : lowM m i = lowM m (i + 1) := eq_bits fun k => by
  rw [lowM_bit, lowM_bit]
  constructor
  · rintro ⟨q1, q2⟩; exact ⟨by omega, q2⟩
  · rintro ⟨q1, q2⟩
    by_cases e : k = i
    · subst e; exact absurd q2 h
    · exact ⟨by omega, q2⟩
theorem lowM_0 {m : Nat} : lowM m 0 = 0 := Nat.mod_one m
theorem lowM_all {m : Nat} (h : m < 2 ^ 16) : lowM m 16 = m := Nat.mod_eq_of_lt h
end ROWS
section RWK
variable {D : va_G} {F : Cfg} {rm : Room} {Qf : QF} {k n pc wx : Nat} {locs : List (Option Value)} {st : List Value} {ad : Nat → Nat} {M : Mem} {A : AS}
theorem kkRW (h : ∀ f, RowIs f A → V D F rm Qf k n pc locs st (wl D ad (row2 M wx f))) : ∀ w, RW D ad M wx A w → V D F rm Qf k n pc locs st w := fun w hw => by
  obtain ⟨f, hf, e⟩ := hw
  rw [e]
  exact h f hf
theorem kkRX {v : Int32} (h : ∀ f, RowIs f A → V D F rm Qf k n pc locs (.int v :: st) (wl D ad (row2 M wx f))) : ∀ r w, (r = v ∧ RW D ad M wx A w) → V D F rm Qf k n pc locs (.int r :: st) w := fun r w hw => by
  obtain ⟨e0, f, hf, e⟩ := hw
  rw [e, e0]
  exact h f hf
end RWK
section MODEL
variable {D : va_G} {ad : Nat → Nat} {M : Mem} {wx : Nat} {ws : va_W} {A : AS} {f : Nat → Int32}
theorem sp_X6_remove {s : Nat} (hw : WX M wx) (hR : RowIs f A) (hA : WF A) (hs16 : s < 16) (ht : th A s) : Spec D 4 yX6_remove cfX6_remove [.ref (ad 157), .int (nI (s))] (wl D ad (row2 M wx f)) 0 0 (PY (RW D ad M wx (remA A (2 ^ s)))) := by
  refine Spec.of (by decide) rfl (Nat.le_of_ble_eq_true rfl) rfl ?_
  have hr := hw.all
  have hs := hw.2
  have hv := hA.hv6 hs16 ht
  have hp := plc_lt16 hs16 ht
  have hl := rowL_len A (home A s)
  have hI := RI.row hw hR hA
  have hV := hR.2.2.2.1 (home A s) hv.1 hv.2
  have hS := hR.2.2.2.2.1 s hs16 ht
  have hlay : V D cfX6_remove (rmOf 4 0 0) (QM D (PY (RW D ad M wx (remA A (2 ^ s)))) 0 0) 0 0 80 [some (.ref (ad 157)), some (.int (nI (s))), some (.int (nI (home A s))), some (.int (nI (0)))] [] (wl D ad (row2 M wx (layF (upd (upd (shF f (home A s) (plc A s) ((rowL A (home A s)).length - 1)) (5 + 21 * home A s + 4) (nI ((rowL A (home A s)).length - 1))) (131 + 5 * s + 0) (nI 0)) s (fun _ => nI 0) (fun _ => nI 0) 0))) := by
    refine upto0 (n := 12) (P := fun k => V D cfX6_remove (rmOf 4 0 0) (QM D (PY (RW D ad M wx (remA A (2 ^ s)))) 0 0) 0 0 80 [some (.ref (ad 157)), some (.int (nI (s))), some (.int (nI (home A s))), some (.int (nI (k)))] [] (wl D ad (row2 M wx (layF (upd (upd (shF f (home A s) (plc A s) ((rowL A (home A s)).length - 1)) (5 + 21 * home A s + 4) (nI ((rowL A (home A s)).length - 1))) (131 + 5 * s + 0) (nI 0)) s (fun _ => nI 0) (fun _ => nI 0) k)))) ?_ ?_
    · skip
      refine E_iload3 (q := 81) dX6_remove_80 rfl ?_
      refine E_bipush (v := nI 12) (q := 83) dX6_remove_81 (by decide) rfl ?_
      refine E_icmp_geN (tgt := 100) (q := 86) dX6_remove_83 (by decide) rfl (by omega) (by omega) (fun h83 => ?_) (fun h83 => ?_)
      · skip
        exact E_vreturn rfl rfl dX6_remove_100 ⟨rfl, _, hR.rem1 hA hs16 ht, rfl⟩
      · skip
        exact absurd h83 (by omega)
    · intro k hk ih
      refine E_iload3 (q := 81) dX6_remove_80 rfl ?_
      refine E_bipush (v := nI 12) (q := 83) dX6_remove_81 (by decide) rfl ?_
      refine E_icmp_geN (tgt := 100) (q := 86) dX6_remove_83 (by decide) rfl (by omega) (by omega) (fun h83 => ?_) (fun h83 => ?_)
      · skip
        exact absurd h83 (by omega)
      · skip
        refine E_aload0 (q := 87) dX6_remove_86 rfl ?_
        refine E_iload1 (q := 88) dX6_remove_87 rfl ?_
        refine E_iload3 (q := 89) dX6_remove_88 rfl ?_
        refine E_iconst (v := nI 0) (q := 90) dX6_remove_89 (by decide) rfl ?_
        refine E_iconst (v := nI 0) (q := 91) dX6_remove_90 (by decide) rfl ?_
        refine C_V4V (q := 94) lk_X6_83 (sp_X6_layR hw (by omega) (by omega)) rc_X6 dX6_remove_91 (by decide) (Nat.le_of_ble_eq_true rfl) rfl ?_
        refine V_ws (congrArg (fun g => wl D ad (row2 M wx g)) (layF_s (bs := fun _ => nI 0) (us := fun _ => nI 0) (by omega) hk)) ?_
        refine E_iinc3 (q := 97) dX6_remove_94 (nI_inc _) rfl rfl ?_
        refine E_goto (q := 80) dX6_remove_97 (by decide) ?_
        exact ih
  rw [layF_0] at hlay
  have hmain : ∀ k, k ≤ (rowL A (home A s)).length - 1 → plc A s ≤ k → V D cfX6_remove (rmOf 4 0 0) (QM D (PY (RW D ad M wx (remA A (2 ^ s)))) 0 0) 0 0 13 [some (.ref (ad 157)), some (.int (nI (s))), some (.int (nI (home A s))), some (.int (nI (k)))] [] (wl D ad (row2 M wx (shF f (home A s) (plc A s) k))) := by
    refine upto (n := (rowL A (home A s)).length - 1) (P := fun k => plc A s ≤ k → V D cfX6_remove (rmOf 4 0 0) (QM D (PY (RW D ad M wx (remA A (2 ^ s)))) 0 0) 0 0 13 [some (.ref (ad 157)), some (.int (nI (s))), some (.int (nI (home A s))), some (.int (nI (k)))] [] (wl D ad (row2 M wx (shF f (home A s) (plc A s) k)))) ?_ ?_
    · intro _
      refine E_iload3 (q := 14) dX6_remove_13 rfl ?_
      refine E_iconst (v := nI 1) (q := 15) dX6_remove_14 (by decide) rfl ?_
      refine E_iaddN (q := 16) dX6_remove_15 rfl ?_
      refine E_aload0 (q := 17) dX6_remove_16 rfl ?_
      refine E_iload2 (q := 18) dX6_remove_17 rfl ?_
      refine E_iconst (v := nI 4) (q := 19) dX6_remove_18 (by decide) rfl ?_
      refine C_V2I (q := 22) lk_X6_64 (sp_X6_volumeR hw (by omega)) rc_X6 dX6_remove_19 (by decide) (Nat.le_of_ble_eq_true rfl) rfl ?_
      refine V_int ((shF_ne (by omega)).trans hV.2.2.2.1) ?_
      refine E_icmp_geN (tgt := 53) (q := 25) dX6_remove_22 (by decide) rfl (by omega) (by omega) (fun h22 => ?_) (fun h22 => ?_)
      · skip
        refine E_aload0 (q := 54) dX6_remove_53 rfl ?_
        refine G_X6_w (q := 57) (x := wx) (hr _) fl_X6_16 dX6_remove_54 rfl ?_
        refine E_iload2 (q := 58) dX6_remove_57 rfl ?_
        refine E_iconst (v := nI 4) (q := 59) dX6_remove_58 (by decide) rfl ?_
        refine C_S2I (q := 62) lk_X6_53 (sp_X6_ofVolume) dX6_remove_59 (by decide) (Nat.le_of_ble_eq_true rfl) rfl ?_
        refine E_dup2 (q := 63) dX6_remove_62 rfl rfl rfl ?_
        refine E_ialdN (q := 64) hs (by omega) (by decide) dX6_remove_63 rfl ?_
        refine V_int (congrFun row2_same _) ?_
        refine V_int ((shF_ne (by omega)).trans hV.2.2.2.1) ?_
        refine E_iconst (v := nI 1) (q := 65) dX6_remove_64 (by decide) rfl ?_
        refine E_isubN (q := 66) dX6_remove_65 (by omega) rfl ?_
        refine E_iastN (q := 67) hs (by omega) (by decide) dX6_remove_66 rfl ?_
        refine V_ws (congrArg (wl D ad) row2_upd) ?_
        refine E_aload0 (q := 68) dX6_remove_67 rfl ?_
        refine G_X6_w (q := 71) (x := wx) (hr _) fl_X6_16 dX6_remove_68 rfl ?_
        refine E_iload1 (q := 72) dX6_remove_71 rfl ?_
        refine E_iconst (v := nI 0) (q := 73) dX6_remove_72 (by decide) rfl ?_
        refine C_S2I (q := 76) lk_X6_57 (sp_X6_ofSnapshot) dX6_remove_73 (by decide) (Nat.le_of_ble_eq_true rfl) rfl ?_
        refine E_iconst (v := nI 0) (q := 77) dX6_remove_76 (by decide) rfl ?_
        refine E_iastN (q := 78) hs (by omega) (by decide) dX6_remove_77 rfl ?_
        refine V_ws (congrArg (wl D ad) row2_upd) ?_
        refine E_iconst (v := nI 0) (q := 79) dX6_remove_78 (by decide) rfl ?_
        refine E_istore3 (q := 80) dX6_remove_79 rfl rfl ?_
        exact hlay
      · skip
        exact absurd h22 (by omega)
    · intro k hk ih hpk
      refine E_iload3 (q := 14) dX6_remove_13 rfl ?_
      refine E_iconst (v := nI 1) (q := 15) dX6_remove_14 (by decide) rfl ?_
      refine E_iaddN (q := 16) dX6_remove_15 rfl ?_
      refine E_aload0 (q := 17) dX6_remove_16 rfl ?_
      refine E_iload2 (q := 18) dX6_remove_17 rfl ?_
      refine E_iconst (v := nI 4) (q := 19) dX6_remove_18 (by decide) rfl ?_
      refine C_V2I (q := 22) lk_X6_64 (sp_X6_volumeR hw (by omega)) rc_X6 dX6_remove_19 (by decide) (Nat.le_of_ble_eq_true rfl) rfl ?_
      refine V_int ((shF_ne (by omega)).trans hV.2.2.2.1) ?_
      refine E_icmp_geN (tgt := 53) (q := 25) dX6_remove_22 (by decide) rfl (by omega) (by omega) (fun h22 => ?_) (fun h22 => ?_)
      · skip
        exact absurd h22 (by omega)
      · skip
        refine E_aload0 (q := 26) dX6_remove_25 rfl ?_
        refine G_X6_w (q := 29) (x := wx) (hr _) fl_X6_16 dX6_remove_26 rfl ?_
        refine E_iload2 (q := 30) dX6_remove_29 rfl ?_
        refine E_iconst (v := nI 5) (q := 31) dX6_remove_30 (by decide) rfl ?_
        refine E_iload3 (q := 32) dX6_remove_31 rfl ?_
        refine E_iaddN (q := 33) dX6_remove_32 rfl ?_
        refine C_S2I (q := 36) lk_X6_53 (sp_X6_ofVolume) dX6_remove_33 (by decide) (Nat.le_of_ble_eq_true rfl) rfl ?_
        refine E_aload0 (q := 37) dX6_remove_36 rfl ?_
        refine E_iload2 (q := 38) dX6_remove_37 rfl ?_
        refine E_iconst (v := nI 5) (q := 39) dX6_remove_38 (by decide) rfl ?_
        refine E_iload3 (q := 40) dX6_remove_39 rfl ?_
        refine E_iaddN (q := 41) dX6_remove_40 rfl ?_
        refine E_iconst (v := nI 1) (q := 42) dX6_remove_41 (by decide) rfl ?_
        refine E_iaddN (q := 43) dX6_remove_42 rfl ?_
        refine C_V2I (q := 46) lk_X6_64 (sp_X6_volumeR (x := 5 + k + 1) hw (by omega)) rc_X6 dX6_remove_43 (by decide) (Nat.le_of_ble_eq_true rfl) rfl ?_
        refine V_int (show _ = f (5 + 21 * home A s + (5 + k) + 1) from shF_ne (by omega)) ?_
        refine E_iastN (q := 47) hs (by omega) (by decide) dX6_remove_46 rfl ?_
        refine V_ws (congrArg (wl D ad) row2_upd) ?_
        refine V_ws (congrArg (fun g => wl D ad (row2 M wx g)) (shF_s hpk)) ?_
        refine E_iinc3 (q := 50) dX6_remove_47 (nI_inc _) rfl rfl ?_
        refine E_goto (q := 13) dX6_remove_50 (by decide) ?_
        exact ih (by omega)
  refine E_aload0 (q := 1) dX6_remove_0 rfl ?_
  refine E_iload1 (q := 2) dX6_remove_1 rfl ?_
  refine E_iconst (v := nI 1) (q := 3) dX6_remove_2 (by decide) rfl ?_
  refine C_V2I (q := 6) lk_X6_67 (sp_X6_snapshotR hw (by omega)) rc_X6 dX6_remove_3 (by decide) (Nat.le_of_ble_eq_true rfl) rfl ?_
  refine V_int hS.1 ?_
  refine E_istore2 (q := 7) dX6_remove_6 rfl rfl ?_
  refine E_aload0 (q := 8) dX6_remove_7 rfl ?_
  refine E_iload1 (q := 9) dX6_remove_8 rfl ?_
  refine C_V1I (q := 12) lk_X6_104 (sp_X6_placeOf hI.1 hI.2.1 hI.2.2.1 hs16 ht) rc_X6 dX6_remove_9 (by decide) (Nat.le_of_ble_eq_true rfl) rfl ?_
  refine E_istore3 (q := 13) dX6_remove_12 rfl rfl ?_
  have q := hmain (plc A s) (by omega) (Nat.le_refl _)
  rw [shF_0] at q
  exact q
theorem sp_X6_canRemove {m : Nat} (h : RI M wx A) (hm : m < 2 ^ 31) (hth : ∀ s, s < 16 → m.testBit s = true → th A s) : Spec D 6 yX6_canRemove cfX6_canRemove [.ref (ad 157), .int (nI (m))] (wl D ad M) 0 0 (PI (zI (∀ s, s < 16 → m.testBit s = true → whyN A s = 0)) (wl D ad M)) := by
  refine Spec.of (by decide) rfl (Nat.le_of_ble_eq_true rfl) rfl ?_
  have hmain : V D cfX6_canRemove (rmOf 6 0 0) (QM D (PI (zI (∀ s, s < 16 → m.testBit s = true → whyN A s = 0)) (wl D ad M)) 0 0) 0 0 2 [some (.ref (ad 157)), some (.int (nI (m))), some (.int (nI (0)))] [] (wl D ad M) := by
    refine (upto0 (n := 16) (P := fun i => (∀ s, s < i → m.testBit s = true → whyN A s = 0) → V D cfX6_canRemove (rmOf 6 0 0) (QM D (PI (zI (∀ s, s < 16 → m.testBit s = true → whyN A s = 0)) (wl D ad M)) 0 0) 0 0 2 [some (.ref (ad 157)), some (.int (nI (m))), some (.int (nI (i)))] [] (wl D ad M)) ?_ ?_) (fun j hj => absurd hj (by omega))
    · intro hno
      refine E_iload2 (q := 3) dX6_canRemove_2 rfl ?_
      refine E_bipush (v := nI 16) (q := 5) dX6_canRemove_3 (by decide) rfl ?_
      refine E_icmp_geN (tgt := 32) (q := 8) dX6_canRemove_5 (by decide) rfl (by omega) (by omega) (fun h5 => ?_) (fun h5 => ?_)
      · skip
        refine E_iconst (v := nI 1) (q := 33) dX6_canRemove_32 (by decide) rfl ?_
        exact E_zreturn rfl rfl rfl dX6_canRemove_33 (PI_of (zI_t hno) rfl)
      · skip
        exact absurd h5 (by omega)
    · intro i hi ih hno
      have hwl : whyN A i < 2 ^ 31 := by unfold whyN; split <;> (try split) <;> omega
      refine E_iload2 (q := 3) dX6_canRemove_2 rfl ?_
      refine E_bipush (v := nI 16) (q := 5) dX6_canRemove_3 (by decide) rfl ?_
      refine E_icmp_geN (tgt := 32) (q := 8) dX6_canRemove_5 (by decide) rfl (by omega) (by omega) (fun h5 => ?_) (fun h5 => ?_)
      · skip
        exact absurd h5 (by omega)
      · skip
        refine E_iload1 (q := 9) dX6_canRemove_8 rfl ?_
        refine E_iload2 (q := 10) dX6_canRemove_9 rfl ?_
        refine C_S2I (q := 13) lk_X6_101 (sp_X6_has hm (by omega)) dX6_canRemove_10 (by decide) (Nat.le_of_ble_eq_true rfl) rfl ?_
        refine E_if_eq (tgt := 26) (q := 16) dX6_canRemove_13 (by decide) rfl (fun h13 => ?_) (fun h13 => ?_)
        · skip
          refine E_iinc2 (q := 29) dX6_canRemove_26 (nI_inc _) rfl rfl ?_
          refine E_goto (q := 2) dX6_canRemove_29 (by decide) ?_
          exact ih (fun s hs hb => by rcases Nat.lt_or_ge s i with q | q; exact hno s q hb; rw [show s = i by omega] at hb; exact absurd hb (zI_0 h13))
        · skip
          refine E_aload0 (q := 17) dX6_canRemove_16 rfl ?_
          refine E_iload2 (q := 18) dX6_canRemove_17 rfl ?_
          refine C_V1I (q := 21) lk_X6_159 (sp_X6_why h hi (hth i hi (zI_n h13))) rc_X6 dX6_canRemove_18 (by decide) (Nat.le_of_ble_eq_true rfl) rfl ?_
          refine E_if_eq (tgt := 26) (q := 24) dX6_canRemove_21 (by decide) rfl (fun h21 => ?_) (fun h21 => ?_)
          · skip
            refine E_iinc2 (q := 29) dX6_canRemove_26 (nI_inc _) rfl rfl ?_
            refine E_goto (q := 2) dX6_canRemove_29 (by decide) ?_
            exact ih (fun s hs hb => by rcases Nat.lt_or_ge s i with q | q; exact hno s q hb; rw [show s = i by omega]; exact (nI_z hwl).mp h21)
          · skip
            refine E_iconst (v := nI 0) (q := 25) dX6_canRemove_24 (by decide) rfl ?_
            exact E_zreturn rfl rfl rfl dX6_canRemove_25 (PI_of (zI_f (fun z => h21 ((nI_z hwl).mpr (z i hi (zI_n h13))))) rfl)
  refine E_iconst (v := nI 0) (q := 1) dX6_canRemove_0 (by decide) rfl ?_
  refine E_istore2 (q := 2) dX6_canRemove_1 rfl rfl ?_
  exact hmain
theorem sp_X6_removeAll {m : Nat} (hw : WX M wx) (hR : RowIs f A) (hA : WF A) (hm : m < 2 ^ 16) (hth : ∀ s, m.testBit s = true → th A s) (hwh : ∀ s, s < 16 → m.testBit s = true → whyN A s = 0) : Spec D 5 yX6_removeAll cfX6_removeAll [.ref (ad 157), .int (nI (m))] (wl D ad (row2 M wx f)) 0 0 (PY (RW D ad M wx (remA A m))) := by
  refine Spec.of (by decide) rfl (Nat.le_of_ble_eq_true rfl) rfl ?_
  have hr := hw.all
  have hlow : ∀ i, lowM m i < 2 ^ 16 := fun i => Nat.lt_of_le_of_lt (Nat.mod_le _ _) hm
  have hmain : ∀ f, RowIs f (remA A (lowM m 0)) → V D cfX6_removeAll (rmOf 5 0 0) (QM D (PY (RW D ad M wx (remA A m))) 0 0) 0 0 2 [some (.ref (ad 157)), some (.int (nI (m))), some (.int (nI (0)))] [] (wl D ad (row2 M wx f)) := by
    refine upto0 (n := 16) (P := fun i => ∀ f, RowIs f (remA A (lowM m i)) → V D cfX6_removeAll (rmOf 5 0 0) (QM D (PY (RW D ad M wx (remA A m))) 0 0) 0 0 2 [some (.ref (ad 157)), some (.int (nI (m))), some (.int (nI (i)))] [] (wl D ad (row2 M wx f))) ?_ ?_
    · intro f hf
      rw [lowM_all hm] at hf
      refine E_iload2 (q := 3) dX6_removeAll_2 rfl ?_
      refine E_bipush (v := nI 16) (q := 5) dX6_removeAll_3 (by decide) rfl ?_
      refine E_icmp_geN (tgt := 27) (q := 8) dX6_removeAll_5 (by decide) rfl (by omega) (by omega) (fun h5 => ?_) (fun h5 => ?_)
      · skip
        exact E_vreturn rfl rfl dX6_removeAll_27 ⟨rfl, _, hf, rfl⟩
      · skip
        exact absurd h5 (by omega)
    · intro i hi ih f hf
      have hA' : WF (remA A (lowM m i)) := remA_WF hA (mayGo_snp (hlow i) (fun s hs hb => hwh s hs (lowM_bit.mp hb).2))
      refine E_iload2 (q := 3) dX6_removeAll_2 rfl ?_
      refine E_bipush (v := nI 16) (q := 5) dX6_removeAll_3 (by decide) rfl ?_
      refine E_icmp_geN (tgt := 27) (q := 8) dX6_removeAll_5 (by decide) rfl (by omega) (by omega) (fun h5 => ?_) (fun h5 => ?_)
      · skip
        exact absurd h5 (by omega)
      · skip
        refine E_iload1 (q := 9) dX6_removeAll_8 rfl ?_
        refine E_iload2 (q := 10) dX6_removeAll_9 rfl ?_
        refine C_S2I (q := 13) lk_X6_101 (sp_X6_has (Nat.lt_trans hm (by decide)) (by omega)) dX6_removeAll_10 (by decide) (Nat.le_of_ble_eq_true rfl) rfl ?_
        refine E_if_eq (tgt := 21) (q := 16) dX6_removeAll_13 (by decide) rfl (fun h13 => ?_) (fun h13 => ?_)
        · skip
          rw [lowM_off (zI_0 h13)] at hf
          refine E_iinc2 (q := 24) dX6_removeAll_21 (nI_inc _) rfl rfl ?_
          refine E_goto (q := 2) dX6_removeAll_24 (by decide) ?_
          exact ih f hf
        · skip
          refine E_aload0 (q := 17) dX6_removeAll_16 rfl ?_
          refine E_iload2 (q := 18) dX6_removeAll_17 rfl ?_
          refine C_V1Y (q := 21) lk_X6_195 (sp_X6_remove hw hf hA' hi (remA_th.mpr ⟨hth i (zI_n h13), fun z => by have := (lowM_bit.mp z).1; omega⟩)) rc_X6 dX6_removeAll_18 (by decide) (Nat.le_of_ble_eq_true rfl) rfl ?_
          refine kkRW ?_
          intro f1 hf1
          rw [remA_or hA, lowM_on (zI_n h13)] at hf1
          refine E_iinc2 (q := 24) dX6_removeAll_21 (nI_inc _) rfl rfl ?_
          refine E_goto (q := 2) dX6_removeAll_24 (by decide) ?_
          exact ih f1 hf1
  refine E_iconst (v := nI 0) (q := 1) dX6_removeAll_0 (by decide) rfl ?_
  refine E_istore2 (q := 2) dX6_removeAll_1 rfl rfl ?_
  exact hmain f (by rw [lowM_0, remA_0 hA]; exact hR)
end MODEL
