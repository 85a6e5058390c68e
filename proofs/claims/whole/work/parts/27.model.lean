

/-! ROWS OF THE REFERENCE under single changes, whole volumes, rolling back -/
section ROWS
variable {A : AS} {f : Nat → Int32}
theorem RowIs.hldR {s b : Nat} (hR : RowIs f A) (hs : s < 16) : RowIs (upd f (131 + 5 * s + 3) (nI b)) (hldA A s b) := by
  have hT : ∀ i j, ¬ (i = 4 ∧ j = s) → (hldA A s b).1 i j = A.1 i j := fun i j hn => ts_ne hn
  have hT0 : (hldA A s b).1 4 (s) = b := ts_eq
  have hth : ∀ w, th (hldA A s b) w ↔ th A w := fun w => by unfold th; rw [hT 1 w (by omega)]
  have hrow : ∀ y, rowL (hldA A s b) y = rowL A y := fun y => rowL_congr fun t ht => by rw [hth]; unfold home; rw [hT 2 t (by omega)]
  obtain ⟨⟨c0, c1, c2, c3, c4⟩, r1, r2, r3, r4, r5⟩ := hR
  refine ⟨⟨?_, ?_, ?_, ?_, ?_⟩, ?_, ?_, ?_, ?_, ?_⟩
  · unfold aP
    rw [hT 0 3 (by omega), upd_ne (by omega)]; exact c0
  · unfold aC
    rw [hT 0 4 (by omega), upd_ne (by omega)]; exact c1
  · unfold aT
    rw [hT 0 0 (by omega), upd_ne (by omega)]; exact c2
  · unfold aV
    rw [hT 0 1 (by omega), upd_ne (by omega)]; exact c3
  · unfold aS
    rw [hT 0 2 (by omega), upd_ne (by omega)]; exact c4
  · intro u hu; rw [upd_ne (by omega), r1 u hu, hT 1 _ (by omega)]
  · intro t ht16; rw [upd_ne (by omega), r2 t ht16, hT 1 _ (by omega)]
  · intro u hu hut
    obtain ⟨d1, d2, d3, d4, d5⟩ := r3 u hu ((hth _).mp hut)
    have hl := rowL_len A u
    rw [hrow]
    refine ⟨?_, ?_, ?_, ?_, fun k s hk => ?_⟩
    · unfold org; rw [hT 5 u (by omega), upd_ne (by omega)]; exact d1
    · unfold quo; rw [hT 6 u (by omega), upd_ne (by omega)]; exact d2
    · unfold vnm; rw [hT 8 u (by omega), upd_ne (by omega)]; exact d3
    · rw [upd_ne (by omega)]; exact d4
    · have := (List.getElem?_eq_some_iff.mp hk).1
      rw [upd_ne (by omega)]; exact d5 k s hk
  · intro t ht16 htt
    obtain ⟨d1, d2, d3, d4⟩ := r4 t ht16 ((hth _).mp htt)
    refine ⟨?_, ?_, ?_, ?_⟩
    · unfold home; rw [hT 2 t (by omega), upd_ne (by omega)]; exact d1
    · unfold stm; rw [hT 3 t (by omega), upd_ne (by omega)]; exact d2
    · by_cases e : t = s
      · rw [e]; exact upd_eq.trans (congrArg nI hT0.symm)
      · rw [hT 4 t (by omega), upd_ne (by omega)]; exact d3
    · unfold snm; rw [hT 7 t (by omega), upd_ne (by omega)]; exact d4
  · intro w a hw ha
    rw [show (hldA A s b).2 = A.2 from rfl, upd_ne (by omega), upd_ne (by omega)]; exact r5 w a hw ha
theorem RowIs.quoR {v q : Nat} (hR : RowIs f A) (hv : v < 6) : RowIs (upd f (5 + 21 * v + 2) (nI q)) (quoA A v q) := by
  have hT : ∀ i j, ¬ (i = 6 ∧ j = v) → (quoA A v q).1 i j = A.1 i j := fun i j hn => ts_ne hn
  have hT0 : (quoA A v q).1 6 (v) = q := ts_eq
  have hth : ∀ w, th (quoA A v q) w ↔ th A w := fun w => by unfold th; rw [hT 1 w (by omega)]
  have hrow : ∀ y, rowL (quoA A v q) y = rowL A y := fun y => rowL_congr fun t ht => by rw [hth]; unfold home; rw [hT 2 t (by omega)]
  obtain ⟨⟨c0, c1, c2, c3, c4⟩, r1, r2, r3, r4, r5⟩ := hR
  refine ⟨⟨?_, ?_, ?_, ?_, ?_⟩, ?_, ?_, ?_, ?_, ?_⟩
  · unfold aP
    rw [hT 0 3 (by omega), upd_ne (by omega)]; exact c0
  · unfold aC
    rw [hT 0 4 (by omega), upd_ne (by omega)]; exact c1
  · unfold aT
    rw [hT 0 0 (by omega), upd_ne (by omega)]; exact c2
  · unfold aV
    rw [hT 0 1 (by omega), upd_ne (by omega)]; exact c3
  · unfold aS
    rw [hT 0 2 (by omega), upd_ne (by omega)]; exact c4
  · intro u hu; rw [upd_ne (by omega), r1 u hu, hT 1 _ (by omega)]
  · intro t ht16; rw [upd_ne (by omega), r2 t ht16, hT 1 _ (by omega)]
  · intro u hu hut
    obtain ⟨d1, d2, d3, d4, d5⟩ := r3 u hu ((hth _).mp hut)
    have hl := rowL_len A u
    rw [hrow]
    refine ⟨?_, ?_, ?_, ?_, fun k s hk => ?_⟩
    · unfold org; rw [hT 5 u (by omega), upd_ne (by omega)]; exact d1
    · by_cases e : u = v
      · rw [e]; exact upd_eq.trans (congrArg nI hT0.symm)
      · unfold quo; rw [hT 6 u (by omega), upd_ne (by omega)]; exact d2
    · unfold vnm; rw [hT 8 u (by omega), upd_ne (by omega)]; exact d3
    · rw [upd_ne (by omega)]; exact d4
    · have := (List.getElem?_eq_some_iff.mp hk).1
      rw [upd_ne (by omega)]; exact d5 k s hk
  · intro t ht16 htt
    obtain ⟨d1, d2, d3, d4⟩ := r4 t ht16 ((hth _).mp htt)
    refine ⟨?_, ?_, ?_, ?_⟩
    · unfold home; rw [hT 2 t (by omega), upd_ne (by omega)]; exact d1
    · unfold stm; rw [hT 3 t (by omega), upd_ne (by omega)]; exact d2
    · rw [hT 4 t (by omega), upd_ne (by omega)]; exact d3
    · unfold snm; rw [hT 7 t (by omega), upd_ne (by omega)]; exact d4
  · intro w a hw ha
    rw [show (quoA A v q).2 = A.2 from rfl, upd_ne (by omega), upd_ne (by omega)]; exact r5 w a hw ha
theorem RowIs.setR {k x : Nat} (hR : RowIs f A) (hk : k < 2) : RowIs (upd f (k) (nI x)) (setA A k x) := by
  have hT : ∀ i j, ¬ (i = 0 ∧ j = 3 + k) → (setA A k x).1 i j = A.1 i j := fun i j hn => ts_ne hn
  have hT0 : (setA A k x).1 0 (3 + k) = x := ts_eq
  have hth : ∀ w, th (setA A k x) w ↔ th A w := fun w => by unfold th; rw [hT 1 w (by omega)]
  have hrow : ∀ y, rowL (setA A k x) y = rowL A y := fun y => rowL_congr fun t ht => by rw [hth]; unfold home; rw [hT 2 t (by omega)]
  obtain ⟨⟨c0, c1, c2, c3, c4⟩, r1, r2, r3, r4, r5⟩ := hR
  refine ⟨⟨?_, ?_, ?_, ?_, ?_⟩, ?_, ?_, ?_, ?_, ?_⟩
  · unfold aP
    by_cases e : 3 = 3 + k
    · obtain rfl : k = 0 := by omega
      exact upd_eq.trans (congrArg nI hT0.symm)
    · rw [hT 0 3 (by omega), upd_ne (by omega)]; exact c0
  · unfold aC
    by_cases e : 4 = 3 + k
    · obtain rfl : k = 1 := by omega
      exact upd_eq.trans (congrArg nI hT0.symm)
    · rw [hT 0 4 (by omega), upd_ne (by omega)]; exact c1
  · unfold aT
    by_cases e : 0 = 3 + k
    · omega
    · rw [hT 0 0 (by omega), upd_ne (by omega)]; exact c2
  · unfold aV
    by_cases e : 1 = 3 + k
    · omega
    · rw [hT 0 1 (by omega), upd_ne (by omega)]; exact c3
  · unfold aS
    by_cases e : 2 = 3 + k
    · omega
    · rw [hT 0 2 (by omega), upd_ne (by omega)]; exact c4
  · intro u hu; rw [upd_ne (by omega), r1 u hu, hT 1 _ (by omega)]
  · intro t ht16; rw [upd_ne (by omega), r2 t ht16, hT 1 _ (by omega)]
  · intro u hu hut
    obtain ⟨d1, d2, d3, d4, d5⟩ := r3 u hu ((hth _).mp hut)
    have hl := rowL_len A u
    rw [hrow]
    refine ⟨?_, ?_, ?_, ?_, fun k s hk => ?_⟩
    · unfold org; rw [hT 5 u (by omega), upd_ne (by omega)]; exact d1
    · unfold quo; rw [hT 6 u (by omega), upd_ne (by omega)]; exact d2
    · unfold vnm; rw [hT 8 u (by omega), upd_ne (by omega)]; exact d3
    · rw [upd_ne (by omega)]; exact d4
    · have := (List.getElem?_eq_some_iff.mp hk).1
      rw [upd_ne (by omega)]; exact d5 k s hk
  · intro t ht16 htt
    obtain ⟨d1, d2, d3, d4⟩ := r4 t ht16 ((hth _).mp htt)
    refine ⟨?_, ?_, ?_, ?_⟩
    · unfold home; rw [hT 2 t (by omega), upd_ne (by omega)]; exact d1
    · unfold stm; rw [hT 3 t (by omega), upd_ne (by omega)]; exact d2
    · rw [hT 4 t (by omega), upd_ne (by omega)]; exact d3
    · unfold snm; rw [hT 7 t (by omega), upd_ne (by omega)]; exact d4
  · intro w a hw ha
    rw [show (setA A k x).2 = A.2 from rfl, upd_ne (by omega), upd_ne (by omega)]; exact r5 w a hw ha
/-- the same table, other blocks -/
theorem RowIs.blks {B : AS} {w : Nat} {bs us : Nat → Int32} (hR : RowIs f A) (hw : w < 22) (e : B.1 = A.1) (hb : ∀ a, a < 12 → bs a = nI (bAt B.2 w a) ∧ us a = nI (uAt B.2 w a)) (ho : ∀ x a, x ≠ w → bAt B.2 x a = bAt A.2 x a ∧ uAt B.2 x a = uAt A.2 x a) : RowIs (layF f w bs us 12) B := by
  obtain ⟨T, bl⟩ := B
  have e : T = A.1 := e
  subst e
  obtain ⟨⟨c0, c1, c2, c3, c4⟩, r1, r2, r3, r4, r5⟩ := hR
  have out : ∀ j, j < 211 → layF f w bs us 12 j = f j := fun j hj => layF_ne (by omega) (by omega)
  refine ⟨⟨(out _ (by omega)).trans c0, (out _ (by omega)).trans c1, (out _ (by omega)).trans c2, (out _ (by omega)).trans c3, (out _ (by omega)).trans c4⟩, fun v hv => (out _ (by omega)).trans (r1 v hv), fun s hs => (out _ (by omega)).trans (r2 s hs), fun v hv ht => ?_, fun s hs ht => ?_, fun x a hx ha => ?_⟩
  · obtain ⟨d1, d2, d3, d4, d5⟩ := r3 v hv ht
    refine ⟨(out _ (by omega)).trans d1, (out _ (by omega)).trans d2, (out _ (by omega)).trans d3, (out _ (by omega)).trans d4, fun k s hk => ?_⟩
    have := (List.getElem?_eq_some_iff.mp hk).1
    have hl : (rowL (A.1, bl) v).length ≤ 16 := rowL_len _ v
    exact (out _ (by omega)).trans (d5 k s hk)
  · obtain ⟨d1, d2, d3, d4⟩ := r4 s hs ht
    exact ⟨(out _ (by omega)).trans d1, (out _ (by omega)).trans d2, (out _ (by omega)).trans d3, (out _ (by omega)).trans d4⟩
  · by_cases e : x = w
    · subst e
      rw [layF_b ha, layF_u hw ha (by omega)]
      exact hb a ha
    · rw [layF_ne (by omega) (by omega), layF_ne (by omega) (by omega), (ho x a e).1, (ho x a e).2]
      exact r5 x a hx ha
theorem rel_live (h : WF A) (m : Nat) (w a : Nat) : bAt (relB A.2 (fun _ => m)) w a = (if m.testBit w = true then 0 else bAt A.2 w a) ∧ uAt (relB A.2 (fun _ => m)) w a = (if m.testBit w = true then 0 else uAt A.2 w a) := rel_bu (bl := A.2) (fun x hx => (h.2.2.2 x hx).2.2.2.2.2.2.1) (fun _ => m) w a
theorem RowIs.rol {s : Nat} (h : WF A) (hs : s < 16) (ht : th A s) (hR : RowIs f (remA A (rowB A s))) : RowIs (layF f (16 + home A s) (fun a => f (211 + 12 * s + a)) (fun a => f (475 + 12 * s + a)) 12) (rolA A s) := by
  have hv := h.hv6 hs ht
  have hsb : ¬ (rowB A s).testBit s = true := fun z => by have := rowB_bit.mp z; omega
  have hlb : ¬ (rowB A s).testBit (16 + home A s) = true := fun z => by have := lt16_bit rowB_lt z; omega
  have hno : ∀ x, x ∈ relB A.2 (fun _ => rowB A s ||| 2 ^ (16 + home A s)) → ¬ (own x).testBit (16 + home A s) = true := fun x hx z => by
    obtain ⟨y, hy, -, -, -, e4, -⟩ := rel_mem (g := fun _ => rowB A s ||| 2 ^ (16 + home A s)) (bl := A.2) hx
    rw [e4, andn_bit (Nat.lt_trans (h.2.2.2 y hy).2.2.2.2.2.2.1 (by decide))] at z
    exact z.2 (or_bit.mpr (Or.inr (pow_bit.mpr rfl)))
  have hl := fun w a => lend_bu (f := s) hno w a
  have hr := fun w a => rel_live h (rowB A s ||| 2 ^ (16 + home A s)) w a
  have hr0 := fun w a => rel_live h (rowB A s) w a
  have hso : ¬ (rowB A s ||| 2 ^ (16 + home A s)).testBit s = true := fun z => by
    rcases or_bit.mp z with z | z
    · exact hsb z
    · have := pow_bit.mp z; omega
  refine hR.blks (B := rolA A s) (by omega) rfl (fun a ha => ?_) (fun x a hx => ?_)
  · show f _ = nI (bAt (lendB _ _ _) _ _) ∧ f _ = nI (uAt (lendB _ _ _) _ _)
    rw [(hl _ a).1, (hl _ a).2, if_pos rfl, (hr s a).1, (hr s a).2, if_neg hso, if_neg hso, hR.bth (by omega) ha, hR.unt (by omega) ha]
    show nI (bAt (relB A.2 (fun _ => rowB A s)) s a) = _ ∧ nI (uAt (relB A.2 (fun _ => rowB A s)) s a) = _
    rw [(hr0 s a).1, (hr0 s a).2, if_neg hsb, if_neg hsb]
    exact ⟨rfl, rfl⟩
  · show bAt (lendB _ _ _) _ _ = bAt (relB A.2 (fun _ => rowB A s)) _ _ ∧ uAt (lendB _ _ _) _ _ = uAt (relB A.2 (fun _ => rowB A s)) _ _
    rw [(hl _ a).1, (hl _ a).2, if_neg hx, (hr x a).1, (hr x a).2, (hr0 x a).1, (hr0 x a).2]
    have e : (rowB A s ||| 2 ^ (16 + home A s)).testBit x = true ↔ (rowB A s).testBit x = true := by
      rw [or_bit, pow_bit]
      exact ⟨fun z => z.elim id (fun z => absurd z.symm hx), Or.inl⟩
    by_cases c : (rowB A s).testBit x = true
    · rw [if_pos (e.mpr c), if_pos c, if_pos (e.mpr c), if_pos c]; exact ⟨rfl, rfl⟩
    · rw [if_neg (fun z => c (e.mp z)), if_neg c, if_neg (fun z => c (e.mp z)), if_neg c]; exact ⟨rfl, rfl⟩
theorem RowIs.remV {v : Nat} (h : WF A) (hv : v < 6) (ht : th A (16 + v)) (hR : RowIs f (remA A (rowM A v))) : RowIs (layF (upd f (5 + 21 * v + 0) (nI 0)) (16 + v) (fun _ => nI 0) (fun _ => nI 0) 12) (remA A (volS A v)) := by
  have hvb : ¬ (rowM A v).testBit (16 + v) = true := fun z => by have := lt16_bit rowM_lt z; omega
  have hS : ∀ w, (volS A v).testBit w = true ↔ (rowM A v).testBit w = true ∨ w = 16 + v := fun w => by
    unfold volS
    rw [or_bit, pow_bit]
    exact ⟨fun z => z.imp id Eq.symm, fun z => z.imp id Eq.symm⟩
  have hth : ∀ w, th (remA A (volS A v)) w ↔ th (remA A (rowM A v)) w ∧ w ≠ 16 + v := fun w => by
    rw [remA_th, remA_th, hS]
    constructor
    · rintro ⟨q, r⟩; exact ⟨⟨q, fun z => r (Or.inl z)⟩, fun z => r (Or.inr z)⟩
    · rintro ⟨⟨q, r⟩, t⟩; exact ⟨q, fun z => z.elim r t⟩
  have hrow : ∀ u, rowL (remA A (volS A v)) u = rowL (remA A (rowM A v)) u := fun u => rowL_congr fun t ht16 => by
    rw [hth, show home (remA A (volS A v)) t = home A t from remA_col (by omega), show home (remA A (rowM A v)) t = home A t from remA_col (by omega)]
    constructor
    · rintro ⟨⟨q, -⟩, r⟩; exact ⟨q, r⟩
    · rintro ⟨q, r⟩; exact ⟨⟨q, by omega⟩, r⟩
  have hc : ∀ i j, i ≠ 1 → (remA A (volS A v)).1 i j = (remA A (rowM A v)).1 i j := fun i j hi => by rw [remA_col hi, remA_col hi]
  have h1 : ∀ w, w ≠ 16 + v → (remA A (volS A v)).1 1 w = (remA A (rowM A v)).1 1 w := fun w hw => by
    show dropT A.1 (volS A v) 1 w = dropT A.1 (rowM A v) 1 w
    unfold dropT
    by_cases c : (rowM A v).testBit w = true
    · rw [if_pos ⟨rfl, (hS w).mpr (Or.inl c)⟩, if_pos ⟨rfl, c⟩]
    · rw [if_neg (fun z => ((hS w).mp z.2).elim c hw), if_neg (fun z => c z.2)]
  obtain ⟨⟨c0, c1, c2, c3, c4⟩, r1, r2, r3, r4, r5⟩ := hR
  have out : ∀ j, j < 211 → j ≠ 5 + 21 * v → layF (upd f (5 + 21 * v + 0) (nI 0)) (16 + v) (fun _ => nI 0) (fun _ => nI 0) 12 j = f j := fun j h1 h2 => by
    rw [layF_ne (by omega) (by omega), upd_ne (by omega)]
  refine ⟨⟨?_, ?_, ?_, ?_, ?_⟩, ?_, ?_, ?_, ?_, ?_⟩
  · rw [out 0 (by omega) (by omega), c0]; unfold aP; rw [hc 0 _ (by omega)]
  · rw [out 1 (by omega) (by omega), c1]; unfold aC; rw [hc 0 _ (by omega)]
  · rw [out 2 (by omega) (by omega), c2]; unfold aT; rw [hc 0 _ (by omega)]
  · rw [out 3 (by omega) (by omega), c3]; unfold aV; rw [hc 0 _ (by omega)]
  · rw [out 4 (by omega) (by omega), c4]; unfold aS; rw [hc 0 _ (by omega)]
  · intro u hu
    by_cases e : u = v
    · subst e
      rw [layF_ne (by omega) (by omega)]
      refine (upd_eq (k := 5 + 21 * u + 0)).trans (congrArg nI ?_)
      exact (show (remA A (volS A u)).1 1 (16 + u) = 0 from if_pos ⟨rfl, (hS _).mpr (Or.inr rfl)⟩).symm
    · rw [out _ (by omega) (by omega), r1 u hu, h1 _ (by omega)]
  · intro s hs; rw [out _ (by omega) (by omega), r2 s hs, h1 _ (by omega)]
  · intro u hu hut
    have q := (hth _).mp hut
    obtain ⟨d1, d2, d3, d4, d5⟩ := r3 u hu q.1
    have hl := rowL_len (remA A (rowM A v)) u
    have hne : u ≠ v := by omega
    rw [hrow]
    unfold org quo vnm
    rw [hc 5 u (by omega), hc 6 u (by omega), hc 8 u (by omega), out _ (by omega) (by omega), out _ (by omega) (by omega), out _ (by omega) (by omega), out _ (by omega) (by omega)]
    refine ⟨d1, d2, d3, d4, fun k s hk => ?_⟩
    have := (List.getElem?_eq_some_iff.mp hk).1
    rw [out _ (by omega) (by omega)]
    exact d5 k s hk
  · intro s hs hst
    have q := (hth _).mp hst
    obtain ⟨d1, d2, d3, d4⟩ := r4 s hs q.1
    unfold home stm snm
    rw [hc 2 s (by omega), hc 3 s (by omega), hc 4 s (by omega), hc 7 s (by omega), out _ (by omega) (by omega), out _ (by omega) (by omega), out _ (by omega) (by omega), out _ (by omega) (by omega)]
    exact ⟨d1, d2, d3, d4⟩
  · intro w a hw ha
    have hr := rel_live h (volS A v) w a
    have hr0 := rel_live h (rowM A v) w a
    rw [show (remA A (volS A v)).2 = relB A.2 (fun _ => volS A v) from rfl, hr.1, hr.2]
    by_cases e : w = 16 + v
    · subst e
      rw [if_pos ((hS _).mpr (Or.inr rfl)), if_pos ((hS _).mpr (Or.inr rfl)), layF_b ha, layF_u (by omega) ha (by omega)]
      exact ⟨rfl, rfl⟩
    · have q := r5 w a hw ha
      rw [show (remA A (rowM A v)).2 = relB A.2 (fun _ => rowM A v) from rfl, hr0.1, hr0.2] at q
      rw [layF_ne (by omega) (by omega), layF_ne (by omega) (by omega), upd_ne (by omega), upd_ne (by omega), q.1, q.2]
      by_cases c : (rowM A v).testBit w = true
      · rw [if_pos c, if_pos ((hS w).mpr (Or.inl c)), if_pos c, if_pos ((hS w).mpr (Or.inl c))]; exact ⟨rfl, rfl⟩
      · have c' : ¬ (volS A v).testBit w = true := fun z => ((hS w).mp z).elim c e
        rw [if_neg c, if_neg c', if_neg c, if_neg c']; exact ⟨rfl, rfl⟩
end ROWS
