

/-! THE REFERENCE makes snapshots and blocks -/
section ROWS
variable {A : AS} {f : Nat → Int32}
def snpG (f : Nat → Int32) (s t : Nat) (v n : Int32) : Nat → Int32 := upd (upd (upd (upd (upd (upd f 2 (nI t)) (131 + 5 * s + 0) (nI 1)) (131 + 5 * s + 1) v) (131 + 5 * s + 2) (nI t)) (131 + 5 * s + 3) (nI 0)) (131 + 5 * s + 4) n
theorem snpG_ne {s t j : Nat} {v n : Int32} (h2 : j ≠ 2) (h : ¬ (131 + 5 * s ≤ j ∧ j < 131 + 5 * s + 5)) : snpG f s t v n j = f j := by
  unfold snpG
  rw [upd_ne (by omega), upd_ne (by omega), upd_ne (by omega), upd_ne (by omega), upd_ne (by omega), upd_ne h2]
theorem snpG_in {s t : Nat} {v n : Int32} : snpG f s t v n 2 = nI t ∧ snpG f s t v n (131 + 5 * s) = nI 1 ∧ snpG f s t v n (131 + 5 * s + 1) = v ∧ snpG f s t v n (131 + 5 * s + 2) = nI t ∧ snpG f s t v n (131 + 5 * s + 3) = nI 0 ∧ snpG f s t v n (131 + 5 * s + 4) = n := by
  unfold snpG
  refine ⟨?_, ?_, ?_, ?_, ?_, upd_eq⟩
  · rw [upd_ne (by omega), upd_ne (by omega), upd_ne (by omega), upd_ne (by omega), upd_ne (by omega)]; exact upd_eq
  · rw [upd_ne (by omega), upd_ne (by omega), upd_ne (by omega), upd_ne (by omega)]; exact upd_eq
  · rw [upd_ne (by omega), upd_ne (by omega), upd_ne (by omega)]; exact upd_eq
  · rw [upd_ne (by omega), upd_ne (by omega)]; exact upd_eq
  · rw [upd_ne (by omega)]; exact upd_eq
def snpF (f : Nat → Int32) (s t l u : Nat) (v n : Int32) (bs us : Nat → Int32) : Nat → Int32 :=
  upd (upd (upd (layF (snpG f s t v n) s bs us 12) (5 + 21 * u + (5 + l)) (nI s)) (5 + 21 * u + 4) (nI (l + 1))) 4 (nI (s + 1))
theorem snpF_out {s t l u j : Nat} {v n : Int32} {bs us : Nat → Int32} (h1 : j ≠ 2 ∧ j ≠ 4) (h2 : ¬ (131 + 5 * s ≤ j ∧ j < 131 + 5 * s + 5)) (h3 : ¬ (211 + 12 * s ≤ j ∧ j < 211 + 12 * s + 12)) (h4 : ¬ (475 + 12 * s ≤ j ∧ j < 475 + 12 * s + 12)) (h5 : j ≠ 5 + 21 * u + (5 + l) ∧ j ≠ 5 + 21 * u + 4) : snpF f s t l u v n bs us j = f j := by
  unfold snpF
  rw [upd_ne h1.2, upd_ne h5.2, upd_ne h5.1, layF_ne h3 h4, snpG_ne h1.1 h2]
theorem snpF_in {s t l u : Nat} {v n : Int32} {bs us : Nat → Int32} (hs : s < 16) (hu : u < 6) (hl : l < 16) :
    snpF f s t l u v n bs us 2 = nI t ∧ snpF f s t l u v n bs us 4 = nI (s + 1) ∧ snpF f s t l u v n bs us (131 + 5 * s) = nI 1 ∧ snpF f s t l u v n bs us (131 + 5 * s + 1) = v ∧ snpF f s t l u v n bs us (131 + 5 * s + 2) = nI t ∧ snpF f s t l u v n bs us (131 + 5 * s + 3) = nI 0 ∧ snpF f s t l u v n bs us (131 + 5 * s + 4) = n ∧ snpF f s t l u v n bs us (5 + 21 * u + 4) = nI (l + 1) ∧ snpF f s t l u v n bs us (5 + 21 * u + (5 + l)) = nI s := by
  have hin := snpG_in (f := f) (s := s) (t := t) (v := v) (n := n)
  unfold snpF
  refine ⟨?_, upd_eq, ?_, ?_, ?_, ?_, ?_, ?_, ?_⟩
  · rw [upd_ne (by omega), upd_ne (by omega), upd_ne (by omega), layF_ne (by omega) (by omega)]; exact hin.1
  · rw [upd_ne (by omega), upd_ne (by omega), upd_ne (by omega), layF_ne (by omega) (by omega)]; exact hin.2.1
  · rw [upd_ne (by omega), upd_ne (by omega), upd_ne (by omega), layF_ne (by omega) (by omega)]; exact hin.2.2.1
  · rw [upd_ne (by omega), upd_ne (by omega), upd_ne (by omega), layF_ne (by omega) (by omega)]; exact hin.2.2.2.1
  · rw [upd_ne (by omega), upd_ne (by omega), upd_ne (by omega), layF_ne (by omega) (by omega)]; exact hin.2.2.2.2.1
  · rw [upd_ne (by omega), upd_ne (by omega), upd_ne (by omega), layF_ne (by omega) (by omega)]; exact hin.2.2.2.2.2
  · rw [upd_ne (by omega)]; exact upd_eq
  · rw [upd_ne (by omega), upd_ne (by omega)]; exact upd_eq
theorem snpF_b {s t l u a : Nat} {v n : Int32} {bs us : Nat → Int32} (hs : s < 16) (hu : u < 6) (hl : l < 16) (ha : a < 12) : snpF f s t l u v n bs us (211 + 12 * s + a) = bs a ∧ snpF f s t l u v n bs us (475 + 12 * s + a) = us a := by
  unfold snpF
  rw [upd_ne (by omega), upd_ne (by omega), upd_ne (by omega), layF_b ha, upd_ne (by omega), upd_ne (by omega), upd_ne (by omega), layF_u (by omega) ha (by omega)]
  exact ⟨rfl, rfl⟩
theorem RowIs.snp {v n : Nat} {bs us : Nat → Int32} (hR : RowIs f A) (h : WF A) (hs : aS A < 16) (hv : v < 6) (hvt : th A (16 + v)) (hl : (rowL A v).length < 16)
    (hb : ∀ a, a < 12 → bs a = nI (bAt A.2 (16 + v) a)) (hu : ∀ a, a < 12 → us a = nI (uAt A.2 (16 + v) a)) : RowIs (snpF f (aS A) (aT A + 1) (rowL A v).length v (nI v) (nI n) bs us) (mkSnp A v n) := by
  have hin := snpF_in (f := f) (s := aS A) (t := aT A + 1) (l := (rowL A v).length) (u := v) (v := nI v) (n := nI n) (bs := bs) (us := us) hs hv hl
  obtain ⟨⟨c0, c1, c2, c3, c4⟩, r1, r2, r3, r4, r5⟩ := hR
  have nos := h.nos (Nat.le_refl _) hs
  refine ⟨⟨?_, ?_, ?_, ?_, ?_⟩, ?_, ?_, ?_, ?_, ?_⟩
  · rw [snpF_out (by omega) (by omega) (by omega) (by omega) (by omega), c0]; exact congrArg nI (by simp [aP, mkSnp, ts])
  · rw [snpF_out (by omega) (by omega) (by omega) (by omega) (by omega), c1]; exact congrArg nI (by simp [aC, mkSnp, ts])
  · rw [hin.1]; exact congrArg nI (by simp [aT, mkSnp, ts])
  · rw [snpF_out (by omega) (by omega) (by omega) (by omega) (by omega), c3]; exact congrArg nI (by simp [aV, mkSnp, ts])
  · rw [hin.2.1]; exact congrArg nI (by simp [aS, mkSnp, ts])
  · intro u hu6
    rw [snpF_out (by omega) (by omega) (by omega) (by omega) (by omega), r1 u hu6]
    exact congrArg nI (by simp [mkSnp, ts]; intro z; omega)
  · intro s hs16
    by_cases e : s = aS A
    · subst e; rw [hin.2.2.1]; exact congrArg nI (by simp [mkSnp, ts])
    · rw [snpF_out (by omega) (by omega) (by omega) (by omega) (by omega), r2 s hs16]
      exact congrArg nI (by simp [mkSnp, ts, e])
  · intro u hu6 hut
    have hut' : th A (16 + u) := by
      rcases mkSnp_th.mp hut with q | q
      · exact q
      · omega
    obtain ⟨d1, d2, d3, d4, d5⟩ := r3 u hu6 hut'
    have hlu := rowL_len A u
    refine ⟨?_, ?_, ?_, ?_, ?_⟩
    · rw [snpF_out (by omega) (by omega) (by omega) (by omega) (by omega), d1]; exact congrArg nI (by simp [org, mkSnp, ts])
    · rw [snpF_out (by omega) (by omega) (by omega) (by omega) (by omega), d2]; exact congrArg nI (by simp [quo, mkSnp, ts])
    · rw [snpF_out (by omega) (by omega) (by omega) (by omega) (by omega), d3]; exact congrArg nI (by simp [vnm, mkSnp, ts])
    · rw [mkSnp_row h hs]
      by_cases e : u = v
      · subst e; rw [if_pos rfl, hin.2.2.2.2.2.2.2.1, List.length_append]; rfl
      · rw [if_neg e, snpF_out (by omega) (by omega) (by omega) (by omega) (by omega), d4]
    · intro k s hk
      rw [mkSnp_row h hs] at hk
      by_cases e : u = v
      · subst e
        rw [if_pos rfl] at hk
        by_cases hk' : k < (rowL A u).length
        · rw [List.getElem?_append_left hk'] at hk
          rw [snpF_out (by omega) (by omega) (by omega) (by omega) (by omega)]; exact d5 k s hk
        · rw [List.getElem?_append_right (by omega)] at hk
          have hk0 : k = (rowL A u).length := by
            have := (List.getElem?_eq_some_iff.mp hk).1
            simp at this; omega
          subst hk0
          rw [Nat.sub_self] at hk
          have : aS A = s := by simpa using hk
          rw [hin.2.2.2.2.2.2.2.2, this]
      · rw [if_neg e] at hk
        have := (List.getElem?_eq_some_iff.mp hk).1
        rw [snpF_out (by omega) (by omega) (by omega) (by omega) (by omega)]; exact d5 k s hk
  · intro s hs16 hst
    by_cases e : s = aS A
    · subst e
      refine ⟨?_, ?_, ?_, ?_⟩
      · rw [hin.2.2.2.1, mkSnp_home, if_pos rfl]
      · rw [hin.2.2.2.2.1]; exact congrArg nI (by simp [stm, mkSnp, ts])
      · rw [hin.2.2.2.2.2.1]; exact congrArg nI (by simp [mkSnp, ts])
      · rw [hin.2.2.2.2.2.2.1]; exact congrArg nI (by simp [snm, mkSnp, ts])
    · have hst' : th A s := by
        rcases mkSnp_th.mp hst with q | q
        · exact q
        · exact absurd q e
      obtain ⟨d1, d2, d3, d4⟩ := r4 s hs16 hst'
      refine ⟨?_, ?_, ?_, ?_⟩
      · rw [snpF_out (by omega) (by omega) (by omega) (by omega) (by omega), d1, mkSnp_home, if_neg e]
      · rw [snpF_out (by omega) (by omega) (by omega) (by omega) (by omega), d2]; exact congrArg nI (by simp [stm, mkSnp, ts, e])
      · rw [snpF_out (by omega) (by omega) (by omega) (by omega) (by omega), d3]; exact congrArg nI (by simp [mkSnp, ts, e])
      · rw [snpF_out (by omega) (by omega) (by omega) (by omega) (by omega), d4]; exact congrArg nI (by simp [snm, mkSnp, ts, e])
  · intro w a hw ha
    have hbu := lend_bu (bl := A.2) (f := 16 + v) (t := aS A) (fun x hx z => nos ((h.2.2.2 x hx).2.2.2.2.2.2.2 _ z)) w a
    rw [show (mkSnp A v n).2 = lendB A.2 (16 + v) (aS A) from rfl, hbu.1, hbu.2]
    by_cases e : w = aS A
    · subst e
      rw [if_pos rfl, (snpF_b hs hv hl ha).1, (snpF_b hs hv hl ha).2]
      exact ⟨hb a ha, hu a ha⟩
    · rw [if_neg e, snpF_out (by omega) (by omega) (by omega) (by omega) (by omega), snpF_out (by omega) (by omega) (by omega) (by omega) (by omega)]
      exact r5 w a hw ha
/-- the same table: what the blocks say changes at one place -/
theorem RowIs.blk {B : AS} {t w a : Nat} {b u : Nat} (hR : RowIs f A) (hw : w < 22) (ha : a < 12) (hT : ∀ i j, ¬ (i = 0 ∧ j = 0) → B.1 i j = A.1 i j) (hT0 : aT B = t)
    (hb : bAt B.2 w a = b ∧ uAt B.2 w a = u) (ho : ∀ x c, ¬ (x = w ∧ c = a) → bAt B.2 x c = bAt A.2 x c ∧ uAt B.2 x c = uAt A.2 x c) :
    RowIs (upd (upd (upd f 2 (nI t)) (211 + 12 * w + a) (nI b)) (475 + 12 * w + a) (nI u)) B := by
  obtain ⟨⟨c0, c1, c2, c3, c4⟩, r1, r2, r3, r4, r5⟩ := hR
  have hth : ∀ w, th B w ↔ th A w := fun w => by unfold th; rw [hT 1 w (by omega)]
  have hrow : ∀ v, rowL B v = rowL A v := fun v => rowL_congr fun t ht => by rw [hth]; unfold home; rw [hT 2 t (by omega)]
  have out : ∀ j, j ≠ 2 → j < 211 → upd (upd (upd f 2 (nI t)) (211 + 12 * w + a) (nI b)) (475 + 12 * w + a) (nI u) j = f j := fun j h1 h2 => by
    rw [upd_ne (by omega), upd_ne (by omega), upd_ne h1]
  refine ⟨⟨?_, ?_, ?_, ?_, ?_⟩, ?_, ?_, ?_, ?_, ?_⟩
  · rw [out 0 (by omega) (by omega), c0]; unfold aP; rw [hT 0 3 (by omega)]
  · rw [out 1 (by omega) (by omega), c1]; unfold aC; rw [hT 0 4 (by omega)]
  · rw [upd_ne (by omega), upd_ne (by omega), upd_eq, hT0]
  · rw [out 3 (by omega) (by omega), c3]; unfold aV; rw [hT 0 1 (by omega)]
  · rw [out 4 (by omega) (by omega), c4]; unfold aS; rw [hT 0 2 (by omega)]
  · intro v hv; rw [out _ (by omega) (by omega), r1 v hv, hT 1 _ (by omega)]
  · intro s hs; rw [out _ (by omega) (by omega), r2 s hs, hT 1 _ (by omega)]
  · intro v hv hvt
    obtain ⟨d1, d2, d3, d4, d5⟩ := r3 v hv ((hth _).mp hvt)
    have hl := rowL_len A v
    rw [hrow]
    unfold org quo vnm
    rw [hT 5 v (by omega), hT 6 v (by omega), hT 8 v (by omega), out _ (by omega) (by omega), out _ (by omega) (by omega), out _ (by omega) (by omega), out _ (by omega) (by omega)]
    refine ⟨d1, d2, d3, d4, fun k s hk => ?_⟩
    have := (List.getElem?_eq_some_iff.mp hk).1
    rw [out _ (by omega) (by omega)]
    exact d5 k s hk
  · intro s hs hst
    obtain ⟨d1, d2, d3, d4⟩ := r4 s hs ((hth _).mp hst)
    unfold home stm snm
    rw [hT 2 s (by omega), hT 3 s (by omega), hT 4 s (by omega), hT 7 s (by omega), out _ (by omega) (by omega), out _ (by omega) (by omega), out _ (by omega) (by omega), out _ (by omega) (by omega)]
    exact ⟨d1, d2, d3, d4⟩
  · intro x c hx hc
    by_cases e : x = w ∧ c = a
    · obtain ⟨rfl, rfl⟩ := e
      rw [upd_ne (by omega), upd_eq, upd_eq, hb.1, hb.2]
      exact ⟨rfl, rfl⟩
    · rw [(ho x c e).1, (ho x c e).2, upd_ne (by omega), upd_ne (by omega), upd_ne (by omega), upd_ne (by omega), upd_ne (by omega), upd_ne (by omega)]
      exact r5 x c hx hc
theorem relAt_bu (h : WFB A) (w a x c : Nat) : bAt (relAt A.2 w a) x c = (if x = w ∧ c = a then 0 else bAt A.2 x c) ∧ uAt (relAt A.2 w a) x c = (if x = w ∧ c = a then 0 else uAt A.2 x c) := by
  have := rel_bu (bl := A.2) (fun x hx => (h.2 x hx).2.2.2.2.2.2.1) (fun b => if b = a then 2 ^ w else 0) x c
  rw [show relAt A.2 w a = relB A.2 (fun b => if b = a then 2 ^ w else 0) from rfl, this.1, this.2]
  by_cases e : c = a
  · rw [if_pos e]
    by_cases e2 : x = w
    · rw [if_pos (pow_bit.mpr e2.symm), if_pos ⟨e2, e⟩, if_pos (pow_bit.mpr e2.symm), if_pos ⟨e2, e⟩]; exact ⟨rfl, rfl⟩
    · rw [if_neg (fun z => e2 (pow_bit.mp z).symm), if_neg (fun z => e2 z.1), if_neg (fun z => e2 (pow_bit.mp z).symm), if_neg (fun z => e2 z.1)]; exact ⟨rfl, rfl⟩
  · rw [if_neg e, if_neg (by rw [Nat.zero_testBit]; simp), if_neg (fun z => e z.2), if_neg (by rw [Nat.zero_testBit]; simp), if_neg (fun z => e z.2)]; exact ⟨rfl, rfl⟩
theorem RowIs.mkBlk {v a z : Nat} (hR : RowIs f A) (h : WF A) (hv : v < 6) (ha : a < 12) : RowIs (upd (upd (upd f 2 (nI (aT A + 1))) (211 + 12 * (16 + v) + a) (nI (aT A + 1))) (475 + 12 * (16 + v) + a) (nI z)) (mkBlk A v a z) := by
  have h0 : ∀ x, x ∈ relAt A.2 (16 + v) a → 0 < x.1 := fun x hx => by
    obtain ⟨y, hy, e, -⟩ := rel_mem (g := fun b => if b = a then 2 ^ (16 + v) else 0) (bl := A.2) hx
    rw [e]; exact (h.2.2.2 y hy).1
  refine hR.blk (by omega) ha (fun i j hn => ts_ne hn) (show ts A.1 0 0 (aT A + 1) 0 0 = _ from ts_eq) ?_ ?_
  · have h1 := relAt_bu h.2.2 (16 + v) a (16 + v) a
    rw [if_pos ⟨rfl, rfl⟩, if_pos ⟨rfl, rfl⟩] at h1
    have h2 := (app_bu (bl := relAt A.2 (16 + v) a) (aT A + 1, z, a, 2 ^ (16 + v)) (16 + v) a h0).1 h1
    rw [if_pos ⟨rfl, pow_bit.mpr rfl⟩, if_pos ⟨rfl, pow_bit.mpr rfl⟩] at h2
    exact h2
  · intro x c hn
    have h1 := relAt_bu h.2.2 (16 + v) a x c
    rw [if_neg hn, if_neg hn] at h1
    have h2 := (app_bu (bl := relAt A.2 (16 + v) a) (aT A + 1, z, a, 2 ^ (16 + v)) x c h0).2 (fun q => hn ⟨(pow_bit.mp q.2).symm, q.1.symm⟩)
    exact ⟨h2.1.trans h1.1, h2.2.trans h1.2⟩
theorem RowIs.trm {v a : Nat} (hR : RowIs f A) (h : WF A) (hv : v < 6) (ha : a < 12) : RowIs (upd (upd f (211 + 12 * (16 + v) + a) (nI 0)) (475 + 12 * (16 + v) + a) (nI 0)) (trmA A v a) := by
  have h2 : upd f 2 (nI (aT A)) = f := funext fun j => by
    by_cases e : j = 2
    · subst e; rw [upd_eq]; exact hR.1.2.2.1.symm
    · rw [upd_ne e]
  have := hR.blk (B := trmA A v a) (t := aT A) (w := 16 + v) (a := a) (b := 0) (u := 0) (by omega) ha (fun i j _ => rfl) rfl ?_ ?_
  · rwa [h2] at this
  · have h1 := relAt_bu h.2.2 (16 + v) a (16 + v) a
    rw [if_pos ⟨rfl, rfl⟩, if_pos ⟨rfl, rfl⟩] at h1
    exact h1
  · intro x c hn
    have h1 := relAt_bu h.2.2 (16 + v) a x c
    rw [if_neg hn, if_neg hn] at h1
    exact h1
end ROWS
section MODEL
variable {D : va_G} {ad : Nat → Nat} {M : Mem} {wx : Nat} {ws : va_W} {A : AS} {f : Nat → Int32}
theorem row_lt {v : Nat} (h : WF A) (hs : aS A < 16) : (rowL A v).length < 16 := by
  have := rowL_len (mkSnp A v 0) v
  rw [mkSnp_row h hs, if_pos rfl, List.length_append] at this
  simp at this; omega
theorem sp_X6_makeSnapshot {v nm : Nat} (hw : WX M wx) (hR : RowIs f A) (hA : WF A) (hs16 : aS A < 16) (hv : v < 6) (hvt : th A (16 + v)) : Spec D 3 yX6_makeSnapshot cfX6_makeSnapshot [.ref (ad 157), .int (nI (v)), .int (nI (nm))] (wl D ad (row2 M wx f)) 0 0 (PX (fun x w => x = nI (aS A) ∧ RW D ad M wx (mkSnp A v nm) w)) := by
  refine Spec.of (by decide) rfl (Nat.le_of_ble_eq_true rfl) rfl ?_
  have hr := hw.all
  have hs := hw.2
  have hl := row_lt (v := v) hA hs16
  have hin := snpG_in (f := f) (s := aS A) (t := aT A + 1) (v := nI v) (n := nI nm)
  refine E_aload0 (q := 1) dX6_makeSnapshot_0 rfl ?_
  refine G_X6_w (q := 4) (x := wx) (hr _) fl_X6_16 dX6_makeSnapshot_1 rfl ?_
  refine E_iconst (v := nI 4) (q := 5) dX6_makeSnapshot_4 (by decide) rfl ?_
  refine E_ialdN (q := 6) hs (by omega) (by decide) dX6_makeSnapshot_5 rfl ?_
  refine V_int (congrFun row2_same _) ?_
  refine V_int hR.1.2.2.2.2 ?_
  refine E_istore3 (q := 7) dX6_makeSnapshot_6 rfl rfl ?_
  refine E_aload0 (q := 8) dX6_makeSnapshot_7 rfl ?_
  refine G_X6_w (q := 11) (x := wx) (hr _) fl_X6_16 dX6_makeSnapshot_8 rfl ?_
  refine E_iconst (v := nI 2) (q := 12) dX6_makeSnapshot_11 (by decide) rfl ?_
  refine E_dup2 (q := 13) dX6_makeSnapshot_12 rfl rfl rfl ?_
  refine E_ialdN (q := 14) hs (by omega) (by decide) dX6_makeSnapshot_13 rfl ?_
  refine V_int (congrFun row2_same _) ?_
  refine V_int hR.1.2.2.1 ?_
  refine E_iconst (v := nI 1) (q := 15) dX6_makeSnapshot_14 (by decide) rfl ?_
  refine E_iaddN (q := 16) dX6_makeSnapshot_15 rfl ?_
  refine E_iastN (q := 17) hs (by omega) (by decide) dX6_makeSnapshot_16 rfl ?_
  refine V_ws (congrArg (wl D ad) row2_upd) ?_
  refine E_aload0 (q := 18) dX6_makeSnapshot_17 rfl ?_
  refine G_X6_w (q := 21) (x := wx) (hr _) fl_X6_16 dX6_makeSnapshot_18 rfl ?_
  refine E_iload3 (q := 22) dX6_makeSnapshot_21 rfl ?_
  refine E_iconst (v := nI 0) (q := 23) dX6_makeSnapshot_22 (by decide) rfl ?_
  refine C_S2I (q := 26) lk_X6_57 (sp_X6_ofSnapshot) dX6_makeSnapshot_23 (by decide) (Nat.le_of_ble_eq_true rfl) rfl ?_
  refine E_iconst (v := nI 1) (q := 27) dX6_makeSnapshot_26 (by decide) rfl ?_
  refine E_iastN (q := 28) hs (by omega) (by decide) dX6_makeSnapshot_27 rfl ?_
  refine V_ws (congrArg (wl D ad) row2_upd) ?_
  refine E_aload0 (q := 29) dX6_makeSnapshot_28 rfl ?_
  refine G_X6_w (q := 32) (x := wx) (hr _) fl_X6_16 dX6_makeSnapshot_29 rfl ?_
  refine E_iload3 (q := 33) dX6_makeSnapshot_32 rfl ?_
  refine E_iconst (v := nI 1) (q := 34) dX6_makeSnapshot_33 (by decide) rfl ?_
  refine C_S2I (q := 37) lk_X6_57 (sp_X6_ofSnapshot) dX6_makeSnapshot_34 (by decide) (Nat.le_of_ble_eq_true rfl) rfl ?_
  refine E_iload1 (q := 38) dX6_makeSnapshot_37 rfl ?_
  refine E_iastN (q := 39) hs (by omega) (by decide) dX6_makeSnapshot_38 rfl ?_
  refine V_ws (congrArg (wl D ad) row2_upd) ?_
  refine E_aload0 (q := 40) dX6_makeSnapshot_39 rfl ?_
  refine G_X6_w (q := 43) (x := wx) (hr _) fl_X6_16 dX6_makeSnapshot_40 rfl ?_
  refine E_iload3 (q := 44) dX6_makeSnapshot_43 rfl ?_
  refine E_iconst (v := nI 2) (q := 45) dX6_makeSnapshot_44 (by decide) rfl ?_
  refine C_S2I (q := 48) lk_X6_57 (sp_X6_ofSnapshot) dX6_makeSnapshot_45 (by decide) (Nat.le_of_ble_eq_true rfl) rfl ?_
  refine E_aload0 (q := 49) dX6_makeSnapshot_48 rfl ?_
  refine G_X6_w (q := 52) (x := wx) (hr _) fl_X6_16 dX6_makeSnapshot_49 rfl ?_
  refine E_iconst (v := nI 2) (q := 53) dX6_makeSnapshot_52 (by decide) rfl ?_
  refine E_ialdN (q := 54) hs (by omega) (by decide) dX6_makeSnapshot_53 rfl ?_
  refine V_int (congrFun row2_same _) ?_
  refine V_int (show _ = nI (aT A + 1) by rw [upd_ne (by omega), upd_ne (by omega), upd_eq]) ?_
  refine E_iastN (q := 55) hs (by omega) (by decide) dX6_makeSnapshot_54 rfl ?_
  refine V_ws (congrArg (wl D ad) row2_upd) ?_
  refine E_aload0 (q := 56) dX6_makeSnapshot_55 rfl ?_
  refine G_X6_w (q := 59) (x := wx) (hr _) fl_X6_16 dX6_makeSnapshot_56 rfl ?_
  refine E_iload3 (q := 60) dX6_makeSnapshot_59 rfl ?_
  refine E_iconst (v := nI 3) (q := 61) dX6_makeSnapshot_60 (by decide) rfl ?_
  refine C_S2I (q := 64) lk_X6_57 (sp_X6_ofSnapshot) dX6_makeSnapshot_61 (by decide) (Nat.le_of_ble_eq_true rfl) rfl ?_
  refine E_iconst (v := nI 0) (q := 65) dX6_makeSnapshot_64 (by decide) rfl ?_
  refine E_iastN (q := 66) hs (by omega) (by decide) dX6_makeSnapshot_65 rfl ?_
  refine V_ws (congrArg (wl D ad) row2_upd) ?_
  refine E_aload0 (q := 67) dX6_makeSnapshot_66 rfl ?_
  refine G_X6_w (q := 70) (x := wx) (hr _) fl_X6_16 dX6_makeSnapshot_67 rfl ?_
  refine E_iload3 (q := 71) dX6_makeSnapshot_70 rfl ?_
  refine E_iconst (v := nI 4) (q := 72) dX6_makeSnapshot_71 (by decide) rfl ?_
  refine C_S2I (q := 75) lk_X6_57 (sp_X6_ofSnapshot) dX6_makeSnapshot_72 (by decide) (Nat.le_of_ble_eq_true rfl) rfl ?_
  refine E_iload2 (q := 76) dX6_makeSnapshot_75 rfl ?_
  refine E_iastN (q := 77) hs (by omega) (by decide) dX6_makeSnapshot_76 rfl ?_
  refine V_ws (congrArg (wl D ad) row2_upd) ?_
  refine E_aload0 (q := 78) dX6_makeSnapshot_77 rfl ?_
  refine E_iload3 (q := 79) dX6_makeSnapshot_78 rfl ?_
  refine E_bipush (v := nI 16) (q := 81) dX6_makeSnapshot_79 (by decide) rfl ?_
  refine E_iload1 (q := 82) dX6_makeSnapshot_81 rfl ?_
  refine E_iaddN (q := 83) dX6_makeSnapshot_82 rfl ?_
  refine C_V2V (q := 86) lk_X6_179 (sp_X6_layAll (f := snpG f (aS A) (aT A + 1) (nI v) (nI nm)) hw (by omega) (by omega) (by omega)) rc_X6 dX6_makeSnapshot_83 (by decide) (Nat.le_of_ble_eq_true rfl) rfl ?_
  refine E_aload0 (q := 87) dX6_makeSnapshot_86 rfl ?_
  refine G_X6_w (q := 90) (x := wx) (hr _) fl_X6_16 dX6_makeSnapshot_87 rfl ?_
  refine E_iload1 (q := 91) dX6_makeSnapshot_90 rfl ?_
  refine E_iconst (v := nI 5) (q := 92) dX6_makeSnapshot_91 (by decide) rfl ?_
  refine E_aload0 (q := 93) dX6_makeSnapshot_92 rfl ?_
  refine E_iload1 (q := 94) dX6_makeSnapshot_93 rfl ?_
  refine E_iconst (v := nI 4) (q := 95) dX6_makeSnapshot_94 (by decide) rfl ?_
  refine C_V2I (q := 98) lk_X6_64 (sp_X6_volumeR hw (by omega)) rc_X6 dX6_makeSnapshot_95 (by decide) (Nat.le_of_ble_eq_true rfl) rfl ?_
  refine V_int (show _ = nI (rowL A v).length by rw [layF_ne (by omega) (by omega), snpG_ne (by omega) (by omega), (hR.2.2.2.1 v hv hvt).2.2.2.1]) ?_
  refine E_iaddN (q := 99) dX6_makeSnapshot_98 rfl ?_
  refine C_S2I (q := 102) lk_X6_53 (sp_X6_ofVolume) dX6_makeSnapshot_99 (by decide) (Nat.le_of_ble_eq_true rfl) rfl ?_
  refine E_iload3 (q := 103) dX6_makeSnapshot_102 rfl ?_
  refine E_iastN (q := 104) hs (by omega) (by decide) dX6_makeSnapshot_103 rfl ?_
  refine V_ws (congrArg (wl D ad) row2_upd) ?_
  refine E_aload0 (q := 105) dX6_makeSnapshot_104 rfl ?_
  refine G_X6_w (q := 108) (x := wx) (hr _) fl_X6_16 dX6_makeSnapshot_105 rfl ?_
  refine E_iload1 (q := 109) dX6_makeSnapshot_108 rfl ?_
  refine E_iconst (v := nI 4) (q := 110) dX6_makeSnapshot_109 (by decide) rfl ?_
  refine C_S2I (q := 113) lk_X6_53 (sp_X6_ofVolume) dX6_makeSnapshot_110 (by decide) (Nat.le_of_ble_eq_true rfl) rfl ?_
  refine E_dup2 (q := 114) dX6_makeSnapshot_113 rfl rfl rfl ?_
  refine E_ialdN (q := 115) hs (by omega) (by decide) dX6_makeSnapshot_114 rfl ?_
  refine V_int (congrFun row2_same _) ?_
  refine V_int (show _ = nI (rowL A v).length by rw [upd_ne (by omega), layF_ne (by omega) (by omega), snpG_ne (by omega) (by omega), (hR.2.2.2.1 v hv hvt).2.2.2.1]) ?_
  refine E_iconst (v := nI 1) (q := 116) dX6_makeSnapshot_115 (by decide) rfl ?_
  refine E_iaddN (q := 117) dX6_makeSnapshot_116 rfl ?_
  refine E_iastN (q := 118) hs (by omega) (by decide) dX6_makeSnapshot_117 rfl ?_
  refine V_ws (congrArg (wl D ad) row2_upd) ?_
  refine E_aload0 (q := 119) dX6_makeSnapshot_118 rfl ?_
  refine G_X6_w (q := 122) (x := wx) (hr _) fl_X6_16 dX6_makeSnapshot_119 rfl ?_
  refine E_iconst (v := nI 4) (q := 123) dX6_makeSnapshot_122 (by decide) rfl ?_
  refine E_dup2 (q := 124) dX6_makeSnapshot_123 rfl rfl rfl ?_
  refine E_ialdN (q := 125) hs (by omega) (by decide) dX6_makeSnapshot_124 rfl ?_
  refine V_int (congrFun row2_same _) ?_
  refine V_int (show _ = nI (aS A) by rw [upd_ne (by omega), upd_ne (by omega), layF_ne (by omega) (by omega), snpG_ne (by omega) (by omega), hR.1.2.2.2.2]) ?_
  refine E_iconst (v := nI 1) (q := 126) dX6_makeSnapshot_125 (by decide) rfl ?_
  refine E_iaddN (q := 127) dX6_makeSnapshot_126 rfl ?_
  refine E_iastN (q := 128) hs (by omega) (by decide) dX6_makeSnapshot_127 rfl ?_
  refine V_ws (congrArg (wl D ad) row2_upd) ?_
  refine E_iload3 (q := 129) dX6_makeSnapshot_128 rfl ?_
  exact E_ireturn rfl rfl dX6_makeSnapshot_129 ⟨_, rfl, rfl, _, hR.snp (n := nm) (bs := fun a => snpG f (aS A) (aT A + 1) (nI v) (nI nm) (211 + 12 * (16 + v) + a)) (us := fun a => snpG f (aS A) (aT A + 1) (nI v) (nI nm) (475 + 12 * (16 + v) + a)) hA hs16 hv hvt hl (fun a ha => by rw [snpG_ne (by omega) (by omega)]; exact hR.bth (by omega) ha) (fun a ha => by rw [snpG_ne (by omega) (by omega)]; exact hR.unt (by omega) ha), rfl⟩
theorem sp_X6_makeBlock {v a z : Nat} (hw : WX M wx) (hR : RowIs f A) (hA : WF A) (hv : v < 6) (ha : a < 12) : Spec D 3 yX6_makeBlock cfX6_makeBlock [.ref (ad 157), .int (nI (v)), .int (nI (a)), .int (nI (z))] (wl D ad (row2 M wx f)) 0 0 (PX (fun x w => x = nI (aT A + 1) ∧ RW D ad M wx (mkBlk A v a z) w)) := by
  refine Spec.of (by decide) rfl (Nat.le_of_ble_eq_true rfl) rfl ?_
  have hr := hw.all
  have hs := hw.2
  refine E_aload0 (q := 1) dX6_makeBlock_0 rfl ?_
  refine G_X6_w (q := 4) (x := wx) (hr _) fl_X6_16 dX6_makeBlock_1 rfl ?_
  refine E_iconst (v := nI 2) (q := 5) dX6_makeBlock_4 (by decide) rfl ?_
  refine E_dup2 (q := 6) dX6_makeBlock_5 rfl rfl rfl ?_
  refine E_ialdN (q := 7) hs (by omega) (by decide) dX6_makeBlock_6 rfl ?_
  refine V_int (congrFun row2_same _) ?_
  refine V_int hR.1.2.2.1 ?_
  refine E_iconst (v := nI 1) (q := 8) dX6_makeBlock_7 (by decide) rfl ?_
  refine E_iaddN (q := 9) dX6_makeBlock_8 rfl ?_
  refine E_iastN (q := 10) hs (by omega) (by decide) dX6_makeBlock_9 rfl ?_
  refine V_ws (congrArg (wl D ad) row2_upd) ?_
  refine E_aload0 (q := 11) dX6_makeBlock_10 rfl ?_
  refine E_bipush (v := nI 16) (q := 13) dX6_makeBlock_11 (by decide) rfl ?_
  refine E_iload1 (q := 14) dX6_makeBlock_13 rfl ?_
  refine E_iaddN (q := 15) dX6_makeBlock_14 rfl ?_
  refine E_iload2 (q := 16) dX6_makeBlock_15 rfl ?_
  refine E_aload0 (q := 17) dX6_makeBlock_16 rfl ?_
  refine G_X6_w (q := 20) (x := wx) (hr _) fl_X6_16 dX6_makeBlock_17 rfl ?_
  refine E_iconst (v := nI 2) (q := 21) dX6_makeBlock_20 (by decide) rfl ?_
  refine E_ialdN (q := 22) hs (by omega) (by decide) dX6_makeBlock_21 rfl ?_
  refine V_int (congrFun row2_same _) ?_
  refine V_int (show _ = nI (aT A + 1) from upd_eq) ?_
  refine E_iload3 (q := 23) dX6_makeBlock_22 rfl ?_
  refine C_V4V (q := 26) lk_X6_83 (sp_X6_layR hw (by omega) (by omega)) rc_X6 dX6_makeBlock_23 (by decide) (Nat.le_of_ble_eq_true rfl) rfl ?_
  refine E_aload0 (q := 27) dX6_makeBlock_26 rfl ?_
  refine G_X6_w (q := 30) (x := wx) (hr _) fl_X6_16 dX6_makeBlock_27 rfl ?_
  refine E_iconst (v := nI 2) (q := 31) dX6_makeBlock_30 (by decide) rfl ?_
  refine E_ialdN (q := 32) hs (by omega) (by decide) dX6_makeBlock_31 rfl ?_
  refine V_int (congrFun row2_same _) ?_
  refine V_int (show _ = nI (aT A + 1) by rw [upd_ne (by omega), upd_ne (by omega), upd_eq]) ?_
  exact E_ireturn rfl rfl dX6_makeBlock_32 ⟨_, rfl, rfl, _, hR.mkBlk hA hv ha, rfl⟩
end MODEL
