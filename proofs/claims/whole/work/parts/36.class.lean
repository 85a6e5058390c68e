
/-! THE CLASS: what it answers -/
section VALS
variable {A : AS} {bl : List Blk}
noncomputable def ixI (bl : List Blk) (w a : Nat) : Int32 := fnd (fun i => ∃ x, bl[i]? = some x ∧ atWA w a x) bl.length
theorem ixI_S {w a i : Nat} {x : Blk} (h : AtFst bl (atWA w a) i x) : ixI bl w a = nI i := fnd_hit (List.getElem?_eq_some_iff.mp h.1).1 (fun j hj => fun ⟨y, hy, hp⟩ => h.2.2 j y hj hy hp) ⟨x, h.1, h.2.1⟩
theorem ixI_N {w a : Nat} (h : ∀ y, y ∈ bl → ¬ atWA w a y) : ixI bl w a = -1 := fnd_miss (fun _ _ => fun ⟨y, hy, hp⟩ => h y (List.mem_of_getElem? hy) hp)
theorem ix_eq (h : WF A) (u w a : Nat) : ixI A.2 u a = ixI A.2 w a ↔ bAt A.2 u a = bAt A.2 w a := by
  have hl := h.blw.1
  rcases at_cases A.2 u a with ⟨hx, hn⟩ | ⟨i, x, hf, hx⟩ <;> rcases at_cases A.2 w a with ⟨hy, hm⟩ | ⟨j, y, hg, hy⟩
  · rw [ixI_N hn, ixI_N hm, (bAt_none hx).1, (bAt_none hy).1]; simp
  · have hj := (List.getElem?_eq_some_iff.mp hg.1).1
    have hp := (h.blw.2 y (List.mem_of_getElem? hg.1)).1
    rw [ixI_N hn, ixI_S hg, (bAt_none hx).1, (bAt_some hy).1]
    exact ⟨fun z => absurd z.symm (nI_nm1 (by omega)), fun z => by omega⟩
  · have hi := (List.getElem?_eq_some_iff.mp hf.1).1
    have hp := (h.blw.2 x (List.mem_of_getElem? hf.1)).1
    rw [ixI_S hf, ixI_N hm, (bAt_some hx).1, (bAt_none hy).1]
    exact ⟨fun z => absurd z (nI_nm1 (by omega)), fun z => by omega⟩
  · have hi := (List.getElem?_eq_some_iff.mp hf.1).1
    have hj := (List.getElem?_eq_some_iff.mp hg.1).1
    rw [ixI_S hf, ixI_S hg, (bAt_some hx).1, (bAt_some hy).1]
    constructor
    · intro z
      have : i = j := (nI_eq (by omega) (by omega)).mp z
      subst this
      have := hf.1.symm.trans hg.1
      have : x = y := by simpa using this
      rw [this]
    · intro z
      have hxy := BPW.inj h.2.2.1 (List.mem_of_getElem? hf.1) (List.mem_of_getElem? hg.1) z
      subst hxy
      rcases Nat.lt_trichotomy i j with q | q | q
      · have := pw_rank (BPW.lt h.2.2.1) hf.1
        have := pw_rank (BPW.lt h.2.2.1) hg.1
        omega
      · rw [q]
      · have := pw_rank (BPW.lt h.2.2.1) hf.1
        have := pw_rank (BPW.lt h.2.2.1) hg.1
        omega
theorem row_pop (v : Nat) : popN (rowM A v) = (rowL A v).length := by
  unfold rowM
  rw [popN_bset _ (by decide), nsum_range]
  refine congrArg List.length (pw_ext (List.Pairwise.filter _ List.pairwise_lt_range) (rowL_pw A v) fun t => ?_)
  rw [mem_rowL, List.mem_filter, List.mem_range]
  constructor
  · rintro ⟨a, c⟩
    exact ⟨a, Classical.byContradiction fun z => by rw [dB_f z] at c; cases c⟩
  · rintro ⟨a, c⟩; exact ⟨a, dB_t c⟩
theorem maxN_sp (f : Nat → Nat) : ∀ n, (∀ a, a < n → f a ≤ maxN f n) ∧ (maxN f n = 0 ∨ ∃ a, a < n ∧ maxN f n = f a) := by
  intro n
  induction n with
  | zero => exact ⟨fun a h => by omega, Or.inl rfl⟩
  | succ n ih =>
    rw [maxN_s]
    by_cases c : maxN f n < f n
    · rw [if_pos c]
      refine ⟨fun a h => ?_, Or.inr ⟨n, by omega, rfl⟩⟩
      by_cases e : a = n
      · rw [e]; exact Nat.le_refl _
      · have := ih.1 a (by omega); omega
    · rw [if_neg c]
      refine ⟨fun a h => ?_, ?_⟩
      · by_cases e : a = n
        · rw [e]; omega
        · exact ih.1 a (by omega)
      · rcases ih.2 with e | ⟨a, h, e⟩
        · exact Or.inl e
        · exact Or.inr ⟨a, by omega, e⟩
theorem minN_sp (f : Nat → Nat) : ∀ n, (∀ a, a < n → f a ≠ 0 → minN f n ≠ 0 ∧ minN f n ≤ f a) ∧ (minN f n = 0 ∨ ∃ a, a < n ∧ minN f n = f a) := by
  intro n
  induction n with
  | zero => exact ⟨fun a h => by omega, Or.inl rfl⟩
  | succ n ih =>
    rw [minN_s]
    by_cases c0 : f n = 0
    · rw [if_pos c0]
      refine ⟨fun a h hne => ?_, ?_⟩
      · by_cases e : a = n
        · subst e; exact absurd c0 hne
        · exact ih.1 a (by omega) hne
      · rcases ih.2 with e | ⟨a, h, e⟩
        · exact Or.inl e
        · exact Or.inr ⟨a, by omega, e⟩
    · rw [if_neg c0]
      by_cases c1 : minN f n = 0
      · rw [if_pos c1]
        refine ⟨fun a h hne => ⟨c0, ?_⟩, Or.inr ⟨n, by omega, rfl⟩⟩
        by_cases e : a = n
        · rw [e]; exact Nat.le_refl _
        · exact absurd c1 (ih.1 a (by omega) hne).1
      · rw [if_neg c1]
        by_cases c : f n ≤ minN f n
        · rw [if_pos c]
          refine ⟨fun a h hne => ⟨c0, ?_⟩, Or.inr ⟨n, by omega, rfl⟩⟩
          by_cases e : a = n
          · rw [e]; exact Nat.le_refl _
          · have := (ih.1 a (by omega) hne).2; omega
        · rw [if_neg c]
          refine ⟨fun a h hne => ?_, ?_⟩
          · by_cases e : a = n
            · rw [e]; exact ⟨c1, by omega⟩
            · exact ih.1 a (by omega) hne
          · rcases ih.2 with e | ⟨a, h, e⟩
            · exact Or.inl e
            · exact Or.inr ⟨a, by omega, e⟩
theorem fitL_mem {nd av : Nat} {x : Blk} : x ∈ fitL nd av bl ↔ x ∈ bl ∧ fitB nd av x := by
  unfold fitL
  rw [List.mem_filter]
  exact ⟨fun ⟨a, c⟩ => ⟨a, Classical.byContradiction fun z => by rw [dB_f z] at c; cases c⟩, fun ⟨a, c⟩ => ⟨a, dB_t c⟩⟩
theorem own_fit {w : Nat} {x : Blk} : fitB (2 ^ w) 0 x ↔ (own x).testBit w = true := ⟨fun z => and_pow.mp z.1, fun z => ⟨and_pow.mpr z, Nat.and_zero _⟩⟩
theorem bV_new (h : WF A) (w : Nat) : nthV (fitL (2 ^ w) 0 A.2) (nI (fitL (2 ^ w) 0 A.2).length - nI 1) = bV (maxN (bAt A.2 w) 12) := by
  obtain ⟨m1, m2⟩ := maxN_sp (bAt A.2 w) 12
  have hlen : (fitL (2 ^ w) 0 A.2).length ≤ 264 := Nat.le_trans (List.length_filter_le _ _) h.blw.1
  cases hl : (fitL (2 ^ w) 0 A.2).getLast? with
  | none =>
    rw [List.getLast?_eq_none_iff] at hl
    have : maxN (bAt A.2 w) 12 = 0 := by
      rcases m2 with e | ⟨a, ha, e⟩
      · exact e
      · refine Classical.byContradiction fun z => ?_
        obtain ⟨x, -, hx, -, -, -, hw⟩ := h.2.2.bt (w := w) (a := a) (by omega)
        have := fitL_mem.mpr ⟨hx, own_fit.mpr hw⟩
        rw [hl] at this; cases this
    rw [this, hl]
    rfl
  | some x =>
    rw [List.getLast?_eq_getElem?] at hl
    have hpos := (List.getElem?_eq_some_iff.mp hl).1
    have hxm := fitL_mem.mp (List.mem_of_getElem? hl)
    have hxo := own_fit.mp hxm.2
    have hxw := h.2.2.2 x hxm.1
    have hb := (bAt_some (blkAt_mem h.2.2.1 hxm.1 rfl hxo)).1
    have hmax : maxN (bAt A.2 w) 12 = x.1 := by
      have h1 := m1 (adr x) hxw.2.2.2.2.1
      rw [hb] at h1
      rcases m2 with e | ⟨a, ha, e⟩
      · omega
      · obtain ⟨y, -, hy, e1, -, -, hyo⟩ := h.2.2.bt (w := w) (a := a) (by omega)
        obtain ⟨j, hj⟩ := List.mem_iff_getElem?.mp (fitL_mem.mpr ⟨hy, own_fit.mpr hyo⟩)
        have hjl := (List.getElem?_eq_some_iff.mp hj).1
        have hpw : (fitL (2 ^ w) 0 A.2).Pairwise (fun x y => x.1 < y.1) := List.Pairwise.filter _ (BPW.lt h.2.2.1)
        have r1 := pw_rank hpw hl
        have r2 := pw_rank hpw hj
        by_cases c : x.1 < y.1
        · exfalso
          have hsub : ((fitL (2 ^ w) 0 A.2).filter (fun z => decide (z.1 < x.1))).length < ((fitL (2 ^ w) 0 A.2).filter (fun z => decide (z.1 < y.1))).length := by
            rw [r1, r2]
            rcases Nat.lt_trichotomy ((fitL (2 ^ w) 0 A.2).length - 1) j with q | q | q
            · exact q
            · subst q; rw [hl] at hj; have : x = y := by simpa using hj
              subst this; omega
            · obtain ⟨p1, e1'⟩ := List.getElem?_eq_some_iff.mp hl
              obtain ⟨p2, e2'⟩ := List.getElem?_eq_some_iff.mp hj
              have := List.pairwise_iff_getElem.mp hpw j _ p2 p1 q
              rw [e1', e2'] at this; omega
          rw [r1, r2] at hsub
          omega
        · omega
    rw [pk_sub (by omega), nthV_hit (by omega) hl, hmax, bV_pos (by omega)]
theorem bV_old (h : WF A) (w : Nat) : nthV (fitL (2 ^ w) 0 A.2) (nI 0) = bV (minN (bAt A.2 w) 12) := by
  obtain ⟨m1, m2⟩ := minN_sp (bAt A.2 w) 12
  cases hl : (fitL (2 ^ w) 0 A.2)[0]? with
  | none =>
    have hnil : fitL (2 ^ w) 0 A.2 = [] := by
      rw [List.getElem?_eq_none_iff] at hl
      exact List.eq_nil_of_length_eq_zero (by omega)
    have : minN (bAt A.2 w) 12 = 0 := by
      rcases m2 with e | ⟨a, ha, e⟩
      · exact e
      · refine Classical.byContradiction fun z => ?_
        obtain ⟨x, -, hx, -, -, -, hw⟩ := h.2.2.bt (w := w) (a := a) (by omega)
        have := fitL_mem.mpr ⟨hx, own_fit.mpr hw⟩
        rw [hnil] at this; cases this
    rw [this, nthV_nI (by decide), hl]
    rfl
  | some x =>
    have hxm := fitL_mem.mp (List.mem_of_getElem? hl)
    have hxo := own_fit.mp hxm.2
    have hxw := h.2.2.2 x hxm.1
    have hb := (bAt_some (blkAt_mem h.2.2.1 hxm.1 rfl hxo)).1
    have hmin : minN (bAt A.2 w) 12 = x.1 := by
      have h1 := m1 (adr x) hxw.2.2.2.2.1 (by omega)
      rw [hb] at h1
      rcases m2 with e | ⟨a, ha, e⟩
      · omega
      · obtain ⟨y, -, hy, e1, -, -, hyo⟩ := h.2.2.bt (w := w) (a := a) (by omega)
        obtain ⟨j, hj⟩ := List.mem_iff_getElem?.mp (fitL_mem.mpr ⟨hy, own_fit.mpr hyo⟩)
        have hpw : (fitL (2 ^ w) 0 A.2).Pairwise (fun x y => x.1 < y.1) := List.Pairwise.filter _ (BPW.lt h.2.2.1)
        obtain ⟨p1, e1'⟩ := List.getElem?_eq_some_iff.mp hl
        obtain ⟨p2, e2'⟩ := List.getElem?_eq_some_iff.mp hj
        by_cases c : j = 0
        · subst c; rw [hl] at hj; have : x = y := by simpa using hj
          subst this; omega
        · have := List.pairwise_iff_getElem.mp hpw 0 j p1 p2 (by omega)
          rw [e1', e2'] at this; omega
    rw [nthV_hit (by decide) hl, hmin, bV_pos (by omega)]
theorem same_N (h : WF A) {w a : Nat} (hno : blkAt A.2 w a = none) : andn (thM A) (oaL a A.2) = bset (fun v => th A v ∧ bAt A.2 v a = bAt A.2 w a) 22 := by
  have ho : ∀ (bl : List Blk) k, (oaL a bl).testBit k = true ↔ ∃ x, x ∈ bl ∧ adr x = a ∧ (own x).testBit k = true := fun bl k => by
    rw [← List.reverse_reverse bl]
    generalize bl.reverse = rl
    induction rl with
    | nil => simp [oaL]
    | cons x rl ih =>
      rw [List.reverse_cons]
      generalize rl.reverse = bl at ih ⊢
      rw [oaL_app]
      by_cases c : adr x = a
      · rw [if_pos c, or_bit, ih]
        constructor
        · rintro (⟨y, h1, h2⟩ | h1)
          · exact ⟨y, List.mem_append.mpr (Or.inl h1), h2⟩
          · exact ⟨x, List.mem_append.mpr (Or.inr (List.mem_singleton.mpr rfl)), c, h1⟩
        · rintro ⟨y, h1, h2⟩
          rcases List.mem_append.mp h1 with q | q
          · exact Or.inl ⟨y, q, h2⟩
          · rw [List.mem_singleton] at q; subst q; exact Or.inr h2.2
      · rw [if_neg c, ih]
        constructor
        · rintro ⟨y, h1, h2⟩; exact ⟨y, List.mem_append.mpr (Or.inl h1), h2⟩
        · rintro ⟨y, h1, h2⟩
          rcases List.mem_append.mp h1 with q | q
          · exact ⟨y, q, h2⟩
          · rw [List.mem_singleton] at q; subst q; exact absurd h2.1 c
  refine (bset_ext fun k => ?_).symm
  rw [andn_bit (Nat.lt_trans thM_lt (by decide)), thM_bit, ho, (bAt_none hno).1, h.2.2.b0]
  constructor
  · rintro ⟨⟨h1, h2⟩, h3⟩
    refine ⟨h1, h2, ?_⟩
    cases hx : blkAt A.2 k a with
    | none => rfl
    | some x => exact absurd ⟨x, blkAt_some hx⟩ h3
  · rintro ⟨h1, h2, h3⟩
    exact ⟨⟨h1, h2⟩, fun ⟨x, q1, q2⟩ => blkAt_none h3 q1 q2⟩
theorem same_S (h : WF A) {w a : Nat} {x : Blk} (hx : blkAt A.2 w a = some x) : own x = bset (fun v => th A v ∧ bAt A.2 v a = bAt A.2 w a) 22 := by
  obtain ⟨h1, h2, h3⟩ := blkAt_some hx
  have hw := h.2.2.2 x h1
  refine (bset_ext fun k => ?_).symm
  rw [(bAt_some hx).1]
  constructor
  · intro q; exact ⟨tb_22 hw.2.2.2.2.2.2.1 q, hw.2.2.2.2.2.2.2 k q, (bAt_some (blkAt_mem h.2.2.1 h1 h2 q)).1⟩
  · rintro ⟨q1, q2, q3⟩
    obtain ⟨y, -, hy, e1, -, -, hyo⟩ := h.2.2.bt (w := k) (a := a) (by omega)
    rw [BPW.inj h.2.2.1 h1 hy (by omega)]; exact hyo
theorem bes_eq (h : WF A) {v av : Nat} (hav : av = (match org A v with | 0 => 0 | s + 1 => 2 ^ s)) : fsum (uwF 0 (av ||| volS A v) 0) A.2 + besV A v = fsum (uwF 0 av 0) A.2 := by
  have hx : ∀ x, x ∈ A.2 → uwF 0 (av ||| volS A v) 0 x + (if own x &&& volS A v = 0 then 0 else besF A v x) = uwF 0 av 0 x := fun x hx => by
    have h0 := (h.blw.2 x hx).1
    have e1 : own x &&& (av ||| volS A v) = 0 ↔ own x &&& av = 0 ∧ own x &&& volS A v = 0 := by
      rw [zero_bits, zero_bits, zero_bits]
      constructor
      · intro q; exact ⟨fun k z => q k (and_bit.mpr ⟨(and_bit.mp z).1, or_bit.mpr (Or.inl (and_bit.mp z).2)⟩), fun k z => q k (and_bit.mpr ⟨(and_bit.mp z).1, or_bit.mpr (Or.inr (and_bit.mp z).2)⟩)⟩
      · rintro ⟨q1, q2⟩ k z
        obtain ⟨z1, z2⟩ := and_bit.mp z
        rcases or_bit.mp z2 with z2 | z2
        · exact q1 k (and_bit.mpr ⟨z1, z2⟩)
        · exact q2 k (and_bit.mpr ⟨z1, z2⟩)
    have e2 : besF A v x = if own x &&& av = 0 then siz x else 0 := by
      unfold besF
      cases ho : org A v with
      | zero => rw [hav, ho]; simp
      | succ s =>
        rw [hav, ho]
        simp only
        by_cases c : (own x).testBit s = true
        · rw [if_pos c, if_neg]
          intro z; exact and_tb z s ⟨c, pow_bit.mpr rfl⟩
        · rw [if_neg c, if_pos]
          refine zero_bits.mpr fun k z => ?_
          obtain ⟨z1, z2⟩ := and_bit.mp z
          rw [pow_bit] at z2; subst z2; exact c z1
    have u1 : uwF 0 av 0 x = if own x &&& av = 0 then siz x else 0 := by
      unfold uwF fitB
      by_cases c : own x &&& av = 0
      · rw [if_pos (dB_t ⟨h0, Nat.and_zero _, c⟩), if_pos c]
      · rw [if_neg (by rw [dB_f (fun z => c z.2.2)]; simp), if_neg c]
    have u2 : uwF 0 (av ||| volS A v) 0 x = if own x &&& av = 0 ∧ own x &&& volS A v = 0 then siz x else 0 := by
      unfold uwF fitB
      by_cases c : own x &&& av = 0 ∧ own x &&& volS A v = 0
      · rw [if_pos (dB_t ⟨h0, Nat.and_zero _, e1.mpr c⟩), if_pos c]
      · rw [if_neg (by rw [dB_f (fun z => c (e1.mp z.2.2))]; simp), if_neg c]
    rw [u1, u2, e2]
    by_cases c1 : own x &&& av = 0 <;> by_cases c2 : own x &&& volS A v = 0 <;> simp [c1, c2]
  unfold besV
  have hg := A.2
  have : ∀ bl : List Blk, (∀ x, x ∈ bl → x ∈ A.2) → fsum (uwF 0 (av ||| volS A v) 0) bl + fsum (fun x => if own x &&& volS A v = 0 then 0 else besF A v x) bl = fsum (uwF 0 av 0) bl := fun bl => by
    induction bl with
    | nil => intro _; rfl
    | cons x bl ih =>
      intro hb
      rw [fsum_cons, fsum_cons, fsum_cons, ← hx x (hb x (List.mem_cons_self ..)), ← ih (fun y hy => hb y (List.mem_cons_of_mem _ hy))]
      omega
  exact this A.2 (fun _ q => q)
theorem uwF_if (h : WF A) (nd av t : Nat) (g : Blk → Nat) (hg : ∀ x, x ∈ A.2 → (t < x.1 ∧ fitB nd av x → g x = siz x) ∧ (¬ (t < x.1 ∧ fitB nd av x) → g x = 0)) : fsum (uwF nd av t) A.2 = fsum g A.2 := fsum_congr fun x hx => by
  unfold uwF
  by_cases c : t < x.1 ∧ fitB nd av x
  · rw [if_pos (dB_t c), (hg x hx).1 c]
  · rw [if_neg (by rw [dB_f c]; simp), (hg x hx).2 c]
theorem and_pow0 {m w : Nat} : m &&& 2 ^ w = 0 ↔ ¬ m.testBit w = true := by
  constructor
  · intro z c; exact and_tb z w ⟨c, pow_bit.mpr rfl⟩
  · intro c
    refine zero_bits.mpr fun k z => ?_
    obtain ⟨z1, z2⟩ := and_bit.mp z
    rw [pow_bit] at z2; subst z2; exact c z1
theorem dead_fit (p w : Nat) : fitL (2 ^ p) (2 ^ w) A.2 = deadL A p w := by
  unfold fitL deadL
  refine List.filter_congr fun x _ => ?_
  by_cases c : fitB (2 ^ p) (2 ^ w) x
  · rw [dB_t c]
    have h1 := and_pow.mp c.1
    have h2 := and_pow0.mp c.2
    simp [h1, h2]
  · rw [dB_f c]
    symm
    rw [Bool.and_eq_false_iff]
    by_cases h1 : (own x).testBit p = true
    · right
      by_cases h2 : (own x).testBit w = true
      · simp [h2]
      · exact absurd ⟨and_pow.mpr h1, and_pow0.mpr h2⟩ c
    · left; simpa using h1
theorem pop22 {m : Nat} (h : m < 2 ^ 22) : popN m = nsum (fun v => if m.testBit v = true then 1 else 0) 22 := by
  have : ∀ n, nsum (fun v => if m.testBit v = true then 1 else 0) (22 + n) = nsum (fun v => if m.testBit v = true then 1 else 0) 22 := fun n => by
    induction n with
    | zero => rfl
    | succ n ih =>
      rw [show 22 + (n + 1) = (22 + n) + 1 by omega, nsum_s, ih, if_neg (fun z => by have := tb_22 h z; omega), Nat.add_zero]
  exact this 10
theorem shr_eq (h : WF A) : fsum (fun x => siz x * popN (own x)) A.2 = nsum (fun v => if dB (th A v) = true then sumA A v else 0) 22 := by
  have e1 : nsum (fun v => if dB (th A v) = true then sumA A v else 0) 22 = nsum (fun v => fsum (fun x => if (own x).testBit v = true then siz x else 0) A.2) 22 := nsum_congr fun v _ => by
    by_cases c : th A v
    · rw [if_pos (dB_t c), sumA_f h.2.2, uW_fsum]
    · rw [if_neg (by rw [dB_f c]; simp), fsum_zero]
      intro x hx
      rw [if_neg (fun z => c ((h.2.2.2 x hx).2.2.2.2.2.2.2 v z))]
  rw [e1, nsum_fsum (fun x v => if (own x).testBit v = true then siz x else 0)]
  refine fsum_congr fun x hx => ?_
  rw [pop22 (h.blw.2 x hx).2.2.2.2]
  generalize 22 = n
  induction n with
  | zero => rfl
  | succ n ih =>
    rw [nsum_s, nsum_s, Nat.mul_add, ih]
    split <;> omega
end VALS
