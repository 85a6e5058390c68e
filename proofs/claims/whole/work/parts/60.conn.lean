/-! WHO HAS A BLOCK HANGS TOGETHER -/
section WFS
variable {A B : AS}
/-- p lies next ahead of w -/
def par (A : AS) (w p : Nat) : Prop := (p ∈ rowL A (homeOf A w) ∧ p < w ∧ ∀ t, t ∈ rowL A (homeOf A w) → t < w → t ≤ p) ∨ ((∀ t, t ∈ rowL A (homeOf A w) → ¬ t < w) ∧ org A (homeOf A w) = p + 1)
def WFC (A : AS) : Prop := ∀ x, x ∈ A.2 → ∀ w u, (own x).testBit w = true → (own x).testBit u = true → u < w → ∃ p, par A w p ∧ (own x).testBit p = true
theorem ho_s {w : Nat} (h : w < 16) : homeOf A w = home A w := if_pos h
theorem ho_v {v : Nat} : homeOf A (16 + v) = v := by unfold homeOf; rw [if_neg (by omega)]; omega
theorem ho_ok (h : WF A) {w : Nat} (hw : w < 22) (ht : th A w) : homeOf A w < 6 ∧ th A (16 + homeOf A w) := by
  by_cases c : w < 16
  · rw [ho_s c]; exact h.hv6 c ht
  · unfold homeOf
    rw [if_neg c]
    exact ⟨by omega, by rw [show 16 + (w - 16) = w by omega]; exact ht⟩
theorem par_lt (h : WF A) {w p : Nat} (hw : w < 22) (ht : th A w) (hp : par A w p) : p < w ∧ p < 16 ∧ th A p := by
  rcases hp with ⟨h1, h2, -⟩ | ⟨h1, h2⟩
  · have := mem_rowL.mp h1
    exact ⟨h2, this.1, this.2.1⟩
  · obtain ⟨a1, a2⟩ := ho_ok h hw ht
    obtain ⟨b1, b2⟩ := h.2.1 _ p a1 a2 h2
    have b3 := (h.1.2.2.2.1 _ a1 a2).2.1
    refine ⟨?_, by omega, b1⟩
    by_cases c : w < 16
    · exact b2 w (mem_rowL.mpr ⟨c, ht, by rw [ho_s c]⟩)
    · omega
theorem par_congr (e1 : ∀ w, B.1 1 w = A.1 1 w) (e2 : ∀ w, B.1 2 w = A.1 2 w) (e5 : ∀ w, B.1 5 w = A.1 5 w) {w p : Nat} : par B w p ↔ par A w p := by
  have h1 : ∀ v, rowL B v = rowL A v := fun v => rowL_congr fun t _ => by unfold th home; rw [e1, e2]
  have h2 : homeOf B w = homeOf A w := by unfold homeOf home; rw [e2]
  unfold par
  rw [h2, h1]
  unfold org
  rw [e5]
theorem newA_WFC : WFC newA := fun x hx => by cases hx
theorem WFC.tbl (h : WFC A) (e1 : ∀ w, B.1 1 w = A.1 1 w) (e2 : ∀ w, B.1 2 w = A.1 2 w) (e5 : ∀ w, B.1 5 w = A.1 5 w) (e : B.2 = A.2) : WFC B := fun x hx w u hw hu c => by
  rw [e] at hx
  obtain ⟨p, h1, h2⟩ := h x hx w u hw hu c
  exact ⟨p, (par_congr e1 e2 e5).mpr h1, h2⟩
theorem hldA_WFC {s b : Nat} (h : WFC A) : WFC (hldA A s b) := h.tbl (fun w => by simp [hldA, ts]) (fun w => by simp [hldA, ts]) (fun w => by simp [hldA, ts]) rfl
theorem quoA_WFC {v q : Nat} (h : WFC A) : WFC (quoA A v q) := h.tbl (fun w => by simp [quoA, ts]) (fun w => by simp [quoA, ts]) (fun w => by simp [quoA, ts]) rfl
theorem setA_WFC {k x : Nat} (h : WFC A) : WFC (setA A k x) := h.tbl (fun w => by simp [setA, ts]) (fun w => by simp [setA, ts]) (fun w => by simp [setA, ts]) rfl
theorem own32 (h : WF A) {x : Blk} (hx : x ∈ A.2) : own x < 2 ^ 32 := Nat.lt_trans (h.2.2.2 x hx).2.2.2.2.2.2.1 (by decide)
theorem own_th (h : WF A) {x : Blk} (hx : x ∈ A.2) {w : Nat} (hw : (own x).testBit w = true) : w < 22 ∧ th A w := ⟨tb_22 (h.2.2.2 x hx).2.2.2.2.2.2.1 hw, (h.2.2.2 x hx).2.2.2.2.2.2.2 w hw⟩
/-- volumes give back -/
theorem WFC.leaf {g : Nat → Nat} (h0 : WF A) (h : WFC A) (e : B.2 = relB A.2 g) (hg : ∀ a w, (g a).testBit w = true → 16 ≤ w) (hp : ∀ w p, th A w → w < 22 → par A w p → par B w p) : WFC B := fun x hx w u hw hu c => by
  rw [e] at hx
  obtain ⟨y, hy, -, -, -, e4, -⟩ := rel_mem hx
  have hy32 := own32 h0 hy
  rw [e4, andn_bit hy32] at hw hu
  obtain ⟨t1, t2⟩ := own_th h0 hy hw.1
  obtain ⟨p, p1, p2⟩ := h y hy w u hw.1 hu.1 c
  refine ⟨p, hp w p t2 t1 p1, ?_⟩
  rw [e4, andn_bit hy32]
  have := par_lt h0 t1 t2 p1
  exact ⟨p2, fun q => by have := hg _ _ q; omega⟩
theorem relAt_hg (v a : Nat) : ∀ b w, (if b = a then 2 ^ (16 + v) else 0).testBit w = true → 16 ≤ w := fun b w q => by
  by_cases c : b = a
  · rw [if_pos c] at q
    have := pow_bit.mp q
    omega
  · rw [if_neg c, Nat.zero_testBit] at q
    cases q
theorem trmA_WFC {v a : Nat} (h0 : WF A) (h : WFC A) : WFC (trmA A v a) := h.leaf (g := fun b => if b = a then 2 ^ (16 + v) else 0) h0 rfl (relAt_hg v a) (fun w p _ _ hp => (par_congr (fun _ => rfl) (fun _ => rfl) (fun _ => rfl)).mpr hp)
theorem mkBlk_WFC {v a z : Nat} (h0 : WF A) (h : WFC A) : WFC (mkBlk A v a z) := fun x hx w u hw hu c => by
  rcases List.mem_append.mp hx with hx | hx
  · obtain ⟨p, p1, p2⟩ := trmA_WFC (v := v) (a := a) h0 h x hx w u hw hu c
    exact ⟨p, (par_congr (A := trmA A v a) (fun w => by simp [mkBlk, trmA, ts]) (fun w => by simp [mkBlk, trmA, ts]) (fun w => by simp [mkBlk, trmA, ts])).mpr p1, p2⟩
  · rw [List.mem_singleton] at hx
    subst hx
    have h1 := pow_bit.mp hw
    have h2 := pow_bit.mp hu
    omega
/-- t comes behind f: it has what f has -/
theorem WFC.lendN {f t : Nat} (h0 : WF A) (h : WFC A) (e : B.2 = lendB A.2 f t) (ht16 : 16 ≤ t) (hf : f < 16) (hpt : par B t f) (hp : ∀ w p, th A w → w < 22 → w ≠ t → par A w p → par B w p) (hn : ∀ x, x ∈ A.2 → ¬ (own x).testBit t = true) : WFC B := fun x hx w u hw hu c => by
  rw [e] at hx
  obtain ⟨y, hy, -, -, -, e4⟩ := lend_mem hx
  by_cases cf : (own y).testBit f = true
  · rw [if_pos cf] at e4
    rw [e4, or_bit, pow_bit] at hw hu
    by_cases cw : w = t
    · subst cw
      exact ⟨f, hpt, by rw [e4, or_bit]; exact Or.inl cf⟩
    · have hw' := hw.resolve_right (fun z => cw z.symm)
      obtain ⟨t1, t2⟩ := own_th h0 hy hw'
      have : ∃ u', (own y).testBit u' = true ∧ u' < w := by
        rcases hu with q | q
        · exact ⟨u, q, c⟩
        · exact ⟨f, cf, by omega⟩
      obtain ⟨u', q1, q2⟩ := this
      obtain ⟨p, p1, p2⟩ := h y hy w u' hw' q1 q2
      exact ⟨p, hp w p t2 t1 cw p1, by rw [e4, or_bit]; exact Or.inl p2⟩
  · rw [if_neg cf] at e4
    rw [e4] at hw hu
    obtain ⟨t1, t2⟩ := own_th h0 hy hw
    have cw : w ≠ t := fun z => hn y hy (z ▸ hw)
    obtain ⟨p, p1, p2⟩ := h y hy w u hw hu c
    exact ⟨p, hp w p t2 t1 cw p1, by rw [e4]; exact p2⟩
theorem no_own (h0 : WF A) {t : Nat} (ht : ¬ th A t) : ∀ x, x ∈ A.2 → ¬ (own x).testBit t = true := fun x hx q => ht (own_th h0 hx q).2
theorem mkVol_thC {o n w : Nat} : th (mkVol A o n) w ↔ th A w ∨ w = 16 + aV A := by
  show ts (ts (ts (ts (ts A.1 0 1 (aV A + 1)) 1 (16 + aV A) 1) 5 (aV A) o) 6 (aV A) 0) 8 (aV A) n 1 w = 1 ↔ _
  rw [ts_ne (by omega), ts_ne (by omega), ts_ne (by omega)]
  by_cases c : w = 16 + aV A
  · subst c; rw [ts_eq]; exact ⟨fun _ => Or.inr rfl, fun _ => rfl⟩
  · rw [ts_ne (by omega), ts_ne (by omega)]
    exact ⟨Or.inl, fun q => q.resolve_right c⟩
theorem mkVol_homeC {o n w : Nat} : home (mkVol A o n) w = home A w := by
  show ts (ts (ts (ts (ts A.1 0 1 (aV A + 1)) 1 (16 + aV A) 1) 5 (aV A) o) 6 (aV A) 0) 8 (aV A) n 2 w = A.1 2 w
  rw [ts_ne (by omega), ts_ne (by omega), ts_ne (by omega), ts_ne (by omega), ts_ne (by omega)]
theorem mkVol_orgC {o n v : Nat} : org (mkVol A o n) v = if v = aV A then o else org A v := by
  show ts (ts (ts (ts (ts A.1 0 1 (aV A + 1)) 1 (16 + aV A) 1) 5 (aV A) o) 6 (aV A) 0) 8 (aV A) n 5 v = _
  rw [ts_ne (by omega), ts_ne (by omega)]
  by_cases c : v = aV A
  · subst c; rw [ts_eq, if_pos rfl]
  · rw [ts_ne (by omega), ts_ne (by omega), ts_ne (by omega), if_neg c]; rfl
theorem mkVol_rowC {o n v : Nat} : rowL (mkVol A o n) v = rowL A v := rowL_congr fun t h => by
  rw [mkVol_thC, mkVol_homeC]
  exact ⟨fun q => ⟨q.1.resolve_right (by omega), q.2⟩, fun q => ⟨Or.inl q.1, q.2⟩⟩
theorem mkVol_par {o n w p : Nat} (h0 : WF A) (hv : aV A < 6) (hw : w < 22) (ht : th A w) (hp : par A w p) : par (mkVol A o n) w p := by
  have e : homeOf (mkVol A o n) w = homeOf A w := by unfold homeOf; rw [mkVol_homeC]
  obtain ⟨a1, a2⟩ := ho_ok h0 hw ht
  have hne : homeOf A w ≠ aV A := fun z => h0.nov (Nat.le_refl _) hv (z ▸ a2)
  unfold par
  rw [e, mkVol_rowC, mkVol_orgC, if_neg hne]
  exact hp
theorem mkVol_WFC {o n : Nat} (h0 : WF A) (h : WFC A) (hv : aV A < 6) (ho : o = 0 ∨ ∃ s, o = s + 1 ∧ s < 16 ∧ th A s) : WFC (mkVol A o n) := by
  rcases ho with rfl | ⟨s, rfl, hs, hts⟩
  · intro x hx w u hw hu c
    obtain ⟨t1, t2⟩ := own_th h0 hx hw
    obtain ⟨p, p1, p2⟩ := h x hx w u hw hu c
    exact ⟨p, mkVol_par h0 hv t1 t2 p1, p2⟩
  · refine h.lendN (f := s) (t := 16 + aV A) h0 rfl (by omega) hs ?_ (fun w p h1 h2 _ h3 => mkVol_par h0 hv h2 h1 h3) (no_own h0 (h0.nov (Nat.le_refl _) hv))
    refine Or.inr ⟨fun t ht => ?_, ?_⟩
    · rw [ho_v, mkVol_rowC] at ht
      exact absurd (mem_rowL.mp ht) (fun q => h0.nov (Nat.le_refl _) hv (by have := (h0.hv6 q.1 q.2.1).2; rw [q.2.2] at this; exact this))
    · rw [ho_v, mkVol_orgC, if_pos rfl]
theorem mkSnp_orgC {v n u : Nat} : org (mkSnp A v n) u = org A u := by
  show ts (ts (ts (ts (ts (ts (ts A.1 0 0 (aT A + 1)) 0 2 (aS A + 1)) 1 (aS A) 1) 2 (aS A) v) 3 (aS A) (aT A + 1)) 4 (aS A) 0) 7 (aS A) n 5 u = A.1 5 u
  rw [ts_ne (by omega), ts_ne (by omega), ts_ne (by omega), ts_ne (by omega), ts_ne (by omega), ts_ne (by omega), ts_ne (by omega)]
theorem mkSnp_WFC {v n : Nat} (h0 : WF A) (h : WFC A) (hs : aS A < 16) (hv : v < 6) (hvt : th A (16 + v)) : WFC (mkSnp A v n) := by
  have hrow : ∀ u, rowL (mkSnp A v n) u = if u = v then rowL A v ++ [aS A] else rowL A u := fun u => mkSnp_row h0 hs
  have hno := h0.nos (Nat.le_refl _) hs
  have hlt : ∀ t, th A t → t < 16 → t < aS A := fun t h1 h2 => (h0.1.2.2.2.2.1 t h2 h1).1
  have hhome : ∀ w, w ≠ aS A → homeOf (mkSnp A v n) w = homeOf A w := fun w c => by unfold homeOf; rw [mkSnp_home, if_neg c]
  have hpar : ∀ w p, w ≠ aS A → w ≠ 16 + v → th A w → w < 22 → par A w p → par (mkSnp A v n) w p := fun w p c1 c2 ht hw hp => by
    unfold par
    rw [hhome w c1, mkSnp_orgC, hrow]
    by_cases c : homeOf A w = v
    · rw [if_pos c]
      have hw16 : w < 16 := Classical.byContradiction fun q => c2 (by rw [← c]; unfold homeOf; rw [if_neg q]; omega)
      have := hlt w ht hw16
      unfold par at hp
      rw [c] at hp
      rw [c]
      rcases hp with ⟨q1, q2, q3⟩ | ⟨q1, q2⟩
      · refine Or.inl ⟨List.mem_append.mpr (Or.inl q1), q2, fun t h1 h2 => ?_⟩
        rcases List.mem_append.mp h1 with h1 | h1
        · exact q3 t h1 h2
        · rw [List.mem_singleton] at h1; omega
      · refine Or.inr ⟨fun t h1 h2 => ?_, q2⟩
        rcases List.mem_append.mp h1 with h1 | h1
        · exact q1 t h1 h2
        · rw [List.mem_singleton] at h1; omega
    · rw [if_neg c]; exact hp
  have hk : ∀ p, par A (16 + v) p → par (mkSnp A v n) (aS A) p := fun p hp => by
    unfold par at hp ⊢
    rw [ho_v] at hp
    rw [ho_s hs, mkSnp_home, if_pos rfl, mkSnp_orgC, hrow, if_pos rfl]
    rcases hp with ⟨q1, q2, q3⟩ | ⟨q1, q2⟩
    · have := mem_rowL.mp q1
      refine Or.inl ⟨List.mem_append.mpr (Or.inl q1), hlt p this.2.1 this.1, fun t h1 h2 => ?_⟩
      rcases List.mem_append.mp h1 with h1 | h1
      · exact q3 t h1 (by omega)
      · rw [List.mem_singleton] at h1; omega
    · refine Or.inr ⟨fun t h1 h2 => ?_, q2⟩
      rcases List.mem_append.mp h1 with h1 | h1
      · exact q1 t h1 (by omega)
      · rw [List.mem_singleton] at h1; omega
  have hkv : par (mkSnp A v n) (16 + v) (aS A) := by
    unfold par
    rw [ho_v, hrow, if_pos rfl]
    refine Or.inl ⟨List.mem_append.mpr (Or.inr (List.mem_singleton.mpr rfl)), by omega, fun t h1 h2 => ?_⟩
    rcases List.mem_append.mp h1 with h1 | h1
    · have := mem_rowL.mp h1; have := hlt t this.2.1 this.1; omega
    · rw [List.mem_singleton] at h1; omega
  intro x hx w u hw hu c
  obtain ⟨y, hy, -, -, -, e4⟩ := lend_mem (show x ∈ lendB A.2 (16 + v) (aS A) from hx)
  by_cases cf : (own y).testBit (16 + v) = true
  · rw [if_pos cf] at e4
    have hin : ∀ q, (own x).testBit q = true ↔ (own y).testBit q = true ∨ aS A = q := fun q => by rw [e4, or_bit, pow_bit]
    rw [hin] at hw hu
    by_cases cw : w = aS A
    · subst cw
      have hu' := hu.resolve_right (by omega)
      obtain ⟨p, p1, p2⟩ := h y hy (16 + v) u cf hu' (by omega)
      exact ⟨p, hk p p1, (hin p).mpr (Or.inl p2)⟩
    · by_cases cv : w = 16 + v
      · subst cv
        exact ⟨aS A, hkv, (hin _).mpr (Or.inr rfl)⟩
      · have hw' := hw.resolve_right (fun z => cw z.symm)
        obtain ⟨t1, t2⟩ := own_th h0 hy hw'
        have : ∃ u', (own y).testBit u' = true ∧ u' < w := by
          rcases hu with q | q
          · exact ⟨u, q, c⟩
          · by_cases cc : 16 + v < w
            · exact ⟨16 + v, cf, cc⟩
            · obtain ⟨p, p1, p2⟩ := h y hy (16 + v) w cf hw' (by omega)
              have := par_lt h0 (by omega) hvt p1
              by_cases c16 : w < 16
              · have := hlt w t2 c16; omega
              · exact ⟨p, p2, by omega⟩
        obtain ⟨u', q1, q2⟩ := this
        obtain ⟨p, p1, p2⟩ := h y hy w u' hw' q1 q2
        exact ⟨p, hpar w p cw cv t2 t1 p1, (hin p).mpr (Or.inl p2)⟩
  · rw [if_neg cf] at e4
    rw [e4] at hw hu
    obtain ⟨t1, t2⟩ := own_th h0 hy hw
    obtain ⟨p, p1, p2⟩ := h y hy w u hw hu c
    exact ⟨p, hpar w p (fun z => hno (z ▸ t2)) (fun z => cf (z ▸ hw)) t2 t1 p1, by rw [e4]; exact p2⟩
theorem andn_or2 {a m n : Nat} (ha : a < 2 ^ 32) : andn (andn a m) n = andn a (m ||| n) := andn_or ha
theorem rel_rel {bl : List Blk} {a b : Nat} (h : ∀ x, x ∈ bl → own x < 2 ^ 32) : relB (relB bl (fun _ => a)) (fun _ => b) = relB bl (fun _ => a ||| b) := by
  induction bl with
  | nil => rfl
  | cons x bl ih =>
    have hx := h x (List.mem_cons_self ..)
    have ih' := ih (fun y hy => h y (List.mem_cons_of_mem _ hy))
    rw [relB_cons x bl (fun _ => a), relB_cons x bl (fun _ => a ||| b), ← andn_or hx]
    by_cases c : andn (own x) a = 0
    · rw [if_pos c, ih', if_pos (by rw [c]; exact Nat.zero_and _)]
    · rw [if_neg c, relB_cons]
      show (if andn (andn (own x) a) b = 0 then _ else _) = _
      by_cases c2 : andn (andn (own x) a) b = 0
      · rw [if_pos c2, if_pos c2, ih']
      · rw [if_neg c2, if_neg c2, ih']
theorem drop_drop {T : Nat → Nat → Nat} {a b : Nat} : dropT (dropT T a) b = dropT T (a ||| b) := funext fun i => funext fun j => by
  unfold dropT
  by_cases c : i = 1
  · by_cases ca : a.testBit j = true
    · rw [if_pos (c := i = 1 ∧ (a ||| b).testBit j = true) ⟨c, or_bit.mpr (Or.inl ca)⟩, if_pos (c := i = 1 ∧ a.testBit j = true) ⟨c, ca⟩]
      exact ite_self _
    · rw [if_neg (c := i = 1 ∧ a.testBit j = true) (fun z => ca z.2)]
      by_cases cb : b.testBit j = true
      · rw [if_pos ⟨c, cb⟩, if_pos ⟨c, or_bit.mpr (Or.inr cb)⟩]
      · rw [if_neg (fun z => cb z.2), if_neg (fun z => (or_bit.mp z.2).elim ca cb)]
  · rw [if_neg (fun z => c z.1), if_neg (fun z => c z.1), if_neg (fun z => c z.1)]
theorem rem_rem (h : WF A) {a b : Nat} : remA (remA A a) b = remA A (a ||| b) := by
  unfold remA
  show (dropT (dropT A.1 a) b, relB (relB A.2 fun _ => a) fun _ => b) = _
  rw [drop_drop, rel_rel (fun x hx => own32 h hx)]
theorem rem_th {m w : Nat} : th (remA A m) w ↔ th A w ∧ ¬ m.testBit w = true := drop_th (bl' := A.2)
theorem rem_home {m t : Nat} : home (remA A m) t = home A t := drop_ne (T := A.1) (m := m) (i := 2) (j := t) (by decide)
theorem rem_org {m t : Nat} : org (remA A m) t = org A t := drop_ne (T := A.1) (m := m) (i := 5) (j := t) (by decide)
theorem rem_hof {m w : Nat} : homeOf (remA A m) w = homeOf A w := by unfold homeOf; rw [rem_home]
theorem rem_row {m v t : Nat} : t ∈ rowL (remA A m) v ↔ t ∈ rowL A v ∧ ¬ m.testBit t = true := by
  unfold remA
  rw [drop_row, List.mem_filter]
  simp
/-- a snapshot without clones goes -/
theorem rem1_WFC {s : Nat} (h0 : WF A) (h : WFC A) (hs : s < 16) (hts : th A s) (hc : clo A s = 0) : WFC (remA A (2 ^ s)) := fun x hx w u hw hu c => by
  obtain ⟨y, hy, -, -, -, e4, -⟩ := rel_mem (show x ∈ relB A.2 (fun _ => 2 ^ s) from hx)
  have hy32 := own32 h0 hy
  have hin : ∀ q, (own x).testBit q = true ↔ (own y).testBit q = true ∧ ¬ s = q := fun q => by rw [e4, andn_bit hy32, pow_bit]
  have hr : ∀ v t, t ∈ rowL (remA A (2 ^ s)) v ↔ t ∈ rowL A v ∧ ¬ s = t := fun v t => by rw [rem_row, pow_bit]
  rw [hin] at hw hu
  obtain ⟨t1, t2⟩ := own_th h0 hy hw.1
  obtain ⟨p, p1, p2⟩ := h y hy w u hw.1 hu.1 c
  obtain ⟨hp1, hp2, hp3⟩ := par_lt h0 t1 t2 p1
  by_cases cp : s = p
  · subst cp
    obtain ⟨a1, a2⟩ := ho_ok h0 t1 t2
    have hne := clo_0.mp hc _ a1 a2
    rcases p1 with ⟨b1, b2, b3⟩ | ⟨-, b2⟩
    · have hhome : home A s = homeOf A w := (mem_rowL.mp b1).2.2
      by_cases cm : ∃ z, (own y).testBit z = true ∧ z < s
      · obtain ⟨z, z1, z2⟩ := cm
        obtain ⟨q, q1, q2⟩ := h y hy s z p2 z1 z2
        obtain ⟨c1, c2, c3⟩ := par_lt h0 (by omega) hts q1
        refine ⟨q, ?_, (hin q).mpr ⟨q2, by omega⟩⟩
        unfold par at q1 ⊢
        rw [ho_s hs, hhome] at q1
        rw [rem_hof, rem_org]
        rcases q1 with ⟨d1, d2, d3⟩ | ⟨d1, d2⟩
        · refine Or.inl ⟨(hr _ _).mpr ⟨d1, by omega⟩, by omega, fun t h1 h2 => ?_⟩
          have h3 := (hr _ _).mp h1
          have := b3 t h3.1 h2
          exact d3 t h3.1 (by omega)
        · refine Or.inr ⟨fun t h1 h2 => ?_, d2⟩
          have h3 := (hr _ _).mp h1
          have := b3 t h3.1 h2
          exact d1 t h3.1 (by omega)
      · exfalso
        have key : ∀ n z, z ≤ n → (own y).testBit z = true → z ≠ s → w ≤ z := by
          intro n
          induction n with
          | zero =>
            intro z hz h1 h2
            exact absurd ⟨z, h1, by omega⟩ cm
          | succ n ih =>
            intro z hz h1 h2
            have h3 : s < z := Nat.lt_of_le_of_ne (Nat.le_of_not_lt fun q => cm ⟨z, h1, q⟩) (fun q => h2 q.symm)
            obtain ⟨q, q1, q2⟩ := h y hy z s h1 p2 h3
            obtain ⟨t3, t4⟩ := own_th h0 hy h1
            obtain ⟨c1, c2, c3⟩ := par_lt h0 t3 t4 q1
            by_cases cq : q = s
            · subst cq
              obtain ⟨a3, a4⟩ := ho_ok h0 t3 t4
              rcases q1 with ⟨d1, d2, d3⟩ | ⟨-, d2⟩
              · have e1 : homeOf A z = homeOf A w := by rw [← (mem_rowL.mp d1).2.2, hhome]
                refine Nat.le_of_not_lt fun hzw => ?_
                by_cases z16 : z < 16
                · have := b3 z (mem_rowL.mpr ⟨z16, t4, by rw [← ho_s z16, e1]⟩) hzw
                  omega
                · have w16 : ¬ w < 16 := by omega
                  unfold homeOf at e1
                  rw [if_neg z16, if_neg w16] at e1
                  omega
              · exact absurd d2 (clo_0.mp hc _ a3 a4)
            · have := ih q (by omega) q2 cq
              omega
        have := key u u (Nat.le_refl _) hu.1 (fun z => hu.2 z.symm)
        omega
    · exact absurd b2 hne
  · refine ⟨p, ?_, (hin p).mpr ⟨p2, cp⟩⟩
    unfold par at p1 ⊢
    rw [rem_hof, rem_org]
    rcases p1 with ⟨d1, d2, d3⟩ | ⟨d1, d2⟩
    · exact Or.inl ⟨(hr _ _).mpr ⟨d1, cp⟩, d2, fun t h1 h2 => d3 t ((hr _ _).mp h1).1 h2⟩
    · exact Or.inr ⟨fun t h1 h2 => d1 t ((hr _ _).mp h1).1 h2, d2⟩
theorem rem_none (h0 : WF A) {m : Nat} (hm : ∀ w, w < 22 → m.testBit w = true → ¬ th A w) (h : WFC A) : WFC (remA A m) := fun x hx w u hw hu c => by
  obtain ⟨y, hy, -, -, -, e4, -⟩ := rel_mem (show x ∈ relB A.2 (fun _ => m) from hx)
  have hy32 := own32 h0 hy
  rw [e4, andn_bit hy32] at hw hu
  obtain ⟨t1, t2⟩ := own_th h0 hy hw.1
  obtain ⟨p, p1, p2⟩ := h y hy w u hw.1 hu.1 c
  obtain ⟨c1, c2, c3⟩ := par_lt h0 t1 t2 p1
  have hr : ∀ v t, t ∈ rowL (remA A m) v ↔ t ∈ rowL A v := fun v t => by
    rw [rem_row]
    exact ⟨And.left, fun q => ⟨q, fun z => hm t (by have := (mem_rowL.mp q).1; omega) z (mem_rowL.mp q).2.1⟩⟩
  refine ⟨p, ?_, by rw [e4, andn_bit hy32]; exact ⟨p2, fun z => hm p (by omega) z c3⟩⟩
  unfold par at p1 ⊢
  rw [rem_hof, rem_org]
  rcases p1 with ⟨d1, d2, d3⟩ | ⟨d1, d2⟩
  · exact Or.inl ⟨(hr _ _).mpr d1, d2, fun t h1 h2 => d3 t ((hr _ _).mp h1) h2⟩
  · exact Or.inr ⟨fun t h1 h2 => d1 t ((hr _ _).mp h1) h2, d2⟩
theorem remv_WFC {v : Nat} (h0 : WF A) (h : WFC A) : WFC (remA A (2 ^ (16 + v))) := by
  refine h.leaf (g := fun _ => 2 ^ (16 + v)) h0 rfl (fun a w q => by have := pow_bit.mp q; omega) (fun w p t2 t1 p1 => ?_)
  have hr : ∀ v' t, t ∈ rowL (remA A (2 ^ (16 + v))) v' ↔ t ∈ rowL A v' := fun v' t => by
    rw [rem_row, pow_bit]
    exact ⟨And.left, fun q => ⟨q, fun z => by have := (mem_rowL.mp q).1; omega⟩⟩
  unfold par at p1 ⊢
  rw [rem_hof, rem_org]
  rcases p1 with ⟨d1, d2, d3⟩ | ⟨d1, d2⟩
  · exact Or.inl ⟨(hr _ _).mpr d1, d2, fun t h1 h2 => d3 t ((hr _ _).mp h1) h2⟩
  · exact Or.inr ⟨fun t h1 h2 => d1 t ((hr _ _).mp h1) h2, d2⟩
theorem mod_bit {m k i : Nat} : (m % 2 ^ k).testBit i = true ↔ i < k ∧ m.testBit i = true := by
  rw [Nat.testBit_mod_two_pow, Bool.and_eq_true, decide_eq_true_eq]
theorem mod_or (m k : Nat) : m % 2 ^ (k + 1) = m % 2 ^ k ||| (if m.testBit k = true then 2 ^ k else 0) := eq_bits fun i => by
  rw [mod_bit, or_bit, mod_bit]
  by_cases c : m.testBit k = true
  · rw [if_pos c, pow_bit]
    constructor
    · rintro ⟨a, b⟩
      by_cases e : k = i
      · exact Or.inr e
      · exact Or.inl ⟨by omega, b⟩
    · rintro (⟨a, b⟩ | e)
      · exact ⟨by omega, b⟩
      · exact ⟨by omega, e ▸ c⟩
  · rw [if_neg c, Nat.zero_testBit]
    constructor
    · rintro ⟨a, b⟩
      exact Or.inl ⟨by have : i ≠ k := fun z => c (z ▸ b); omega, b⟩
    · rintro (⟨a, b⟩ | e)
      · exact ⟨by omega, b⟩
      · cases e
theorem remA_WFC {m : Nat} (h0 : WF A) (h : WFC A) (hm : m < 2 ^ 22) (h1 : ∀ s, s < 16 → m.testBit s = true → whyN A s = 0) (h2 : ∀ s, s < 16 → th A s → m.testBit (16 + home A s) = true → m.testBit s = true) : WFC (remA A m) := by
  have hgo : ∀ k, MayGo A (m % 2 ^ k) := fun k => by
    refine ⟨fun s hs q => (whyN_0.mp (h1 s hs (mod_bit.mp q).2)).2, fun s hs ht q => ?_, fun v s hv ht ho q => ?_⟩
    · have := mod_bit.mp q
      exact mod_bit.mpr ⟨by omega, h2 s hs ht this.2⟩
    · have hs : s < 16 := by have := (h0.1.2.2.2.1 v hv ht).2.1; omega
      exact absurd ho (clo_0.mp (whyN_0.mp (h1 s hs (mod_bit.mp q).2)).1 v hv ht)
  have key : ∀ k, k ≤ 22 → WFC (remA A (m % 2 ^ k)) := by
    intro k
    induction k with
    | zero =>
      intro _
      rw [Nat.pow_zero, Nat.mod_one]
      exact rem_none h0 (fun w _ q => by rw [Nat.zero_testBit] at q; cases q) h
    | succ k ih =>
      intro hk
      have hw := remA_WF h0 (hgo k)
      have hc := ih (by omega)
      rw [mod_or, ← rem_rem h0]
      by_cases c : m.testBit k = true
      · rw [if_pos c]
        by_cases k16 : k < 16
        · by_cases ht : th (remA A (m % 2 ^ k)) k
          · refine rem1_WFC hw hc k16 ht (clo_0.mpr fun v hv q1 q2 => ?_)
            rw [rem_org] at q2
            exact clo_0.mp (whyN_0.mp (h1 k k16 c)).1 v hv (rem_th.mp q1).1 q2
          · exact rem_none hw (fun w _ q => by have := pow_bit.mp q; exact this ▸ ht) hc
        · rw [show k = 16 + (k - 16) by omega]
          rw [show 16 + (k - 16) = k by omega] at *
          have := remv_WFC (v := k - 16) hw hc
          rw [show 16 + (k - 16) = k by omega] at this
          exact this
      · rw [if_neg c]
        exact rem_none hw (fun w _ q => by rw [Nat.zero_testBit] at q; cases q) hc
  have := key 22 (Nat.le_refl _)
  rwa [Nat.mod_eq_of_lt hm] at this
theorem rolA_WFC {s : Nat} (h0 : WF A) (h : WFC A) (hs : s < 16) (ht : th A s) (hw : ∀ t, t < 16 → (rowB A s).testBit t = true → whyN A t = 0) : WFC (rolA A s) := by
  have hl := rowB_lt (A := A) (s := s)
  obtain ⟨v6, vt⟩ := h0.hv6 hs ht
  have hgo := mayGo_snp hl hw
  have hB : WFC (remA A (rowB A s)) := remA_WFC h0 h (by omega) hw (fun t h1 h2 q => by have := lt16_bit hl q; omega)
  have hBW := remA_WF h0 hgo
  have hC : WFC (dropT A.1 (rowB A s), relB A.2 (fun _ => rowB A s ||| 2 ^ (16 + home A s))) := by
    rw [← rel_rel (fun x hx => own32 h0 hx)]
    exact hB.leaf (g := fun _ => 2 ^ (16 + home A s)) hBW rfl (fun a w q => by have := pow_bit.mp q; omega) (fun w p _ _ p1 => (par_congr (A := remA A (rowB A s)) (fun _ => rfl) (fun _ => rfl) (fun _ => rfl)).mpr p1)
  have hCW : WF (dropT A.1 (rowB A s), relB A.2 (fun _ => rowB A s ||| 2 ^ (16 + home A s))) :=
    drop_WF h0 hgo (h0.2.2.rel (g := fun _ => rowB A s ||| 2 ^ (16 + home A s)) rfl drop_aT (fun w x _ _ q1 q2 => (drop_th (bl' := A.2)).mpr ⟨q1, fun z => q2 (or_bit.mpr (Or.inl z))⟩))
  refine hC.lendN (B := rolA A s) (f := s) (t := 16 + home A s) hCW rfl (by omega) hs (Or.inl ⟨?_, by omega, fun t h1 h2 => ?_⟩) (fun w p _ _ _ p1 => (par_congr (A := (dropT A.1 (rowB A s), relB A.2 (fun _ => rowB A s ||| 2 ^ (16 + home A s)))) (fun _ => rfl) (fun _ => rfl) (fun _ => rfl)).mpr p1) (fun x hx q => ?_)
  · rw [ho_v]
    have : s ∈ rowL (remA A (rowB A s)) (home A s) := rem_row.mpr ⟨mem_rowL.mpr ⟨hs, ht, rfl⟩, fun z => by have := (rowB_bit.mp z).2.2.2; omega⟩
    exact this
  · rw [ho_v] at h1
    have h3 : t ∈ rowL (remA A (rowB A s)) (home A s) := h1
    obtain ⟨h4, h5⟩ := rem_row.mp h3
    obtain ⟨q1, q2, q3⟩ := mem_rowL.mp h4
    exact Nat.le_of_not_lt fun z => h5 (rowB_bit.mpr ⟨q1, q2, q3, z⟩)
  · obtain ⟨y, hy, -, -, -, e4, -⟩ := rel_mem (show x ∈ relB A.2 (fun _ => rowB A s ||| 2 ^ (16 + home A s)) from hx)
    rw [e4, andn_bit (own32 h0 hy)] at q
    exact q.2 (or_bit.mpr (Or.inr (pow_bit.mpr rfl)))
theorem proA_WFC {v : Nat} (h0 : WF A) (h : WFC A) (hv : v < 6) (ht : th A (16 + v)) (ho : org A v ≠ 0) : WFC (proA A v) := by
  obtain ⟨s, ho⟩ : ∃ s, org A v = s + 1 := ⟨org A v - 1, by omega⟩
  obtain ⟨hne, hs, hts⟩ := pro_ne h0 hv ht ho
  have hmem := fun u t => proA_mem (u := u) (t := t) h0 hv ht ho
  have horg := fun u => proA_org (A := A) (v := v) (s := s) (u := u) ho
  have hsr : s ∈ rowL A (home A s) := mem_rowL.mpr ⟨hs, hts, rfl⟩
  have hvs := (h0.2.1 v s hv ht ho).2
  have hpar : ∀ w p, th A w → w < 22 → par A w p → par (proA A v) w p := fun w p tw hw hp => by
    have hlt := (par_lt h0 hw tw hp).1
    have hh : homeOf (proA A v) w = if w < 16 ∧ home A w = home A s ∧ w ≤ s then v else homeOf A w := by
      unfold homeOf
      by_cases c : w < 16
      · rw [if_pos c, proA_home ho]
        by_cases d : home A w = home A s ∧ w ≤ s
        · rw [if_pos (show A.1 1 w = 1 ∧ A.1 2 w = home A s ∧ w ≤ s from ⟨tw, d⟩), if_pos ⟨c, d⟩]
        · rw [if_neg (fun z => d z.2), if_neg (fun z => d z.2), if_pos c]
      · rw [if_neg c, if_neg (fun z => c z.1), if_neg c]
    unfold par at hp ⊢
    rw [hh, horg]
    by_cases cw : w < 16 ∧ home A w = home A s ∧ w ≤ s
    · rw [if_pos cw, if_pos rfl]
      rw [ho_s cw.1, cw.2.1] at hp
      rcases hp with ⟨d1, d2, d3⟩ | ⟨d1, d2⟩
      · refine Or.inl ⟨(hmem _ _).mpr (Or.inl ⟨rfl, Or.inr ⟨d1, by omega⟩⟩), d2, fun t h1 h2 => ?_⟩
        rcases (hmem _ _).mp h1 with ⟨-, q | q⟩ | ⟨q, -⟩ | ⟨q, -⟩
        · have := hvs t q; omega
        · exact d3 t q.1 h2
        · exact absurd q.symm hne
        · exact absurd rfl q
      · refine Or.inr ⟨fun t h1 h2 => ?_, d2⟩
        rcases (hmem _ _).mp h1 with ⟨-, q | q⟩ | ⟨q, -⟩ | ⟨q, -⟩
        · have := hvs t q; omega
        · exact d1 t q.1 h2
        · exact absurd q.symm hne
        · exact absurd rfl q
    · rw [if_neg cw]
      by_cases cv : homeOf A w = v
      · rw [cv] at hp ⊢
        have hsw : s < w := by
          by_cases c : w < 16
          · exact hvs w (mem_rowL.mpr ⟨c, tw, by rw [← ho_s c, cv]⟩)
          · omega
        rcases hp with ⟨d1, d2, d3⟩ | ⟨d1, d2⟩
        · refine Or.inl ⟨(hmem _ _).mpr (Or.inl ⟨rfl, Or.inl d1⟩), d2, fun t h1 h2 => ?_⟩
          rcases (hmem _ _).mp h1 with ⟨-, q | q⟩ | ⟨q, -⟩ | ⟨q, -⟩
          · exact d3 t q h2
          · have := hvs p d1; omega
          · exact absurd q.symm hne
          · exact absurd rfl q
        · have e : p = s := by omega
          subst e
          refine Or.inl ⟨(hmem _ _).mpr (Or.inl ⟨rfl, Or.inr ⟨hsr, Nat.le_refl _⟩⟩), hsw, fun t h1 h2 => ?_⟩
          rcases (hmem _ _).mp h1 with ⟨-, q | q⟩ | ⟨q, -⟩ | ⟨q, -⟩
          · exact absurd h2 (d1 t q)
          · exact q.2
          · exact absurd q.symm hne
          · exact absurd rfl q
      · rw [if_neg cv]
        by_cases cu : homeOf A w = home A s
        · rw [cu] at hp ⊢
          rw [if_pos rfl]
          have hsw : s < w := by
            by_cases c : w < 16
            · exact Nat.lt_of_not_le fun z => cw ⟨c, by rw [← ho_s c, cu], z⟩
            · omega
          rcases hp with ⟨d1, d2, d3⟩ | ⟨d1, d2⟩
          · have := d3 s hsr hsw
            by_cases e : p = s
            · subst e
              refine Or.inr ⟨fun t h1 h2 => ?_, rfl⟩
              rcases (hmem _ _).mp h1 with ⟨q, -⟩ | ⟨-, q⟩ | ⟨-, q, -⟩
              · exact hne q
              · have := d3 t q.1 h2; omega
              · exact absurd rfl q
            · refine Or.inl ⟨(hmem _ _).mpr (Or.inr (Or.inl ⟨rfl, d1, by omega⟩)), d2, fun t h1 h2 => ?_⟩
              rcases (hmem _ _).mp h1 with ⟨q, -⟩ | ⟨-, q⟩ | ⟨-, q, -⟩
              · exact absurd q hne
              · exact d3 t q.1 h2
              · exact absurd rfl q
          · exact absurd hsw (d1 s hsr)
        · rw [if_neg cu]
          have hr : ∀ t, t ∈ rowL (proA A v) (homeOf A w) ↔ t ∈ rowL A (homeOf A w) := fun t => by
            rw [hmem]
            exact ⟨fun q => by
              rcases q with ⟨q, -⟩ | ⟨q, -⟩ | ⟨-, -, q⟩
              · exact absurd q cv
              · exact absurd q cu
              · exact q, fun q => Or.inr (Or.inr ⟨cv, cu, q⟩)⟩
          rcases hp with ⟨d1, d2, d3⟩ | ⟨d1, d2⟩
          · exact Or.inl ⟨(hr _).mpr d1, d2, fun t h1 h2 => d3 t ((hr _).mp h1) h2⟩
          · exact Or.inr ⟨fun t h1 h2 => d1 t ((hr _).mp h1) h2, d2⟩
  intro x hx w u hw hu c
  obtain ⟨t1, t2⟩ := own_th h0 (show x ∈ A.2 from hx) hw
  obtain ⟨p, p1, p2⟩ := h x hx w u hw hu c
  exact ⟨p, hpar w p t2 t1 p1, p2⟩
end WFS
