/-! THE CHANGES KEEP A POOL WELL: snapshots, blocks, settings -/
section WFS
variable {A : AS}
theorem WF.hv6 (h : WF A) {s : Nat} (hs : s < 16) (ht : th A s) : home A s < 6 ∧ th A (16 + home A s) := ⟨(h.1.2.2.2.2.1 s hs ht).2.1, (h.1.2.2.2.2.1 s hs ht).2.2.1⟩
theorem WF.nos (h : WF A) {s : Nat} (hs : aS A ≤ s) (h16 : s < 16) : ¬ th A s := fun z => by have := (h.1.2.2.2.2.1 s h16 z).1; omega
theorem WF.nov (h : WF A) {v : Nat} (hv : aV A ≤ v) (h6 : v < 6) : ¬ th A (16 + v) := fun z => by have := (h.1.2.2.2.1 v h6 z).1; omega
theorem mkSnp_th {v n w : Nat} : th (mkSnp A v n) w ↔ th A w ∨ w = aS A := by
  simp only [th, mkSnp, ts]
  by_cases e : w = aS A <;> simp [e]
theorem mkSnp_home {v n t : Nat} : home (mkSnp A v n) t = if t = aS A then v else home A t := by
  simp only [home, mkSnp, ts]
  by_cases e : t = aS A <;> simp [e]
theorem mkSnp_row {v n u : Nat} (h : WF A) (hs : aS A < 16) : rowL (mkSnp A v n) u = if u = v then rowL A v ++ [aS A] else rowL A u := by
  have hlt : ∀ t u, t ∈ rowL A u → t < aS A := fun t u ht => by
    have := mem_rowL.mp ht
    exact (h.1.2.2.2.2.1 t this.1 this.2.1).1
  by_cases e : u = v
  · subst e
    rw [if_pos rfl]
    refine rowL_is (List.pairwise_append.mpr ⟨rowL_pw A u, List.pairwise_singleton _ _, fun x hx y hy => ?_⟩) (fun t => ?_)
    · rw [List.mem_singleton] at hy; subst hy; exact hlt x u hx
    · rw [List.mem_append, List.mem_singleton, mem_rowL, mkSnp_th, mkSnp_home]
      by_cases q : t = aS A
      · subst q; simp [hs]
      · simp [q]
  · rw [if_neg e]
    refine rowL_is (rowL_pw A u) (fun t => ?_)
    rw [mem_rowL, mkSnp_th, mkSnp_home]
    by_cases q : t = aS A
    · subst q
      have := h.nos (Nat.le_refl _) hs
      simp [this]
      intro _ z; exact e z.symm
    · simp [q]
theorem mkSnp_WF {v n : Nat} (h : WF A) (hs : aS A < 16) (hv : v < 6) (hvt : th A (16 + v)) (hn : n < 2 ^ 30) (hT : aT A + 1 < 2 ^ 24) : WF (mkSnp A v n) := by
  have h' := h
  obtain ⟨⟨a1, a2, a3, a4, a5, a6⟩, b, c⟩ := h
  have eT : aT (mkSnp A v n) = aT A + 1 := by simp [aT, mkSnp, ts]
  have eV : aV (mkSnp A v n) = aV A := by simp [aV, mkSnp, ts]
  have eS : aS (mkSnp A v n) = aS A + 1 := by simp [aS, mkSnp, ts]
  have eP : aP (mkSnp A v n) = aP A := by simp [aP, mkSnp, ts]
  have eC : aC (mkSnp A v n) = aC A := by simp [aC, mkSnp, ts]
  have e5 : ∀ u, org (mkSnp A v n) u = org A u := fun u => by simp [org, mkSnp, ts]
  have e6 : ∀ u, quo (mkSnp A v n) u = quo A u := fun u => by simp [quo, mkSnp, ts]
  have e8 : ∀ u, vnm (mkSnp A v n) u = vnm A u := fun u => by simp [vnm, mkSnp, ts]
  have hvt' : ∀ u, u < 6 → th (mkSnp A v n) (16 + u) → th A (16 + u) := fun u hu z => by
    rcases mkSnp_th.mp z with q | q
    · exact q
    · omega
  refine ⟨⟨⟨by rw [eT]; exact hT, by rw [eV]; exact a1.2.1, by rw [eS]; omega, by rw [eP]; exact a1.2.2.2.1, by rw [eC]; exact a1.2.2.2.2⟩, ?_, ?_, ?_, ?_, ?_⟩, ?_, ?_⟩
  · intro w hw
    have := a2 w hw
    simp only [mkSnp, ts]
    by_cases e : w = aS A <;> simp [e] ; exact this
  · intro s hs16
    have := a3 s hs16
    simp only [mkSnp, ts]
    by_cases e : s = aS A <;> simp [e] ; exact this
  · intro u hu z
    rw [e5, e6, e8, eV]
    exact a4 u hu (hvt' u hu z)
  · intro t ht z
    rw [eS, mkSnp_home, eT]
    by_cases e : t = aS A
    · subst e
      refine ⟨by omega, by rw [if_pos rfl]; exact hv, by rw [if_pos rfl]; exact mkSnp_th.mpr (Or.inl hvt), ?_, ?_⟩
      · simp [stm, mkSnp, ts]
      · simpa [snm, mkSnp, ts] using hn
    · have ht' : th A t := by
        rcases mkSnp_th.mp z with q | q
        · exact q
        · exact absurd q e
      have := a5 t ht ht'
      rw [if_neg e]
      refine ⟨by omega, this.2.1, mkSnp_th.mpr (Or.inl this.2.2.1), ?_, ?_⟩
      · have e3 : stm (mkSnp A v n) t = stm A t := by simp [stm, mkSnp, ts, e]
        omega
      · have e3 : snm (mkSnp A v n) t = snm A t := by simp [snm, mkSnp, ts, e]
        omega
  · intro t ht z
    by_cases e : t = aS A
    · subst e; exact mkSnp_th.mpr (Or.inr rfl)
    · refine mkSnp_th.mpr (Or.inl (a6 t ht ?_))
      have : (mkSnp A v n).1 4 t = 1 := z
      simpa [mkSnp, ts, e, hld] using this
  · intro u s hu z ho
    rw [e5] at ho
    have := b u s hu (hvt' u hu z) ho
    refine ⟨mkSnp_th.mpr (Or.inl this.1), fun t ht => ?_⟩
    rw [mkSnp_row h' hs] at ht
    split at ht
    · next e =>
      subst e
      rcases List.mem_append.mp ht with q | q
      · exact this.2 t q
      · rw [List.mem_singleton] at q
        subst q
        have h16 : s < 16 := by have := (a4 u hu (hvt' u hu z)).2.1; omega
        exact (a5 s h16 this.1).1
    · exact this.2 t ht
  · exact c.lend (f := 16 + v) (t := aS A) rfl (by omega) (by omega) (fun x hx z => h'.nos (Nat.le_refl _) hs ((c.2 x hx).2.2.2.2.2.2.2 _ z)) (fun w _ hw => mkSnp_th.mpr (Or.inl hw)) (mkSnp_th.mpr (Or.inr rfl))
/-- a pool with the same table but for the settings, time, quotas, holds -/
theorem WF.tbl {B : AS} (h : WF A) (e1 : ∀ w, B.1 1 w = A.1 1 w) (e2 : ∀ w, B.1 2 w = A.1 2 w) (e3 : ∀ w, B.1 3 w = A.1 3 w) (e5 : ∀ w, B.1 5 w = A.1 5 w) (e7 : ∀ w, B.1 7 w = A.1 7 w) (e8 : ∀ w, B.1 8 w = A.1 8 w) (eV : aV B = aV A) (eS : aS B = aS A)
    (hT : aT A ≤ aT B ∧ aT B < 2 ^ 24) (hP : aP B ≤ 999) (hC : aC B ≤ 5) (h6 : ∀ v, v < 6 → th A (16 + v) → quo B v ≤ 999) (h4 : ∀ s, s < 16 → B.1 4 s ≤ 1) (h4' : ∀ s, s < 16 → hld B s → th A s) (hB : WFB B) : WF B := by
  obtain ⟨⟨a1, a2, a3, a4, a5, a6⟩, b, c⟩ := h
  have hth : ∀ w, th B w ↔ th A w := fun w => by unfold th; rw [e1]
  have hrow : ∀ v, rowL B v = rowL A v := fun v => rowL_congr fun t ht => by rw [hth]; unfold home; rw [e2]
  refine ⟨⟨⟨hT.2, by omega, by omega, hP, hC⟩, fun w hw => by rw [e1]; exact a2 w hw, h4, ?_, ?_, fun s hs z => (hth s).mpr (h4' s hs z)⟩, ?_, hB⟩
  · intro v hv z
    have q := (hth _).mp z
    have := a4 v hv q
    refine ⟨by omega, ?_, h6 v hv q, ?_⟩
    · show B.1 5 v ≤ 16; rw [e5]; exact this.2.1
    · show B.1 8 v < _; rw [e8]; exact this.2.2.2
  · intro s hs z
    have := a5 s hs ((hth _).mp z)
    refine ⟨by omega, ?_, ?_, ?_, ?_⟩
    · show B.1 2 s < 6; rw [e2]; exact this.2.1
    · rw [show home B s = home A s from e2 s]; exact (hth _).mpr this.2.2.1
    · have : stm B s = stm A s := e3 s
      omega
    · show B.1 7 s < _; rw [e7]; exact this.2.2.2.2
  · intro v s hv z ho
    have ho' : org A v = s + 1 := by rw [← ho]; exact (e5 v).symm
    have := b v s hv ((hth _).mp z) ho'
    rw [hrow]
    exact ⟨(hth s).mpr this.1, this.2⟩
theorem relAt_no {bl : List Blk} {w a : Nat} {x : Blk} (hx : x ∈ relAt bl w a) (h : ∀ y, y ∈ bl → own y < 2 ^ 22) (ha : adr x = a) : ¬ (own x).testBit w = true := by
  obtain ⟨y, hy, -, -, e3, e4, -⟩ := rel_mem hx
  rw [e4, if_pos (by omega), andn_bit (Nat.lt_trans (h y hy) (by decide)), pow_bit]
  exact fun z => z.2 rfl
theorem trmA_WFB {w a : Nat} (h : WFB A) : WFB (A.1, relAt A.2 w a) := by
  refine ⟨rel_pw (g := fun b => if b = a then 2 ^ w else 0) h.1, fun x hx => ?_⟩
  obtain ⟨y, hy, e1, e2, e3, e4, e5⟩ := rel_mem (g := fun b => if b = a then 2 ^ w else 0) (bl := A.2) hx
  obtain ⟨a1, a2, a3, a4, a5, a6, a7, a8⟩ := h.2 y hy
  refine ⟨by omega, by rw [e1]; exact a2, by omega, by omega, by omega, e5, by rw [e4]; exact Nat.lt_of_le_of_lt andn_le a7, fun w hw => ?_⟩
  rw [e4] at hw
  exact a8 w ((andn_bit (Nat.lt_trans a7 (by decide))).mp hw).1
theorem trmA_WF {v a : Nat} (h : WF A) : WF (trmA A v a) :=
  ⟨h.1, h.2.1, trmA_WFB h.2.2⟩
theorem mkBlk_WF {v a z : Nat} (h : WF A) (hv : v < 6) (hvt : th A (16 + v)) (ha : a < 12) (hz : 1 ≤ z ∧ z ≤ 9) (hT : aT A + 1 < 2 ^ 24) : WF (mkBlk A v a z) := by
  have eT : aT (mkBlk A v a z) = aT A + 1 := by simp [aT, mkBlk, ts]
  have h0 : ∀ i j, ¬ (i = 0 ∧ j = 0) → (mkBlk A v a z).1 i j = A.1 i j := fun i j hn => ts_ne hn
  refine h.tbl (fun w => h0 1 w (by omega)) (fun w => h0 2 w (by omega)) (fun w => h0 3 w (by omega)) (fun w => h0 5 w (by omega)) (fun w => h0 7 w (by omega)) (fun w => h0 8 w (by omega)) (h0 0 1 (by omega)) (h0 0 2 (by omega)) ⟨by omega, by omega⟩ ?_ ?_ ?_ ?_ ?_ ?_
  · show (mkBlk A v a z).1 0 3 ≤ 999; rw [h0 0 3 (by omega)]; exact h.1.1.2.2.2.1
  · show (mkBlk A v a z).1 0 4 ≤ 5; rw [h0 0 4 (by omega)]; exact h.1.1.2.2.2.2
  · intro u hu q; show (mkBlk A v a z).1 6 u ≤ 999; rw [h0 6 u (by omega)]; exact (h.1.2.2.2.1 u hu q).2.2.1
  · intro s hs; rw [h0 4 s (by omega)]; exact h.1.2.2.1 s hs
  · intro s hs q
    refine h.1.2.2.2.2.2 s hs ?_
    have : (mkBlk A v a z).1 4 s = 1 := q
    rwa [h0 4 s (by omega)] at this
  · refine (trmA_WFB (w := 16 + v) (a := a) h.2.2).app (b := aT A + 1) (z := z) (a := a) (o := 2 ^ (16 + v)) rfl ⟨Nat.lt_succ_self _, by rw [eT]; exact Nat.le_refl _⟩ hz ha ⟨Nat.ne_of_gt (Nat.two_pow_pos _), Nat.pow_lt_pow_right (by decide) (by omega)⟩ ?_ ?_ ?_
    · intro x hx e
      refine and0 fun w => ?_
      rintro ⟨q1, q2⟩
      rw [pow_bit] at q2
      subst q2
      exact relAt_no hx (fun y hy => (h.2.2.2 y hy).2.2.2.2.2.2.1) e q1
    · intro w _ q
      show (mkBlk A v a z).1 1 w = 1
      rw [h0 1 w (by omega)]; exact q
    · intro w q
      rw [pow_bit] at q
      subst q
      show (mkBlk A v a z).1 1 (16 + v) = 1
      rw [h0 1 _ (by omega)]; exact hvt
theorem hldA_WF {s b : Nat} (h : WF A) (ht : th A s) (hb : b ≤ 1) : WF (hldA A s b) := by
  have h0 : ∀ i j, i ≠ 4 → (hldA A s b).1 i j = A.1 i j := fun i j hn => ts_ne (fun z => hn z.1)
  refine h.tbl (fun w => h0 1 w (by omega)) (fun w => h0 2 w (by omega)) (fun w => h0 3 w (by omega)) (fun w => h0 5 w (by omega)) (fun w => h0 7 w (by omega)) (fun w => h0 8 w (by omega)) (h0 0 1 (by omega)) (h0 0 2 (by omega)) ⟨Nat.le_of_eq (h0 0 0 (by omega)).symm, by rw [show aT (hldA A s b) = aT A from h0 0 0 (by omega)]; exact h.1.1.1⟩ ?_ ?_ ?_ ?_ ?_ ?_
  · show (hldA A s b).1 0 3 ≤ 999; rw [h0 0 3 (by omega)]; exact h.1.1.2.2.2.1
  · show (hldA A s b).1 0 4 ≤ 5; rw [h0 0 4 (by omega)]; exact h.1.1.2.2.2.2
  · intro u hu q; show (hldA A s b).1 6 u ≤ 999; rw [h0 6 u (by omega)]; exact (h.1.2.2.2.1 u hu q).2.2.1
  · intro t ht16
    show ts A.1 4 s b 4 t ≤ 1
    by_cases e : t = s
    · subst e; rw [ts_eq]; exact hb
    · rw [ts_ne (by omega)]; exact h.1.2.2.1 t ht16
  · intro t ht16 q
    have q : ts A.1 4 s b 4 t = 1 := q
    by_cases e : t = s
    · subst e; exact ht
    · rw [ts_ne (by omega)] at q; exact h.1.2.2.2.2.2 t ht16 q
  · exact h.2.2.mono rfl (Nat.le_of_eq (h0 0 0 (by omega)).symm) (fun w _ q => by show (hldA A s b).1 1 w = 1; rw [h0 1 w (by omega)]; exact q)
theorem quoA_WF {v q : Nat} (h : WF A) (hq : q ≤ 999) : WF (quoA A v q) := by
  have h0 : ∀ i j, i ≠ 6 → (quoA A v q).1 i j = A.1 i j := fun i j hn => ts_ne (fun z => hn z.1)
  refine h.tbl (fun w => h0 1 w (by omega)) (fun w => h0 2 w (by omega)) (fun w => h0 3 w (by omega)) (fun w => h0 5 w (by omega)) (fun w => h0 7 w (by omega)) (fun w => h0 8 w (by omega)) (h0 0 1 (by omega)) (h0 0 2 (by omega)) ⟨Nat.le_of_eq (h0 0 0 (by omega)).symm, by rw [show aT (quoA A v q) = aT A from h0 0 0 (by omega)]; exact h.1.1.1⟩ ?_ ?_ ?_ ?_ ?_ ?_
  · show (quoA A v q).1 0 3 ≤ 999; rw [h0 0 3 (by omega)]; exact h.1.1.2.2.2.1
  · show (quoA A v q).1 0 4 ≤ 5; rw [h0 0 4 (by omega)]; exact h.1.1.2.2.2.2
  · intro u hu z
    show ts A.1 6 v q 6 u ≤ 999
    by_cases e : u = v
    · subst e; rw [ts_eq]; exact hq
    · rw [ts_ne (by omega)]; exact (h.1.2.2.2.1 u hu z).2.2.1
  · intro s hs; rw [h0 4 s (by omega)]; exact h.1.2.2.1 s hs
  · intro s hs z
    refine h.1.2.2.2.2.2 s hs ?_
    have : (quoA A v q).1 4 s = 1 := z
    rwa [h0 4 s (by omega)] at this
  · exact h.2.2.mono rfl (Nat.le_of_eq (h0 0 0 (by omega)).symm) (fun w _ q' => by show (quoA A v q).1 1 w = 1; rw [h0 1 w (by omega)]; exact q')
theorem setA_WF {k x : Nat} (h : WF A) (hk : k = 0 ∧ x ≤ 999 ∨ k = 1 ∧ x ≤ 5) : WF (setA A k x) := by
  have h0 : ∀ i j, ¬ (i = 0 ∧ j = 3 + k) → (setA A k x).1 i j = A.1 i j := fun i j hn => ts_ne hn
  refine h.tbl (fun w => h0 1 w (by omega)) (fun w => h0 2 w (by omega)) (fun w => h0 3 w (by omega)) (fun w => h0 5 w (by omega)) (fun w => h0 7 w (by omega)) (fun w => h0 8 w (by omega)) (h0 0 1 (by omega)) (h0 0 2 (by omega)) ⟨Nat.le_of_eq (h0 0 0 (by omega)).symm, by rw [show aT (setA A k x) = aT A from h0 0 0 (by omega)]; exact h.1.1.1⟩ ?_ ?_ ?_ ?_ ?_ ?_
  · show ts A.1 0 (3 + k) x 0 3 ≤ 999
    rcases hk with ⟨rfl, hx⟩ | ⟨rfl, hx⟩
    · rw [ts_eq]; exact hx
    · rw [ts_ne (by omega)]; exact h.1.1.2.2.2.1
  · show ts A.1 0 (3 + k) x 0 4 ≤ 5
    rcases hk with ⟨rfl, hx⟩ | ⟨rfl, hx⟩
    · rw [ts_ne (by omega)]; exact h.1.1.2.2.2.2
    · rw [ts_eq]; exact hx
  · intro u hu q; show (setA A k x).1 6 u ≤ 999; rw [h0 6 u (by omega)]; exact (h.1.2.2.2.1 u hu q).2.2.1
  · intro s hs; rw [h0 4 s (by omega)]; exact h.1.2.2.1 s hs
  · intro s hs z
    refine h.1.2.2.2.2.2 s hs ?_
    have : (setA A k x).1 4 s = 1 := z
    rwa [h0 4 s (by omega)] at this
  · exact h.2.2.mono rfl (Nat.le_of_eq (h0 0 0 (by omega)).symm) (fun w _ q => by show (setA A k x).1 1 w = 1; rw [h0 1 w (by omega)]; exact q)
end WFS
