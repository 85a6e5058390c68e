
/-! CHANGES -/
section LCHG
variable {D : va_G} {ad : Nat → Nat} {M M' : Mem} {A B : AS} {H : List AS} {f cap N : Nat} {tx : Nat → Nat} {T : List Nat} {e v : Int32}
theorem hpush_mem {C : AS} (h : C ∈ hpush H A) : C ∈ H ∨ C = A := by
  unfold hpush at h
  rcases List.mem_append.mp h with h | h
  · split at h
    · exact .inl (List.mem_of_mem_tail h)
    · exact .inl h
  · exact .inr (List.mem_singleton.mp h)
/-- the reference's numbers behind a change -/
theorem RQm.rw {M1 : Mem} {g : Nat → Int32} (h : RQm M1 A H f tx T e) (hg : RowIs g B) (hB : WF B) : RQm (row2 (tM M1 H.length) 158 g) B (hpush H A) f tx T e := by
  have h2 : RQm (upd2 M1 157 4 (nI 0)) A H f tx T e := h.gen (upd2_ne (by decide)) (upd2_ne (by decide)) (upd2_ne (by decide)) (upd2_ne (by decide)) (upd2_ne (by decide)) (upd2_row (by decide)) (upd2_row (by decide)) (upd2_row (by decide)) (upd2_row (by decide))
  obtain ⟨g1, g2, ⟨t1, t2, t3, t4⟩, g5, o1, o2⟩ := h2
  have hh := remM_hist g2 g1.2.1
  have e157 : row2 (tM M1 H.length) 158 g 157 = tM M1 H.length 157 := row2_ne (by decide)
  have ej : ∀ j, j ≠ 2 → row2 (tM M1 H.length) 158 g 157 j = upd2 M1 157 4 (nI 0) 157 j := fun j hj => by rw [e157]; exact remM_157 hj
  have ec : ∀ c, c ≠ 157 → c ≠ 158 → c ≠ 159 → row2 (tM M1 H.length) 158 g c = upd2 M1 157 4 (nI 0) c := fun c a1 a2 a3 => by rw [row2_ne a2]; exact remM_ne a1 a3
  refine ⟨⟨⟨by rw [ej 3 (by decide)]; exact g1.1.1, g1.1.2⟩, by rw [row2_same]; exact hg, hB⟩, ⟨by rw [e157]; exact hh.1, hh.2.1, fun i C hi => by rw [row2_ne (by decide)]; exact hh.2.2 i C hi⟩, ⟨t1, by rw [ej 9 (by decide)]; exact t2, t3, fun i hi => by rw [ec 162 (by decide) (by decide) (by decide)]; exact t4 i hi⟩, by rw [ej 10 (by decide)]; exact g5, by rw [ej 23 (by decide)]; exact o1, fun i c hi => by rw [ec 164 (by decide) (by decide) (by decide)]; exact o2 i c hi⟩
theorem rw_lo {M1 : Mem} {k c : Nat} {g : Nat → Int32} (hc : c < 157) : row2 (tM M1 k) 158 g c = M1 c := by
  rw [row2_ne (by omega)]
  show remM (upd2 M1 157 4 (nI 0)) k c = M1 c
  rw [remM_ne (by omega) (by omega), upd2_row (by omega)]
theorem rw_3 {M1 : Mem} {k : Nat} {g : Nat → Int32} : row2 (tM M1 k) 158 g 157 3 = M1 157 3 := by
  rw [row2_ne (by decide)]
  show remM (upd2 M1 157 4 (nI 0)) k 157 3 = M1 157 3
  rw [remM_157 (by decide), upd2_ne (by decide)]
/-- the class's numbers behind a change of its pool -/
theorem CI.to {M1 : Mem} {H2 : List AS} (h : CI M A H f tx cap T e) (hS : StoreIs M1 1 B) (hH : HistC M1 H2) (he : ∀ c, (c = 0 ∨ (14 ≤ c ∧ c < 27) ∨ 131 < c) → M1 c = M c) : CI M1 B H2 f tx cap T e := by
  obtain ⟨h1, h2, ⟨t1, t2, t3, t4⟩, h4, ⟨⟨s1, s2, s3, s4⟩, s5, s6, s7⟩⟩ := h
  have c133 := he 133 (by decide)
  have c134 := he 134 (by decide)
  have c155 := he 155 (by decide)
  have c156 := he 156 (by decide)
  have c157 := he 157 (by decide)
  refine ⟨hS, hH, ⟨t1, by rw [c133]; exact t2, t3, fun i hi => by rw [c134]; exact t4 i hi⟩, by rw [c133]; exact h4, ⟨⟨by rw [c155]; exact s1, by rw [c155]; exact s2, by rw [c156]; exact s3, by rw [c157]; exact s4⟩, s5, fun i c hi => by rw [c156]; exact s6 i c hi, fun i hi => by rw [c156]; exact s7 i hi⟩⟩
theorem RQm.hi {M1 : Mem} (h : RQm M A H f tx T e) (he : ∀ c, 157 ≤ c → c ≤ 164 → M1 c = M c) : RQm M1 A H f tx T e := by
  have e157 := he 157 (by decide) (by decide)
  exact h.gen (by rw [e157]) (by rw [e157]) (by rw [e157]) (by rw [e157]) (by rw [e157]) (he _ (by decide) (by decide)) (he _ (by decide) (by decide)) (he _ (by decide) (by decide)) (he _ (by decide) (by decide))
variable {yc yr : MethodName} {cc cr : Cfg} {as : List Value} {a : Int32} {d1 d2 : Nat}
theorem Ans.chg (h : LIx N M A H f tx cap T e) (hB : WF B) (hC : WFC B) (hT : aT B ≤ N + 1)
    (h1 : Spec D 10 yc cc (.ref (ad 0) :: as) (wl D ad M) 0 0 (PX (fun y w => y = a ∧ CW D ad M (hpush H A) B w)))
    (h2 : ∀ M1, RI M1 158 A → M1 157 2 = nI H.length → H.length ≤ 8 → Spec D 14 yr cr (.ref (ad 157) :: as) (wl D ad M1) 0 0 (PX (fun x w => x = a ∧ RW D ad (tM M1 H.length) 158 B w))) : Ans D ad M yc cc yr cr as (LI (N + 1)) := by
  refine ⟨10, 14, fun z M1 => z = a ∧ StoreIs M1 1 B ∧ HistC M1 (hpush H A) ∧ ∀ c, (c = 0 ∨ (14 ≤ c ∧ c < 27) ∨ 131 < c) → M1 c = M c, by decide, by decide, h1.mono ?_, ?_⟩
  · rintro v w ⟨y, hv, rfl, M1, hw, q1, q2, q3⟩
    exact ⟨y, hv, M1, hw, rfl, q1, q2, q3⟩
  · rintro y M1 ⟨rfl, q1, q2, q3⟩
    have hq : RQm M1 A H f tx T e := h.2.1.hi (fun c x1 x2 => q3 c (by omega))
    refine (h2 M1 hq.1 hq.2.1.1 hq.2.1.2.1).mono ?_
    rintro v w ⟨z, hv, rfl, g, hg, hw2⟩
    refine ⟨z, hv, rfl, _, hw2, B, hpush H A, f, tx, cap, T, e, ?_, hq.rw hg hB, ⟨hC, fun C hC' => ?_, hT, h.2.2.1.2.2.2⟩, h.2.2.2⟩
    · exact (h.1.to q1 q2 q3).same (fun c hc => rw_lo hc) rw_3
    · rcases hpush_mem hC' with h5 | rfl
      · exact h.up.2.2.1.2.1 C h5
      · exact ⟨h.wf, h.2.2.1.1, h.up.2.2.1.2.2.1⟩
theorem aT_mkVol {o n : Nat} : aT (mkVol A o n) = aT A := by simp [aT, mkVol, ts]
theorem aT_mkBlk {v a z : Nat} : aT (mkBlk A v a z) = aT A + 1 := by simp [aT, mkBlk, ts]
theorem aT_mkSnp {v n : Nat} : aT (mkSnp A v n) = aT A + 1 := by simp [aT, mkSnp, ts]
theorem aT_trmA {v a : Nat} : aT (trmA A v a) = aT A := rfl
theorem aT_remA {m : Nat} : aT (remA A m) = aT A := by simp [aT, remA, dropT]
theorem aT_rolA {s : Nat} : aT (rolA A s) = aT A := by simp [aT, rolA, dropT]
theorem aT_proA {v : Nat} : aT (proA A v) = aT A := by simp [aT, proA, proT]
theorem aT_hldA {s b : Nat} : aT (hldA A s b) = aT A := by simp [aT, hldA, ts]
theorem aT_quoA {v q : Nat} : aT (quoA A v q) = aT A := by simp [aT, quoA, ts]
theorem aT_setA {k x : Nat} : aT (setA A k x) = aT A := by
  unfold aT setA ts
  simp
  intro h
  omega
theorem LIx.t0 (h : LIx N M A H f tx cap T e) : aT A ≤ N + 1 := h.up.2.2.1.2.2.1
theorem LIx.t1 (h : LIx N M A H f tx cap T e) : aT A + 1 ≤ N + 1 := Nat.succ_le_succ h.2.2.1.2.2.1
theorem LIx.t24 (h : LIx N M A H f tx cap T e) (hN : N ≤ 2000) : aT A + 1 < 2 ^ 24 := by
  have := h.2.2.1.2.2.1
  omega
theorem rng2 {lo hi : Nat} {q : Int32} (hlo : lo ≤ hi) (hhi : hi < 2 ^ 31) (h : nI lo ≤ q ∧ q ≤ nI hi) : ∃ u, lo ≤ u ∧ u ≤ hi ∧ q = nI u := by
  obtain ⟨z, hz, e⟩ := (rng hhi).mp ⟨Int32.le_trans ((nI_leI (by decide) (by omega)).mpr (Nat.zero_le lo)) h.1, h.2⟩
  refine ⟨z, ?_, hz, e⟩
  have := h.1
  rw [e] at this
  exact (nI_leI (by omega) (by omega)).mp this
theorem sem_newVolume (hN : N ≤ 2000) (hI : LI N M) : Ans D ad M yX5_newVolume cfX5_newVolume yX6_newVolume cfX6_newVolume [] (LI (N + 1)) := by
  obtain ⟨A, H, f, tx, cap, T, e, h⟩ := hI
  have hv6 : aV A ≤ 6 := h.wf.1.1.2.1
  by_cases hv : aV A < 6
  · exact Ans.chg h (mkVol_WF h.wf hv (by decide) (.inl rfl)) (mkVol_WFC h.wf h.2.2.1.1 hv (.inl rfl)) (by rw [aT_mkVol]; exact h.t0) (sp_X5_newVolume h.si h.hc hv) (fun M1 hr hk h8 => sp_X6_newVolume hr hk h8 hv)
  · exact Ans.q (sp_X5_newVolumeF h.si (by omega)) (sp_X6_newVolumeF h.ri (by omega)) (by decide) (by decide) h.q
theorem sem_write {p0 p1 p2 : Int32} (hN : N ≤ 2000) (hI : LI N M) : Ans D ad M yX5_write cfX5_write yX6_write cfX6_write [.int p0, .int p1, .int p2] (LI (N + 1)) := by
  obtain ⟨A, H, f, tx, cap, T, e, h⟩ := hI
  by_cases hp : VolA A p0
  · by_cases hq : AdrP p1 ∧ SizP p2
    · obtain ⟨v, hs, rfl, ht⟩ := hp
      obtain ⟨⟨a, ha, rfl⟩, hz⟩ := hq
      obtain ⟨z, z1, z2, rfl⟩ := SizP_nI hz
      by_cases hw : wrI A v a z = 0
      · exact Ans.chg h (mkBlk_WF h.wf hs ht ha ⟨z1, z2⟩ (h.t24 hN)) (mkBlk_WFC h.wf h.2.2.1.1) (by rw [aT_mkBlk]; exact h.t1) (sp_X5_write h.si h.hc hs ht ha ⟨z1, z2⟩ (h.t24 hN) hw) (fun M1 hr hk h8 => sp_X6_write hr hk h8 hs ht ha ⟨z1, z2⟩ hw)
      · exact Ans.q (sp_X5_writeR h.si hs ht ha ⟨z1, z2⟩ hw) (sp_X6_writeR h.ri hs ht ha ⟨z1, z2⟩ hw) (by decide) (by decide) h.q
    · exact Ans.q (sp_X5_writeB h.si hp hq) (sp_X6_writeB h.ri hp hq) (by decide) (by decide) h.q
  · exact Ans.q (sp_X5_writeV h.si hp) (sp_X6_writeV h.ri hp) (by decide) (by decide) h.q
theorem sem_trim {p0 p1 : Int32} (hN : N ≤ 2000) (hI : LI N M) : Ans D ad M yX5_trim cfX5_trim yX6_trim cfX6_trim [.int p0, .int p1] (LI (N + 1)) := by
  obtain ⟨A, H, f, tx, cap, T, e, h⟩ := hI
  by_cases hp : VolA A p0
  · by_cases hq : AdrP p1
    · obtain ⟨v, hs, rfl, ht⟩ := hp
      obtain ⟨a, ha, rfl⟩ := hq
      by_cases h0 : bAt A.2 (16 + v) a = 0
      · exact Ans.q (sp_X5_trimN h.si hs ht ha h0) (sp_X6_trimN h.ri hs ht ha h0) (by decide) (by decide) h.q
      · exact Ans.chg h (trmA_WF h.wf) (trmA_WFC h.wf h.2.2.1.1) (by rw [aT_trmA]; exact h.t0) (sp_X5_trim h.si h.hc hs ht ha h0) (fun M1 hr hk h8 => sp_X6_trim hr hk h8 hs ht ha h0)
    · exact Ans.q (sp_X5_trimB h.si hp hq) (sp_X6_trimB h.ri hp hq) (by decide) (by decide) h.q
  · exact Ans.q (sp_X5_trimV h.si hp) (sp_X6_trimV h.ri hp) (by decide) (by decide) h.q
theorem sem_take {p0 : Int32} (hN : N ≤ 2000) (hI : LI N M) : Ans D ad M yX5_take cfX5_take yX6_take cfX6_take [.int p0] (LI (N + 1)) := by
  obtain ⟨A, H, f, tx, cap, T, e, h⟩ := hI
  have hs6 : aS A ≤ 16 := h.wf.1.1.2.2.1
  by_cases hp : VolA A p0
  · by_cases hs16 : aS A < 16
    · obtain ⟨v, hs, rfl, ht⟩ := hp
      exact Ans.chg h (mkSnp_WF h.wf hs16 hs ht (by decide) (h.t24 hN)) (mkSnp_WFC h.wf h.2.2.1.1 hs16 hs ht) (by rw [aT_mkSnp]; exact h.t1) (sp_X5_take h.si h.hc hs ht hs16) (fun M1 hr hk h8 => sp_X6_take hr hk h8 hs ht hs16)
    · exact Ans.q (sp_X5_takeF h.si hp (by omega)) (sp_X6_takeF h.ri hp (by omega)) (by decide) (by decide) h.q
  · exact Ans.q (sp_X5_takeV h.si hp) (sp_X6_takeV h.ri hp) (by decide) (by decide) h.q
theorem sem_clone {p0 : Int32} (hN : N ≤ 2000) (hI : LI N M) : Ans D ad M yX5_clone cfX5_clone yX6_clone cfX6_clone [.int p0] (LI (N + 1)) := by
  obtain ⟨A, H, f, tx, cap, T, e, h⟩ := hI
  have hv6 : aV A ≤ 6 := h.wf.1.1.2.1
  by_cases hp : SnpA A p0
  · by_cases hv : aV A < 6
    · obtain ⟨s, hs, rfl, ht⟩ := hp
      by_cases hc : popN (clo A s) < aC A
      · exact Ans.chg h (mkVol_WF h.wf hv (by decide) (.inr ⟨s, rfl, hs, ht⟩)) (mkVol_WFC h.wf h.2.2.1.1 hv (.inr ⟨s, rfl, hs, ht⟩)) (by rw [aT_mkVol]; exact h.t0) (sp_X5_clone h.si h.hc hs ht hv hc) (fun M1 hr hk h8 => sp_X6_clone hr hk h8 hs ht hv hc)
      · exact Ans.q (sp_X5_cloneN h.si hs ht hv (by omega)) (sp_X6_cloneN h.ri hs ht hv (by omega)) (by decide) (by decide) h.q
    · exact Ans.q (sp_X5_cloneF h.si hp (by omega)) (sp_X6_cloneF h.ri hp (by omega)) (by decide) (by decide) h.q
  · exact Ans.q (sp_X5_cloneS h.si hp) (sp_X6_cloneS h.ri hp) (by decide) (by decide) h.q
theorem sem_promote {p0 : Int32} (hN : N ≤ 2000) (hI : LI N M) : Ans D ad M yX5_promote cfX5_promote yX6_promote cfX6_promote [.int p0] (LI (N + 1)) := by
  obtain ⟨A, H, f, tx, cap, T, e, h⟩ := hI
  by_cases hp : VolA A p0
  · obtain ⟨v, hs, rfl, ht⟩ := hp
    by_cases ho : org A v = 0
    · exact Ans.q (sp_X5_promoteN h.si hs ht ho) (sp_X6_promoteN h.ri hs ht ho) (by decide) (by decide) h.q
    · obtain ⟨s, ho2⟩ : ∃ s, org A v = s + 1 := ⟨org A v - 1, by omega⟩
      exact Ans.chg h (proA_WF h.wf hs ht ho) (proA_WFC h.wf h.2.2.1.1 hs ht ho) (by rw [aT_proA]; exact h.t0) (sp_X5_promote h.si h.hc hs ht ho2) (fun M1 hr hk h8 => sp_X6_promote hr hk h8 hs ht ho2)
  · exact Ans.q (sp_X5_promoteV h.si hp) (sp_X6_promoteV h.ri hp) (by decide) (by decide) h.q
theorem rm_snp {m : Nat} (h : LIx N M A H f tx cap T e) (hm : m < 2 ^ 16) (hy : ∀ s, s < 16 → m.testBit s = true → whyN A s = 0) : WF (remA A m) ∧ WFC (remA A m) :=
  ⟨remA_WF h.wf (mayGo_snp hm hy), remA_WFC h.wf h.2.2.1.1 (Nat.lt_trans hm (by decide)) hy (fun s hs _ hb => by
    rw [Nat.testBit_lt_two_pow (Nat.lt_of_lt_of_le hm (Nat.pow_le_pow_right (by decide) (by omega)))] at hb
    cases hb)⟩
theorem sem_destroy {p0 : Int32} (hN : N ≤ 2000) (hI : LI N M) : Ans D ad M yX5_destroy cfX5_destroy yX6_destroy cfX6_destroy [.int p0] (LI (N + 1)) := by
  obtain ⟨A, H, f, tx, cap, T, e, h⟩ := hI
  by_cases hp : SnpA A p0
  · obtain ⟨s, hs, rfl, ht⟩ := hp
    by_cases hy : whyN A s = 0
    · obtain ⟨w1, w2⟩ := rm_snp (m := 2 ^ s) h (Nat.pow_lt_pow_right (by decide) hs) (fun t _ hb => by rw [← pow_bit.mp hb]; exact hy)
      exact Ans.chg h w1 w2 (by rw [aT_remA]; exact h.t0) (sp_X5_destroy h.si h.hc hs ht hy) (fun M1 hr hk h8 => sp_X6_destroy hr hk h8 hs ht hy)
    · exact Ans.q (sp_X5_destroyN h.si hs ht hy) (sp_X6_destroyN h.ri hs ht hy) (by decide) (by decide) h.q
  · exact Ans.q (sp_X5_destroyS h.si hp) (sp_X6_destroyS h.ri hp) (by decide) (by decide) h.q
theorem sem_destroySet {p0 : Int32} (hN : N ≤ 2000) (hI : LI N M) : Ans D ad M yX5_destroySet cfX5_destroySet yX6_destroySet cfX6_destroySet [.int p0] (LI (N + 1)) := by
  obtain ⟨A, H, f, tx, cap, T, e, h⟩ := hI
  by_cases h0 : p0 = 0
  · subst h0
    exact Ans.q sp_X5_destroySet0 (sp_X6_destroySet0 h.ri) (by decide) (by decide) h.q
  · by_cases hq : p0 &&& (nI (snps A) ^^^ (-1)) = 0
    · obtain ⟨m, rfl, hm, hth⟩ := snps_mask hq
      have hm0 : m ≠ 0 := fun e => h0 (by rw [e]; rfl)
      by_cases hy : ∀ s, s < 16 → m.testBit s = true → whyN A s = 0
      · obtain ⟨w1, w2⟩ := rm_snp h hm hy
        exact Ans.chg h w1 w2 (by rw [aT_remA]; exact h.t0) (sp_X5_destroySet h.si h.hc hm0 hm hq hy) (fun M1 hr hk h8 => sp_X6_destroySet hr hk h8 hm0 hm hq hth hy)
      · exact Ans.q (sp_X5_destroySetN h.si hm0 hm hq hy) (sp_X6_destroySetN h.ri hm0 hm hq hth hy) (by decide) (by decide) h.q
    · exact Ans.q (sp_X5_destroySetS h.si h0 hq) (sp_X6_destroySetS h.ri h0 hq) (by decide) (by decide) h.q
theorem sem_destroyVolume {p0 : Int32} (hN : N ≤ 2000) (hI : LI N M) : Ans D ad M yX5_destroyVolume cfX5_destroyVolume yX6_destroyVolume cfX6_destroyVolume [.int p0] (LI (N + 1)) := by
  obtain ⟨A, H, f, tx, cap, T, e, h⟩ := hI
  by_cases hp : VolA A p0
  · obtain ⟨v, hs, rfl, ht⟩ := hp
    by_cases hy : ∀ s, s < 16 → (rowM A v).testBit s = true → whyN A s = 0
    · have hb : ∀ k, (volS A v).testBit k = true → (rowM A v).testBit k = true ∨ k = 16 + v := fun k hk => by
        unfold volS at hk
        rw [Nat.testBit_or, Bool.or_eq_true] at hk
        rcases hk with hk | hk
        · exact .inl hk
        · exact .inr (pow_bit.mp hk).symm
      have w1 : WF (remA A (volS A v)) := remA_WF h.wf (mayGo_vol h.wf hy hs)
      have w2 : WFC (remA A (volS A v)) := remA_WFC h.wf h.2.2.1.1 (volS_lt hs) (fun s hs16 hk => by
        rcases hb s hk with h5 | h5
        · exact hy s hs16 h5
        · omega) (fun s hs16 hts hk => by
        unfold volS
        rw [Nat.testBit_or, Bool.or_eq_true]
        left
        rcases hb _ hk with h5 | h5
        · exact absurd (rowM_bit.mp h5).1 (by omega)
        · exact rowM_bit.mpr ⟨hs16, hts, by omega⟩)
      exact Ans.chg h w1 w2 (by rw [aT_remA]; exact h.t0) (sp_X5_destroyVolume h.si h.hc hs ht hy) (fun M1 hr hk h8 => sp_X6_destroyVolume hr hk h8 hs ht hy)
    · exact Ans.q (sp_X5_destroyVolumeN h.si hs ht hy) (sp_X6_destroyVolumeN h.ri hs ht hy) (by decide) (by decide) h.q
  · exact Ans.q (sp_X5_destroyVolumeV h.si hp) (sp_X6_destroyVolumeV h.ri hp) (by decide) (by decide) h.q
theorem sem_rollBack {p0 : Int32} (hN : N ≤ 2000) (hI : LI N M) : Ans D ad M yX5_rollBack cfX5_rollBack yX6_rollBack cfX6_rollBack [.int p0] (LI (N + 1)) := by
  obtain ⟨A, H, f, tx, cap, T, e, h⟩ := hI
  by_cases hp : SnpA A p0
  · obtain ⟨s, hs, rfl, ht⟩ := hp
    by_cases hy : ∀ t, t < 16 → (rowB A s).testBit t = true → whyN A t = 0
    · exact Ans.chg h (rolA_WF h.wf hs ht hy) (rolA_WFC h.wf h.2.2.1.1 hs ht hy) (by rw [aT_rolA]; exact h.t0) (sp_X5_rollBack h.si h.hc hs ht hy) (fun M1 hr hk h8 => sp_X6_rollBack hr hk h8 hs ht hy)
    · exact Ans.q (sp_X5_rollBackN h.si hs ht hy) (sp_X6_rollBackN h.ri hs ht hy) (by decide) (by decide) h.q
  · exact Ans.q (sp_X5_rollBackS h.si hp) (sp_X6_rollBackS h.ri hp) (by decide) (by decide) h.q
theorem sem_hold0 {p0 : Int32} (hN : N ≤ 2000) (hI : LI N M) : Ans D ad M yX5_hold cfX5_hold yX6_hold cfX6_hold [.int p0, .int (nI 0)] (LI (N + 1)) := by
  obtain ⟨A, H, f, tx, cap, T, e, h⟩ := hI
  by_cases hp : SnpA A p0
  · obtain ⟨s, hs, rfl, ht⟩ := hp
    by_cases hb : A.1 4 s = 0
    · exact Ans.q (sp_X5_hold0N h.si hs ht hb) (sp_X6_hold0N h.ri hs ht hb) (by decide) (by decide) h.q
    · have hb2 : A.1 4 s = 1 := by
        have := h.wf.1.2.2.1 s hs
        omega
      exact Ans.chg h (hldA_WF h.wf ht (by decide)) (hldA_WFC h.2.2.1.1) (by rw [aT_hldA]; exact h.t0) (sp_X5_hold0 h.si h.hc hs ht hb2) (fun M1 hr hk h8 => sp_X6_hold0 hr hk h8 hs ht hb2)
  · exact Ans.q (sp_X5_holdS h.si hp) (sp_X6_holdS h.ri hp) (by decide) (by decide) h.q
theorem sem_hold1 {p0 : Int32} (hN : N ≤ 2000) (hI : LI N M) : Ans D ad M yX5_hold cfX5_hold yX6_hold cfX6_hold [.int p0, .int (nI 1)] (LI (N + 1)) := by
  obtain ⟨A, H, f, tx, cap, T, e, h⟩ := hI
  by_cases hp : SnpA A p0
  · obtain ⟨s, hs, rfl, ht⟩ := hp
    by_cases hb : A.1 4 s = 1
    · exact Ans.q (sp_X5_hold1N h.si hs ht hb) (sp_X6_hold1N h.ri hs ht hb) (by decide) (by decide) h.q
    · have hb2 : A.1 4 s = 0 := by
        have := h.wf.1.2.2.1 s hs
        omega
      exact Ans.chg h (hldA_WF h.wf ht (by decide)) (hldA_WFC h.2.2.1.1) (by rw [aT_hldA]; exact h.t0) (sp_X5_hold1 h.si h.hc hs ht hb2) (fun M1 hr hk h8 => sp_X6_hold1 hr hk h8 hs ht hb2)
  · exact Ans.q (sp_X5_holdS h.si hp) (sp_X6_holdS h.ri hp) (by decide) (by decide) h.q
theorem sem_setQuota {p0 p1 : Int32} (hN : N ≤ 2000) (hI : LI N M) : Ans D ad M yX5_setQuota cfX5_setQuota yX6_setQuota cfX6_setQuota [.int p0, .int p1] (LI (N + 1)) := by
  obtain ⟨A, H, f, tx, cap, T, e, h⟩ := hI
  by_cases hp : VolA A p0
  · by_cases hq : nI 0 ≤ p1 ∧ p1 ≤ nI 999
    · obtain ⟨v, hs, rfl, ht⟩ := hp
      obtain ⟨u, -, hu, rfl⟩ := rng2 (by decide) (by decide) hq
      exact Ans.chg h (quoA_WF h.wf hu) (quoA_WFC h.2.2.1.1) (by rw [aT_quoA]; exact h.t0) (sp_X5_setQuota h.si h.hc hs ht hu) (fun M1 hr hk h8 => sp_X6_setQuota hr hk h8 hs ht hu)
    · exact Ans.q (sp_X5_setQuotaB h.si hp hq) (sp_X6_setQuotaB h.ri hp hq) (by decide) (by decide) h.q
  · exact Ans.q (sp_X5_setQuotaV h.si hp) (sp_X6_setQuotaV h.ri hp) (by decide) (by decide) h.q
theorem sem_setSetting {p0 p1 : Int32} (hN : N ≤ 2000) (hI : LI N M) : Ans D ad M yX5_setSetting cfX5_setSetting yX6_setSetting cfX6_setSetting [.int p0, .int p1] (LI (N + 1)) := by
  obtain ⟨A, H, f, tx, cap, T, e, h⟩ := hI
  by_cases h0 : p0 = 0
  · subst h0
    by_cases hq : nI 1 ≤ p1 ∧ p1 ≤ nI 999
    · obtain ⟨u, hu1, hu, rfl⟩ := rng2 (by decide) (by decide) hq
      exact Ans.chg h (setA_WF h.wf (.inl ⟨rfl, hu⟩)) (setA_WFC h.2.2.1.1) (by rw [aT_setA]; exact h.t0) (sp_X5_setSetting0 h.si h.hc ⟨hu1, hu⟩) (fun M1 hr hk h8 => sp_X6_setSetting0 hr hk h8 ⟨hu1, hu⟩)
    · exact Ans.q (sp_X5_setSetting0B hq) (sp_X6_setSetting0B h.ri hq) (by decide) (by decide) h.q
  · by_cases h1 : p0 = nI 1
    · subst h1
      by_cases hq : nI 0 ≤ p1 ∧ p1 ≤ nI 5
      · obtain ⟨u, hu1, hu, rfl⟩ := rng2 (by decide) (by decide) hq
        exact Ans.chg h (setA_WF h.wf (.inr ⟨rfl, hu⟩)) (setA_WFC h.2.2.1.1) (by rw [aT_setA]; exact h.t0) (sp_X5_setSetting1 h.si h.hc ⟨hu1, hu⟩) (fun M1 hr hk h8 => sp_X6_setSetting1 hr hk h8 ⟨hu1, hu⟩)
      · exact Ans.q (sp_X5_setSetting1B hq) (sp_X6_setSetting1B h.ri hq) (by decide) (by decide) h.q
    · exact Ans.q (sp_X5_setSettingX h0 h1) (sp_X6_setSettingX h.ri h0 h1) (by decide) (by decide) h.q
theorem sem_undo (hI : LI N M) : Ans D ad M yX5_undo cfX5_undo yX6_undo cfX6_undo [] (LI (N + 1)) := by
  obtain ⟨A, H, f, tx, cap, T, e, h⟩ := hI
  rcases List.eq_nil_or_concat H with rfl | ⟨H, B, rfl⟩
  · obtain ⟨nx, -, -, h2, -⟩ := h.hc
    exact Ans.q (sp_X5_undo0 h2) (sp_X6_undo0 h.2.1.2.1.1) (by decide) (by decide) h.q
  · simp only [List.concat_eq_append] at h
    have hl : (H ++ [B]).length = H.length + 1 := by rw [List.length_append]; rfl
    have hBm : B ∈ H ++ [B] := List.mem_append_right _ List.mem_cons_self
    obtain ⟨b1, b2, b3⟩ := h.2.2.1.2.1 B hBm
    refine ⟨10, 14, fun z M1 => z = nI H.length ∧ StoreIs M1 1 B ∧ HistC M1 H ∧ ∀ c, (c = 0 ∨ (14 ≤ c ∧ c < 27) ∨ 131 < c) → M1 c = M c, by decide, by decide, (sp_X5_undo h.hc).mono ?_, ?_⟩
    · rintro v w ⟨y, hv, rfl, M1, hw, q1, q2, q3⟩
      exact ⟨_, hv, M1, hw, rfl, q1, q2, q3⟩
    · rintro y M1 ⟨rfl, q1, q2, q3⟩
      have hq : RQm M1 A (H ++ [B]) f tx T e := h.2.1.hi (fun c x1 x2 => q3 c (by omega))
      obtain ⟨r1, ⟨g1, g2, g3⟩, ⟨t1, t2, t3, t4⟩, r4, o1, o2⟩ := hq
      rw [hl] at g1 g2
      refine (sp_X6_undo (k := H.length) g1 (by omega)).mono ?_
      rintro v w ⟨hv, hw2⟩
      refine ⟨_, hv, rfl, _, hw2, B, H, f, tx, cap, T, e, ?_, ?_, ⟨b2, fun C hC => h.up.2.2.1.2.1 C (List.mem_append_left _ hC), Nat.le_succ_of_le b3, h.2.2.1.2.2.2⟩, h.2.2.2⟩
      · refine (h.1.to q1 q2 q3).same (fun c hc => ?_) ?_
        · rw [row2_ne (by omega), upd2_row (by omega), upd2_row (by omega)]
        · rw [row2_ne (by decide), upd2_ne (by decide), upd2_ne (by decide)]
      · have e157 : ∀ j, j ≠ 2 → j ≠ 4 → row2 (upd2 (upd2 M1 157 4 (nI 0)) 157 2 (nI H.length)) 158 (cpF (M1 159) (H.length * 739) (M1 158) 0 739) 157 j = M1 157 j := fun j a1 a2 => by
          rw [row2_ne (by decide), upd2_ne (by omega), upd2_ne (by omega)]
        have ec : ∀ c, c ≠ 157 → c ≠ 158 → row2 (upd2 (upd2 M1 157 4 (nI 0)) 157 2 (nI H.length)) 158 (cpF (M1 159) (H.length * 739) (M1 158) 0 739) c = M1 c := fun c a1 a2 => by
          rw [row2_ne a2, upd2_row a1, upd2_row a1]
        have hB : RowIs (fun j => M1 159 (739 * H.length + j)) B := g3 H.length B (by rw [List.getElem?_append_right (Nat.le_refl _), Nat.sub_self]; rfl)
        refine ⟨⟨⟨by rw [e157 3 (by decide) (by decide)]; exact r1.1.1, r1.1.2⟩, ?_, b1⟩, ⟨?_, by omega, fun i C hi => ?_⟩, ⟨t1, by rw [e157 9 (by decide) (by decide)]; exact t2, t3, fun i hi => by rw [ec 162 (by decide) (by decide)]; exact t4 i hi⟩, by rw [e157 10 (by decide) (by decide)]; exact r4, by rw [e157 23 (by decide) (by decide)]; exact o1, fun i c hi => by rw [ec 164 (by decide) (by decide)]; exact o2 i c hi⟩
        · rw [row2_same]
          refine hB.congr fun j hj => ?_
          unfold cpF
          rw [if_pos (by omega)]
          congr 1
          omega
        · rw [row2_ne (by decide), upd2_same]
        · rw [ec 159 (by decide) (by decide)]
          exact g3 i C (by rw [List.getElem?_append_left (List.getElem?_eq_some_iff.mp hi).1]; exact hi)
theorem sem_feed {p0 p1 p2 p3 p4 : Int32} (hI : LI N M) : Ans D ad M yX5_feed cfX5_feed yX6_feed cfX6_feed [.int p0, .int p1, .int p2, .int p3, .int p4] (LI (N + 1)) := by
  obtain ⟨A, H, f, tx, cap, T, e, h⟩ := hI
  by_cases hf : f + 20 ≤ 1000
  · refine ⟨10, 14, fun z M1 => z = nI (f + 20) ∧ TxC M1 (f + 20) (fdT tx f p0 p1 p2 p3 p4) ∧ FrT M M1, by decide, by decide, (sp_X5_feed h.1.2.2.1 hf).mono ?_, ?_⟩
    · rintro v w ⟨y, hv, rfl, M1, hw, q1, q2⟩
      exact ⟨_, hv, M1, hw, rfl, q1, q2⟩
    · rintro y M1 ⟨rfl, q1, q2, q3⟩
      have hq : RQm M1 A H f tx T e := h.2.1.hi (fun c x1 x2 => q2 c (by omega) (by omega))
      refine (sp_X6_feed hq.2.2.1 hf).mono ?_
      rintro v w ⟨y, hv, rfl, M2, hw2, x1, x2, x3⟩
      obtain ⟨c1, c2, -, c4, c5⟩ := h.1
      have hc1 : CI M1 A H (f + 20) (fdT tx f p0 p1 p2 p3 p4) cap T e := by
        have c155 := q2 155 (by decide) (by decide)
        have c156 := q2 156 (by decide) (by decide)
        have c157 := q2 157 (by decide) (by decide)
        obtain ⟨⟨s1, s2, s3, s4⟩, s5, s6, s7⟩ := c5
        exact ⟨c1.congr (fun c _ hc' => q2 c (by omega) (by omega)), c2.congr (fun c _ hc' => q2 c (by omega) (by omega)), q1, by rw [q3 3 (by decide)]; exact c4, ⟨⟨by rw [c155]; exact s1, by rw [c155]; exact s2, by rw [c156]; exact s3, by rw [c157]; exact s4⟩, s5, fun i c hi => by rw [c156]; exact s6 i c hi, fun i hi => by rw [c156]; exact s7 i hi⟩⟩
      obtain ⟨r1, ⟨g1, g2, g3⟩, -, r4, o1, o2⟩ := hq
      refine ⟨_, hv, rfl, M2, hw2, A, H, f + 20, fdT tx f p0 p1 p2 p3 p4, cap, T, e, hc1.same (fun c hc => x2 c (by omega) (by omega)) (x3 3 (by decide) (by decide)), ⟨r1.cg (x2 158 (by decide) (by decide)) (x3 3 (by decide) (by decide)), ⟨by rw [x3 2 (by decide) (by decide)]; exact g1, g2, fun i B hi => by rw [x2 159 (by decide) (by decide)]; exact g3 i B hi⟩, x1, by rw [x3 10 (by decide) (by decide)]; exact r4, by rw [x3 23 (by decide) (by decide)]; exact o1, fun i c hi => by rw [x2 164 (by decide) (by decide)]; exact o2 i c hi⟩, h.up.2.2⟩
  · exact Ans.q (sp_X5_feedF h.1.2.2.1 (by omega)) (sp_X6_feedF h.2.1.2.2.1 (by omega)) (by decide) (by decide) h.q
theorem sem_fewestToFree {p0 : Int32} (hI : LI N M) : Ans D ad M yX5_fewestToFree cfX5_fewestToFree yX6_fewestToFree cfX6_fewestToFree [.int p0] (LI (N + 1)) := by
  obtain ⟨A, H, f, tx, cap, T, e, h⟩ := hI
  by_cases hq : nI 1 ≤ p0 ∧ p0 ≤ nI 999
  · obtain ⟨g, g1, g2, rfl⟩ := rng2 (by decide) (by decide) hq
    refine ⟨14, 14, fun z M1 => z = ftf A g ∧ FrP M M1, by decide, by decide, (sp_X5_fewestToFreeG h.si h.2.2.1.1 g1 g2).mono ?_, ?_⟩
    · rintro v w ⟨y, hv, rfl, M1, hw, q1⟩
      exact ⟨_, hv, M1, hw, rfl, q1⟩
    · rintro y M1 ⟨rfl, q1⟩
      have hr : RQm M1 A H f tx T e := h.2.1.hi (fun c x1 x2 => q1 c (by omega))
      have hc : CI M1 A H f tx cap T e := by
        obtain ⟨h1, h2, ⟨t1, t2, t3, t4⟩, h4, ⟨⟨s1, s2, s3, s4⟩, s5, s6, s7⟩⟩ := h.1
        have c133 := q1 133 (by omega)
        have c134 := q1 134 (by omega)
        have c155 := q1 155 (by omega)
        have c156 := q1 156 (by omega)
        have c157 := q1 157 (by omega)
        exact ⟨h1.congr (fun c _ hc' => q1 c (by omega)), h2.congr (fun c _ hc' => q1 c (by omega)), ⟨t1, by rw [c133]; exact t2, t3, fun i hi => by rw [c134]; exact t4 i hi⟩, by rw [c133]; exact h4, ⟨⟨by rw [c155]; exact s1, by rw [c155]; exact s2, by rw [c156]; exact s3, by rw [c157]; exact s4⟩, s5, fun i c hi => by rw [c156]; exact s6 i c hi, fun i hi => by rw [c156]; exact s7 i hi⟩⟩
      refine (sp_X6_fewestToFreeG hr.1 g1 g2).mono ?_
      rintro v w ⟨y, hv, rfl, M2, hw2, x1, x2, x3⟩
      refine ⟨_, hv, rfl, M2, hw2, A, H, f, tx, cap, T, e, hc.same (fun c hc => x1 c (by omega) (by omega) (by omega)) (x3 3 (by decide) (by decide)), hr.gen (x3 2 (by decide) (by decide)) (x3 3 (by decide) (by decide)) (x3 9 (by decide) (by decide)) (x3 10 (by decide) (by decide)) (x3 23 (by decide) (by decide)) (x1 158 (by decide) (by decide) (by decide)) (x1 159 (by decide) (by decide) (by decide)) (x1 162 (by decide) (by decide) (by decide)) (x1 164 (by decide) (by decide) (by decide)), h.up.2.2⟩
  · exact Ans.q (sp_X5_fewestToFreeB hq) (sp_X6_fewestToFreeB hq) (by decide) (by decide) h.q
theorem sem_load {p0 : Int32} (hN0 : 1000 ≤ N) (hI : LI N M) : Ans D ad M yX5_load cfX5_load yX6_load cfX6_load [.int p0] (LI (N + 1)) := by
  obtain ⟨A, H, f, tx, cap, T, e, h⟩ := hI
  have hf1 : f ≤ 1000 := h.1.2.2.1.1
  by_cases hq : nI 0 ≤ p0 ∧ p0 ≤ nI f
  · obtain ⟨n, -, hn, rfl⟩ := rng2 (Nat.zero_le f) (by omega) hq
    have h1 := sp_X5_load (D := D) (ad := ad) h.1.2.2.1 hn
    have h2 : ∀ M1, RQm M1 A H f tx T e → Spec D 14 yX6_load cfX6_load [.ref (ad 157), .int (nI n)] (wl D ad M1) 0 0 (PX (LDQ D ad M1 A (ldF tx n (n + 1) (tokS tx n 0) 0 newA 0))) := fun M1 hr => sp_X6_load hr.1 hr.2.2.1 hn
    have hgc := ldF_gc (b := tx) (n := n) (by omega) (n + 1) (tokS tx n 0) 0 newA 0 (tokS_sp (Nat.zero_le n)).2.1 newA_WF newA_WFC (by show 0 + (n - tokS tx n 0) ≤ 1000; omega)
    obtain ⟨c1, c2, ⟨t1, t2, t3, t4⟩, c4, c5⟩ := h.1
    obtain ⟨⟨s1, s2, s3, s4⟩, s5, s6, s7⟩ := c5
    generalize hr : ldF tx n (n + 1) (tokS tx n 0) 0 newA 0 = r at h1 h2 hgc
    rcases r with ⟨c, t⟩ | ⟨k, B⟩
    · refine ⟨14, 14, fun z M1 => z = c ∧ M1 133 1 = nI 0 ∧ M1 133 3 = nI t ∧ ∀ c, ¬ (14 ≤ c ∧ c ≤ 26) → c ≠ 133 → M1 c = M c, by decide, by decide, h1.mono ?_, ?_⟩
      · rintro v w ⟨y, hv, rfl, M1, hw, q1⟩
        exact ⟨_, hv, M1, hw, rfl, q1⟩
      · rintro y M1 ⟨rfl, q1, q2, q3⟩
        have hq : RQm M1 A H f tx T e := h.2.1.hi (fun c x1 x2 => q3 c (by omega) (by omega))
        refine (h2 M1 hq).mono ?_
        rintro v w ⟨y, hv, rfl, M2, hw2, x1, x2, x3, x4, x5⟩
        have c155 := q3 155 (by omega) (by decide)
        have c156 := q3 156 (by omega) (by decide)
        have c157 := q3 157 (by omega) (by decide)
        have hc1 : CI M1 A H 0 tx cap T (nI t) := ⟨c1.congr (fun c _ hc' => q3 c (by omega) (by omega)), c2.congr (fun c _ hc' => q3 c (by omega) (by omega)), ⟨Nat.zero_le _, q1, t3, fun i hi => absurd hi (by omega)⟩, q2, ⟨⟨by rw [c155]; exact s1, by rw [c155]; exact s2, by rw [c156]; exact s3, by rw [c157]; exact s4⟩, s5, fun i c hi => by rw [c156]; exact s6 i c hi, fun i hi => by rw [c156]; exact s7 i hi⟩⟩
        obtain ⟨r1, ⟨g1, g2, g3⟩, ⟨-, -, y3, -⟩, r4, o1, o2⟩ := hq
        have e3 : M2 157 3 = M1 157 3 := by
          rw [x3]
          have := r1.1.1
          have h5 : (M1 157 3).toNatClampNeg = 158 := this
          apply Int32.toInt_inj.mp
          rw [nI_toInt (by decide)]
          have h6 : (M1 157 3).toInt.toNat = 158 := h5
          omega
        refine ⟨_, hv, rfl, M2, hw2, A, H, 0, tx, cap, T, nI t, hc1.same (fun c hc => x4 c (by omega) (by omega)) e3, ⟨r1.cg (x4 158 (by decide) (by decide)) e3, ⟨by rw [x5 2 (by omega) (by decide) (by decide) (by decide)]; exact g1, g2, fun i B hi => by rw [x4 159 (by decide) (by decide)]; exact g3 i B hi⟩, ⟨Nat.zero_le _, x1, y3, fun i hi => absurd hi (by omega)⟩, x2, by rw [x5 23 (by omega) (by decide) (by decide) (by decide)]; exact o1, fun i c hi => by rw [x4 164 (by decide) (by decide)]; exact o2 i c hi⟩, h.up.2.2⟩
    · obtain ⟨w1, w2, w3⟩ := hgc k B rfl
      obtain ⟨nx, n1, n2, n3, n4, n5⟩ := c2
      refine ⟨14, 14, fun z M1 => z = nI k ∧ M1 133 1 = nI 0 ∧ M1 133 3 = -1 ∧ StoreIs M1 1 B ∧ M1 131 2 = nI 0 ∧ M1 131 1 = M 131 1 ∧ ∀ c, ¬ (1 ≤ c ∧ c ≤ 26) → c ≠ 131 → c ≠ 133 → M1 c = M c, by decide, by decide, h1.mono ?_, ?_⟩
      · rintro v w ⟨y, hv, rfl, -, -, M1, hw, q1⟩
        exact ⟨_, hv, M1, hw, rfl, q1⟩
      · rintro y M1 ⟨rfl, q1, q2, q3, q4, q5, q6⟩
        have hq : RQm M1 A H f tx T e := h.2.1.hi (fun c x1 x2 => q6 c (by omega) (by omega) (by omega))
        refine (h2 M1 hq).mono ?_
        rintro v w ⟨y, hv, rfl, M2, hw2, x1, x2, x3, x4, x5, x6⟩
        have c155 := q6 155 (by omega) (by decide) (by decide)
        have c156 := q6 156 (by omega) (by decide) (by decide)
        have c157 := q6 157 (by omega) (by decide) (by decide)
        have hc1 : CI M1 B [] 0 tx cap T (-1) := ⟨q3, ⟨nx, n1, by rw [q5]; exact n2, q4, by decide, fun i C hi => by cases hi⟩, ⟨Nat.zero_le _, q1, t3, fun i hi => absurd hi (by omega)⟩, q2, ⟨⟨by rw [c155]; exact s1, by rw [c155]; exact s2, by rw [c156]; exact s3, by rw [c157]; exact s4⟩, s5, fun i c hi => by rw [c156]; exact s6 i c hi, fun i hi => by rw [c156]; exact s7 i hi⟩⟩
        obtain ⟨r1, ⟨g1, g2, g3⟩, ⟨-, -, y3, -⟩, r4, o1, o2⟩ := hq
        have e3 : M2 157 3 = M1 157 3 := by
          have h5 : (M1 157 3).toInt.toNat = 158 := r1.1.1
          have h6 : (M2 157 3).toInt.toNat = 158 := x3.1.1
          apply Int32.toInt_inj.mp
          omega
        refine ⟨_, hv, rfl, M2, hw2, B, [], 0, tx, cap, T, -1, hc1.same (fun c hc => x5 c (by omega) (by omega) (by omega)) e3, ⟨x3, ⟨x4, by decide, fun i C hi => by cases hi⟩, ⟨Nat.zero_le _, x1, y3, fun i hi => absurd hi (by omega)⟩, x2, by rw [x6 23 (by decide) (by omega) (by decide) (by decide) (by decide)]; exact o1, fun i c hi => by rw [x5 164 (by decide) (by decide) (by decide)]; exact o2 i c hi⟩, ⟨w2, fun C hC => (by cases hC), by omega, h.2.2.1.2.2.2⟩, h.2.2.2⟩
  · exact Ans.q (sp_X5_loadB h.1.2.2.1 hq) (sp_X6_loadB h.2.1.2.2.1 hq) (by decide) (by decide) h.q
end LCHG
