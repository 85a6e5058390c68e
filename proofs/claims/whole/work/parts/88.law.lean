
/-! EACH CASE -/
section LAWD
variable {D : va_G} {ad : Nat → Nat} {M : Mem} {Qf : QF} {k n i sb L N : Nat} {xs : Nat → Int32} {l5 l6 l7 l8 : Option Value}
theorem V_lc {F : Cfg} {R : Room} {pc : Nat} {locs locs' : List (Option Value)} {st : List Value} {ws : va_W} (h : locs = locs') (kk : V D F R Qf k n pc locs' st ws) : V D F R Qf k n pc locs st ws := h ▸ kk
theorem lw_writeOut (hi : i + 6 ≤ L) (hL : L ≤ 3072) (hk : k ≤ 600000) (hn : n ≤ 7000000) (hI : LI N M) (kk : ∀ ad2 M2 l5 l6 l7 l8, LI (N + 1) M2 → V D FLaw room_1 (QG (StX sb L xs) Qf) (k + 4) (n + 532) 2807 [some (.ref sb), some (.ref (ad2 0)), some (.ref (ad2 157)), some (.ref (ad2 165)), some (.int (nI i)), l5, l6, l7, l8] [] (wl D ad2 M2)) : V D FLaw room_1 (QG (StX sb L xs) Qf) k n 2726 [some (.ref sb), some (.ref (ad 0)), some (.ref (ad 157)), some (.ref (ad 165)), some (.int (nI i)), l5, l6, l7, l8] [] (wl D ad M) := by
  obtain ⟨A, H, f, tx, cap, T, e, h⟩ := hI
  by_cases hp : VolA A (xs (i + 1))
  · skip
    obtain ⟨v, hs, hx, ht⟩ := hp
    have h1 := sp_L_writeOut (D := D) (ad := ad) h.si hs ht h.2.2.2 h.1.2.2.2.2
    rw [← hx] at h1
    refine E_aload1 (q := 2727) dL_law_2726 rfl ?_
    refine E_aload0 (q := 2728) dL_law_2727 rfl ?_
    refine E_iload4 (q := 2730) dL_law_2728 rfl ?_
    refine E_iconst (v := nI 1) (q := 2731) dL_law_2730 (by decide) rfl ?_
    refine E_iaddN (q := 2732) dL_law_2731 rfl ?_
    refine E_sld (q := 2733) (i := i + 1) (by omega) (by omega) dL_law_2732 rfl ?_
    refine E_aload3 (q := 2734) dL_law_2733 rfl ?_
    refine E_callSHR (q := 2737) (ar := [.ref (ad 0), .int (xs (i + 1)), .ref (ad 165)]) (rest := []) lh_writeOut h1 (rm1 (by decide)) (by show k + 4 ≤ 601024; omega) (by show n + 532 ≤ 7293034; omega) (Nat.le_of_ble_eq_true rfl) dL_law_2734 rfl rfl ?_
    rintro v0 w ⟨y, hv, hy, ad2, M1, hw, ⟨cap2, hcap2, hsb⟩, hfr, hfc⟩
    rw [hw]
    subst hv
    subst hy
    refine V_lc (locs' := [some (.ref sb), some (.ref (ad2 0)), some (.ref (ad2 157)), some (.ref (ad2 165)), some (.int (nI i)), l5, l6, l7, l8]) (by rw [hfr 0 (by decide), hfr 157 (by decide), hfr 165 (by decide)]) ?_
    obtain ⟨c1, c2, ⟨t1, t2, t3, t4⟩, c4, -⟩ := h.1
    have x133 := hfc 133 (by decide) (by decide)
    have x134 := hfc 134 (by decide) (by decide)
    have hc1 : CI M1 A H f tx cap2 (outT A v) e := ⟨c1.congr (fun c _ hc' => hfc c (by omega) (by omega)), c2.congr (fun c _ hc' => hfc c (by omega) (by omega)), ⟨t1, by rw [x133]; exact t2, t3, fun i hi => by rw [x134]; exact t4 i hi⟩, by rw [x133]; exact c4, hsb⟩
    have hlen : (outT A v).length ≤ 286 := by
      have q1 := hsb.2.1.2.2
      unfold CapOK at hcap2
      omega
    have hq1 : RQm M1 A H f tx T e := h.2.1.hi (fun c x1 x2 => hfc c (by omega) (by omega))
    have e157 : outM M1 (nI (outT A v).length) 157 = M1 157 := outM_row (by decide)
    have hq2 : RQm (outM M1 (nI (outT A v).length)) A H f tx T e := hq1.gen (by rw [e157]) (by rw [e157]) (by rw [e157]) (by rw [e157]) (by rw [e157]) (outM_row (by decide)) (outM_row (by decide)) (outM_row (by decide)) (outM_row (by decide))
    have h2 := sp_X6_writeOut (D := D) (ad := ad2) hq2.1 hs ht
    rw [← hx] at h2
    refine V_st (st' := [.int (nI 0)]) rfl ?_
    refine E_istore5 (q := 2739) dL_law_2737 rfl rfl ?_
    refine E_aload2 (q := 2740) dL_law_2739 rfl ?_
    refine E_aload0 (q := 2741) dL_law_2740 rfl ?_
    refine E_iload4 (q := 2743) dL_law_2741 rfl ?_
    refine E_iconst (v := nI 1) (q := 2744) dL_law_2743 (by decide) rfl ?_
    refine E_iaddN (q := 2745) dL_law_2744 rfl ?_
    refine E_sld (q := 2746) (i := i + 1) (by omega) (by omega) dL_law_2745 rfl ?_
    refine E_callVR (q := 2749) (ar := [.int (xs (i + 1))]) (rest := []) lk_L_307 h2 rc_X6 (rm1 (by decide)) (by show k + 4 + 0 ≤ 601024; omega) (by show n + 532 + 0 ≤ 7293034; omega) (Nat.le_of_ble_eq_true rfl) dL_law_2746 rfl rfl ?_
    rintro v0 w ⟨y, hv, hy, M2, hw, x1, x2, x3, x4⟩
    rw [hw]
    subst hv
    subst hy
    refine V_st (st' := [.int (nI (outT A v).length)]) rfl ?_
    have h4 : M2 165 = outM M1 (nI (outT A v).length) 165 := x2 165 (by decide) (by decide)
    have hQ : LI (N + 1) M2 := by
      obtain ⟨r1, ⟨g1, g2, g3⟩, ⟨y1, y2, y3, y4⟩, r4, o1, o2⟩ := hq2
      refine ⟨A, H, f, tx, cap2, outT A v, e, hc1.same (fun c hc => (x2 c (by omega) (by omega)).trans (outM_row (by omega))) ((x4 3 (by decide) (by decide)).trans (by rw [e157])), ⟨r1.cg (x2 158 (by decide) (by decide)) (x4 3 (by decide) (by decide)), ⟨by rw [x4 2 (by decide) (by decide)]; exact g1, g2, fun i B hi => by rw [x2 159 (by decide) (by decide)]; exact g3 i B hi⟩, ⟨y1, by rw [x4 9 (by decide) (by decide)]; exact y2, y3, fun i hi => by rw [x2 162 (by decide) (by decide)]; exact y4 i hi⟩, by rw [x4 10 (by decide) (by decide)]; exact r4, x1⟩, ⟨h.2.2.1.1, h.up.2.2.1.2.1, h.up.2.2.1.2.2.1, by omega⟩, hcap2⟩
    refine E_istore6 (q := 2751) dL_law_2749 rfl rfl ?_
    refine E_aload2 (q := 2752) dL_law_2751 rfl ?_
    refine E_callVR (q := 2755) (ar := []) (rest := []) lk_L_138 (sp_X6_thrown x3) rc_X6 (rm1 (by decide)) (by show k + 4 + 0 + 0 ≤ 601024; omega) (by show n + 532 + 0 + 0 ≤ 7293034; omega) (Nat.le_of_ble_eq_true rfl) dL_law_2752 rfl rfl ?_
    rintro v1 w ⟨hv, hw⟩
    rw [hw]
    subst hv
    refine V_st (st' := [.int (nI 0)]) rfl ?_
    refine E_iload5 (q := 2757) dL_law_2755 rfl ?_
    refine E_icmp_eq (tgt := 2762) (q := 2760) dL_law_2757 (by decide) rfl (fun _ => ?_) (fun h => absurd rfl h)
    refine E_iload5 (q := 2764) dL_law_2762 rfl ?_
    refine E_if_ne (tgt := 2779) (q := 2767) dL_law_2764 (by decide) rfl (fun h => absurd (by decide) h) (fun _ => ?_)
    refine E_aload3 (q := 2768) dL_law_2767 rfl ?_
    refine E_iconst (v := nI 0) (q := 2769) dL_law_2768 (by decide) rfl ?_
    refine E_lald (q := 2770) sk_165 (by decide) (by decide) dL_law_2769 rfl ?_
    refine E_iload6 (q := 2772) dL_law_2770 rfl ?_
    refine E_i2l (q := 2773) dL_law_2772 rfl ?_
    refine E_lcmp (q := 2774) dL_law_2773 rfl ?_
    refine E_if_eq (tgt := 2779) (q := 2777) dL_law_2774 (by decide) rfl (fun _ => ?_) (fun h => absurd (out_cmp h4) h)
    refine E_goto (q := 2807) dL_law_2779 (by decide) ?_
    exact kk ad2 M2 _ _ _ _ hQ
  · skip
    have h1 := sp_LX_writeOut (sp_Ta_writeOut (D := D) (ad := ad) h.si hp)
    refine E_aload1 (q := 2727) dL_law_2726 rfl ?_
    refine E_aload0 (q := 2728) dL_law_2727 rfl ?_
    refine E_iload4 (q := 2730) dL_law_2728 rfl ?_
    refine E_iconst (v := nI 1) (q := 2731) dL_law_2730 (by decide) rfl ?_
    refine E_iaddN (q := 2732) dL_law_2731 rfl ?_
    refine E_sld (q := 2733) (i := i + 1) (by omega) (by omega) dL_law_2732 rfl ?_
    refine E_aload3 (q := 2734) dL_law_2733 rfl ?_
    refine E_callSHR (q := 2737) (ar := [.ref (ad 0), .int (xs (i + 1)), .ref (ad 165)]) (rest := []) lh_writeOut h1 (rm1 (by decide)) (by show k + 4 ≤ 601024; omega) (by show n + 532 ≤ 7293034; omega) (Nat.le_of_ble_eq_true rfl) dL_law_2734 rfl rfl ?_
    rintro v w ⟨hv, hw⟩
    rw [hw]
    subst hv
    have h2 := sp_X6_writeOutB (D := D) (ad := ad) h.ri hp
    refine V_st (st' := [.int (nI 1)]) rfl ?_
    refine E_istore5 (q := 2739) dL_law_2737 rfl rfl ?_
    refine E_aload2 (q := 2740) dL_law_2739 rfl ?_
    refine E_aload0 (q := 2741) dL_law_2740 rfl ?_
    refine E_iload4 (q := 2743) dL_law_2741 rfl ?_
    refine E_iconst (v := nI 1) (q := 2744) dL_law_2743 (by decide) rfl ?_
    refine E_iaddN (q := 2745) dL_law_2744 rfl ?_
    refine E_sld (q := 2746) (i := i + 1) (by omega) (by omega) dL_law_2745 rfl ?_
    refine E_callVR (q := 2749) (ar := [.int (xs (i + 1))]) (rest := []) lk_L_307 h2 rc_X6 (rm1 (by decide)) (by show k + 4 + 0 ≤ 601024; omega) (by show n + 532 + 0 ≤ 7293034; omega) (Nat.le_of_ble_eq_true rfl) dL_law_2746 rfl rfl ?_
    rintro v w ⟨hv, hw⟩
    rw [hw]
    subst hv
    refine V_st (st' := [.int (nI 0)]) rfl ?_
    refine E_istore6 (q := 2751) dL_law_2749 rfl rfl ?_
    refine E_aload2 (q := 2752) dL_law_2751 rfl ?_
    refine E_callVR (q := 2755) (ar := []) (rest := []) lk_L_138 (sp_X6_thrown (v := nI 1) upd2_same) rc_X6 (rm1 (by decide)) (by show k + 4 + 0 + 0 ≤ 601024; omega) (by show n + 532 + 0 + 0 ≤ 7293034; omega) (Nat.le_of_ble_eq_true rfl) dL_law_2752 rfl rfl ?_
    rintro v1 w ⟨hv, hw⟩
    rw [hw]
    subst hv
    refine V_st (st' := [.int (nI 1)]) rfl ?_
    refine E_iload5 (q := 2757) dL_law_2755 rfl ?_
    refine E_icmp_eq (tgt := 2762) (q := 2760) dL_law_2757 (by decide) rfl (fun _ => ?_) (fun h => absurd rfl h)
    refine E_iload5 (q := 2764) dL_law_2762 rfl ?_
    refine E_if_ne (tgt := 2779) (q := 2767) dL_law_2764 (by decide) rfl (fun _ => ?_) (fun h => absurd h (by decide))
    refine E_goto (q := 2807) dL_law_2779 (by decide) ?_
    exact kk ad _ _ _ _ _ h.q
theorem lw_sharing (hi : i + 6 ≤ L) (hL : L ≤ 3072) (hk : k ≤ 600000) (hn : n ≤ 7000000) (hI : LI N M) (kk : ∀ ad2 M2 l5 l6 l7 l8, LI (N + 1) M2 → V D FLaw room_1 (QG (StX sb L xs) Qf) (k + 4) (n + 532) 2807 [some (.ref sb), some (.ref (ad2 0)), some (.ref (ad2 157)), some (.ref (ad2 165)), some (.int (nI i)), l5, l6, l7, l8] [] (wl D ad2 M2)) : V D FLaw room_1 (QG (StX sb L xs) Qf) k n 2271 [some (.ref sb), some (.ref (ad 0)), some (.ref (ad 157)), some (.ref (ad 165)), some (.int (nI i)), l5, l6, l7, l8] [] (wl D ad M) := by
  obtain ⟨A, H, f, tx, cap, T, e, h⟩ := hI
  refine E_aload1 (q := 2272) dL_law_2271 rfl ?_
  refine E_callVR (q := 2275) (ar := []) (rest := []) lk_L_244 (sp_X5_sharing h.si) rc_X5 (rm1 (by decide)) (by show k + 0 ≤ 601024; omega) (by show n + 0 ≤ 7293034; omega) (Nat.le_of_ble_eq_true rfl) dL_law_2272 rfl rfl ?_
  rintro v w ⟨hv, hw⟩
  rw [hw]
  subst hv
  refine V_st (st' := [.double (shrV A)]) rfl ?_
  refine E_dstore5 (q := 2277) dL_law_2275 rfl rfl ?_
  refine E_aload2 (q := 2278) dL_law_2277 rfl ?_
  refine E_callVR (q := 2281) (ar := []) (rest := []) lk_L_248 (sp_X6_sharing h.ri) rc_X6 (rm1 (by decide)) (by show k + 0 + 0 ≤ 601024; omega) (by show n + 0 + 0 ≤ 7293034; omega) (Nat.le_of_ble_eq_true rfl) dL_law_2278 rfl rfl ?_
  rintro v w ⟨hv, hw⟩
  rw [hw]
  subst hv
  refine V_st (st' := [.double (shrV A)]) rfl ?_
  refine E_dstore7 (q := 2283) dL_law_2281 rfl rfl ?_
  refine E_dload5 (q := 2285) dL_law_2283 rfl ?_
  refine E_dload7 (q := 2287) dL_law_2285 rfl ?_
  refine E_dcmp (q := 2288) dL_law_2287 rfl ?_
  have hend : ∀ l5 l6 l7 l8, V D FLaw room_1 (QG (StX sb L xs) Qf) (k + 0 + 0) (n + 0 + 0) 2309 [some (.ref sb), some (.ref (ad 0)), some (.ref (ad 157)), some (.ref (ad 165)), some (.int (nI i)), l5, l6, l7, l8] [] (wl D ad (upd2 M 157 4 (nI 0))) := fun l5 l6 l7 l8 => E_goto (q := 2807) dL_law_2309 (by decide) (V_widen (k' := k + 4) (n' := n + 532) (by omega) (by omega) (by show k + 4 ≤ 601024; omega) (by show n + 532 ≤ 7293034; omega) (kk ad _ _ _ _ _ h.q))
  refine E_if_eq (tgt := 2309) (q := 2291) dL_law_2288 (by decide) rfl (fun _ => hend _ _ _ _) (fun h0 => ?_)
  refine E_dload5 (q := 2293) dL_law_2291 rfl ?_
  refine E_dload5 (q := 2295) dL_law_2293 rfl ?_
  refine E_dcmp (q := 2296) dL_law_2295 rfl ?_
  refine E_if_eq (tgt := 2307) (q := 2299) dL_law_2296 (by decide) rfl (fun h1 => absurd h1 h0) (fun _ => ?_)
  refine E_dload7 (q := 2301) dL_law_2299 rfl ?_
  refine E_dload7 (q := 2303) dL_law_2301 rfl ?_
  refine E_dcmp (q := 2304) dL_law_2303 rfl ?_
  exact E_if_ne (tgt := 2309) (q := 2307) dL_law_2304 (by decide) rfl (fun _ => hend _ _ _ _) (fun h1 => absurd h1 h0)
theorem lc_0 (hi : i + 6 ≤ L) (hL : L ≤ 3072) (hk : k ≤ 600000) (hn : n ≤ 7000000) (hN0 : 1000 ≤ N) (hN : N ≤ 2000) (hI : LI N M) (kk : ∀ ad2 M2 l5 l6 l7 l8, LI (N + 1) M2 → V D FLaw room_1 (QG (StX sb L xs) Qf) (k + 4) (n + 532) 2807 [some (.ref sb), some (.ref (ad2 0)), some (.ref (ad2 157)), some (.ref (ad2 165)), some (.int (nI i)), l5, l6, l7, l8] [] (wl D ad2 M2)) : V D FLaw room_1 (QG (StX sb L xs) Qf) k n 284 [some (.ref sb), some (.ref (ad 0)), some (.ref (ad 157)), some (.ref (ad 165)), some (.int (nI i)), l5, l6, l7, l8] [] (wl D ad M) := by
  exact lw_feed hi hL hk hn (sem_feed hI) (fun M2 l5 l6 l7 l8 hQ => kk ad M2 l5 l6 l7 l8 hQ)
theorem lc_1 (hi : i + 6 ≤ L) (hL : L ≤ 3072) (hk : k ≤ 600000) (hn : n ≤ 7000000) (hN0 : 1000 ≤ N) (hN : N ≤ 2000) (hI : LI N M) (kk : ∀ ad2 M2 l5 l6 l7 l8, LI (N + 1) M2 → V D FLaw room_1 (QG (StX sb L xs) Qf) (k + 4) (n + 532) 2807 [some (.ref sb), some (.ref (ad2 0)), some (.ref (ad2 157)), some (.ref (ad2 165)), some (.int (nI i)), l5, l6, l7, l8] [] (wl D ad2 M2)) : V D FLaw room_1 (QG (StX sb L xs) Qf) k n 357 [some (.ref sb), some (.ref (ad 0)), some (.ref (ad 157)), some (.ref (ad 165)), some (.int (nI i)), l5, l6, l7, l8] [] (wl D ad M) := by
  exact lw_load hi hL hk hn (sem_load hN0 hI) (fun M2 l5 l6 l7 l8 hQ => kk ad M2 l5 l6 l7 l8 hQ)
theorem lc_2 (hi : i + 6 ≤ L) (hL : L ≤ 3072) (hk : k ≤ 600000) (hn : n ≤ 7000000) (hN0 : 1000 ≤ N) (hN : N ≤ 2000) (hI : LI N M) (kk : ∀ ad2 M2 l5 l6 l7 l8, LI (N + 1) M2 → V D FLaw room_1 (QG (StX sb L xs) Qf) (k + 4) (n + 532) 2807 [some (.ref sb), some (.ref (ad2 0)), some (.ref (ad2 157)), some (.ref (ad2 165)), some (.int (nI i)), l5, l6, l7, l8] [] (wl D ad2 M2)) : V D FLaw room_1 (QG (StX sb L xs) Qf) k n 382 [some (.ref sb), some (.ref (ad 0)), some (.ref (ad 157)), some (.ref (ad 165)), some (.int (nI i)), l5, l6, l7, l8] [] (wl D ad M) := by
  exact lw_errorPosition hi hL hk hn (sem_errorPosition hI) (fun M2 l5 l6 l7 l8 hQ => kk ad M2 l5 l6 l7 l8 hQ)
theorem lc_3 (hi : i + 6 ≤ L) (hL : L ≤ 3072) (hk : k ≤ 600000) (hn : n ≤ 7000000) (hN0 : 1000 ≤ N) (hN : N ≤ 2000) (hI : LI N M) (kk : ∀ ad2 M2 l5 l6 l7 l8, LI (N + 1) M2 → V D FLaw room_1 (QG (StX sb L xs) Qf) (k + 4) (n + 532) 2807 [some (.ref sb), some (.ref (ad2 0)), some (.ref (ad2 157)), some (.ref (ad2 165)), some (.int (nI i)), l5, l6, l7, l8] [] (wl D ad2 M2)) : V D FLaw room_1 (QG (StX sb L xs) Qf) k n 395 [some (.ref sb), some (.ref (ad 0)), some (.ref (ad 157)), some (.ref (ad 165)), some (.int (nI i)), l5, l6, l7, l8] [] (wl D ad M) := by
  exact lw_count hi hL hk hn (sem_count hI) (fun M2 l5 l6 l7 l8 hQ => kk ad M2 l5 l6 l7 l8 hQ)
theorem lc_4 (hi : i + 6 ≤ L) (hL : L ≤ 3072) (hk : k ≤ 600000) (hn : n ≤ 7000000) (hN0 : 1000 ≤ N) (hN : N ≤ 2000) (hI : LI N M) (kk : ∀ ad2 M2 l5 l6 l7 l8, LI (N + 1) M2 → V D FLaw room_1 (QG (StX sb L xs) Qf) (k + 4) (n + 532) 2807 [some (.ref sb), some (.ref (ad2 0)), some (.ref (ad2 157)), some (.ref (ad2 165)), some (.int (nI i)), l5, l6, l7, l8] [] (wl D ad2 M2)) : V D FLaw room_1 (QG (StX sb L xs) Qf) k n 420 [some (.ref sb), some (.ref (ad 0)), some (.ref (ad 157)), some (.ref (ad 165)), some (.int (nI i)), l5, l6, l7, l8] [] (wl D ad M) := by
  by_cases hb : xs (i + 1) = 0
  · exact lw_named0 hi hL hk hn hb (sem_named0 hI) (fun M2 l5 l6 l7 l8 hQ => kk ad M2 l5 l6 l7 l8 hQ)
  · exact lw_named1 hi hL hk hn hb (sem_named1 hI) (fun M2 l5 l6 l7 l8 hQ => kk ad M2 l5 l6 l7 l8 hQ)
theorem lc_5 (hi : i + 6 ≤ L) (hL : L ≤ 3072) (hk : k ≤ 600000) (hn : n ≤ 7000000) (hN0 : 1000 ≤ N) (hN : N ≤ 2000) (hI : LI N M) (kk : ∀ ad2 M2 l5 l6 l7 l8, LI (N + 1) M2 → V D FLaw room_1 (QG (StX sb L xs) Qf) (k + 4) (n + 532) 2807 [some (.ref sb), some (.ref (ad2 0)), some (.ref (ad2 157)), some (.ref (ad2 165)), some (.int (nI i)), l5, l6, l7, l8] [] (wl D ad2 M2)) : V D FLaw room_1 (QG (StX sb L xs) Qf) k n 473 [some (.ref sb), some (.ref (ad 0)), some (.ref (ad 157)), some (.ref (ad 165)), some (.int (nI i)), l5, l6, l7, l8] [] (wl D ad M) := by
  exact lw_undoCount hi hL hk hn (sem_undoCount hI) (fun M2 l5 l6 l7 l8 hQ => kk ad M2 l5 l6 l7 l8 hQ)
theorem lc_6 (hi : i + 6 ≤ L) (hL : L ≤ 3072) (hk : k ≤ 600000) (hn : n ≤ 7000000) (hN0 : 1000 ≤ N) (hN : N ≤ 2000) (hI : LI N M) (kk : ∀ ad2 M2 l5 l6 l7 l8, LI (N + 1) M2 → V D FLaw room_1 (QG (StX sb L xs) Qf) (k + 4) (n + 532) 2807 [some (.ref sb), some (.ref (ad2 0)), some (.ref (ad2 157)), some (.ref (ad2 165)), some (.int (nI i)), l5, l6, l7, l8] [] (wl D ad2 M2)) : V D FLaw room_1 (QG (StX sb L xs) Qf) k n 486 [some (.ref sb), some (.ref (ad 0)), some (.ref (ad 157)), some (.ref (ad 165)), some (.int (nI i)), l5, l6, l7, l8] [] (wl D ad M) := by
  exact lw_getSetting hi hL hk hn (sem_getSetting hI) (fun M2 l5 l6 l7 l8 hQ => kk ad M2 l5 l6 l7 l8 hQ)
theorem lc_7 (hi : i + 6 ≤ L) (hL : L ≤ 3072) (hk : k ≤ 600000) (hn : n ≤ 7000000) (hN0 : 1000 ≤ N) (hN : N ≤ 2000) (hI : LI N M) (kk : ∀ ad2 M2 l5 l6 l7 l8, LI (N + 1) M2 → V D FLaw room_1 (QG (StX sb L xs) Qf) (k + 4) (n + 532) 2807 [some (.ref sb), some (.ref (ad2 0)), some (.ref (ad2 157)), some (.ref (ad2 165)), some (.int (nI i)), l5, l6, l7, l8] [] (wl D ad2 M2)) : V D FLaw room_1 (QG (StX sb L xs) Qf) k n 511 [some (.ref sb), some (.ref (ad 0)), some (.ref (ad 157)), some (.ref (ad 165)), some (.int (nI i)), l5, l6, l7, l8] [] (wl D ad M) := by
  exact lw_isThere hi hL hk hn (sem_isThere hI) (fun M2 l5 l6 l7 l8 hQ => kk ad M2 l5 l6 l7 l8 hQ)
theorem lc_8 (hi : i + 6 ≤ L) (hL : L ≤ 3072) (hk : k ≤ 600000) (hn : n ≤ 7000000) (hN0 : 1000 ≤ N) (hN : N ≤ 2000) (hI : LI N M) (kk : ∀ ad2 M2 l5 l6 l7 l8, LI (N + 1) M2 → V D FLaw room_1 (QG (StX sb L xs) Qf) (k + 4) (n + 532) 2807 [some (.ref sb), some (.ref (ad2 0)), some (.ref (ad2 157)), some (.ref (ad2 165)), some (.int (nI i)), l5, l6, l7, l8] [] (wl D ad2 M2)) : V D FLaw room_1 (QG (StX sb L xs) Qf) k n 536 [some (.ref sb), some (.ref (ad 0)), some (.ref (ad 157)), some (.ref (ad 165)), some (.int (nI i)), l5, l6, l7, l8] [] (wl D ad M) := by
  exact lw_volumeNumber hi hL hk hn (sem_volumeNumber hI) (fun M2 l5 l6 l7 l8 hQ => kk ad M2 l5 l6 l7 l8 hQ)
theorem lc_9 (hi : i + 6 ≤ L) (hL : L ≤ 3072) (hk : k ≤ 600000) (hn : n ≤ 7000000) (hN0 : 1000 ≤ N) (hN : N ≤ 2000) (hI : LI N M) (kk : ∀ ad2 M2 l5 l6 l7 l8, LI (N + 1) M2 → V D FLaw room_1 (QG (StX sb L xs) Qf) (k + 4) (n + 532) 2807 [some (.ref sb), some (.ref (ad2 0)), some (.ref (ad2 157)), some (.ref (ad2 165)), some (.int (nI i)), l5, l6, l7, l8] [] (wl D ad2 M2)) : V D FLaw room_1 (QG (StX sb L xs) Qf) k n 604 [some (.ref sb), some (.ref (ad 0)), some (.ref (ad 157)), some (.ref (ad 165)), some (.int (nI i)), l5, l6, l7, l8] [] (wl D ad M) := by
  exact lw_snapshotNumber hi hL hk hn (sem_snapshotNumber hI) (fun M2 l5 l6 l7 l8 hQ => kk ad M2 l5 l6 l7 l8 hQ)
theorem lc_10 (hi : i + 6 ≤ L) (hL : L ≤ 3072) (hk : k ≤ 600000) (hn : n ≤ 7000000) (hN0 : 1000 ≤ N) (hN : N ≤ 2000) (hI : LI N M) (kk : ∀ ad2 M2 l5 l6 l7 l8, LI (N + 1) M2 → V D FLaw room_1 (QG (StX sb L xs) Qf) (k + 4) (n + 532) 2807 [some (.ref sb), some (.ref (ad2 0)), some (.ref (ad2 157)), some (.ref (ad2 165)), some (.int (nI i)), l5, l6, l7, l8] [] (wl D ad2 M2)) : V D FLaw room_1 (QG (StX sb L xs) Qf) k n 672 [some (.ref sb), some (.ref (ad 0)), some (.ref (ad 157)), some (.ref (ad 165)), some (.int (nI i)), l5, l6, l7, l8] [] (wl D ad M) := by
  exact lw_snapshotAt hi hL hk hn (sem_snapshotAt hI) (fun M2 l5 l6 l7 l8 hQ => kk ad M2 l5 l6 l7 l8 hQ)
theorem lc_11 (hi : i + 6 ≤ L) (hL : L ≤ 3072) (hk : k ≤ 600000) (hn : n ≤ 7000000) (hN0 : 1000 ≤ N) (hN : N ≤ 2000) (hI : LI N M) (kk : ∀ ad2 M2 l5 l6 l7 l8, LI (N + 1) M2 → V D FLaw room_1 (QG (StX sb L xs) Qf) (k + 4) (n + 532) 2807 [some (.ref sb), some (.ref (ad2 0)), some (.ref (ad2 157)), some (.ref (ad2 165)), some (.int (nI i)), l5, l6, l7, l8] [] (wl D ad2 M2)) : V D FLaw room_1 (QG (StX sb L xs) Qf) k n 740 [some (.ref sb), some (.ref (ad 0)), some (.ref (ad 157)), some (.ref (ad 165)), some (.int (nI i)), l5, l6, l7, l8] [] (wl D ad M) := by
  exact lw_clonesOf hi hL hk hn (sem_clonesOf hI) (fun M2 l5 l6 l7 l8 hQ => kk ad M2 l5 l6 l7 l8 hQ)
theorem lc_12 (hi : i + 6 ≤ L) (hL : L ≤ 3072) (hk : k ≤ 600000) (hn : n ≤ 7000000) (hN0 : 1000 ≤ N) (hN : N ≤ 2000) (hI : LI N M) (kk : ∀ ad2 M2 l5 l6 l7 l8, LI (N + 1) M2 → V D FLaw room_1 (QG (StX sb L xs) Qf) (k + 4) (n + 532) 2807 [some (.ref sb), some (.ref (ad2 0)), some (.ref (ad2 157)), some (.ref (ad2 165)), some (.int (nI i)), l5, l6, l7, l8] [] (wl D ad2 M2)) : V D FLaw room_1 (QG (StX sb L xs) Qf) k n 796 [some (.ref sb), some (.ref (ad 0)), some (.ref (ad 157)), some (.ref (ad 165)), some (.int (nI i)), l5, l6, l7, l8] [] (wl D ad M) := by
  exact lw_before hi hL hk hn (sem_before hI) (fun M2 l5 l6 l7 l8 hQ => kk ad M2 l5 l6 l7 l8 hQ)
theorem lc_13 (hi : i + 6 ≤ L) (hL : L ≤ 3072) (hk : k ≤ 600000) (hn : n ≤ 7000000) (hN0 : 1000 ≤ N) (hN : N ≤ 2000) (hI : LI N M) (kk : ∀ ad2 M2 l5 l6 l7 l8, LI (N + 1) M2 → V D FLaw room_1 (QG (StX sb L xs) Qf) (k + 4) (n + 532) 2807 [some (.ref sb), some (.ref (ad2 0)), some (.ref (ad2 157)), some (.ref (ad2 165)), some (.int (nI i)), l5, l6, l7, l8] [] (wl D ad2 M2)) : V D FLaw room_1 (QG (StX sb L xs) Qf) k n 852 [some (.ref sb), some (.ref (ad 0)), some (.ref (ad 157)), some (.ref (ad 165)), some (.int (nI i)), l5, l6, l7, l8] [] (wl D ad M) := by
  exact lw_behind hi hL hk hn (sem_behind hI) (fun M2 l5 l6 l7 l8 hQ => kk ad M2 l5 l6 l7 l8 hQ)
theorem lc_14 (hi : i + 6 ≤ L) (hL : L ≤ 3072) (hk : k ≤ 600000) (hn : n ≤ 7000000) (hN0 : 1000 ≤ N) (hN : N ≤ 2000) (hI : LI N M) (kk : ∀ ad2 M2 l5 l6 l7 l8, LI (N + 1) M2 → V D FLaw room_1 (QG (StX sb L xs) Qf) (k + 4) (n + 532) 2807 [some (.ref sb), some (.ref (ad2 0)), some (.ref (ad2 157)), some (.ref (ad2 165)), some (.int (nI i)), l5, l6, l7, l8] [] (wl D ad2 M2)) : V D FLaw room_1 (QG (StX sb L xs) Qf) k n 908 [some (.ref sb), some (.ref (ad 0)), some (.ref (ad 157)), some (.ref (ad 165)), some (.int (nI i)), l5, l6, l7, l8] [] (wl D ad M) := by
  exact lw_depthOf hi hL hk hn (sem_depthOf hI) (fun M2 l5 l6 l7 l8 hQ => kk ad M2 l5 l6 l7 l8 hQ)
theorem lc_15 (hi : i + 6 ≤ L) (hL : L ≤ 3072) (hk : k ≤ 600000) (hn : n ≤ 7000000) (hN0 : 1000 ≤ N) (hN : N ≤ 2000) (hI : LI N M) (kk : ∀ ad2 M2 l5 l6 l7 l8, LI (N + 1) M2 → V D FLaw room_1 (QG (StX sb L xs) Qf) (k + 4) (n + 532) 2807 [some (.ref sb), some (.ref (ad2 0)), some (.ref (ad2 157)), some (.ref (ad2 165)), some (.int (nI i)), l5, l6, l7, l8] [] (wl D ad2 M2)) : V D FLaw room_1 (QG (StX sb L xs) Qf) k n 964 [some (.ref sb), some (.ref (ad 0)), some (.ref (ad 157)), some (.ref (ad 165)), some (.int (nI i)), l5, l6, l7, l8] [] (wl D ad M) := by
  exact lw_common hi hL hk hn (sem_common hI) (fun M2 l5 l6 l7 l8 hQ => kk ad M2 l5 l6 l7 l8 hQ)
theorem lc_16 (hi : i + 6 ≤ L) (hL : L ≤ 3072) (hk : k ≤ 600000) (hn : n ≤ 7000000) (hN0 : 1000 ≤ N) (hN : N ≤ 2000) (hI : LI N M) (kk : ∀ ad2 M2 l5 l6 l7 l8, LI (N + 1) M2 → V D FLaw room_1 (QG (StX sb L xs) Qf) (k + 4) (n + 532) 2807 [some (.ref sb), some (.ref (ad2 0)), some (.ref (ad2 157)), some (.ref (ad2 165)), some (.int (nI i)), l5, l6, l7, l8] [] (wl D ad2 M2)) : V D FLaw room_1 (QG (StX sb L xs) Qf) k n 1032 [some (.ref sb), some (.ref (ad 0)), some (.ref (ad 157)), some (.ref (ad 165)), some (.int (nI i)), l5, l6, l7, l8] [] (wl D ad M) := by
  exact lw_blockAt hi hL hk hn (sem_blockAt hI) (fun M2 l5 l6 l7 l8 hQ => kk ad M2 l5 l6 l7 l8 hQ)
theorem lc_17 (hi : i + 6 ≤ L) (hL : L ≤ 3072) (hk : k ≤ 600000) (hn : n ≤ 7000000) (hN0 : 1000 ≤ N) (hN : N ≤ 2000) (hI : LI N M) (kk : ∀ ad2 M2 l5 l6 l7 l8, LI (N + 1) M2 → V D FLaw room_1 (QG (StX sb L xs) Qf) (k + 4) (n + 532) 2807 [some (.ref sb), some (.ref (ad2 0)), some (.ref (ad2 157)), some (.ref (ad2 165)), some (.int (nI i)), l5, l6, l7, l8] [] (wl D ad2 M2)) : V D FLaw room_1 (QG (StX sb L xs) Qf) k n 1100 [some (.ref sb), some (.ref (ad 0)), some (.ref (ad 157)), some (.ref (ad 165)), some (.int (nI i)), l5, l6, l7, l8] [] (wl D ad M) := by
  by_cases hb : xs (i + 2) = 0
  · exact lw_birthIn0 hi hL hk hn hb (sem_birthIn0 hI) (fun M2 l5 l6 l7 l8 hQ => kk ad M2 l5 l6 l7 l8 hQ)
  · exact lw_birthIn1 hi hL hk hn hb (sem_birthIn1 hI) (fun M2 l5 l6 l7 l8 hQ => kk ad M2 l5 l6 l7 l8 hQ)
theorem lc_18 (hi : i + 6 ≤ L) (hL : L ≤ 3072) (hk : k ≤ 600000) (hn : n ≤ 7000000) (hN0 : 1000 ≤ N) (hN : N ≤ 2000) (hI : LI N M) (kk : ∀ ad2 M2 l5 l6 l7 l8, LI (N + 1) M2 → V D FLaw room_1 (QG (StX sb L xs) Qf) (k + 4) (n + 532) 2807 [some (.ref sb), some (.ref (ad2 0)), some (.ref (ad2 157)), some (.ref (ad2 165)), some (.int (nI i)), l5, l6, l7, l8] [] (wl D ad2 M2)) : V D FLaw room_1 (QG (StX sb L xs) Qf) k n 1184 [some (.ref sb), some (.ref (ad 0)), some (.ref (ad 157)), some (.ref (ad 165)), some (.int (nI i)), l5, l6, l7, l8] [] (wl D ad M) := by
  exact lw_sameAt hi hL hk hn (sem_sameAt hI) (fun M2 l5 l6 l7 l8 hQ => kk ad M2 l5 l6 l7 l8 hQ)
theorem lc_19 (hi : i + 6 ≤ L) (hL : L ≤ 3072) (hk : k ≤ 600000) (hn : n ≤ 7000000) (hN0 : 1000 ≤ N) (hN : N ≤ 2000) (hI : LI N M) (kk : ∀ ad2 M2 l5 l6 l7 l8, LI (N + 1) M2 → V D FLaw room_1 (QG (StX sb L xs) Qf) (k + 4) (n + 532) 2807 [some (.ref sb), some (.ref (ad2 0)), some (.ref (ad2 157)), some (.ref (ad2 165)), some (.int (nI i)), l5, l6, l7, l8] [] (wl D ad2 M2)) : V D FLaw room_1 (QG (StX sb L xs) Qf) k n 1252 [some (.ref sb), some (.ref (ad 0)), some (.ref (ad 157)), some (.ref (ad 165)), some (.int (nI i)), l5, l6, l7, l8] [] (wl D ad M) := by
  exact lw_besideOrigin hi hL hk hn (sem_besideOrigin hI) (fun M2 l5 l6 l7 l8 hQ => kk ad M2 l5 l6 l7 l8 hQ)
theorem lc_20 (hi : i + 6 ≤ L) (hL : L ≤ 3072) (hk : k ≤ 600000) (hn : n ≤ 7000000) (hN0 : 1000 ≤ N) (hN : N ≤ 2000) (hI : LI N M) (kk : ∀ ad2 M2 l5 l6 l7 l8, LI (N + 1) M2 → V D FLaw room_1 (QG (StX sb L xs) Qf) (k + 4) (n + 532) 2807 [some (.ref sb), some (.ref (ad2 0)), some (.ref (ad2 157)), some (.ref (ad2 165)), some (.int (nI i)), l5, l6, l7, l8] [] (wl D ad2 M2)) : V D FLaw room_1 (QG (StX sb L xs) Qf) k n 1308 [some (.ref sb), some (.ref (ad 0)), some (.ref (ad 157)), some (.ref (ad 165)), some (.int (nI i)), l5, l6, l7, l8] [] (wl D ad M) := by
  exact lw_wouldFree hi hL hk hn (sem_wouldFree hI) (fun M2 l5 l6 l7 l8 hQ => kk ad M2 l5 l6 l7 l8 hQ)
theorem lc_21 (hi : i + 6 ≤ L) (hL : L ≤ 3072) (hk : k ≤ 600000) (hn : n ≤ 7000000) (hN0 : 1000 ≤ N) (hN : N ≤ 2000) (hI : LI N M) (kk : ∀ ad2 M2 l5 l6 l7 l8, LI (N + 1) M2 → V D FLaw room_1 (QG (StX sb L xs) Qf) (k + 4) (n + 532) 2807 [some (.ref sb), some (.ref (ad2 0)), some (.ref (ad2 157)), some (.ref (ad2 165)), some (.int (nI i)), l5, l6, l7, l8] [] (wl D ad2 M2)) : V D FLaw room_1 (QG (StX sb L xs) Qf) k n 1376 [some (.ref sb), some (.ref (ad 0)), some (.ref (ad 157)), some (.ref (ad 165)), some (.int (nI i)), l5, l6, l7, l8] [] (wl D ad M) := by
  exact lw_sizeOf hi hL hk hn (sem_sizeOf hI) (fun M2 l5 l6 l7 l8 hQ => kk ad M2 l5 l6 l7 l8 hQ)
theorem lc_22 (hi : i + 6 ≤ L) (hL : L ≤ 3072) (hk : k ≤ 600000) (hn : n ≤ 7000000) (hN0 : 1000 ≤ N) (hN : N ≤ 2000) (hI : LI N M) (kk : ∀ ad2 M2 l5 l6 l7 l8, LI (N + 1) M2 → V D FLaw room_1 (QG (StX sb L xs) Qf) (k + 4) (n + 532) 2807 [some (.ref sb), some (.ref (ad2 0)), some (.ref (ad2 157)), some (.ref (ad2 165)), some (.int (nI i)), l5, l6, l7, l8] [] (wl D ad2 M2)) : V D FLaw room_1 (QG (StX sb L xs) Qf) k n 1401 [some (.ref sb), some (.ref (ad 0)), some (.ref (ad 157)), some (.ref (ad 165)), some (.int (nI i)), l5, l6, l7, l8] [] (wl D ad M) := by
  exact lw_holders hi hL hk hn (sem_holders hI) (fun M2 l5 l6 l7 l8 hQ => kk ad M2 l5 l6 l7 l8 hQ)
theorem lc_23 (hi : i + 6 ≤ L) (hL : L ≤ 3072) (hk : k ≤ 600000) (hn : n ≤ 7000000) (hN0 : 1000 ≤ N) (hN : N ≤ 2000) (hI : LI N M) (kk : ∀ ad2 M2 l5 l6 l7 l8, LI (N + 1) M2 → V D FLaw room_1 (QG (StX sb L xs) Qf) (k + 4) (n + 532) 2807 [some (.ref sb), some (.ref (ad2 0)), some (.ref (ad2 157)), some (.ref (ad2 165)), some (.int (nI i)), l5, l6, l7, l8] [] (wl D ad2 M2)) : V D FLaw room_1 (QG (StX sb L xs) Qf) k n 1426 [some (.ref sb), some (.ref (ad 0)), some (.ref (ad 157)), some (.ref (ad 165)), some (.int (nI i)), l5, l6, l7, l8] [] (wl D ad M) := by
  exact lw_used hi hL hk hn (sem_used hI) (fun M2 l5 l6 l7 l8 hQ => kk ad M2 l5 l6 l7 l8 hQ)
theorem lc_24 (hi : i + 6 ≤ L) (hL : L ≤ 3072) (hk : k ≤ 600000) (hn : n ≤ 7000000) (hN0 : 1000 ≤ N) (hN : N ≤ 2000) (hI : LI N M) (kk : ∀ ad2 M2 l5 l6 l7 l8, LI (N + 1) M2 → V D FLaw room_1 (QG (StX sb L xs) Qf) (k + 4) (n + 532) 2807 [some (.ref sb), some (.ref (ad2 0)), some (.ref (ad2 157)), some (.ref (ad2 165)), some (.int (nI i)), l5, l6, l7, l8] [] (wl D ad2 M2)) : V D FLaw room_1 (QG (StX sb L xs) Qf) k n 1439 [some (.ref sb), some (.ref (ad 0)), some (.ref (ad 157)), some (.ref (ad 165)), some (.int (nI i)), l5, l6, l7, l8] [] (wl D ad M) := by
  exact lw_referenced hi hL hk hn (sem_referenced hI) (fun M2 l5 l6 l7 l8 hQ => kk ad M2 l5 l6 l7 l8 hQ)
theorem lc_25 (hi : i + 6 ≤ L) (hL : L ≤ 3072) (hk : k ≤ 600000) (hn : n ≤ 7000000) (hN0 : 1000 ≤ N) (hN : N ≤ 2000) (hI : LI N M) (kk : ∀ ad2 M2 l5 l6 l7 l8, LI (N + 1) M2 → V D FLaw room_1 (QG (StX sb L xs) Qf) (k + 4) (n + 532) 2807 [some (.ref sb), some (.ref (ad2 0)), some (.ref (ad2 157)), some (.ref (ad2 165)), some (.int (nI i)), l5, l6, l7, l8] [] (wl D ad2 M2)) : V D FLaw room_1 (QG (StX sb L xs) Qf) k n 1495 [some (.ref sb), some (.ref (ad 0)), some (.ref (ad 157)), some (.ref (ad 165)), some (.int (nI i)), l5, l6, l7, l8] [] (wl D ad M) := by
  exact lw_exclusive hi hL hk hn (sem_exclusive hI) (fun M2 l5 l6 l7 l8 hQ => kk ad M2 l5 l6 l7 l8 hQ)
theorem lc_26 (hi : i + 6 ≤ L) (hL : L ≤ 3072) (hk : k ≤ 600000) (hn : n ≤ 7000000) (hN0 : 1000 ≤ N) (hN : N ≤ 2000) (hI : LI N M) (kk : ∀ ad2 M2 l5 l6 l7 l8, LI (N + 1) M2 → V D FLaw room_1 (QG (StX sb L xs) Qf) (k + 4) (n + 532) 2807 [some (.ref sb), some (.ref (ad2 0)), some (.ref (ad2 157)), some (.ref (ad2 165)), some (.int (nI i)), l5, l6, l7, l8] [] (wl D ad2 M2)) : V D FLaw room_1 (QG (StX sb L xs) Qf) k n 1551 [some (.ref sb), some (.ref (ad 0)), some (.ref (ad 157)), some (.ref (ad 165)), some (.int (nI i)), l5, l6, l7, l8] [] (wl D ad M) := by
  exact lw_shared hi hL hk hn (sem_shared hI) (fun M2 l5 l6 l7 l8 hQ => kk ad M2 l5 l6 l7 l8 hQ)
theorem lc_27 (hi : i + 6 ≤ L) (hL : L ≤ 3072) (hk : k ≤ 600000) (hn : n ≤ 7000000) (hN0 : 1000 ≤ N) (hN : N ≤ 2000) (hI : LI N M) (kk : ∀ ad2 M2 l5 l6 l7 l8, LI (N + 1) M2 → V D FLaw room_1 (QG (StX sb L xs) Qf) (k + 4) (n + 532) 2807 [some (.ref sb), some (.ref (ad2 0)), some (.ref (ad2 157)), some (.ref (ad2 165)), some (.int (nI i)), l5, l6, l7, l8] [] (wl D ad2 M2)) : V D FLaw room_1 (QG (StX sb L xs) Qf) k n 1619 [some (.ref sb), some (.ref (ad 0)), some (.ref (ad 157)), some (.ref (ad 165)), some (.int (nI i)), l5, l6, l7, l8] [] (wl D ad M) := by
  exact lw_unlike hi hL hk hn (sem_unlike hI) (fun M2 l5 l6 l7 l8 hQ => kk ad M2 l5 l6 l7 l8 hQ)
theorem lc_28 (hi : i + 6 ≤ L) (hL : L ≤ 3072) (hk : k ≤ 600000) (hn : n ≤ 7000000) (hN0 : 1000 ≤ N) (hN : N ≤ 2000) (hI : LI N M) (kk : ∀ ad2 M2 l5 l6 l7 l8, LI (N + 1) M2 → V D FLaw room_1 (QG (StX sb L xs) Qf) (k + 4) (n + 532) 2807 [some (.ref sb), some (.ref (ad2 0)), some (.ref (ad2 157)), some (.ref (ad2 165)), some (.int (nI i)), l5, l6, l7, l8] [] (wl D ad2 M2)) : V D FLaw room_1 (QG (StX sb L xs) Qf) k n 1687 [some (.ref sb), some (.ref (ad 0)), some (.ref (ad 157)), some (.ref (ad 165)), some (.int (nI i)), l5, l6, l7, l8] [] (wl D ad M) := by
  exact lw_writtenSince hi hL hk hn (sem_writtenSince hI) (fun M2 l5 l6 l7 l8 hQ => kk ad M2 l5 l6 l7 l8 hQ)
theorem lc_29 (hi : i + 6 ≤ L) (hL : L ≤ 3072) (hk : k ≤ 600000) (hn : n ≤ 7000000) (hN0 : 1000 ≤ N) (hN : N ≤ 2000) (hI : LI N M) (kk : ∀ ad2 M2 l5 l6 l7 l8, LI (N + 1) M2 → V D FLaw room_1 (QG (StX sb L xs) Qf) (k + 4) (n + 532) 2807 [some (.ref sb), some (.ref (ad2 0)), some (.ref (ad2 157)), some (.ref (ad2 165)), some (.int (nI i)), l5, l6, l7, l8] [] (wl D ad2 M2)) : V D FLaw room_1 (QG (StX sb L xs) Qf) k n 1755 [some (.ref sb), some (.ref (ad 0)), some (.ref (ad 157)), some (.ref (ad 165)), some (.int (nI i)), l5, l6, l7, l8] [] (wl D ad M) := by
  exact lw_deadCount hi hL hk hn (sem_deadCount hI) (fun M2 l5 l6 l7 l8 hQ => kk ad M2 l5 l6 l7 l8 hQ)
theorem lc_30 (hi : i + 6 ≤ L) (hL : L ≤ 3072) (hk : k ≤ 600000) (hn : n ≤ 7000000) (hN0 : 1000 ≤ N) (hN : N ≤ 2000) (hI : LI N M) (kk : ∀ ad2 M2 l5 l6 l7 l8, LI (N + 1) M2 → V D FLaw room_1 (QG (StX sb L xs) Qf) (k + 4) (n + 532) 2807 [some (.ref sb), some (.ref (ad2 0)), some (.ref (ad2 157)), some (.ref (ad2 165)), some (.int (nI i)), l5, l6, l7, l8] [] (wl D ad2 M2)) : V D FLaw room_1 (QG (StX sb L xs) Qf) k n 1811 [some (.ref sb), some (.ref (ad 0)), some (.ref (ad 157)), some (.ref (ad 165)), some (.int (nI i)), l5, l6, l7, l8] [] (wl D ad M) := by
  exact lw_deadBlock hi hL hk hn (sem_deadBlock hI) (fun M2 l5 l6 l7 l8 hQ => kk ad M2 l5 l6 l7 l8 hQ)
theorem lc_31 (hi : i + 6 ≤ L) (hL : L ≤ 3072) (hk : k ≤ 600000) (hn : n ≤ 7000000) (hN0 : 1000 ≤ N) (hN : N ≤ 2000) (hI : LI N M) (kk : ∀ ad2 M2 l5 l6 l7 l8, LI (N + 1) M2 → V D FLaw room_1 (QG (StX sb L xs) Qf) (k + 4) (n + 532) 2807 [some (.ref sb), some (.ref (ad2 0)), some (.ref (ad2 157)), some (.ref (ad2 165)), some (.int (nI i)), l5, l6, l7, l8] [] (wl D ad2 M2)) : V D FLaw room_1 (QG (StX sb L xs) Qf) k n 1879 [some (.ref sb), some (.ref (ad 0)), some (.ref (ad 157)), some (.ref (ad 165)), some (.int (nI i)), l5, l6, l7, l8] [] (wl D ad M) := by
  exact lw_byDeadBlocks hi hL hk hn (sem_byDeadBlocks hI) (fun M2 l5 l6 l7 l8 hQ => kk ad M2 l5 l6 l7 l8 hQ)
theorem lc_32 (hi : i + 6 ≤ L) (hL : L ≤ 3072) (hk : k ≤ 600000) (hn : n ≤ 7000000) (hN0 : 1000 ≤ N) (hN : N ≤ 2000) (hI : LI N M) (kk : ∀ ad2 M2 l5 l6 l7 l8, LI (N + 1) M2 → V D FLaw room_1 (QG (StX sb L xs) Qf) (k + 4) (n + 532) 2807 [some (.ref sb), some (.ref (ad2 0)), some (.ref (ad2 157)), some (.ref (ad2 165)), some (.int (nI i)), l5, l6, l7, l8] [] (wl D ad2 M2)) : V D FLaw room_1 (QG (StX sb L xs) Qf) k n 1935 [some (.ref sb), some (.ref (ad 0)), some (.ref (ad 157)), some (.ref (ad 165)), some (.int (nI i)), l5, l6, l7, l8] [] (wl D ad M) := by
  exact lw_freedBy hi hL hk hn (sem_freedBy hI) (fun M2 l5 l6 l7 l8 hQ => kk ad M2 l5 l6 l7 l8 hQ)
theorem lc_33 (hi : i + 6 ≤ L) (hL : L ≤ 3072) (hk : k ≤ 600000) (hn : n ≤ 7000000) (hN0 : 1000 ≤ N) (hN : N ≤ 2000) (hI : LI N M) (kk : ∀ ad2 M2 l5 l6 l7 l8, LI (N + 1) M2 → V D FLaw room_1 (QG (StX sb L xs) Qf) (k + 4) (n + 532) 2807 [some (.ref sb), some (.ref (ad2 0)), some (.ref (ad2 157)), some (.ref (ad2 165)), some (.int (nI i)), l5, l6, l7, l8] [] (wl D ad2 M2)) : V D FLaw room_1 (QG (StX sb L xs) Qf) k n 1960 [some (.ref sb), some (.ref (ad 0)), some (.ref (ad 157)), some (.ref (ad 165)), some (.int (nI i)), l5, l6, l7, l8] [] (wl D ad M) := by
  exact lw_freedByVolume hi hL hk hn (sem_freedByVolume hI) (fun M2 l5 l6 l7 l8 hQ => kk ad M2 l5 l6 l7 l8 hQ)
theorem lc_34 (hi : i + 6 ≤ L) (hL : L ≤ 3072) (hk : k ≤ 600000) (hn : n ≤ 7000000) (hN0 : 1000 ≤ N) (hN : N ≤ 2000) (hI : LI N M) (kk : ∀ ad2 M2 l5 l6 l7 l8, LI (N + 1) M2 → V D FLaw room_1 (QG (StX sb L xs) Qf) (k + 4) (n + 532) 2807 [some (.ref sb), some (.ref (ad2 0)), some (.ref (ad2 157)), some (.ref (ad2 165)), some (.int (nI i)), l5, l6, l7, l8] [] (wl D ad2 M2)) : V D FLaw room_1 (QG (StX sb L xs) Qf) k n 2016 [some (.ref sb), some (.ref (ad 0)), some (.ref (ad 157)), some (.ref (ad 165)), some (.int (nI i)), l5, l6, l7, l8] [] (wl D ad M) := by
  exact lw_usedBySnapshots hi hL hk hn (sem_usedBySnapshots hI) (fun M2 l5 l6 l7 l8 hQ => kk ad M2 l5 l6 l7 l8 hQ)
theorem lc_35 (hi : i + 6 ≤ L) (hL : L ≤ 3072) (hk : k ≤ 600000) (hn : n ≤ 7000000) (hN0 : 1000 ≤ N) (hN : N ≤ 2000) (hI : LI N M) (kk : ∀ ad2 M2 l5 l6 l7 l8, LI (N + 1) M2 → V D FLaw room_1 (QG (StX sb L xs) Qf) (k + 4) (n + 532) 2807 [some (.ref sb), some (.ref (ad2 0)), some (.ref (ad2 157)), some (.ref (ad2 165)), some (.int (nI i)), l5, l6, l7, l8] [] (wl D ad2 M2)) : V D FLaw room_1 (QG (StX sb L xs) Qf) k n 2072 [some (.ref sb), some (.ref (ad 0)), some (.ref (ad 157)), some (.ref (ad 165)), some (.int (nI i)), l5, l6, l7, l8] [] (wl D ad M) := by
  exact lw_whyKept hi hL hk hn (sem_whyKept hI) (fun M2 l5 l6 l7 l8 hQ => kk ad M2 l5 l6 l7 l8 hQ)
theorem lc_36 (hi : i + 6 ≤ L) (hL : L ≤ 3072) (hk : k ≤ 600000) (hn : n ≤ 7000000) (hN0 : 1000 ≤ N) (hN : N ≤ 2000) (hI : LI N M) (kk : ∀ ad2 M2 l5 l6 l7 l8, LI (N + 1) M2 → V D FLaw room_1 (QG (StX sb L xs) Qf) (k + 4) (n + 532) 2807 [some (.ref sb), some (.ref (ad2 0)), some (.ref (ad2 157)), some (.ref (ad2 165)), some (.int (nI i)), l5, l6, l7, l8] [] (wl D ad2 M2)) : V D FLaw room_1 (QG (StX sb L xs) Qf) k n 2128 [some (.ref sb), some (.ref (ad 0)), some (.ref (ad 157)), some (.ref (ad 165)), some (.int (nI i)), l5, l6, l7, l8] [] (wl D ad M) := by
  exact lw_fewestToFree hi hL hk hn (sem_fewestToFree hI) (fun M2 l5 l6 l7 l8 hQ => kk ad M2 l5 l6 l7 l8 hQ)
theorem lc_37 (hi : i + 6 ≤ L) (hL : L ≤ 3072) (hk : k ≤ 600000) (hn : n ≤ 7000000) (hN0 : 1000 ≤ N) (hN : N ≤ 2000) (hI : LI N M) (kk : ∀ ad2 M2 l5 l6 l7 l8, LI (N + 1) M2 → V D FLaw room_1 (QG (StX sb L xs) Qf) (k + 4) (n + 532) 2807 [some (.ref sb), some (.ref (ad2 0)), some (.ref (ad2 157)), some (.ref (ad2 165)), some (.int (nI i)), l5, l6, l7, l8] [] (wl D ad2 M2)) : V D FLaw room_1 (QG (StX sb L xs) Qf) k n 2153 [some (.ref sb), some (.ref (ad 0)), some (.ref (ad 157)), some (.ref (ad 165)), some (.int (nI i)), l5, l6, l7, l8] [] (wl D ad M) := by
  exact lw_mostExclusive hi hL hk hn (sem_mostExclusive hI) (fun M2 l5 l6 l7 l8 hQ => kk ad M2 l5 l6 l7 l8 hQ)
theorem lc_38 (hi : i + 6 ≤ L) (hL : L ≤ 3072) (hk : k ≤ 600000) (hn : n ≤ 7000000) (hN0 : 1000 ≤ N) (hN : N ≤ 2000) (hI : LI N M) (kk : ∀ ad2 M2 l5 l6 l7 l8, LI (N + 1) M2 → V D FLaw room_1 (QG (StX sb L xs) Qf) (k + 4) (n + 532) 2807 [some (.ref sb), some (.ref (ad2 0)), some (.ref (ad2 157)), some (.ref (ad2 165)), some (.int (nI i)), l5, l6, l7, l8] [] (wl D ad2 M2)) : V D FLaw room_1 (QG (StX sb L xs) Qf) k n 2166 [some (.ref sb), some (.ref (ad 0)), some (.ref (ad 157)), some (.ref (ad 165)), some (.int (nI i)), l5, l6, l7, l8] [] (wl D ad M) := by
  exact lw_wouldMove hi hL hk hn (sem_wouldMove hI) (fun M2 l5 l6 l7 l8 hQ => kk ad M2 l5 l6 l7 l8 hQ)
theorem lc_39 (hi : i + 6 ≤ L) (hL : L ≤ 3072) (hk : k ≤ 600000) (hn : n ≤ 7000000) (hN0 : 1000 ≤ N) (hN : N ≤ 2000) (hI : LI N M) (kk : ∀ ad2 M2 l5 l6 l7 l8, LI (N + 1) M2 → V D FLaw room_1 (QG (StX sb L xs) Qf) (k + 4) (n + 532) 2807 [some (.ref sb), some (.ref (ad2 0)), some (.ref (ad2 157)), some (.ref (ad2 165)), some (.int (nI i)), l5, l6, l7, l8] [] (wl D ad2 M2)) : V D FLaw room_1 (QG (StX sb L xs) Qf) k n 2222 [some (.ref sb), some (.ref (ad 0)), some (.ref (ad 157)), some (.ref (ad 165)), some (.int (nI i)), l5, l6, l7, l8] [] (wl D ad M) := by
  exact lw_wouldWrite hi hL hk hn (sem_wouldWrite hI) (fun M2 l5 l6 l7 l8 hQ => kk ad M2 l5 l6 l7 l8 hQ)
theorem lc_40 (hi : i + 6 ≤ L) (hL : L ≤ 3072) (hk : k ≤ 600000) (hn : n ≤ 7000000) (hN0 : 1000 ≤ N) (hN : N ≤ 2000) (hI : LI N M) (kk : ∀ ad2 M2 l5 l6 l7 l8, LI (N + 1) M2 → V D FLaw room_1 (QG (StX sb L xs) Qf) (k + 4) (n + 532) 2807 [some (.ref sb), some (.ref (ad2 0)), some (.ref (ad2 157)), some (.ref (ad2 165)), some (.int (nI i)), l5, l6, l7, l8] [] (wl D ad2 M2)) : V D FLaw room_1 (QG (StX sb L xs) Qf) k n 2271 [some (.ref sb), some (.ref (ad 0)), some (.ref (ad 157)), some (.ref (ad 165)), some (.int (nI i)), l5, l6, l7, l8] [] (wl D ad M) := by
  exact lw_sharing hi hL hk hn hI kk
theorem lc_41 (hi : i + 6 ≤ L) (hL : L ≤ 3072) (hk : k ≤ 600000) (hn : n ≤ 7000000) (hN0 : 1000 ≤ N) (hN : N ≤ 2000) (hI : LI N M) (kk : ∀ ad2 M2 l5 l6 l7 l8, LI (N + 1) M2 → V D FLaw room_1 (QG (StX sb L xs) Qf) (k + 4) (n + 532) 2807 [some (.ref sb), some (.ref (ad2 0)), some (.ref (ad2 157)), some (.ref (ad2 165)), some (.int (nI i)), l5, l6, l7, l8] [] (wl D ad2 M2)) : V D FLaw room_1 (QG (StX sb L xs) Qf) k n 2312 [some (.ref sb), some (.ref (ad 0)), some (.ref (ad 157)), some (.ref (ad 165)), some (.int (nI i)), l5, l6, l7, l8] [] (wl D ad M) := by
  exact lw_newVolume hi hL hk hn (sem_newVolume hN hI) (fun M2 l5 l6 l7 l8 hQ => kk ad M2 l5 l6 l7 l8 hQ)
theorem lc_42 (hi : i + 6 ≤ L) (hL : L ≤ 3072) (hk : k ≤ 600000) (hn : n ≤ 7000000) (hN0 : 1000 ≤ N) (hN : N ≤ 2000) (hI : LI N M) (kk : ∀ ad2 M2 l5 l6 l7 l8, LI (N + 1) M2 → V D FLaw room_1 (QG (StX sb L xs) Qf) (k + 4) (n + 532) 2807 [some (.ref sb), some (.ref (ad2 0)), some (.ref (ad2 157)), some (.ref (ad2 165)), some (.int (nI i)), l5, l6, l7, l8] [] (wl D ad2 M2)) : V D FLaw room_1 (QG (StX sb L xs) Qf) k n 2325 [some (.ref sb), some (.ref (ad 0)), some (.ref (ad 157)), some (.ref (ad 165)), some (.int (nI i)), l5, l6, l7, l8] [] (wl D ad M) := by
  exact lw_write hi hL hk hn (sem_write hN hI) (fun M2 l5 l6 l7 l8 hQ => kk ad M2 l5 l6 l7 l8 hQ)
theorem lc_43 (hi : i + 6 ≤ L) (hL : L ≤ 3072) (hk : k ≤ 600000) (hn : n ≤ 7000000) (hN0 : 1000 ≤ N) (hN : N ≤ 2000) (hI : LI N M) (kk : ∀ ad2 M2 l5 l6 l7 l8, LI (N + 1) M2 → V D FLaw room_1 (QG (StX sb L xs) Qf) (k + 4) (n + 532) 2807 [some (.ref sb), some (.ref (ad2 0)), some (.ref (ad2 157)), some (.ref (ad2 165)), some (.int (nI i)), l5, l6, l7, l8] [] (wl D ad2 M2)) : V D FLaw room_1 (QG (StX sb L xs) Qf) k n 2374 [some (.ref sb), some (.ref (ad 0)), some (.ref (ad 157)), some (.ref (ad 165)), some (.int (nI i)), l5, l6, l7, l8] [] (wl D ad M) := by
  exact lw_trim hi hL hk hn (sem_trim hN hI) (fun M2 l5 l6 l7 l8 hQ => kk ad M2 l5 l6 l7 l8 hQ)
theorem lc_44 (hi : i + 6 ≤ L) (hL : L ≤ 3072) (hk : k ≤ 600000) (hn : n ≤ 7000000) (hN0 : 1000 ≤ N) (hN : N ≤ 2000) (hI : LI N M) (kk : ∀ ad2 M2 l5 l6 l7 l8, LI (N + 1) M2 → V D FLaw room_1 (QG (StX sb L xs) Qf) (k + 4) (n + 532) 2807 [some (.ref sb), some (.ref (ad2 0)), some (.ref (ad2 157)), some (.ref (ad2 165)), some (.int (nI i)), l5, l6, l7, l8] [] (wl D ad2 M2)) : V D FLaw room_1 (QG (StX sb L xs) Qf) k n 2411 [some (.ref sb), some (.ref (ad 0)), some (.ref (ad 157)), some (.ref (ad 165)), some (.int (nI i)), l5, l6, l7, l8] [] (wl D ad M) := by
  exact lw_take hi hL hk hn (sem_take hN hI) (fun M2 l5 l6 l7 l8 hQ => kk ad M2 l5 l6 l7 l8 hQ)
theorem lc_45 (hi : i + 6 ≤ L) (hL : L ≤ 3072) (hk : k ≤ 600000) (hn : n ≤ 7000000) (hN0 : 1000 ≤ N) (hN : N ≤ 2000) (hI : LI N M) (kk : ∀ ad2 M2 l5 l6 l7 l8, LI (N + 1) M2 → V D FLaw room_1 (QG (StX sb L xs) Qf) (k + 4) (n + 532) 2807 [some (.ref sb), some (.ref (ad2 0)), some (.ref (ad2 157)), some (.ref (ad2 165)), some (.int (nI i)), l5, l6, l7, l8] [] (wl D ad2 M2)) : V D FLaw room_1 (QG (StX sb L xs) Qf) k n 2436 [some (.ref sb), some (.ref (ad 0)), some (.ref (ad 157)), some (.ref (ad 165)), some (.int (nI i)), l5, l6, l7, l8] [] (wl D ad M) := by
  exact lw_clone hi hL hk hn (sem_clone hN hI) (fun M2 l5 l6 l7 l8 hQ => kk ad M2 l5 l6 l7 l8 hQ)
theorem lc_46 (hi : i + 6 ≤ L) (hL : L ≤ 3072) (hk : k ≤ 600000) (hn : n ≤ 7000000) (hN0 : 1000 ≤ N) (hN : N ≤ 2000) (hI : LI N M) (kk : ∀ ad2 M2 l5 l6 l7 l8, LI (N + 1) M2 → V D FLaw room_1 (QG (StX sb L xs) Qf) (k + 4) (n + 532) 2807 [some (.ref sb), some (.ref (ad2 0)), some (.ref (ad2 157)), some (.ref (ad2 165)), some (.int (nI i)), l5, l6, l7, l8] [] (wl D ad2 M2)) : V D FLaw room_1 (QG (StX sb L xs) Qf) k n 2461 [some (.ref sb), some (.ref (ad 0)), some (.ref (ad 157)), some (.ref (ad 165)), some (.int (nI i)), l5, l6, l7, l8] [] (wl D ad M) := by
  exact lw_promote hi hL hk hn (sem_promote hN hI) (fun M2 l5 l6 l7 l8 hQ => kk ad M2 l5 l6 l7 l8 hQ)
theorem lc_47 (hi : i + 6 ≤ L) (hL : L ≤ 3072) (hk : k ≤ 600000) (hn : n ≤ 7000000) (hN0 : 1000 ≤ N) (hN : N ≤ 2000) (hI : LI N M) (kk : ∀ ad2 M2 l5 l6 l7 l8, LI (N + 1) M2 → V D FLaw room_1 (QG (StX sb L xs) Qf) (k + 4) (n + 532) 2807 [some (.ref sb), some (.ref (ad2 0)), some (.ref (ad2 157)), some (.ref (ad2 165)), some (.int (nI i)), l5, l6, l7, l8] [] (wl D ad2 M2)) : V D FLaw room_1 (QG (StX sb L xs) Qf) k n 2486 [some (.ref sb), some (.ref (ad 0)), some (.ref (ad 157)), some (.ref (ad 165)), some (.int (nI i)), l5, l6, l7, l8] [] (wl D ad M) := by
  exact lw_destroy hi hL hk hn (sem_destroy hN hI) (fun M2 l5 l6 l7 l8 hQ => kk ad M2 l5 l6 l7 l8 hQ)
theorem lc_48 (hi : i + 6 ≤ L) (hL : L ≤ 3072) (hk : k ≤ 600000) (hn : n ≤ 7000000) (hN0 : 1000 ≤ N) (hN : N ≤ 2000) (hI : LI N M) (kk : ∀ ad2 M2 l5 l6 l7 l8, LI (N + 1) M2 → V D FLaw room_1 (QG (StX sb L xs) Qf) (k + 4) (n + 532) 2807 [some (.ref sb), some (.ref (ad2 0)), some (.ref (ad2 157)), some (.ref (ad2 165)), some (.int (nI i)), l5, l6, l7, l8] [] (wl D ad2 M2)) : V D FLaw room_1 (QG (StX sb L xs) Qf) k n 2511 [some (.ref sb), some (.ref (ad 0)), some (.ref (ad 157)), some (.ref (ad 165)), some (.int (nI i)), l5, l6, l7, l8] [] (wl D ad M) := by
  exact lw_destroySet hi hL hk hn (sem_destroySet hN hI) (fun M2 l5 l6 l7 l8 hQ => kk ad M2 l5 l6 l7 l8 hQ)
theorem lc_49 (hi : i + 6 ≤ L) (hL : L ≤ 3072) (hk : k ≤ 600000) (hn : n ≤ 7000000) (hN0 : 1000 ≤ N) (hN : N ≤ 2000) (hI : LI N M) (kk : ∀ ad2 M2 l5 l6 l7 l8, LI (N + 1) M2 → V D FLaw room_1 (QG (StX sb L xs) Qf) (k + 4) (n + 532) 2807 [some (.ref sb), some (.ref (ad2 0)), some (.ref (ad2 157)), some (.ref (ad2 165)), some (.int (nI i)), l5, l6, l7, l8] [] (wl D ad2 M2)) : V D FLaw room_1 (QG (StX sb L xs) Qf) k n 2536 [some (.ref sb), some (.ref (ad 0)), some (.ref (ad 157)), some (.ref (ad 165)), some (.int (nI i)), l5, l6, l7, l8] [] (wl D ad M) := by
  exact lw_destroyVolume hi hL hk hn (sem_destroyVolume hN hI) (fun M2 l5 l6 l7 l8 hQ => kk ad M2 l5 l6 l7 l8 hQ)
theorem lc_50 (hi : i + 6 ≤ L) (hL : L ≤ 3072) (hk : k ≤ 600000) (hn : n ≤ 7000000) (hN0 : 1000 ≤ N) (hN : N ≤ 2000) (hI : LI N M) (kk : ∀ ad2 M2 l5 l6 l7 l8, LI (N + 1) M2 → V D FLaw room_1 (QG (StX sb L xs) Qf) (k + 4) (n + 532) 2807 [some (.ref sb), some (.ref (ad2 0)), some (.ref (ad2 157)), some (.ref (ad2 165)), some (.int (nI i)), l5, l6, l7, l8] [] (wl D ad2 M2)) : V D FLaw room_1 (QG (StX sb L xs) Qf) k n 2561 [some (.ref sb), some (.ref (ad 0)), some (.ref (ad 157)), some (.ref (ad 165)), some (.int (nI i)), l5, l6, l7, l8] [] (wl D ad M) := by
  exact lw_rollBack hi hL hk hn (sem_rollBack hN hI) (fun M2 l5 l6 l7 l8 hQ => kk ad M2 l5 l6 l7 l8 hQ)
theorem lc_51 (hi : i + 6 ≤ L) (hL : L ≤ 3072) (hk : k ≤ 600000) (hn : n ≤ 7000000) (hN0 : 1000 ≤ N) (hN : N ≤ 2000) (hI : LI N M) (kk : ∀ ad2 M2 l5 l6 l7 l8, LI (N + 1) M2 → V D FLaw room_1 (QG (StX sb L xs) Qf) (k + 4) (n + 532) 2807 [some (.ref sb), some (.ref (ad2 0)), some (.ref (ad2 157)), some (.ref (ad2 165)), some (.int (nI i)), l5, l6, l7, l8] [] (wl D ad2 M2)) : V D FLaw room_1 (QG (StX sb L xs) Qf) k n 2586 [some (.ref sb), some (.ref (ad 0)), some (.ref (ad 157)), some (.ref (ad 165)), some (.int (nI i)), l5, l6, l7, l8] [] (wl D ad M) := by
  by_cases hb : xs (i + 2) = 0
  · exact lw_hold0 hi hL hk hn hb (sem_hold0 hN hI) (fun M2 l5 l6 l7 l8 hQ => kk ad M2 l5 l6 l7 l8 hQ)
  · exact lw_hold1 hi hL hk hn hb (sem_hold1 hN hI) (fun M2 l5 l6 l7 l8 hQ => kk ad M2 l5 l6 l7 l8 hQ)
theorem lc_52 (hi : i + 6 ≤ L) (hL : L ≤ 3072) (hk : k ≤ 600000) (hn : n ≤ 7000000) (hN0 : 1000 ≤ N) (hN : N ≤ 2000) (hI : LI N M) (kk : ∀ ad2 M2 l5 l6 l7 l8, LI (N + 1) M2 → V D FLaw room_1 (QG (StX sb L xs) Qf) (k + 4) (n + 532) 2807 [some (.ref sb), some (.ref (ad2 0)), some (.ref (ad2 157)), some (.ref (ad2 165)), some (.int (nI i)), l5, l6, l7, l8] [] (wl D ad2 M2)) : V D FLaw room_1 (QG (StX sb L xs) Qf) k n 2639 [some (.ref sb), some (.ref (ad 0)), some (.ref (ad 157)), some (.ref (ad 165)), some (.int (nI i)), l5, l6, l7, l8] [] (wl D ad M) := by
  exact lw_setQuota hi hL hk hn (sem_setQuota hN hI) (fun M2 l5 l6 l7 l8 hQ => kk ad M2 l5 l6 l7 l8 hQ)
theorem lc_53 (hi : i + 6 ≤ L) (hL : L ≤ 3072) (hk : k ≤ 600000) (hn : n ≤ 7000000) (hN0 : 1000 ≤ N) (hN : N ≤ 2000) (hI : LI N M) (kk : ∀ ad2 M2 l5 l6 l7 l8, LI (N + 1) M2 → V D FLaw room_1 (QG (StX sb L xs) Qf) (k + 4) (n + 532) 2807 [some (.ref sb), some (.ref (ad2 0)), some (.ref (ad2 157)), some (.ref (ad2 165)), some (.int (nI i)), l5, l6, l7, l8] [] (wl D ad2 M2)) : V D FLaw room_1 (QG (StX sb L xs) Qf) k n 2676 [some (.ref sb), some (.ref (ad 0)), some (.ref (ad 157)), some (.ref (ad 165)), some (.int (nI i)), l5, l6, l7, l8] [] (wl D ad M) := by
  exact lw_setSetting hi hL hk hn (sem_setSetting hN hI) (fun M2 l5 l6 l7 l8 hQ => kk ad M2 l5 l6 l7 l8 hQ)
theorem lc_54 (hi : i + 6 ≤ L) (hL : L ≤ 3072) (hk : k ≤ 600000) (hn : n ≤ 7000000) (hN0 : 1000 ≤ N) (hN : N ≤ 2000) (hI : LI N M) (kk : ∀ ad2 M2 l5 l6 l7 l8, LI (N + 1) M2 → V D FLaw room_1 (QG (StX sb L xs) Qf) (k + 4) (n + 532) 2807 [some (.ref sb), some (.ref (ad2 0)), some (.ref (ad2 157)), some (.ref (ad2 165)), some (.int (nI i)), l5, l6, l7, l8] [] (wl D ad2 M2)) : V D FLaw room_1 (QG (StX sb L xs) Qf) k n 2713 [some (.ref sb), some (.ref (ad 0)), some (.ref (ad 157)), some (.ref (ad 165)), some (.int (nI i)), l5, l6, l7, l8] [] (wl D ad M) := by
  exact lw_undo hi hL hk hn (sem_undo hI) (fun M2 l5 l6 l7 l8 hQ => kk ad M2 l5 l6 l7 l8 hQ)
theorem lc_55 (hi : i + 6 ≤ L) (hL : L ≤ 3072) (hk : k ≤ 600000) (hn : n ≤ 7000000) (hN0 : 1000 ≤ N) (hN : N ≤ 2000) (hI : LI N M) (kk : ∀ ad2 M2 l5 l6 l7 l8, LI (N + 1) M2 → V D FLaw room_1 (QG (StX sb L xs) Qf) (k + 4) (n + 532) 2807 [some (.ref sb), some (.ref (ad2 0)), some (.ref (ad2 157)), some (.ref (ad2 165)), some (.int (nI i)), l5, l6, l7, l8] [] (wl D ad2 M2)) : V D FLaw room_1 (QG (StX sb L xs) Qf) k n 2726 [some (.ref sb), some (.ref (ad 0)), some (.ref (ad 157)), some (.ref (ad 165)), some (.int (nI i)), l5, l6, l7, l8] [] (wl D ad M) := by
  exact lw_writeOut hi hL hk hn hI kk
theorem lc_56 (hi : i + 6 ≤ L) (hL : L ≤ 3072) (hk : k ≤ 600000) (hn : n ≤ 7000000) (hN0 : 1000 ≤ N) (hN : N ≤ 2000) (hI : LI N M) (kk : ∀ ad2 M2 l5 l6 l7 l8, LI (N + 1) M2 → V D FLaw room_1 (QG (StX sb L xs) Qf) (k + 4) (n + 532) 2807 [some (.ref sb), some (.ref (ad2 0)), some (.ref (ad2 157)), some (.ref (ad2 165)), some (.int (nI i)), l5, l6, l7, l8] [] (wl D ad2 M2)) : V D FLaw room_1 (QG (StX sb L xs) Qf) k n 2782 [some (.ref sb), some (.ref (ad 0)), some (.ref (ad 157)), some (.ref (ad 165)), some (.int (nI i)), l5, l6, l7, l8] [] (wl D ad M) := by
  exact lw_outputAt hi hL hk hn (sem_outputAt hI) (fun M2 l5 l6 l7 l8 hQ => kk ad M2 l5 l6 l7 l8 hQ)
theorem and63 (x : Int32) : ∃ c, c < 64 ∧ x &&& nI 63 = nI c := by
  refine ⟨x.toUInt32.toNat &&& 63, Nat.lt_of_le_of_lt Nat.and_le_right (by decide), ?_⟩
  rw [← nI_and]
  congr 1
  apply Int32.toBitVec_inj.mp
  apply BitVec.eq_of_toNat_eq
  show x.toBitVec.toNat = (BitVec.ofNat 32 x.toBitVec.toNat).toNat
  rw [BitVec.toNat_ofNat, Nat.mod_eq_of_lt x.toBitVec.isLt]
theorem law_switch (hi : i + 6 ≤ L) (hL : L ≤ 3072) (hk : k ≤ 600000) (hn : n ≤ 7000000) (hN0 : 1000 ≤ N) (hN : N ≤ 2000) (hI : LI N M) (kk : ∀ ad2 M2 l5 l6 l7 l8, LI (N + 1) M2 → V D FLaw room_1 (QG (StX sb L xs) Qf) (k + 4) (n + 532) 2807 [some (.ref sb), some (.ref (ad2 0)), some (.ref (ad2 157)), some (.ref (ad2 165)), some (.int (nI i)), l5, l6, l7, l8] [] (wl D ad2 M2)) : V D FLaw room_1 (QG (StX sb L xs) Qf) k n 40 [some (.ref sb), some (.ref (ad 0)), some (.ref (ad 157)), some (.ref (ad 165)), some (.int (nI i)), l5, l6, l7, l8] [.int (xs i &&& nI 63)] (wl D ad M) := by
  obtain ⟨c, hc, e⟩ := and63 (xs i)
  refine V_int e ?_
  by_cases h0 : c = 0
  · subst h0
    exact E_tableIn (q := 284) dL_law_40 (by decide) (by decide) (show _ = some _ from rfl) (by decide) (lc_0 hi hL hk hn hN0 hN hI kk)
  by_cases h1 : c = 1
  · subst h1
    exact E_tableIn (q := 357) dL_law_40 (by decide) (by decide) (show _ = some _ from rfl) (by decide) (lc_1 hi hL hk hn hN0 hN hI kk)
  by_cases h2 : c = 2
  · subst h2
    exact E_tableIn (q := 382) dL_law_40 (by decide) (by decide) (show _ = some _ from rfl) (by decide) (lc_2 hi hL hk hn hN0 hN hI kk)
  by_cases h3 : c = 3
  · subst h3
    exact E_tableIn (q := 395) dL_law_40 (by decide) (by decide) (show _ = some _ from rfl) (by decide) (lc_3 hi hL hk hn hN0 hN hI kk)
  by_cases h4 : c = 4
  · subst h4
    exact E_tableIn (q := 420) dL_law_40 (by decide) (by decide) (show _ = some _ from rfl) (by decide) (lc_4 hi hL hk hn hN0 hN hI kk)
  by_cases h5 : c = 5
  · subst h5
    exact E_tableIn (q := 473) dL_law_40 (by decide) (by decide) (show _ = some _ from rfl) (by decide) (lc_5 hi hL hk hn hN0 hN hI kk)
  by_cases h6 : c = 6
  · subst h6
    exact E_tableIn (q := 486) dL_law_40 (by decide) (by decide) (show _ = some _ from rfl) (by decide) (lc_6 hi hL hk hn hN0 hN hI kk)
  by_cases h7 : c = 7
  · subst h7
    exact E_tableIn (q := 511) dL_law_40 (by decide) (by decide) (show _ = some _ from rfl) (by decide) (lc_7 hi hL hk hn hN0 hN hI kk)
  by_cases h8 : c = 8
  · subst h8
    exact E_tableIn (q := 536) dL_law_40 (by decide) (by decide) (show _ = some _ from rfl) (by decide) (lc_8 hi hL hk hn hN0 hN hI kk)
  by_cases h9 : c = 9
  · subst h9
    exact E_tableIn (q := 604) dL_law_40 (by decide) (by decide) (show _ = some _ from rfl) (by decide) (lc_9 hi hL hk hn hN0 hN hI kk)
  by_cases h10 : c = 10
  · subst h10
    exact E_tableIn (q := 672) dL_law_40 (by decide) (by decide) (show _ = some _ from rfl) (by decide) (lc_10 hi hL hk hn hN0 hN hI kk)
  by_cases h11 : c = 11
  · subst h11
    exact E_tableIn (q := 740) dL_law_40 (by decide) (by decide) (show _ = some _ from rfl) (by decide) (lc_11 hi hL hk hn hN0 hN hI kk)
  by_cases h12 : c = 12
  · subst h12
    exact E_tableIn (q := 796) dL_law_40 (by decide) (by decide) (show _ = some _ from rfl) (by decide) (lc_12 hi hL hk hn hN0 hN hI kk)
  by_cases h13 : c = 13
  · subst h13
    exact E_tableIn (q := 852) dL_law_40 (by decide) (by decide) (show _ = some _ from rfl) (by decide) (lc_13 hi hL hk hn hN0 hN hI kk)
  by_cases h14 : c = 14
  · subst h14
    exact E_tableIn (q := 908) dL_law_40 (by decide) (by decide) (show _ = some _ from rfl) (by decide) (lc_14 hi hL hk hn hN0 hN hI kk)
  by_cases h15 : c = 15
  · subst h15
    exact E_tableIn (q := 964) dL_law_40 (by decide) (by decide) (show _ = some _ from rfl) (by decide) (lc_15 hi hL hk hn hN0 hN hI kk)
  by_cases h16 : c = 16
  · subst h16
    exact E_tableIn (q := 1032) dL_law_40 (by decide) (by decide) (show _ = some _ from rfl) (by decide) (lc_16 hi hL hk hn hN0 hN hI kk)
  by_cases h17 : c = 17
  · subst h17
    exact E_tableIn (q := 1100) dL_law_40 (by decide) (by decide) (show _ = some _ from rfl) (by decide) (lc_17 hi hL hk hn hN0 hN hI kk)
  by_cases h18 : c = 18
  · subst h18
    exact E_tableIn (q := 1184) dL_law_40 (by decide) (by decide) (show _ = some _ from rfl) (by decide) (lc_18 hi hL hk hn hN0 hN hI kk)
  by_cases h19 : c = 19
  · subst h19
    exact E_tableIn (q := 1252) dL_law_40 (by decide) (by decide) (show _ = some _ from rfl) (by decide) (lc_19 hi hL hk hn hN0 hN hI kk)
  by_cases h20 : c = 20
  · subst h20
    exact E_tableIn (q := 1308) dL_law_40 (by decide) (by decide) (show _ = some _ from rfl) (by decide) (lc_20 hi hL hk hn hN0 hN hI kk)
  by_cases h21 : c = 21
  · subst h21
    exact E_tableIn (q := 1376) dL_law_40 (by decide) (by decide) (show _ = some _ from rfl) (by decide) (lc_21 hi hL hk hn hN0 hN hI kk)
  by_cases h22 : c = 22
  · subst h22
    exact E_tableIn (q := 1401) dL_law_40 (by decide) (by decide) (show _ = some _ from rfl) (by decide) (lc_22 hi hL hk hn hN0 hN hI kk)
  by_cases h23 : c = 23
  · subst h23
    exact E_tableIn (q := 1426) dL_law_40 (by decide) (by decide) (show _ = some _ from rfl) (by decide) (lc_23 hi hL hk hn hN0 hN hI kk)
  by_cases h24 : c = 24
  · subst h24
    exact E_tableIn (q := 1439) dL_law_40 (by decide) (by decide) (show _ = some _ from rfl) (by decide) (lc_24 hi hL hk hn hN0 hN hI kk)
  by_cases h25 : c = 25
  · subst h25
    exact E_tableIn (q := 1495) dL_law_40 (by decide) (by decide) (show _ = some _ from rfl) (by decide) (lc_25 hi hL hk hn hN0 hN hI kk)
  by_cases h26 : c = 26
  · subst h26
    exact E_tableIn (q := 1551) dL_law_40 (by decide) (by decide) (show _ = some _ from rfl) (by decide) (lc_26 hi hL hk hn hN0 hN hI kk)
  by_cases h27 : c = 27
  · subst h27
    exact E_tableIn (q := 1619) dL_law_40 (by decide) (by decide) (show _ = some _ from rfl) (by decide) (lc_27 hi hL hk hn hN0 hN hI kk)
  by_cases h28 : c = 28
  · subst h28
    exact E_tableIn (q := 1687) dL_law_40 (by decide) (by decide) (show _ = some _ from rfl) (by decide) (lc_28 hi hL hk hn hN0 hN hI kk)
  by_cases h29 : c = 29
  · subst h29
    exact E_tableIn (q := 1755) dL_law_40 (by decide) (by decide) (show _ = some _ from rfl) (by decide) (lc_29 hi hL hk hn hN0 hN hI kk)
  by_cases h30 : c = 30
  · subst h30
    exact E_tableIn (q := 1811) dL_law_40 (by decide) (by decide) (show _ = some _ from rfl) (by decide) (lc_30 hi hL hk hn hN0 hN hI kk)
  by_cases h31 : c = 31
  · subst h31
    exact E_tableIn (q := 1879) dL_law_40 (by decide) (by decide) (show _ = some _ from rfl) (by decide) (lc_31 hi hL hk hn hN0 hN hI kk)
  by_cases h32 : c = 32
  · subst h32
    exact E_tableIn (q := 1935) dL_law_40 (by decide) (by decide) (show _ = some _ from rfl) (by decide) (lc_32 hi hL hk hn hN0 hN hI kk)
  by_cases h33 : c = 33
  · subst h33
    exact E_tableIn (q := 1960) dL_law_40 (by decide) (by decide) (show _ = some _ from rfl) (by decide) (lc_33 hi hL hk hn hN0 hN hI kk)
  by_cases h34 : c = 34
  · subst h34
    exact E_tableIn (q := 2016) dL_law_40 (by decide) (by decide) (show _ = some _ from rfl) (by decide) (lc_34 hi hL hk hn hN0 hN hI kk)
  by_cases h35 : c = 35
  · subst h35
    exact E_tableIn (q := 2072) dL_law_40 (by decide) (by decide) (show _ = some _ from rfl) (by decide) (lc_35 hi hL hk hn hN0 hN hI kk)
  by_cases h36 : c = 36
  · subst h36
    exact E_tableIn (q := 2128) dL_law_40 (by decide) (by decide) (show _ = some _ from rfl) (by decide) (lc_36 hi hL hk hn hN0 hN hI kk)
  by_cases h37 : c = 37
  · subst h37
    exact E_tableIn (q := 2153) dL_law_40 (by decide) (by decide) (show _ = some _ from rfl) (by decide) (lc_37 hi hL hk hn hN0 hN hI kk)
  by_cases h38 : c = 38
  · subst h38
    exact E_tableIn (q := 2166) dL_law_40 (by decide) (by decide) (show _ = some _ from rfl) (by decide) (lc_38 hi hL hk hn hN0 hN hI kk)
  by_cases h39 : c = 39
  · subst h39
    exact E_tableIn (q := 2222) dL_law_40 (by decide) (by decide) (show _ = some _ from rfl) (by decide) (lc_39 hi hL hk hn hN0 hN hI kk)
  by_cases h40 : c = 40
  · subst h40
    exact E_tableIn (q := 2271) dL_law_40 (by decide) (by decide) (show _ = some _ from rfl) (by decide) (lc_40 hi hL hk hn hN0 hN hI kk)
  by_cases h41 : c = 41
  · subst h41
    exact E_tableIn (q := 2312) dL_law_40 (by decide) (by decide) (show _ = some _ from rfl) (by decide) (lc_41 hi hL hk hn hN0 hN hI kk)
  by_cases h42 : c = 42
  · subst h42
    exact E_tableIn (q := 2325) dL_law_40 (by decide) (by decide) (show _ = some _ from rfl) (by decide) (lc_42 hi hL hk hn hN0 hN hI kk)
  by_cases h43 : c = 43
  · subst h43
    exact E_tableIn (q := 2374) dL_law_40 (by decide) (by decide) (show _ = some _ from rfl) (by decide) (lc_43 hi hL hk hn hN0 hN hI kk)
  by_cases h44 : c = 44
  · subst h44
    exact E_tableIn (q := 2411) dL_law_40 (by decide) (by decide) (show _ = some _ from rfl) (by decide) (lc_44 hi hL hk hn hN0 hN hI kk)
  by_cases h45 : c = 45
  · subst h45
    exact E_tableIn (q := 2436) dL_law_40 (by decide) (by decide) (show _ = some _ from rfl) (by decide) (lc_45 hi hL hk hn hN0 hN hI kk)
  by_cases h46 : c = 46
  · subst h46
    exact E_tableIn (q := 2461) dL_law_40 (by decide) (by decide) (show _ = some _ from rfl) (by decide) (lc_46 hi hL hk hn hN0 hN hI kk)
  by_cases h47 : c = 47
  · subst h47
    exact E_tableIn (q := 2486) dL_law_40 (by decide) (by decide) (show _ = some _ from rfl) (by decide) (lc_47 hi hL hk hn hN0 hN hI kk)
  by_cases h48 : c = 48
  · subst h48
    exact E_tableIn (q := 2511) dL_law_40 (by decide) (by decide) (show _ = some _ from rfl) (by decide) (lc_48 hi hL hk hn hN0 hN hI kk)
  by_cases h49 : c = 49
  · subst h49
    exact E_tableIn (q := 2536) dL_law_40 (by decide) (by decide) (show _ = some _ from rfl) (by decide) (lc_49 hi hL hk hn hN0 hN hI kk)
  by_cases h50 : c = 50
  · subst h50
    exact E_tableIn (q := 2561) dL_law_40 (by decide) (by decide) (show _ = some _ from rfl) (by decide) (lc_50 hi hL hk hn hN0 hN hI kk)
  by_cases h51 : c = 51
  · subst h51
    exact E_tableIn (q := 2586) dL_law_40 (by decide) (by decide) (show _ = some _ from rfl) (by decide) (lc_51 hi hL hk hn hN0 hN hI kk)
  by_cases h52 : c = 52
  · subst h52
    exact E_tableIn (q := 2639) dL_law_40 (by decide) (by decide) (show _ = some _ from rfl) (by decide) (lc_52 hi hL hk hn hN0 hN hI kk)
  by_cases h53 : c = 53
  · subst h53
    exact E_tableIn (q := 2676) dL_law_40 (by decide) (by decide) (show _ = some _ from rfl) (by decide) (lc_53 hi hL hk hn hN0 hN hI kk)
  by_cases h54 : c = 54
  · subst h54
    exact E_tableIn (q := 2713) dL_law_40 (by decide) (by decide) (show _ = some _ from rfl) (by decide) (lc_54 hi hL hk hn hN0 hN hI kk)
  by_cases h55 : c = 55
  · subst h55
    exact E_tableIn (q := 2726) dL_law_40 (by decide) (by decide) (show _ = some _ from rfl) (by decide) (lc_55 hi hL hk hn hN0 hN hI kk)
  by_cases h56 : c = 56
  · subst h56
    exact E_tableIn (q := 2782) dL_law_40 (by decide) (by decide) (show _ = some _ from rfl) (by decide) (lc_56 hi hL hk hn hN0 hN hI kk)
  refine E_tableOut (q := 2807) dL_law_40 (.inr ?_) (by decide) ?_
  · rw [nI_toInt (by omega)]; omega
  · exact V_widen (k' := k + 4) (n' := n + 532) (by omega) (by omega) (by show k + 4 ≤ 601024; omega) (by show n + 532 ≤ 7293034; omega) (kk ad M _ _ _ _ (let ⟨_, _, _, _, _, _, _, h⟩ := hI; h.up.li))
theorem sub6 {i L : Nat} (hi : i ≤ 4000) (hL : L ≤ 3072) (h : L < i + 6) : nI L - nI 6 < nI i := by
  by_cases h6 : 6 ≤ L
  · rw [show nI L - nI 6 = nI (L - 6) from by
      rw [show nI L = nI (L - 6) + nI 6 from by rw [nI_add]; congr 1; omega]
      exact Int32.add_sub_cancel _ _]
    exact (nI_ltI (by omega) (by omega)).mpr (by omega)
  · refine Int32.lt_of_lt_of_le (b := nI 0) ?_ ((nI_leI (by decide) (by omega)).mpr (Nat.zero_le i))
    rcases (show L = 0 ∨ L = 1 ∨ L = 2 ∨ L = 3 ∨ L = 4 ∨ L = 5 by omega) with rfl | rfl | rfl | rfl | rfl | rfl <;> decide
theorem law_loop (hL : L ≤ 3072) (kend : ∀ k n i ad M l5 l6 l7 l8, V D FLaw room_1 (QG (StX sb L xs) Qf) k n 2813 [some (.ref sb), some (.ref (ad 0)), some (.ref (ad 157)), some (.ref (ad 165)), some (.int (nI i)), l5, l6, l7, l8] [] (wl D ad M)) : ∀ (d c i k n N : Nat) (ad : Nat → Nat) (M : Mem) (l5 l6 l7 l8 : Option Value), L < i + 6 * d + 6 → i = 6 * c → i ≤ L + 5 → k = 200 + 4 * c → n = 30000 + 532 * c → N = 1000 + c → LI N M → V D FLaw room_1 (QG (StX sb L xs) Qf) k n 23 [some (.ref sb), some (.ref (ad 0)), some (.ref (ad 157)), some (.ref (ad 165)), some (.int (nI i)), l5, l6, l7, l8] [] (wl D ad M) := by
  intro d
  induction d with
  | zero =>
    intro c i k n N ad M l5 l6 l7 l8 h1 h2 h3 h4 h5 h6 hI
    refine E_iload4 (q := 25) dL_law_23 rfl ?_
    refine E_aload0 (q := 26) dL_law_25 rfl ?_
    refine E_slen (q := 27) dL_law_26 rfl ?_
    refine E_bipush (v := nI 6) (q := 29) dL_law_27 (by decide) rfl ?_
    refine E_isub (q := 30) dL_law_29 rfl ?_
    exact E_icmp_gt (tgt := 2813) (q := 33) dL_law_30 (by decide) rfl (fun _ => kend _ _ _ _ _ _ _ _ _) (fun h => absurd (sub6 (by omega) hL (by omega)) h)
  | succ d ih =>
    intro c i k n N ad M l5 l6 l7 l8 h1 h2 h3 h4 h5 h6 hI
    refine E_iload4 (q := 25) dL_law_23 rfl ?_
    refine E_aload0 (q := 26) dL_law_25 rfl ?_
    refine E_slen (q := 27) dL_law_26 rfl ?_
    refine E_bipush (v := nI 6) (q := 29) dL_law_27 (by decide) rfl ?_
    by_cases hi : i + 6 ≤ L
    · refine E_isubN (q := 30) dL_law_29 (by omega) rfl ?_
      refine E_icmp_gtN (tgt := 2813) (q := 33) dL_law_30 (by decide) rfl (by omega) (by omega) (fun h => absurd h (by omega)) (fun _ => ?_)
      refine E_aload0 (q := 34) dL_law_33 rfl ?_
      refine E_iload4 (q := 36) dL_law_34 rfl ?_
      refine E_sld (q := 37) (i := i) (by omega) (by omega) dL_law_36 rfl ?_
      refine E_bipush (v := nI 63) (q := 39) dL_law_37 (by decide) rfl ?_
      refine E_iand (q := 40) dL_law_39 rfl ?_
      refine law_switch hi hL (by omega) (by omega) (by omega) (by omega) hI (fun ad2 M2 l5 l6 l7 l8 hQ => ?_)
      refine E_iinc4 (v := nI (i + 6)) (q := 2810) dL_law_2807 (nI_add i 6) rfl rfl ?_
      refine E_goto (q := 23) dL_law_2810 (by decide) ?_
      exact ih (c + 1) (i + 6) (k + 4) (n + 532) (N + 1) ad2 M2 l5 l6 l7 l8 (by omega) (by omega) (by omega) (by omega) (by omega) (by omega) hQ
    · refine E_isub (q := 30) dL_law_29 rfl ?_
      exact E_icmp_gt (tgt := 2813) (q := 33) dL_law_30 (by decide) rfl (fun _ => kend _ _ _ _ _ _ _ _ _) (fun h => absurd (sub6 (by omega) hL (by omega)) h)
end LAWD
