
/-! WHAT A TEXT DOES; THE CLASS reads it -/
section LEX
variable {b : Nat → Nat} {n s t g : Nat} {A : AS}
/-- a good answer of a statement -/
def GdR (n s : Nat) (A : AS) : LR → Prop
  | .inl (c, t) => t ≤ n ∧ c ≠ 0
  | .inr (s', _, A') => s < s' ∧ s' ≤ n ∧ aT A' ≤ aT A + 1
theorem gd_ch {p : Prop} {x y : LR} (h1 : GdR n s A x) (h2 : GdR n s A y) : GdR n s A (ch p x y) := by
  by_cases c : p
  · rw [ch_t c]; exact h1
  · rw [ch_f c]; exact h2
theorem gd_nm {K : Nat → LR} (ht : t ≤ n) (h : ∀ m, GdR n s A (K m)) : GdR n s A (nmR b n t K) := gd_ch (h _) ⟨ht, by decide⟩
theorem gd_vol {K : Nat → LR} {B : AS} (ht : t ≤ n) (h : ∀ m, GdR n s A (K m)) : GdR n s A (volR b n B t K) := gd_nm ht fun _ => gd_ch ⟨ht, by decide⟩ (h _)
theorem gd_snp {K : Nat → LR} {B : AS} (ht : t ≤ n) (h : ∀ m, GdR n s A (K m)) : GdR n s A (snpR b n B t K) := gd_nm ht fun _ => gd_ch ⟨ht, by decide⟩ (h _)
theorem gd_int {K : Nat → LR} {lo hi : Nat} (ht : t ≤ n) (h : ∀ m, GdR n s A (K m)) : GdR n s A (intR b n t lo hi K) := gd_ch (gd_ch (h _) ⟨ht, by decide⟩) ⟨ht, by decide⟩
theorem aT_vol {o m : Nat} : aT (mkVol A o m) = aT A := by simp [aT, mkVol, ts]
theorem aT_blk {v a z : Nat} : aT (mkBlk A v a z) = aT A + 1 := by simp [aT, mkBlk, ts]
theorem aT_snp {v m : Nat} : aT (mkSnp A v m) = aT A + 1 := by simp [aT, mkSnp, ts]
theorem aT_hld {v x : Nat} : aT (hldA A v x) = aT A := by simp [aT, hldA, ts]
theorem aT_set {k x : Nat} : aT (setA A k x) = aT A := ts_ne (T := A.1) (i := 0) (j := 3 + k) (v := x) (a := 0) (b := 0) (by omega)
theorem sStm_gd (h : s < n) : GdR n s A (sStm b n s g A) := by
  obtain ⟨a1, a2, a3⟩ := nxt_le (b := b) (show s ≤ n by omega)
  obtain ⟨b1, b2, b3⟩ := nxt_le (b := b) a2
  obtain ⟨c1, c2, c3⟩ := nxt_le (b := b) b2
  obtain ⟨d1, d2, d3⟩ := nxt_le (b := b) c2
  have hs := a3 h
  have e15 : GdR n s A (.inl (-15, s)) := ⟨by omega, by decide⟩
  have hset : ∀ k lo hi, GdR n s A (setR b n (nxt b n s) g A k lo hi) := fun k lo hi => gd_ch ⟨a2, by decide⟩ (gd_int b2 fun x => ⟨by omega, c2, by rw [aT_set]; omega⟩)
  refine gd_ch ?_ (gd_ch ?_ (gd_ch ?_ (gd_ch ?_ (gd_ch ?_ (gd_ch ?_ (gd_ch ?_ ⟨by omega, by decide⟩))))))
  · exact gd_ch (gd_nm a2 fun m => gd_ch ⟨by omega, b2, by rw [aT_vol]; omega⟩ ⟨a2, by decide⟩) e15
  · exact gd_vol a2 fun v => gd_int b2 fun a => gd_int c2 fun z => gd_ch ⟨by omega, d2, by rw [aT_blk]; exact Nat.le_refl _⟩ ⟨c2, by decide⟩
  · exact gd_vol a2 fun v => gd_int b2 fun a => ⟨by omega, c2, Nat.le_succ _⟩
  · exact gd_ch (gd_vol a2 fun v => gd_nm b2 fun m => gd_ch ⟨by omega, c2, by rw [aT_snp]; exact Nat.le_refl _⟩ ⟨b2, by decide⟩) e15
  · exact gd_ch (gd_snp a2 fun x => gd_ch (gd_nm b2 fun m => gd_ch ⟨by omega, c2, by rw [aT_vol]; omega⟩ ⟨b2, by decide⟩) ⟨a2, by decide⟩) e15
  · exact gd_snp a2 fun x => gd_ch ⟨a2, by decide⟩ ⟨by omega, b2, by rw [aT_hld]; omega⟩
  · exact gd_ch (hset 0 1 999) (gd_ch (hset 1 0 5) ⟨a2, by decide⟩)
theorem endR_gd {r : LR} (h : GdR n s A r) : GdR n s A (endR b n r) := by
  match r, h with
  | .inl e, h => exact h
  | .inr (t, g', A'), h =>
    obtain ⟨h1, h2, h3⟩ := h
    obtain ⟨a1, a2, a3⟩ := nxt_le (b := b) h2
    exact gd_ch ⟨by omega, a2, h3⟩ ⟨h2, by decide⟩
/-- a whole text -/
noncomputable def ldF (b : Nat → Nat) (n : Nat) : Nat → Nat → Nat → AS → Nat → Sum (Int32 × Nat) (Nat × AS)
  | 0, _, _, A, k => .inr (k, A)
  | f + 1, s, g, A, k => ch (knd b n s = 0) (.inr (k, A)) (match endR b n (sStm b n s g A) with
    | .inl e => .inl e
    | .inr (s', g', A') => ldF b n f s' g' A' (k + 1))
end LEX
section CLS
variable {D : va_G} {ad : Nat → Nat} {M : Mem} {ws : va_W} {A : AS} {b : Nat → Nat} {n s t e p q g : Nat} {adK adV : Nat → Nat}
theorem sp_X2_readEndF (h : LdC M b n s g A) (hk : ¬ knd b n s = 3) : Spec D 4 yX2_readEnd cfX2_readEnd [.ref (ad 133)] (wl D ad M) 0 0 (PI (nI 0) (wl D ad (flM M (-11) s))) := by
  refine Spec.of (by decide) rfl (Nat.le_of_ble_eq_true rfl) rfl ?_
  have hk4 := knd_le (b := b) (n := n) (q := s)
  refine E_aload0 (q := 1) dX2_readEnd_0 rfl ?_
  refine G_X2_kind (q := 4) fl_X2_41 dX2_readEnd_1 rfl ?_
  refine V_int h.2.1.2.2.2.1 ?_
  refine E_iconst (v := nI 3) (q := 5) dX2_readEnd_4 (by decide) rfl ?_
  refine E_icmp_eqN (tgt := 15) (q := 8) dX2_readEnd_5 (by decide) rfl (by omega) (by omega) (fun h5 => ?_) (fun h5 => ?_)
  · skip
    exact absurd h5 hk
  · skip
    refine E_aload0 (q := 9) dX2_readEnd_8 rfl ?_
    refine E_bipush (v := -11) (q := 11) dX2_readEnd_9 (by decide) rfl ?_
    refine C_V1I (q := 14) lk_X2_102 (sp_X2_fail h.2.1.2.1) rc_X2 dX2_readEnd_11 (by decide) (Nat.le_of_ble_eq_true rfl) rfl ?_
    exact E_zreturn rfl rfl rfl dX2_readEnd_14 (PI_of rfl rfl)
theorem sp_X2_readEnd (h : LdC M b n s g A) (hk : knd b n s = 3) : Spec D 4 yX2_readEnd cfX2_readEnd [.ref (ad 133)] (wl D ad M) 0 0 (PI (nI 1) (wl D ad (lxM M b n (nxt b n s)))) := by
  refine Spec.of (by decide) rfl (Nat.le_of_ble_eq_true rfl) rfl ?_
  have hk4 := knd_le (b := b) (n := n) (q := s)
  refine E_aload0 (q := 1) dX2_readEnd_0 rfl ?_
  refine G_X2_kind (q := 4) fl_X2_41 dX2_readEnd_1 rfl ?_
  refine V_int h.2.1.2.2.2.1 ?_
  refine E_iconst (v := nI 3) (q := 5) dX2_readEnd_4 (by decide) rfl ?_
  refine E_icmp_eqN (tgt := 15) (q := 8) dX2_readEnd_5 (by decide) rfl (by omega) (by omega) (fun h5 => ?_) (fun h5 => ?_)
  · skip
    refine E_aload0 (q := 16) dX2_readEnd_15 rfl ?_
    refine C_V0V (q := 19) lk_X2_56 (sp_X2_adv h) rc_X2 dX2_readEnd_16 (by decide) (Nat.le_of_ble_eq_true rfl) rfl ?_
    refine E_iconst (v := nI 1) (q := 20) dX2_readEnd_19 (by decide) rfl ?_
    exact E_zreturn rfl rfl rfl dX2_readEnd_20 (PI_of rfl rfl)
  · skip
    exact absurd hk h5
theorem tl_readStatement {r : LR} {y : Int32} {w : va_W} (hp : LPC D ad M b n r y w) : V D cfX2_readStatement (rmOf 10 0 0) (QG (StG adK adV) (QM D (PX (LPC D ad M b n (endR b n r))) 0 0)) 0 0 126 [some (.ref (ad 133)), some (.int y)] [] w := by
  match r, hp with
  | .inl (c, t), hp =>
    obtain ⟨h1, M1, h2, h3⟩ := hp
    rw [h1, h2]
    refine E_iload1 (q := 127) dX2_readStatement_126 rfl ?_
    refine E_if_eq (tgt := 141) (q := 130) dX2_readStatement_127 (by decide) rfl (fun h127 => ?_) (fun h127 => ?_)
    · skip
      refine E_iconst (v := nI 0) (q := 142) dX2_readStatement_141 (by decide) rfl ?_
      exact V_noG (E_zreturn rfl rfl rfl dX2_readStatement_142 ⟨_, rfl, rfl, M1, rfl, h3⟩)
    · first | exact absurd h127 (by decide) | exact absurd (by decide) h127
  | .inr (t, g', A'), hp =>
    obtain ⟨h1, M1, h2, h3, h4⟩ := hp
    rw [h1, h2]
    by_cases c : knd b n t = 3
    · skip
      refine E_iload1 (q := 127) dX2_readStatement_126 rfl ?_
      refine E_if_eq (tgt := 141) (q := 130) dX2_readStatement_127 (by decide) rfl (fun h127 => ?_) (fun h127 => ?_)
      · first | exact absurd h127 (by decide) | exact absurd (by decide) h127
      · skip
        refine E_aload0 (q := 131) dX2_readStatement_130 rfl ?_
        refine C_V0I (q := 134) lk_X2_106 (sp_X2_readEnd h3 c) rc_X2 dX2_readStatement_131 (by decide) (Nat.le_of_ble_eq_true rfl) rfl ?_
        refine E_if_eq (tgt := 141) (q := 137) dX2_readStatement_134 (by decide) rfl (fun h134 => ?_) (fun h134 => ?_)
        · first | exact absurd h134 (by decide) | exact absurd (by decide) h134
        · skip
          refine E_iconst (v := nI 1) (q := 138) dX2_readStatement_137 (by decide) rfl ?_
          refine E_goto (q := 142) dX2_readStatement_138 (by decide) ?_
          exact V_noG (E_zreturn rfl rfl rfl dX2_readStatement_142 ⟨_, rfl, LPC_ok (by simp only [endR, ch_t c]) h3.adv (h4.tr Fr3.lx)⟩)
    · skip
      refine E_iload1 (q := 127) dX2_readStatement_126 rfl ?_
      refine E_if_eq (tgt := 141) (q := 130) dX2_readStatement_127 (by decide) rfl (fun h127 => ?_) (fun h127 => ?_)
      · first | exact absurd h127 (by decide) | exact absurd (by decide) h127
      · skip
        refine E_aload0 (q := 131) dX2_readStatement_130 rfl ?_
        refine C_V0I (q := 134) lk_X2_106 (sp_X2_readEndF h3 c) rc_X2 dX2_readStatement_131 (by decide) (Nat.le_of_ble_eq_true rfl) rfl ?_
        refine E_if_eq (tgt := 141) (q := 137) dX2_readStatement_134 (by decide) rfl (fun h134 => ?_) (fun h134 => ?_)
        · skip
          refine E_iconst (v := nI 0) (q := 142) dX2_readStatement_141 (by decide) rfl ?_
          exact V_noG (E_zreturn rfl rfl rfl dX2_readStatement_142 ⟨_, rfl, LPC_fail (by simp only [endR, ch_f c]) h4.1⟩)
        · first | exact absurd h134 (by decide) | exact absurd (by decide) h134

theorem sp_X2_stmVolume (h : LdC M b n s g A) (hT : aT A + 1 < 2 ^ 24)  (c0 : isW b n s 0) : Spec D 10 yX2_readStatement cfX2_readStatement [.ref (ad 133)] (wl D ad M) 0 0 (PX (LPC D ad M b n (endR b n (sStm b n s g A)))) := by
  have hst : sStm b n s g A = sVol b n s g A := by simp only [sStm, ch_t c0]
  rw [hst]
  refine Spec.of (by decide) rfl (Nat.le_of_ble_eq_true rfl) rfl ?_
  refine E_openS (fun adK adV => ?_)
  refine E_aload0 (q := 1) dX2_readStatement_0 rfl ?_
  refine E_ldcS (q := 3) (i := 0) rfl dX2_readStatement_1 rfl ?_
  refine E_callVG (ar := [.ref (adK 0)]) (q := 6) StG_st lk_X2_65 (sp_X2_isWordW h (by decide)) (rcG rc_X2) (by decide) (Nat.le_refl _) (Nat.le_refl _) (Nat.le_of_ble_eq_true rfl) dX2_readStatement_3 rfl rfl ?_
  rintro v w' ⟨hv1, hv2⟩
  rw [hv1, hv2, zI_t1 c0]
  clear hv1 hv2
  refine E_if_eq (tgt := 17) (q := 9) dX2_readStatement_6 (by decide) rfl (fun h6 => ?_) (fun h6 => ?_)
  · first | exact absurd h6 (by decide) | exact absurd (by decide) h6
  · skip
    refine E_aload0 (q := 10) dX2_readStatement_9 rfl ?_
    refine C_V0X (q := 13) lk_X2_69 (sp_X2_readVolume h hT) rc_X2 dX2_readStatement_10 (by decide) (Nat.le_of_ble_eq_true rfl) rfl ?_
    rintro y w hp
    refine E_istore1 (q := 14) dX2_readStatement_13 rfl rfl ?_
    refine E_goto (q := 126) dX2_readStatement_14 (by decide) ?_
    exact tl_readStatement hp
theorem sp_X2_stmWrite (h : LdC M b n s g A) (hT : aT A + 1 < 2 ^ 24) (c0 : ¬ isW b n s 0) (c1 : isW b n s 1) : Spec D 10 yX2_readStatement cfX2_readStatement [.ref (ad 133)] (wl D ad M) 0 0 (PX (LPC D ad M b n (endR b n (sStm b n s g A)))) := by
  have hst : sStm b n s g A = sWrite b n s g A := by simp only [sStm, ch_f c0, ch_t c1]
  rw [hst]
  refine Spec.of (by decide) rfl (Nat.le_of_ble_eq_true rfl) rfl ?_
  refine E_openS (fun adK adV => ?_)
  refine E_aload0 (q := 1) dX2_readStatement_0 rfl ?_
  refine E_ldcS (q := 3) (i := 0) rfl dX2_readStatement_1 rfl ?_
  refine E_callVG (ar := [.ref (adK 0)]) (q := 6) StG_st lk_X2_65 (sp_X2_isWordW h (by decide)) (rcG rc_X2) (by decide) (Nat.le_refl _) (Nat.le_refl _) (Nat.le_of_ble_eq_true rfl) dX2_readStatement_3 rfl rfl ?_
  rintro v w' ⟨hv1, hv2⟩
  rw [hv1, hv2, zI_f1 c0]
  clear hv1 hv2
  refine E_if_eq (tgt := 17) (q := 9) dX2_readStatement_6 (by decide) rfl (fun h6 => ?_) (fun h6 => ?_)
  · skip
    refine E_aload0 (q := 18) dX2_readStatement_17 rfl ?_
    refine E_ldcS (q := 20) (i := 1) rfl dX2_readStatement_18 rfl ?_
    refine E_callVG (ar := [.ref (adK 1)]) (q := 23) StG_st lk_X2_65 (sp_X2_isWordW h (by decide)) (rcG rc_X2) (by decide) (Nat.le_refl _) (Nat.le_refl _) (Nat.le_of_ble_eq_true rfl) dX2_readStatement_20 rfl rfl ?_
    rintro v w' ⟨hv1, hv2⟩
    rw [hv1, hv2, zI_t1 c1]
    clear hv1 hv2
    refine E_if_eq (tgt := 34) (q := 26) dX2_readStatement_23 (by decide) rfl (fun h23 => ?_) (fun h23 => ?_)
    · first | exact absurd h23 (by decide) | exact absurd (by decide) h23
    · skip
      refine E_aload0 (q := 27) dX2_readStatement_26 rfl ?_
      refine C_V0X (q := 30) lk_X2_74 (sp_X2_readWrite h hT) rc_X2 dX2_readStatement_27 (by decide) (Nat.le_of_ble_eq_true rfl) rfl ?_
      rintro y w hp
      refine E_istore1 (q := 31) dX2_readStatement_30 rfl rfl ?_
      refine E_goto (q := 126) dX2_readStatement_31 (by decide) ?_
      exact tl_readStatement hp
  · first | exact absurd h6 (by decide) | exact absurd (by decide) h6
theorem sp_X2_stmTrim (h : LdC M b n s g A) (hT : aT A + 1 < 2 ^ 24) (c0 : ¬ isW b n s 0) (c1 : ¬ isW b n s 1) (c2 : isW b n s 2) : Spec D 10 yX2_readStatement cfX2_readStatement [.ref (ad 133)] (wl D ad M) 0 0 (PX (LPC D ad M b n (endR b n (sStm b n s g A)))) := by
  have hst : sStm b n s g A = sTrim b n s g A := by simp only [sStm, ch_f c0, ch_f c1, ch_t c2]
  rw [hst]
  refine Spec.of (by decide) rfl (Nat.le_of_ble_eq_true rfl) rfl ?_
  refine E_openS (fun adK adV => ?_)
  refine E_aload0 (q := 1) dX2_readStatement_0 rfl ?_
  refine E_ldcS (q := 3) (i := 0) rfl dX2_readStatement_1 rfl ?_
  refine E_callVG (ar := [.ref (adK 0)]) (q := 6) StG_st lk_X2_65 (sp_X2_isWordW h (by decide)) (rcG rc_X2) (by decide) (Nat.le_refl _) (Nat.le_refl _) (Nat.le_of_ble_eq_true rfl) dX2_readStatement_3 rfl rfl ?_
  rintro v w' ⟨hv1, hv2⟩
  rw [hv1, hv2, zI_f1 c0]
  clear hv1 hv2
  refine E_if_eq (tgt := 17) (q := 9) dX2_readStatement_6 (by decide) rfl (fun h6 => ?_) (fun h6 => ?_)
  · skip
    refine E_aload0 (q := 18) dX2_readStatement_17 rfl ?_
    refine E_ldcS (q := 20) (i := 1) rfl dX2_readStatement_18 rfl ?_
    refine E_callVG (ar := [.ref (adK 1)]) (q := 23) StG_st lk_X2_65 (sp_X2_isWordW h (by decide)) (rcG rc_X2) (by decide) (Nat.le_refl _) (Nat.le_refl _) (Nat.le_of_ble_eq_true rfl) dX2_readStatement_20 rfl rfl ?_
    rintro v w' ⟨hv1, hv2⟩
    rw [hv1, hv2, zI_f1 c1]
    clear hv1 hv2
    refine E_if_eq (tgt := 34) (q := 26) dX2_readStatement_23 (by decide) rfl (fun h23 => ?_) (fun h23 => ?_)
    · skip
      refine E_aload0 (q := 35) dX2_readStatement_34 rfl ?_
      refine E_ldcS (q := 37) (i := 2) rfl dX2_readStatement_35 rfl ?_
      refine E_callVG (ar := [.ref (adK 2)]) (q := 40) StG_st lk_X2_65 (sp_X2_isWordW h (by decide)) (rcG rc_X2) (by decide) (Nat.le_refl _) (Nat.le_refl _) (Nat.le_of_ble_eq_true rfl) dX2_readStatement_37 rfl rfl ?_
      rintro v w' ⟨hv1, hv2⟩
      rw [hv1, hv2, zI_t1 c2]
      clear hv1 hv2
      refine E_if_eq (tgt := 51) (q := 43) dX2_readStatement_40 (by decide) rfl (fun h40 => ?_) (fun h40 => ?_)
      · first | exact absurd h40 (by decide) | exact absurd (by decide) h40
      · skip
        refine E_aload0 (q := 44) dX2_readStatement_43 rfl ?_
        refine C_V0X (q := 47) lk_X2_79 (sp_X2_readTrim h hT) rc_X2 dX2_readStatement_44 (by decide) (Nat.le_of_ble_eq_true rfl) rfl ?_
        rintro y w hp
        refine E_istore1 (q := 48) dX2_readStatement_47 rfl rfl ?_
        refine E_goto (q := 126) dX2_readStatement_48 (by decide) ?_
        exact tl_readStatement hp
    · first | exact absurd h23 (by decide) | exact absurd (by decide) h23
  · first | exact absurd h6 (by decide) | exact absurd (by decide) h6
theorem sp_X2_stmSnap (h : LdC M b n s g A) (hT : aT A + 1 < 2 ^ 24) (c0 : ¬ isW b n s 0) (c1 : ¬ isW b n s 1) (c2 : ¬ isW b n s 2) (c3 : isW b n s 3) : Spec D 10 yX2_readStatement cfX2_readStatement [.ref (ad 133)] (wl D ad M) 0 0 (PX (LPC D ad M b n (endR b n (sStm b n s g A)))) := by
  have hst : sStm b n s g A = sSnap b n s g A := by simp only [sStm, ch_f c0, ch_f c1, ch_f c2, ch_t c3]
  rw [hst]
  refine Spec.of (by decide) rfl (Nat.le_of_ble_eq_true rfl) rfl ?_
  refine E_openS (fun adK adV => ?_)
  refine E_aload0 (q := 1) dX2_readStatement_0 rfl ?_
  refine E_ldcS (q := 3) (i := 0) rfl dX2_readStatement_1 rfl ?_
  refine E_callVG (ar := [.ref (adK 0)]) (q := 6) StG_st lk_X2_65 (sp_X2_isWordW h (by decide)) (rcG rc_X2) (by decide) (Nat.le_refl _) (Nat.le_refl _) (Nat.le_of_ble_eq_true rfl) dX2_readStatement_3 rfl rfl ?_
  rintro v w' ⟨hv1, hv2⟩
  rw [hv1, hv2, zI_f1 c0]
  clear hv1 hv2
  refine E_if_eq (tgt := 17) (q := 9) dX2_readStatement_6 (by decide) rfl (fun h6 => ?_) (fun h6 => ?_)
  · skip
    refine E_aload0 (q := 18) dX2_readStatement_17 rfl ?_
    refine E_ldcS (q := 20) (i := 1) rfl dX2_readStatement_18 rfl ?_
    refine E_callVG (ar := [.ref (adK 1)]) (q := 23) StG_st lk_X2_65 (sp_X2_isWordW h (by decide)) (rcG rc_X2) (by decide) (Nat.le_refl _) (Nat.le_refl _) (Nat.le_of_ble_eq_true rfl) dX2_readStatement_20 rfl rfl ?_
    rintro v w' ⟨hv1, hv2⟩
    rw [hv1, hv2, zI_f1 c1]
    clear hv1 hv2
    refine E_if_eq (tgt := 34) (q := 26) dX2_readStatement_23 (by decide) rfl (fun h23 => ?_) (fun h23 => ?_)
    · skip
      refine E_aload0 (q := 35) dX2_readStatement_34 rfl ?_
      refine E_ldcS (q := 37) (i := 2) rfl dX2_readStatement_35 rfl ?_
      refine E_callVG (ar := [.ref (adK 2)]) (q := 40) StG_st lk_X2_65 (sp_X2_isWordW h (by decide)) (rcG rc_X2) (by decide) (Nat.le_refl _) (Nat.le_refl _) (Nat.le_of_ble_eq_true rfl) dX2_readStatement_37 rfl rfl ?_
      rintro v w' ⟨hv1, hv2⟩
      rw [hv1, hv2, zI_f1 c2]
      clear hv1 hv2
      refine E_if_eq (tgt := 51) (q := 43) dX2_readStatement_40 (by decide) rfl (fun h40 => ?_) (fun h40 => ?_)
      · skip
        refine E_aload0 (q := 52) dX2_readStatement_51 rfl ?_
        refine E_ldcS (q := 54) (i := 3) rfl dX2_readStatement_52 rfl ?_
        refine E_callVG (ar := [.ref (adK 3)]) (q := 57) StG_st lk_X2_65 (sp_X2_isWordW h (by decide)) (rcG rc_X2) (by decide) (Nat.le_refl _) (Nat.le_refl _) (Nat.le_of_ble_eq_true rfl) dX2_readStatement_54 rfl rfl ?_
        rintro v w' ⟨hv1, hv2⟩
        rw [hv1, hv2, zI_t1 c3]
        clear hv1 hv2
        refine E_if_eq (tgt := 68) (q := 60) dX2_readStatement_57 (by decide) rfl (fun h57 => ?_) (fun h57 => ?_)
        · first | exact absurd h57 (by decide) | exact absurd (by decide) h57
        · skip
          refine E_aload0 (q := 61) dX2_readStatement_60 rfl ?_
          refine C_V0X (q := 64) lk_X2_84 (sp_X2_readSnap h hT) rc_X2 dX2_readStatement_61 (by decide) (Nat.le_of_ble_eq_true rfl) rfl ?_
          rintro y w hp
          refine E_istore1 (q := 65) dX2_readStatement_64 rfl rfl ?_
          refine E_goto (q := 126) dX2_readStatement_65 (by decide) ?_
          exact tl_readStatement hp
      · first | exact absurd h40 (by decide) | exact absurd (by decide) h40
    · first | exact absurd h23 (by decide) | exact absurd (by decide) h23
  · first | exact absurd h6 (by decide) | exact absurd (by decide) h6
theorem sp_X2_stmClone (h : LdC M b n s g A) (hT : aT A + 1 < 2 ^ 24) (c0 : ¬ isW b n s 0) (c1 : ¬ isW b n s 1) (c2 : ¬ isW b n s 2) (c3 : ¬ isW b n s 3) (c4 : isW b n s 4) : Spec D 10 yX2_readStatement cfX2_readStatement [.ref (ad 133)] (wl D ad M) 0 0 (PX (LPC D ad M b n (endR b n (sStm b n s g A)))) := by
  have hst : sStm b n s g A = sClone b n s g A := by simp only [sStm, ch_f c0, ch_f c1, ch_f c2, ch_f c3, ch_t c4]
  rw [hst]
  refine Spec.of (by decide) rfl (Nat.le_of_ble_eq_true rfl) rfl ?_
  refine E_openS (fun adK adV => ?_)
  refine E_aload0 (q := 1) dX2_readStatement_0 rfl ?_
  refine E_ldcS (q := 3) (i := 0) rfl dX2_readStatement_1 rfl ?_
  refine E_callVG (ar := [.ref (adK 0)]) (q := 6) StG_st lk_X2_65 (sp_X2_isWordW h (by decide)) (rcG rc_X2) (by decide) (Nat.le_refl _) (Nat.le_refl _) (Nat.le_of_ble_eq_true rfl) dX2_readStatement_3 rfl rfl ?_
  rintro v w' ⟨hv1, hv2⟩
  rw [hv1, hv2, zI_f1 c0]
  clear hv1 hv2
  refine E_if_eq (tgt := 17) (q := 9) dX2_readStatement_6 (by decide) rfl (fun h6 => ?_) (fun h6 => ?_)
  · skip
    refine E_aload0 (q := 18) dX2_readStatement_17 rfl ?_
    refine E_ldcS (q := 20) (i := 1) rfl dX2_readStatement_18 rfl ?_
    refine E_callVG (ar := [.ref (adK 1)]) (q := 23) StG_st lk_X2_65 (sp_X2_isWordW h (by decide)) (rcG rc_X2) (by decide) (Nat.le_refl _) (Nat.le_refl _) (Nat.le_of_ble_eq_true rfl) dX2_readStatement_20 rfl rfl ?_
    rintro v w' ⟨hv1, hv2⟩
    rw [hv1, hv2, zI_f1 c1]
    clear hv1 hv2
    refine E_if_eq (tgt := 34) (q := 26) dX2_readStatement_23 (by decide) rfl (fun h23 => ?_) (fun h23 => ?_)
    · skip
      refine E_aload0 (q := 35) dX2_readStatement_34 rfl ?_
      refine E_ldcS (q := 37) (i := 2) rfl dX2_readStatement_35 rfl ?_
      refine E_callVG (ar := [.ref (adK 2)]) (q := 40) StG_st lk_X2_65 (sp_X2_isWordW h (by decide)) (rcG rc_X2) (by decide) (Nat.le_refl _) (Nat.le_refl _) (Nat.le_of_ble_eq_true rfl) dX2_readStatement_37 rfl rfl ?_
      rintro v w' ⟨hv1, hv2⟩
      rw [hv1, hv2, zI_f1 c2]
      clear hv1 hv2
      refine E_if_eq (tgt := 51) (q := 43) dX2_readStatement_40 (by decide) rfl (fun h40 => ?_) (fun h40 => ?_)
      · skip
        refine E_aload0 (q := 52) dX2_readStatement_51 rfl ?_
        refine E_ldcS (q := 54) (i := 3) rfl dX2_readStatement_52 rfl ?_
        refine E_callVG (ar := [.ref (adK 3)]) (q := 57) StG_st lk_X2_65 (sp_X2_isWordW h (by decide)) (rcG rc_X2) (by decide) (Nat.le_refl _) (Nat.le_refl _) (Nat.le_of_ble_eq_true rfl) dX2_readStatement_54 rfl rfl ?_
        rintro v w' ⟨hv1, hv2⟩
        rw [hv1, hv2, zI_f1 c3]
        clear hv1 hv2
        refine E_if_eq (tgt := 68) (q := 60) dX2_readStatement_57 (by decide) rfl (fun h57 => ?_) (fun h57 => ?_)
        · skip
          refine E_aload0 (q := 69) dX2_readStatement_68 rfl ?_
          refine E_ldcS (q := 71) (i := 4) rfl dX2_readStatement_69 rfl ?_
          refine E_callVG (ar := [.ref (adK 4)]) (q := 74) StG_st lk_X2_65 (sp_X2_isWordW h (by decide)) (rcG rc_X2) (by decide) (Nat.le_refl _) (Nat.le_refl _) (Nat.le_of_ble_eq_true rfl) dX2_readStatement_71 rfl rfl ?_
          rintro v w' ⟨hv1, hv2⟩
          rw [hv1, hv2, zI_t1 c4]
          clear hv1 hv2
          refine E_if_eq (tgt := 85) (q := 77) dX2_readStatement_74 (by decide) rfl (fun h74 => ?_) (fun h74 => ?_)
          · first | exact absurd h74 (by decide) | exact absurd (by decide) h74
          · skip
            refine E_aload0 (q := 78) dX2_readStatement_77 rfl ?_
            refine C_V0X (q := 81) lk_X2_89 (sp_X2_readClone h hT) rc_X2 dX2_readStatement_78 (by decide) (Nat.le_of_ble_eq_true rfl) rfl ?_
            rintro y w hp
            refine E_istore1 (q := 82) dX2_readStatement_81 rfl rfl ?_
            refine E_goto (q := 126) dX2_readStatement_82 (by decide) ?_
            exact tl_readStatement hp
        · first | exact absurd h57 (by decide) | exact absurd (by decide) h57
      · first | exact absurd h40 (by decide) | exact absurd (by decide) h40
    · first | exact absurd h23 (by decide) | exact absurd (by decide) h23
  · first | exact absurd h6 (by decide) | exact absurd (by decide) h6
theorem sp_X2_stmHold (h : LdC M b n s g A) (hT : aT A + 1 < 2 ^ 24) (c0 : ¬ isW b n s 0) (c1 : ¬ isW b n s 1) (c2 : ¬ isW b n s 2) (c3 : ¬ isW b n s 3) (c4 : ¬ isW b n s 4) (c5 : isW b n s 5) : Spec D 10 yX2_readStatement cfX2_readStatement [.ref (ad 133)] (wl D ad M) 0 0 (PX (LPC D ad M b n (endR b n (sStm b n s g A)))) := by
  have hst : sStm b n s g A = sHold b n s g A := by simp only [sStm, ch_f c0, ch_f c1, ch_f c2, ch_f c3, ch_f c4, ch_t c5]
  rw [hst]
  refine Spec.of (by decide) rfl (Nat.le_of_ble_eq_true rfl) rfl ?_
  refine E_openS (fun adK adV => ?_)
  refine E_aload0 (q := 1) dX2_readStatement_0 rfl ?_
  refine E_ldcS (q := 3) (i := 0) rfl dX2_readStatement_1 rfl ?_
  refine E_callVG (ar := [.ref (adK 0)]) (q := 6) StG_st lk_X2_65 (sp_X2_isWordW h (by decide)) (rcG rc_X2) (by decide) (Nat.le_refl _) (Nat.le_refl _) (Nat.le_of_ble_eq_true rfl) dX2_readStatement_3 rfl rfl ?_
  rintro v w' ⟨hv1, hv2⟩
  rw [hv1, hv2, zI_f1 c0]
  clear hv1 hv2
  refine E_if_eq (tgt := 17) (q := 9) dX2_readStatement_6 (by decide) rfl (fun h6 => ?_) (fun h6 => ?_)
  · skip
    refine E_aload0 (q := 18) dX2_readStatement_17 rfl ?_
    refine E_ldcS (q := 20) (i := 1) rfl dX2_readStatement_18 rfl ?_
    refine E_callVG (ar := [.ref (adK 1)]) (q := 23) StG_st lk_X2_65 (sp_X2_isWordW h (by decide)) (rcG rc_X2) (by decide) (Nat.le_refl _) (Nat.le_refl _) (Nat.le_of_ble_eq_true rfl) dX2_readStatement_20 rfl rfl ?_
    rintro v w' ⟨hv1, hv2⟩
    rw [hv1, hv2, zI_f1 c1]
    clear hv1 hv2
    refine E_if_eq (tgt := 34) (q := 26) dX2_readStatement_23 (by decide) rfl (fun h23 => ?_) (fun h23 => ?_)
    · skip
      refine E_aload0 (q := 35) dX2_readStatement_34 rfl ?_
      refine E_ldcS (q := 37) (i := 2) rfl dX2_readStatement_35 rfl ?_
      refine E_callVG (ar := [.ref (adK 2)]) (q := 40) StG_st lk_X2_65 (sp_X2_isWordW h (by decide)) (rcG rc_X2) (by decide) (Nat.le_refl _) (Nat.le_refl _) (Nat.le_of_ble_eq_true rfl) dX2_readStatement_37 rfl rfl ?_
      rintro v w' ⟨hv1, hv2⟩
      rw [hv1, hv2, zI_f1 c2]
      clear hv1 hv2
      refine E_if_eq (tgt := 51) (q := 43) dX2_readStatement_40 (by decide) rfl (fun h40 => ?_) (fun h40 => ?_)
      · skip
        refine E_aload0 (q := 52) dX2_readStatement_51 rfl ?_
        refine E_ldcS (q := 54) (i := 3) rfl dX2_readStatement_52 rfl ?_
        refine E_callVG (ar := [.ref (adK 3)]) (q := 57) StG_st lk_X2_65 (sp_X2_isWordW h (by decide)) (rcG rc_X2) (by decide) (Nat.le_refl _) (Nat.le_refl _) (Nat.le_of_ble_eq_true rfl) dX2_readStatement_54 rfl rfl ?_
        rintro v w' ⟨hv1, hv2⟩
        rw [hv1, hv2, zI_f1 c3]
        clear hv1 hv2
        refine E_if_eq (tgt := 68) (q := 60) dX2_readStatement_57 (by decide) rfl (fun h57 => ?_) (fun h57 => ?_)
        · skip
          refine E_aload0 (q := 69) dX2_readStatement_68 rfl ?_
          refine E_ldcS (q := 71) (i := 4) rfl dX2_readStatement_69 rfl ?_
          refine E_callVG (ar := [.ref (adK 4)]) (q := 74) StG_st lk_X2_65 (sp_X2_isWordW h (by decide)) (rcG rc_X2) (by decide) (Nat.le_refl _) (Nat.le_refl _) (Nat.le_of_ble_eq_true rfl) dX2_readStatement_71 rfl rfl ?_
          rintro v w' ⟨hv1, hv2⟩
          rw [hv1, hv2, zI_f1 c4]
          clear hv1 hv2
          refine E_if_eq (tgt := 85) (q := 77) dX2_readStatement_74 (by decide) rfl (fun h74 => ?_) (fun h74 => ?_)
          · skip
            refine E_aload0 (q := 86) dX2_readStatement_85 rfl ?_
            refine E_ldcS (q := 88) (i := 5) rfl dX2_readStatement_86 rfl ?_
            refine E_callVG (ar := [.ref (adK 5)]) (q := 91) StG_st lk_X2_65 (sp_X2_isWordW h (by decide)) (rcG rc_X2) (by decide) (Nat.le_refl _) (Nat.le_refl _) (Nat.le_of_ble_eq_true rfl) dX2_readStatement_88 rfl rfl ?_
            rintro v w' ⟨hv1, hv2⟩
            rw [hv1, hv2, zI_t1 c5]
            clear hv1 hv2
            refine E_if_eq (tgt := 102) (q := 94) dX2_readStatement_91 (by decide) rfl (fun h91 => ?_) (fun h91 => ?_)
            · first | exact absurd h91 (by decide) | exact absurd (by decide) h91
            · skip
              refine E_aload0 (q := 95) dX2_readStatement_94 rfl ?_
              refine C_V0X (q := 98) lk_X2_94 (sp_X2_readHold h hT) rc_X2 dX2_readStatement_95 (by decide) (Nat.le_of_ble_eq_true rfl) rfl ?_
              rintro y w hp
              refine E_istore1 (q := 99) dX2_readStatement_98 rfl rfl ?_
              refine E_goto (q := 126) dX2_readStatement_99 (by decide) ?_
              exact tl_readStatement hp
          · first | exact absurd h74 (by decide) | exact absurd (by decide) h74
        · first | exact absurd h57 (by decide) | exact absurd (by decide) h57
      · first | exact absurd h40 (by decide) | exact absurd (by decide) h40
    · first | exact absurd h23 (by decide) | exact absurd (by decide) h23
  · first | exact absurd h6 (by decide) | exact absurd (by decide) h6
theorem sp_X2_stmSet (h : LdC M b n s g A) (hT : aT A + 1 < 2 ^ 24) (c0 : ¬ isW b n s 0) (c1 : ¬ isW b n s 1) (c2 : ¬ isW b n s 2) (c3 : ¬ isW b n s 3) (c4 : ¬ isW b n s 4) (c5 : ¬ isW b n s 5) (c6 : isW b n s 6) : Spec D 10 yX2_readStatement cfX2_readStatement [.ref (ad 133)] (wl D ad M) 0 0 (PX (LPC D ad M b n (endR b n (sStm b n s g A)))) := by
  have hst : sStm b n s g A = sSet b n s g A := by simp only [sStm, ch_f c0, ch_f c1, ch_f c2, ch_f c3, ch_f c4, ch_f c5, ch_t c6]
  rw [hst]
  refine Spec.of (by decide) rfl (Nat.le_of_ble_eq_true rfl) rfl ?_
  refine E_openS (fun adK adV => ?_)
  refine E_aload0 (q := 1) dX2_readStatement_0 rfl ?_
  refine E_ldcS (q := 3) (i := 0) rfl dX2_readStatement_1 rfl ?_
  refine E_callVG (ar := [.ref (adK 0)]) (q := 6) StG_st lk_X2_65 (sp_X2_isWordW h (by decide)) (rcG rc_X2) (by decide) (Nat.le_refl _) (Nat.le_refl _) (Nat.le_of_ble_eq_true rfl) dX2_readStatement_3 rfl rfl ?_
  rintro v w' ⟨hv1, hv2⟩
  rw [hv1, hv2, zI_f1 c0]
  clear hv1 hv2
  refine E_if_eq (tgt := 17) (q := 9) dX2_readStatement_6 (by decide) rfl (fun h6 => ?_) (fun h6 => ?_)
  · skip
    refine E_aload0 (q := 18) dX2_readStatement_17 rfl ?_
    refine E_ldcS (q := 20) (i := 1) rfl dX2_readStatement_18 rfl ?_
    refine E_callVG (ar := [.ref (adK 1)]) (q := 23) StG_st lk_X2_65 (sp_X2_isWordW h (by decide)) (rcG rc_X2) (by decide) (Nat.le_refl _) (Nat.le_refl _) (Nat.le_of_ble_eq_true rfl) dX2_readStatement_20 rfl rfl ?_
    rintro v w' ⟨hv1, hv2⟩
    rw [hv1, hv2, zI_f1 c1]
    clear hv1 hv2
    refine E_if_eq (tgt := 34) (q := 26) dX2_readStatement_23 (by decide) rfl (fun h23 => ?_) (fun h23 => ?_)
    · skip
      refine E_aload0 (q := 35) dX2_readStatement_34 rfl ?_
      refine E_ldcS (q := 37) (i := 2) rfl dX2_readStatement_35 rfl ?_
      refine E_callVG (ar := [.ref (adK 2)]) (q := 40) StG_st lk_X2_65 (sp_X2_isWordW h (by decide)) (rcG rc_X2) (by decide) (Nat.le_refl _) (Nat.le_refl _) (Nat.le_of_ble_eq_true rfl) dX2_readStatement_37 rfl rfl ?_
      rintro v w' ⟨hv1, hv2⟩
      rw [hv1, hv2, zI_f1 c2]
      clear hv1 hv2
      refine E_if_eq (tgt := 51) (q := 43) dX2_readStatement_40 (by decide) rfl (fun h40 => ?_) (fun h40 => ?_)
      · skip
        refine E_aload0 (q := 52) dX2_readStatement_51 rfl ?_
        refine E_ldcS (q := 54) (i := 3) rfl dX2_readStatement_52 rfl ?_
        refine E_callVG (ar := [.ref (adK 3)]) (q := 57) StG_st lk_X2_65 (sp_X2_isWordW h (by decide)) (rcG rc_X2) (by decide) (Nat.le_refl _) (Nat.le_refl _) (Nat.le_of_ble_eq_true rfl) dX2_readStatement_54 rfl rfl ?_
        rintro v w' ⟨hv1, hv2⟩
        rw [hv1, hv2, zI_f1 c3]
        clear hv1 hv2
        refine E_if_eq (tgt := 68) (q := 60) dX2_readStatement_57 (by decide) rfl (fun h57 => ?_) (fun h57 => ?_)
        · skip
          refine E_aload0 (q := 69) dX2_readStatement_68 rfl ?_
          refine E_ldcS (q := 71) (i := 4) rfl dX2_readStatement_69 rfl ?_
          refine E_callVG (ar := [.ref (adK 4)]) (q := 74) StG_st lk_X2_65 (sp_X2_isWordW h (by decide)) (rcG rc_X2) (by decide) (Nat.le_refl _) (Nat.le_refl _) (Nat.le_of_ble_eq_true rfl) dX2_readStatement_71 rfl rfl ?_
          rintro v w' ⟨hv1, hv2⟩
          rw [hv1, hv2, zI_f1 c4]
          clear hv1 hv2
          refine E_if_eq (tgt := 85) (q := 77) dX2_readStatement_74 (by decide) rfl (fun h74 => ?_) (fun h74 => ?_)
          · skip
            refine E_aload0 (q := 86) dX2_readStatement_85 rfl ?_
            refine E_ldcS (q := 88) (i := 5) rfl dX2_readStatement_86 rfl ?_
            refine E_callVG (ar := [.ref (adK 5)]) (q := 91) StG_st lk_X2_65 (sp_X2_isWordW h (by decide)) (rcG rc_X2) (by decide) (Nat.le_refl _) (Nat.le_refl _) (Nat.le_of_ble_eq_true rfl) dX2_readStatement_88 rfl rfl ?_
            rintro v w' ⟨hv1, hv2⟩
            rw [hv1, hv2, zI_f1 c5]
            clear hv1 hv2
            refine E_if_eq (tgt := 102) (q := 94) dX2_readStatement_91 (by decide) rfl (fun h91 => ?_) (fun h91 => ?_)
            · skip
              refine E_aload0 (q := 103) dX2_readStatement_102 rfl ?_
              refine E_ldcS (q := 105) (i := 6) rfl dX2_readStatement_103 rfl ?_
              refine E_callVG (ar := [.ref (adK 6)]) (q := 108) StG_st lk_X2_65 (sp_X2_isWordW h (by decide)) (rcG rc_X2) (by decide) (Nat.le_refl _) (Nat.le_refl _) (Nat.le_of_ble_eq_true rfl) dX2_readStatement_105 rfl rfl ?_
              rintro v w' ⟨hv1, hv2⟩
              rw [hv1, hv2, zI_t1 c6]
              clear hv1 hv2
              refine E_if_eq (tgt := 119) (q := 111) dX2_readStatement_108 (by decide) rfl (fun h108 => ?_) (fun h108 => ?_)
              · first | exact absurd h108 (by decide) | exact absurd (by decide) h108
              · skip
                refine E_aload0 (q := 112) dX2_readStatement_111 rfl ?_
                refine C_V0X (q := 115) lk_X2_99 (sp_X2_readSet h) rc_X2 dX2_readStatement_112 (by decide) (Nat.le_of_ble_eq_true rfl) rfl ?_
                rintro y w hp
                refine E_istore1 (q := 116) dX2_readStatement_115 rfl rfl ?_
                refine E_goto (q := 126) dX2_readStatement_116 (by decide) ?_
                exact tl_readStatement hp
            · first | exact absurd h91 (by decide) | exact absurd (by decide) h91
          · first | exact absurd h74 (by decide) | exact absurd (by decide) h74
        · first | exact absurd h57 (by decide) | exact absurd (by decide) h57
      · first | exact absurd h40 (by decide) | exact absurd (by decide) h40
    · first | exact absurd h23 (by decide) | exact absurd (by decide) h23
  · first | exact absurd h6 (by decide) | exact absurd (by decide) h6
theorem sp_X2_stmNone (h : LdC M b n s g A) (hT : aT A + 1 < 2 ^ 24) (c0 : ¬ isW b n s 0) (c1 : ¬ isW b n s 1) (c2 : ¬ isW b n s 2) (c3 : ¬ isW b n s 3) (c4 : ¬ isW b n s 4) (c5 : ¬ isW b n s 5) (c6 : ¬ isW b n s 6) : Spec D 10 yX2_readStatement cfX2_readStatement [.ref (ad 133)] (wl D ad M) 0 0 (PX (LPC D ad M b n (endR b n (sStm b n s g A)))) := by
  have hst : sStm b n s g A = .inl (-11, s) := by simp only [sStm, ch_f c0, ch_f c1, ch_f c2, ch_f c3, ch_f c4, ch_f c5, ch_f c6]
  rw [hst]
  refine Spec.of (by decide) rfl (Nat.le_of_ble_eq_true rfl) rfl ?_
  refine E_openS (fun adK adV => ?_)
  refine E_aload0 (q := 1) dX2_readStatement_0 rfl ?_
  refine E_ldcS (q := 3) (i := 0) rfl dX2_readStatement_1 rfl ?_
  refine E_callVG (ar := [.ref (adK 0)]) (q := 6) StG_st lk_X2_65 (sp_X2_isWordW h (by decide)) (rcG rc_X2) (by decide) (Nat.le_refl _) (Nat.le_refl _) (Nat.le_of_ble_eq_true rfl) dX2_readStatement_3 rfl rfl ?_
  rintro v w' ⟨hv1, hv2⟩
  rw [hv1, hv2, zI_f1 c0]
  clear hv1 hv2
  refine E_if_eq (tgt := 17) (q := 9) dX2_readStatement_6 (by decide) rfl (fun h6 => ?_) (fun h6 => ?_)
  · skip
    refine E_aload0 (q := 18) dX2_readStatement_17 rfl ?_
    refine E_ldcS (q := 20) (i := 1) rfl dX2_readStatement_18 rfl ?_
    refine E_callVG (ar := [.ref (adK 1)]) (q := 23) StG_st lk_X2_65 (sp_X2_isWordW h (by decide)) (rcG rc_X2) (by decide) (Nat.le_refl _) (Nat.le_refl _) (Nat.le_of_ble_eq_true rfl) dX2_readStatement_20 rfl rfl ?_
    rintro v w' ⟨hv1, hv2⟩
    rw [hv1, hv2, zI_f1 c1]
    clear hv1 hv2
    refine E_if_eq (tgt := 34) (q := 26) dX2_readStatement_23 (by decide) rfl (fun h23 => ?_) (fun h23 => ?_)
    · skip
      refine E_aload0 (q := 35) dX2_readStatement_34 rfl ?_
      refine E_ldcS (q := 37) (i := 2) rfl dX2_readStatement_35 rfl ?_
      refine E_callVG (ar := [.ref (adK 2)]) (q := 40) StG_st lk_X2_65 (sp_X2_isWordW h (by decide)) (rcG rc_X2) (by decide) (Nat.le_refl _) (Nat.le_refl _) (Nat.le_of_ble_eq_true rfl) dX2_readStatement_37 rfl rfl ?_
      rintro v w' ⟨hv1, hv2⟩
      rw [hv1, hv2, zI_f1 c2]
      clear hv1 hv2
      refine E_if_eq (tgt := 51) (q := 43) dX2_readStatement_40 (by decide) rfl (fun h40 => ?_) (fun h40 => ?_)
      · skip
        refine E_aload0 (q := 52) dX2_readStatement_51 rfl ?_
        refine E_ldcS (q := 54) (i := 3) rfl dX2_readStatement_52 rfl ?_
        refine E_callVG (ar := [.ref (adK 3)]) (q := 57) StG_st lk_X2_65 (sp_X2_isWordW h (by decide)) (rcG rc_X2) (by decide) (Nat.le_refl _) (Nat.le_refl _) (Nat.le_of_ble_eq_true rfl) dX2_readStatement_54 rfl rfl ?_
        rintro v w' ⟨hv1, hv2⟩
        rw [hv1, hv2, zI_f1 c3]
        clear hv1 hv2
        refine E_if_eq (tgt := 68) (q := 60) dX2_readStatement_57 (by decide) rfl (fun h57 => ?_) (fun h57 => ?_)
        · skip
          refine E_aload0 (q := 69) dX2_readStatement_68 rfl ?_
          refine E_ldcS (q := 71) (i := 4) rfl dX2_readStatement_69 rfl ?_
          refine E_callVG (ar := [.ref (adK 4)]) (q := 74) StG_st lk_X2_65 (sp_X2_isWordW h (by decide)) (rcG rc_X2) (by decide) (Nat.le_refl _) (Nat.le_refl _) (Nat.le_of_ble_eq_true rfl) dX2_readStatement_71 rfl rfl ?_
          rintro v w' ⟨hv1, hv2⟩
          rw [hv1, hv2, zI_f1 c4]
          clear hv1 hv2
          refine E_if_eq (tgt := 85) (q := 77) dX2_readStatement_74 (by decide) rfl (fun h74 => ?_) (fun h74 => ?_)
          · skip
            refine E_aload0 (q := 86) dX2_readStatement_85 rfl ?_
            refine E_ldcS (q := 88) (i := 5) rfl dX2_readStatement_86 rfl ?_
            refine E_callVG (ar := [.ref (adK 5)]) (q := 91) StG_st lk_X2_65 (sp_X2_isWordW h (by decide)) (rcG rc_X2) (by decide) (Nat.le_refl _) (Nat.le_refl _) (Nat.le_of_ble_eq_true rfl) dX2_readStatement_88 rfl rfl ?_
            rintro v w' ⟨hv1, hv2⟩
            rw [hv1, hv2, zI_f1 c5]
            clear hv1 hv2
            refine E_if_eq (tgt := 102) (q := 94) dX2_readStatement_91 (by decide) rfl (fun h91 => ?_) (fun h91 => ?_)
            · skip
              refine E_aload0 (q := 103) dX2_readStatement_102 rfl ?_
              refine E_ldcS (q := 105) (i := 6) rfl dX2_readStatement_103 rfl ?_
              refine E_callVG (ar := [.ref (adK 6)]) (q := 108) StG_st lk_X2_65 (sp_X2_isWordW h (by decide)) (rcG rc_X2) (by decide) (Nat.le_refl _) (Nat.le_refl _) (Nat.le_of_ble_eq_true rfl) dX2_readStatement_105 rfl rfl ?_
              rintro v w' ⟨hv1, hv2⟩
              rw [hv1, hv2, zI_f1 c6]
              clear hv1 hv2
              refine E_if_eq (tgt := 119) (q := 111) dX2_readStatement_108 (by decide) rfl (fun h108 => ?_) (fun h108 => ?_)
              · skip
                refine E_aload0 (q := 120) dX2_readStatement_119 rfl ?_
                refine E_bipush (v := -11) (q := 122) dX2_readStatement_120 (by decide) rfl ?_
                refine C_V1I (q := 125) lk_X2_102 (sp_X2_fail h.2.1.2.1) rc_X2 dX2_readStatement_122 (by decide) (Nat.le_of_ble_eq_true rfl) rfl ?_
                refine E_istore1 (q := 126) dX2_readStatement_125 rfl rfl ?_
                exact tl_readStatement (LPC_fail rfl FrC.rf)
              · first | exact absurd h108 (by decide) | exact absurd (by decide) h108
            · first | exact absurd h91 (by decide) | exact absurd (by decide) h91
          · first | exact absurd h74 (by decide) | exact absurd (by decide) h74
        · first | exact absurd h57 (by decide) | exact absurd (by decide) h57
      · first | exact absurd h40 (by decide) | exact absurd (by decide) h40
    · first | exact absurd h23 (by decide) | exact absurd (by decide) h23
  · first | exact absurd h6 (by decide) | exact absurd (by decide) h6
theorem sp_X2_readStatement (h : LdC M b n s g A) (hT : aT A + 1 < 2 ^ 24) : Spec D 10 yX2_readStatement cfX2_readStatement [.ref (ad 133)] (wl D ad M) 0 0 (PX (LPC D ad M b n (endR b n (sStm b n s g A)))) := by
  by_cases c0 : isW b n s 0
  · exact sp_X2_stmVolume h hT c0
  by_cases c1 : isW b n s 1
  · exact sp_X2_stmWrite h hT c0 c1
  by_cases c2 : isW b n s 2
  · exact sp_X2_stmTrim h hT c0 c1 c2
  by_cases c3 : isW b n s 3
  · exact sp_X2_stmSnap h hT c0 c1 c2 c3
  by_cases c4 : isW b n s 4
  · exact sp_X2_stmClone h hT c0 c1 c2 c3 c4
  by_cases c5 : isW b n s 5
  · exact sp_X2_stmHold h hT c0 c1 c2 c3 c4 c5
  by_cases c6 : isW b n s 6
  · exact sp_X2_stmSet h hT c0 c1 c2 c3 c4 c5 c6
  exact sp_X2_stmNone h hT c0 c1 c2 c3 c4 c5 c6
def LDP (D : va_G) (ad : Nat → Nat) (M : Mem) (n : Nat) : Sum (Int32 × Nat) (Nat × AS) → Int32 → va_W → Prop
  | .inl (c, t) => fun y w => y = c ∧ c ≠ 0 ∧ t ≤ n ∧ ∃ M', w = wl D ad M' ∧ M' 133 3 = nI t ∧ FrC M M'
  | .inr (k, B) => fun y w => y = nI k ∧ k ≤ n ∧ aT B ≤ k ∧ ∃ M', w = wl D ad M' ∧ SI M' 14 B ∧ M' 133 3 = -1 ∧ FrC M M'
theorem lp_readF {M0 M1 : Mem} {x c : Int32} {k t : Nat} (p3 : M1 133 4 = c) (hgd : t ≤ n ∧ c ≠ 0) (p4 : M1 133 3 = nI t) (hF : FrC M0 M1) : V D cfX2_read (rmOf 12 0 0) (QM D (PX (LDP D ad M0 n (.inl (c, t)))) 0 0) 0 0 63 [some (.ref (ad 133)), some (.int x), some (.int (nI k))] [.int (nI 0)] (wl D ad M1) := by
  refine E_if_ne (tgt := 71) (q := 66) dX2_read_63 (by decide) rfl (fun h63 => ?_) (fun h63 => ?_)
  · first | exact absurd h63 (by decide) | exact absurd (by decide) h63
  · skip
    refine E_aload0 (q := 67) dX2_read_66 rfl ?_
    refine G_X2_error (q := 70) fl_X2_29 dX2_read_67 rfl ?_
    refine V_int p3 ?_
    exact E_ireturn rfl rfl dX2_read_70 ⟨_, rfl, rfl, hgd.2, hgd.1, M1, rfl, p4, hF⟩
theorem lp_readT {Qf : QF} {M1 : Mem} {x : Int32} {k : Nat} (ih : V D cfX2_read (rmOf 12 0 0) Qf 0 0 44 [some (.ref (ad 133)), some (.int x), some (.int (nI (k + 1)))] [] (wl D ad M1)) : V D cfX2_read (rmOf 12 0 0) Qf 0 0 63 [some (.ref (ad 133)), some (.int x), some (.int (nI k))] [.int (nI 1)] (wl D ad M1) := by
  refine E_if_ne (tgt := 71) (q := 66) dX2_read_63 (by decide) rfl (fun h63 => ?_) (fun h63 => ?_)
  · skip
    refine E_iinc2 (q := 74) dX2_read_71 (nI_inc _) rfl rfl ?_
    refine E_goto (q := 44) dX2_read_74 (by decide) ?_
    exact ih
  · first | exact absurd h63 (by decide) | exact absurd (by decide) h63
theorem lp_read {M0 : Mem} {x : Int32} : ∀ (f : Nat) {M : Mem} {s g k : Nat} {A : AS}, n < s + f → LdC M b n s g A → k ≤ s → aT A ≤ k → M 133 3 = -1 → FrC M0 M → V D cfX2_read (rmOf 12 0 0) (QM D (PX (LDP D ad M0 n (ldF b n f s g A k))) 0 0) 0 0 44 [some (.ref (ad 133)), some (.int x), some (.int (nI k))] [] (wl D ad M) := by
  intro f
  induction f with
  | zero => intro M s g k A hf h; have := h.1.2.1; omega
  | succ f ih =>
    intro M s g k A hf h hk hT h3 hF
    have h1000 := h.1.1
    have hsn := h.1.2.1
    have hk4 := knd_le (b := b) (n := n) (q := s)
    by_cases c : knd b n s = 0
    · have hr : ldF b n (f + 1) s g A k = .inr (k, A) := by simp only [ldF, ch_t c]
      rw [hr]
      refine E_aload0 (q := 45) dX2_read_44 rfl ?_
      refine G_X2_kind (q := 48) fl_X2_41 dX2_read_45 rfl ?_
      refine V_int (h.2.1.2.2.2.1.trans (congrArg nI c)) ?_
      refine E_if_eq (tgt := 77) (q := 51) dX2_read_48 (by decide) rfl (fun h48 => ?_) (fun h48 => ?_)
      · skip
        refine E_iload2 (q := 78) dX2_read_77 rfl ?_
        exact E_ireturn rfl rfl dX2_read_78 ⟨_, rfl, rfl, by omega, hT, M, rfl, h.2.2.2, h3, hF⟩
      · first | exact absurd h48 (by decide) | exact absurd (by decide) h48
    · have hlt : s < n := Nat.lt_of_not_le fun z => c (knd_0.mpr z)
      have hgd := endR_gd (b := b) (sStm_gd (b := b) (g := g) (A := A) hlt)
      have hr : ldF b n (f + 1) s g A k = (match endR b n (sStm b n s g A) with | .inl e => .inl e | .inr (s', g', A') => ldF b n f s' g' A' (k + 1)) := by simp only [ldF, ch_f c]
      rw [hr]
      refine E_aload0 (q := 45) dX2_read_44 rfl ?_
      refine G_X2_kind (q := 48) fl_X2_41 dX2_read_45 rfl ?_
      refine V_int h.2.1.2.2.2.1 ?_
      refine E_if_eq (tgt := 77) (q := 51) dX2_read_48 (by decide) rfl (fun h48 => ?_) (fun h48 => ?_)
      · skip
        exact absurd ((nI_z (by omega)).mp h48) c
      · skip
        refine E_iload2 (q := 52) dX2_read_51 rfl ?_
        refine E_aload0 (q := 53) dX2_read_52 rfl ?_
        refine G_X2_length (q := 56) fl_X2_32 dX2_read_53 rfl ?_
        refine V_int h.2.1.1 ?_
        refine E_icmp_geN (tgt := 77) (q := 59) dX2_read_56 (by decide) rfl (by omega) (by omega) (fun h56 => ?_) (fun h56 => ?_)
        · skip
          exact absurd h56 (by omega)
        · skip
          refine E_aload0 (q := 60) dX2_read_59 rfl ?_
          refine C_V0X (q := 63) lk_X2_59 (sp_X2_readStatement h (by omega)) rc_X2 dX2_read_60 (by decide) (Nat.le_of_ble_eq_true rfl) rfl ?_
          rintro y w hp
          revert hp hgd
          generalize endR b n (sStm b n s g A) = r
          intro hgd hp
          match r, hp, hgd with
          | .inl (c', t), hp, hgd =>
            obtain ⟨p1, M1, p2, p3, p4, p5⟩ := hp
            rw [p1, p2]
            exact lp_readF p3 hgd p4 (hF.tr p5)
          | .inr (s', g', A'), hp, hgd =>
            obtain ⟨p1, M1, p2, p3, p4⟩ := hp
            rw [p1, p2]
            exact lp_readT (ih (by have := hgd.1; omega) p3 (by have := hgd.1; omega) (by have := hgd.2.2; omega) (p4.2.trans h3) (hF.tr p4.1))
theorem sp_X2_read {b : Nat → Nat} {n : Nat} (hn : n ≤ 1000) (hb : ∀ i, b i < 256) (hT : ∀ i, i < n → M 134 i = nI (b i)) : Spec D 12 yX2_read cfX2_read [.ref (ad 133), .int (nI (n))] (wl D ad M) 0 0 (PX (LDP D ad M n (ldF b n (n + 1) (tokS b n 0) 0 newA 0))) := by
  refine Spec.of (by decide) rfl (Nat.le_of_ble_eq_true rfl) rfl ?_
  refine E_aload0 (q := 1) dX2_read_0 rfl ?_
  refine E_iload1 (q := 2) dX2_read_1 rfl ?_
  refine E_sipush (v := nI 1000) (q := 5) dX2_read_2 (by decide) rfl ?_
  refine E_jmin (q := 8) lk_X2_47.2.1 dX2_read_5 (by decide) (Nat.le_of_ble_eq_true rfl) rfl ?_
  refine V_int (show _ = nI n by rw [if_neg (fun z => by have := (nI_ltI (by omega) (by omega)).mp z; omega)]) ?_
  refine P_X2_length (q := 11) fl_X2_32 dX2_read_8 rfl ?_
  refine E_aload0 (q := 12) dX2_read_11 rfl ?_
  refine G_X2_draft (q := 15) fl_X2_22 dX2_read_12 rfl ?_
  refine C_V0Y (q := 18) lk_X2_53 (sp_X4_reset isSt_14) (rc_X4 isSt_14) dX2_read_15 (by decide) (Nat.le_of_ble_eq_true rfl) rfl ?_
  refine kkEW ?_
  rintro M1 ⟨hb1, hk1⟩
  refine E_aload0 (q := 19) dX2_read_18 rfl ?_
  refine E_iconst (v := -1) (q := 20) dX2_read_19 (by decide) rfl ?_
  refine P_X2_errorAt (q := 23) fl_X2_26 dX2_read_20 rfl ?_
  refine E_aload0 (q := 24) dX2_read_23 rfl ?_
  refine E_iconst (v := nI 0) (q := 25) dX2_read_24 (by decide) rfl ?_
  refine P_X2_error (q := 28) fl_X2_29 dX2_read_25 rfl ?_
  refine E_aload0 (q := 29) dX2_read_28 rfl ?_
  refine E_iconst (v := nI 0) (q := 30) dX2_read_29 (by decide) rfl ?_
  refine P_X2_stop (q := 33) fl_X2_38 dX2_read_30 rfl ?_
  refine E_aload0 (q := 34) dX2_read_33 rfl ?_
  refine E_iconst (v := nI 0) (q := 35) dX2_read_34 (by decide) rfl ?_
  refine P_X2_givenSettings (q := 38) fl_X2_44 dX2_read_35 rfl ?_
  have hm5 : (upd2 (upd2 (upd2 (upd2 M1 133 3 (-1)) 133 4 (nI 0)) 133 7 (nI 0)) 133 9 (nI 0)) 133 5 = nI n := by rw [upd2_ne (by decide), upd2_ne (by decide), upd2_ne (by decide), upd2_ne (by decide), hk1 133 (by omega)]; exact upd2_same
  have hm7 : (upd2 (upd2 (upd2 (upd2 M1 133 3 (-1)) 133 4 (nI 0)) 133 7 (nI 0)) 133 9 (nI 0)) 133 7 = nI 0 := by rw [upd2_ne (by decide)]; exact upd2_same
  have hmT : ∀ i, i < n → (upd2 (upd2 (upd2 (upd2 M1 133 3 (-1)) 133 4 (nI 0)) 133 7 (nI 0)) 133 9 (nI 0)) 134 i = nI (b i) := fun i hi => by rw [upd2_row (by decide), upd2_row (by decide), upd2_row (by decide), upd2_row (by decide), hk1 134 (by omega), upd2_row (by decide)]; exact hT i hi
  refine E_aload0 (q := 39) dX2_read_38 rfl ?_
  refine C_V0V (q := 42) lk_X2_56 (sp_X2_advance (p := 0) rfl hm5 hm7 (Nat.zero_le _) hn hb hmT) rc_X2 dX2_read_39 (by decide) (Nat.le_of_ble_eq_true rfl) rfl ?_
  refine E_iconst (v := nI 0) (q := 43) dX2_read_42 (by decide) rfl ?_
  refine E_istore2 (q := 44) dX2_read_43 rfl rfl ?_
  refine lp_read (n + 1) (by omega) ⟨⟨hn, (tokS_sp (Nat.zero_le _)).2.1, hb, by decide⟩, ⟨?_, ?_, upd2_same, ?_, ?_⟩, fun i hi => ?_, ?_⟩ (Nat.zero_le _) (Nat.zero_le _) ?_ ?_
  · unfold lxM; rw [upd2_ne (by decide), upd2_ne (by decide), upd2_ne (by decide)]; exact hm5
  · unfold lxM; rw [upd2_ne (by decide), upd2_ne (by decide)]; exact upd2_same
  · unfold lxM; rw [upd2_ne (by decide)]; exact upd2_same
  · unfold lxM; rw [upd2_ne (by decide), upd2_ne (by decide), upd2_ne (by decide)]; exact upd2_same
  · unfold lxM; rw [upd2_row (by decide), upd2_row (by decide), upd2_row (by decide)]; exact hmT i hi
  · exact ⟨isSt_14, hb1.congr (fun c c1 c2 => by unfold lxM; rw [upd2_row (by omega), upd2_row (by omega), upd2_row (by omega), upd2_row (by omega), upd2_row (by omega), upd2_row (by omega), upd2_row (by omega)]), newA_WF⟩
  · unfold lxM; rw [upd2_ne (by decide), upd2_ne (by decide), upd2_ne (by decide), upd2_ne (by decide), upd2_ne (by decide), upd2_ne (by decide)]; exact upd2_same
  · exact ((((((FrC.u (by decide)).tr (Fr3.dr hk1).1).tr (FrC.u (by decide))).tr (FrC.u (by decide))).tr (FrC.u (by decide))).tr (FrC.u (by decide))).tr FrC.lx

end CLS