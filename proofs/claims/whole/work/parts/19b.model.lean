
/-! ROWS OF THE REFERENCE under the changes -/
section MKV
variable {A : AS} {f : Nat → Int32}
theorem mkVol_T {o n i j : Nat} : (mkVol A o n).1 i j = if i = 8 ∧ j = aV A then n else if i = 6 ∧ j = aV A then 0 else if i = 5 ∧ j = aV A then o else if i = 1 ∧ j = 16 + aV A then 1 else if i = 0 ∧ j = 1 then aV A + 1 else A.1 i j := rfl
theorem mkVol_th {o n w : Nat} : th (mkVol A o n) w ↔ th A w ∨ w = 16 + aV A := by
  unfold th
  rw [mkVol_T, if_neg (by omega), if_neg (by omega), if_neg (by omega)]
  by_cases e : w = 16 + aV A
  · rw [if_pos ⟨rfl, e⟩]; simp [e]
  · rw [if_neg (fun z => e z.2), if_neg (by omega)]; simp [e]
theorem mkVol_row {o n v : Nat} : ∀ (hv : aV A < 6), rowL (mkVol A o n) v = rowL A v := fun hv => rowL_congr fun t ht => by
  have : home (mkVol A o n) t = home A t := by
    unfold home
    rw [mkVol_T, if_neg (by omega), if_neg (by omega), if_neg (by omega), if_neg (by omega), if_neg (by omega)]
  rw [mkVol_th, this]
  constructor
  · rintro ⟨q | q, r⟩
    · exact ⟨q, r⟩
    · omega
  · rintro ⟨q, r⟩; exact ⟨Or.inl q, r⟩
def bO (bl : List Blk) (o a : Nat) : Nat := match o with
  | 0 => 0
  | s + 1 => bAt bl s a
def uO (bl : List Blk) (o a : Nat) : Nat := match o with
  | 0 => 0
  | s + 1 => uAt bl s a
theorem mkVol_bu {o n : Nat} (h : WF A) (hv : aV A < 6) (w a : Nat) : bAt (mkVol A o n).2 w a = (if w = 16 + aV A then bO A.2 o a else bAt A.2 w a) ∧ uAt (mkVol A o n).2 w a = (if w = 16 + aV A then uO A.2 o a else uAt A.2 w a) := by
  have hn := h.nov (Nat.le_refl _) hv
  have hno : ∀ x, x ∈ A.2 → ¬ (own x).testBit (16 + aV A) = true := fun x hx z => hn ((h.2.2.2 x hx).2.2.2.2.2.2.2 _ z)
  cases o with
  | zero =>
    show bAt A.2 w a = _ ∧ uAt A.2 w a = _
    by_cases e : w = 16 + aV A
    · rw [if_pos e, if_pos e]
      cases hx : blkAt A.2 w a with
      | none => exact bAt_none hx
      | some x =>
        have h1 := blkAt_some hx
        exact absurd (e ▸ h1.2.2) (hno x h1.1)
    · rw [if_neg e, if_neg e]; exact ⟨rfl, rfl⟩
  | succ s =>
    show bAt (lendB A.2 s (16 + aV A)) w a = _ ∧ uAt (lendB A.2 s (16 + aV A)) w a = _
    have := lend_bu (f := s) hno w a
    rw [this.1, this.2]
    by_cases e : w = 16 + aV A
    · rw [if_pos e, if_pos e, if_pos e]; exact ⟨rfl, rfl⟩
    · rw [if_neg e, if_neg e, if_neg e]; exact ⟨rfl, rfl⟩
/-- the row of a new volume -/
def volF (f : Nat → Int32) (v : Nat) (o n : Int32) (bs us : Nat → Int32) : Nat → Int32 :=
  upd (layF (upd (upd (upd (upd (upd f (5 + 21 * v + 0) (nI 1)) (5 + 21 * v + 1) o) (5 + 21 * v + 2) (nI 0)) (5 + 21 * v + 3) n) (5 + 21 * v + 4) (nI 0)) (16 + v) bs us 12) 3 (nI (v + 1))
theorem volF_out {v j : Nat} {o n : Int32} {bs us : Nat → Int32} (h1 : j ≠ 3) (h2 : ¬ (5 + 21 * v ≤ j ∧ j < 5 + 21 * v + 5)) (h3 : ¬ (211 + 12 * (16 + v) ≤ j ∧ j < 211 + 12 * (16 + v) + 12)) (h4 : ¬ (475 + 12 * (16 + v) ≤ j ∧ j < 475 + 12 * (16 + v) + 12)) : volF f v o n bs us j = f j := by
  unfold volF
  rw [upd_ne h1, layF_ne h3 h4, upd_ne (by omega), upd_ne (by omega), upd_ne (by omega), upd_ne (by omega), upd_ne (by omega)]
theorem volF_in {v : Nat} {o n : Int32} {bs us : Nat → Int32} (hv : v < 6) : volF f v o n bs us 3 = nI (v + 1) ∧ volF f v o n bs us (5 + 21 * v) = nI 1 ∧ volF f v o n bs us (5 + 21 * v + 1) = o ∧ volF f v o n bs us (5 + 21 * v + 2) = nI 0 ∧ volF f v o n bs us (5 + 21 * v + 3) = n ∧ volF f v o n bs us (5 + 21 * v + 4) = nI 0 := by
  unfold volF
  refine ⟨upd_eq, ?_, ?_, ?_, ?_, ?_⟩
  · rw [upd_ne (by omega), layF_ne (by omega) (by omega), upd_ne (by omega), upd_ne (by omega), upd_ne (by omega), upd_ne (by omega)]; exact upd_eq
  · rw [upd_ne (by omega), layF_ne (by omega) (by omega), upd_ne (by omega), upd_ne (by omega), upd_ne (by omega)]; exact upd_eq
  · rw [upd_ne (by omega), layF_ne (by omega) (by omega), upd_ne (by omega), upd_ne (by omega)]; exact upd_eq
  · rw [upd_ne (by omega), layF_ne (by omega) (by omega), upd_ne (by omega)]; exact upd_eq
  · rw [upd_ne (by omega), layF_ne (by omega) (by omega)]; exact upd_eq
theorem volF_b {v a : Nat} {o n : Int32} {bs us : Nat → Int32} (hv : v < 6) (ha : a < 12) : volF f v o n bs us (211 + 12 * (16 + v) + a) = bs a ∧ volF f v o n bs us (475 + 12 * (16 + v) + a) = us a := by
  unfold volF
  rw [upd_ne (by omega), layF_b ha, upd_ne (by omega), layF_u (by omega) ha (by omega)]
  exact ⟨rfl, rfl⟩
theorem RowIs.vol {o n : Nat} {bs us : Nat → Int32} (hR : RowIs f A) (h : WF A) (hv : aV A < 6)
    (hb : ∀ a, a < 12 → bs a = nI (bO A.2 o a)) (hu : ∀ a, a < 12 → us a = nI (uO A.2 o a)) : RowIs (volF f (aV A) (nI o) (nI n) bs us) (mkVol A o n) := by
  have hin := volF_in (f := f) (o := nI o) (n := nI n) (bs := bs) (us := us) hv
  obtain ⟨⟨c0, c1, c2, c3, c4⟩, r1, r2, r3, r4, r5⟩ := hR
  have nov := h.nov (Nat.le_refl _) hv
  have hne : ∀ u, th A (16 + u) → u ≠ aV A := fun u z e => nov (e ▸ z)
  refine ⟨⟨?_, ?_, ?_, ?_, ?_⟩, ?_, ?_, ?_, ?_, ?_⟩
  · rw [volF_out (by omega) (by omega) (by omega) (by omega), c0]; exact congrArg nI (by unfold aP; rw [mkVol_T, if_neg (by omega), if_neg (by omega), if_neg (by omega), if_neg (by omega), if_neg (by omega)])
  · rw [volF_out (by omega) (by omega) (by omega) (by omega), c1]; exact congrArg nI (by unfold aC; rw [mkVol_T, if_neg (by omega), if_neg (by omega), if_neg (by omega), if_neg (by omega), if_neg (by omega)])
  · rw [volF_out (by omega) (by omega) (by omega) (by omega), c2]; exact congrArg nI (by unfold aT; rw [mkVol_T, if_neg (by omega), if_neg (by omega), if_neg (by omega), if_neg (by omega), if_neg (by omega)])
  · rw [hin.1]; exact congrArg nI (by unfold aV; rw [mkVol_T, if_neg (by omega), if_neg (by omega), if_neg (by omega), if_neg (by omega), if_pos ⟨rfl, rfl⟩]; rfl)
  · rw [volF_out (by omega) (by omega) (by omega) (by omega), c4]; exact congrArg nI (by unfold aS; rw [mkVol_T, if_neg (by omega), if_neg (by omega), if_neg (by omega), if_neg (by omega), if_neg (by omega)])
  · intro u hu6
    rw [mkVol_T, if_neg (by omega), if_neg (by omega), if_neg (by omega)]
    by_cases e : u = aV A
    · subst e; rw [if_pos ⟨rfl, rfl⟩]; exact hin.2.1
    · rw [if_neg (by omega), if_neg (by omega), volF_out (by omega) (by omega) (by omega) (by omega)]; exact r1 u hu6
  · intro s hs
    rw [mkVol_T, if_neg (by omega), if_neg (by omega), if_neg (by omega), if_neg (by omega), if_neg (by omega), volF_out (by omega) (by omega) (by omega) (by omega)]; exact r2 s hs
  · intro u hu6 hut
    rw [mkVol_row hv]
    by_cases e : u = aV A
    · subst e
      have hnil : rowL A (aV A) = [] := List.eq_nil_iff_forall_not_mem.mpr fun t htt => by
        have := mem_rowL.mp htt
        exact nov (this.2.2 ▸ (h.hv6 this.1 this.2.1).2)
      rw [hnil]
      refine ⟨?_, ?_, ?_, hin.2.2.2.2.2, fun k s z => by simp at z⟩
      · rw [hin.2.2.1]; exact congrArg nI (by unfold org; rw [mkVol_T, if_neg (by omega), if_neg (by omega), if_pos ⟨rfl, rfl⟩])
      · rw [hin.2.2.2.1]; exact congrArg nI (by unfold quo; rw [mkVol_T, if_neg (by omega), if_pos ⟨rfl, rfl⟩])
      · rw [hin.2.2.2.2.1]; exact congrArg nI (by unfold vnm; rw [mkVol_T, if_pos ⟨rfl, rfl⟩])
    · have hut' : th A (16 + u) := by
        rcases mkVol_th.mp hut with q | q
        · exact q
        · omega
      obtain ⟨d1, d2, d3, d4, d5⟩ := r3 u hu6 hut'
      have hl := rowL_len A u
      refine ⟨?_, ?_, ?_, ?_, ?_⟩
      · rw [volF_out (by omega) (by omega) (by omega) (by omega), d1]; exact congrArg nI (by unfold org; rw [mkVol_T, if_neg (by omega), if_neg (by omega), if_neg (by omega), if_neg (by omega), if_neg (by omega)])
      · rw [volF_out (by omega) (by omega) (by omega) (by omega), d2]; exact congrArg nI (by unfold quo; rw [mkVol_T, if_neg (by omega), if_neg (by omega), if_neg (by omega), if_neg (by omega), if_neg (by omega)])
      · rw [volF_out (by omega) (by omega) (by omega) (by omega), d3]; exact congrArg nI (by unfold vnm; rw [mkVol_T, if_neg (by omega), if_neg (by omega), if_neg (by omega), if_neg (by omega), if_neg (by omega)])
      · rw [volF_out (by omega) (by omega) (by omega) (by omega), d4]
      · intro k s hk
        have := (List.getElem?_eq_some_iff.mp hk).1
        rw [volF_out (by omega) (by omega) (by omega) (by omega)]; exact d5 k s hk
  · intro s hs hst
    have hst' : th A s := by
      rcases mkVol_th.mp hst with q | q
      · exact q
      · omega
    obtain ⟨d1, d2, d3, d4⟩ := r4 s hs hst'
    refine ⟨?_, ?_, ?_, ?_⟩
    · rw [volF_out (by omega) (by omega) (by omega) (by omega), d1]; exact congrArg nI (by unfold home; rw [mkVol_T, if_neg (by omega), if_neg (by omega), if_neg (by omega), if_neg (by omega), if_neg (by omega)])
    · rw [volF_out (by omega) (by omega) (by omega) (by omega), d2]; exact congrArg nI (by unfold stm; rw [mkVol_T, if_neg (by omega), if_neg (by omega), if_neg (by omega), if_neg (by omega), if_neg (by omega)])
    · rw [volF_out (by omega) (by omega) (by omega) (by omega), d3]; exact congrArg nI (by rw [mkVol_T, if_neg (by omega), if_neg (by omega), if_neg (by omega), if_neg (by omega), if_neg (by omega)])
    · rw [volF_out (by omega) (by omega) (by omega) (by omega), d4]; exact congrArg nI (by unfold snm; rw [mkVol_T, if_neg (by omega), if_neg (by omega), if_neg (by omega), if_neg (by omega), if_neg (by omega)])
  · intro w a hw ha
    rw [(mkVol_bu h hv w a).1, (mkVol_bu h hv w a).2]
    by_cases e : w = 16 + aV A
    · subst e
      rw [if_pos rfl, if_pos rfl, (volF_b hv ha).1, (volF_b hv ha).2]
      exact ⟨hb a ha, hu a ha⟩
    · rw [if_neg e, if_neg e, volF_out (by omega) (by omega) (by omega) (by omega), volF_out (by omega) (by omega) (by omega) (by omega)]
      exact r5 w a hw ha
end MKV
section MODEL
variable {D : va_G} {ad : Nat → Nat} {M : Mem} {wx : Nat} {ws : va_W} {A : AS} {f : Nat → Int32}
theorem WX.all (hw : WX M wx) : ∀ g, WX (row2 M wx g) wx := fun _ => hw.row hw.ne
theorem RI.row (hw : WX M wx) (hR : RowIs f A) (hA : WF A) : RI (row2 M wx f) wx A := ⟨hw.all f, by rw [row2_same]; exact hR, hA⟩
theorem sp_X6_layR {v a : Nat} {b u : Int32} (hw : WX M wx) (hv : v < 22) (ha : a < 12) : Spec D 1 yX6_lay cfX6_lay [.ref (ad 157), .int (nI (v)), .int (nI (a)), .int (b), .int (u)] (wl D ad (row2 M wx f)) 0 0 (PV (wl D ad (row2 M wx (upd (upd f (211 + 12 * v + a) b) (475 + 12 * v + a) u)))) := by
  have q := sp_X6_lay (D := D) (ad := ad) (M := row2 M wx f) (v := v) (a := a) (b := b) (u := u) (hw.all f) hv ha
  rw [row2_upd, row2_upd] at q
  exact q
theorem sp_X6_birthR {v a : Nat} (hw : WX M wx) (hv : v < 22) (ha : a < 12) : Spec D 1 yX6_birth cfX6_birth [.ref (ad 157), .int (nI (v)), .int (nI (a))] (wl D ad (row2 M wx f)) 0 0 (PI (f (211 + 12 * v + a)) (wl D ad (row2 M wx f))) := by
  have q := sp_X6_birth (D := D) (ad := ad) (M := row2 M wx f) (v := v) (a := a) (hw.all f) hv ha
  rw [row2_same] at q
  exact q
theorem sp_X6_unitsR {v a : Nat} (hw : WX M wx) (hv : v < 22) (ha : a < 12) : Spec D 1 yX6_units cfX6_units [.ref (ad 157), .int (nI (v)), .int (nI (a))] (wl D ad (row2 M wx f)) 0 0 (PI (f (475 + 12 * v + a)) (wl D ad (row2 M wx f))) := by
  have q := sp_X6_units (D := D) (ad := ad) (M := row2 M wx f) (v := v) (a := a) (hw.all f) hv ha
  rw [row2_same] at q
  exact q
theorem sp_X6_volumeR {v x : Nat} (hw : WX M wx) (hx : 5 + 21 * v + x < 739) : Spec D 2 yX6_volume cfX6_volume [.ref (ad 157), .int (nI (v)), .int (nI (x))] (wl D ad (row2 M wx f)) 0 0 (PI (f (5 + 21 * v + x)) (wl D ad (row2 M wx f))) := by
  have q := sp_X6_volume (D := D) (ad := ad) (M := row2 M wx f) (v := v) (x := x) (hw.all f) hx
  rw [row2_same] at q
  exact q
theorem sp_X6_snapshotR {v x : Nat} (hw : WX M wx) (hx : 131 + 5 * v + x < 739) : Spec D 2 yX6_snapshot cfX6_snapshot [.ref (ad 157), .int (nI (v)), .int (nI (x))] (wl D ad (row2 M wx f)) 0 0 (PI (f (131 + 5 * v + x)) (wl D ad (row2 M wx f))) := by
  have q := sp_X6_snapshot (D := D) (ad := ad) (M := row2 M wx f) (v := v) (x := x) (hw.all f) hx
  rw [row2_same] at q
  exact q
theorem sp_X6_layAll {w u : Nat} (hw : WX M wx) (h1 : w < 22) (h2 : u < 22) (h3 : w ≠ u) : Spec D 2 yX6_layAll cfX6_layAll [.ref (ad 157), .int (nI (w)), .int (nI (u))] (wl D ad (row2 M wx f)) 0 0 (PV (wl D ad (row2 M wx (layF f w (fun a => f (211 + 12 * u + a)) (fun a => f (475 + 12 * u + a)) 12)))) := by
  refine Spec.of (by decide) rfl (Nat.le_of_ble_eq_true rfl) rfl ?_
  have hmain : V D cfX6_layAll (rmOf 2 0 0) (QM D (PV (wl D ad (row2 M wx (layF f w (fun a => f (211 + 12 * u + a)) (fun a => f (475 + 12 * u + a)) 12)))) 0 0) 0 0 2 [some (.ref (ad 157)), some (.int (nI (w))), some (.int (nI (u))), some (.int (nI (0)))] [] (wl D ad (row2 M wx (layF f w (fun a => f (211 + 12 * u + a)) (fun a => f (475 + 12 * u + a)) 0))) := by
    refine upto0 (n := 12) (P := fun i => V D cfX6_layAll (rmOf 2 0 0) (QM D (PV (wl D ad (row2 M wx (layF f w (fun a => f (211 + 12 * u + a)) (fun a => f (475 + 12 * u + a)) 12)))) 0 0) 0 0 2 [some (.ref (ad 157)), some (.int (nI (w))), some (.int (nI (u))), some (.int (nI (i)))] [] (wl D ad (row2 M wx (layF f w (fun a => f (211 + 12 * u + a)) (fun a => f (475 + 12 * u + a)) i)))) ?_ ?_
    · skip
      refine E_iload3 (q := 3) dX6_layAll_2 rfl ?_
      refine E_bipush (v := nI 12) (q := 5) dX6_layAll_3 (by decide) rfl ?_
      refine E_icmp_geN (tgt := 32) (q := 8) dX6_layAll_5 (by decide) rfl (by omega) (by omega) (fun h5 => ?_) (fun h5 => ?_)
      · skip
        exact E_vreturn rfl rfl dX6_layAll_32 (PV_of rfl)
      · skip
        exact absurd h5 (by omega)
    · intro i hi ih
      refine E_iload3 (q := 3) dX6_layAll_2 rfl ?_
      refine E_bipush (v := nI 12) (q := 5) dX6_layAll_3 (by decide) rfl ?_
      refine E_icmp_geN (tgt := 32) (q := 8) dX6_layAll_5 (by decide) rfl (by omega) (by omega) (fun h5 => ?_) (fun h5 => ?_)
      · skip
        exact absurd h5 (by omega)
      · skip
        refine E_aload0 (q := 9) dX6_layAll_8 rfl ?_
        refine E_iload1 (q := 10) dX6_layAll_9 rfl ?_
        refine E_iload3 (q := 11) dX6_layAll_10 rfl ?_
        refine E_aload0 (q := 12) dX6_layAll_11 rfl ?_
        refine E_iload2 (q := 13) dX6_layAll_12 rfl ?_
        refine E_iload3 (q := 14) dX6_layAll_13 rfl ?_
        refine C_V2I (q := 17) lk_X6_77 (sp_X6_birthR hw (by omega) (by omega)) rc_X6 dX6_layAll_14 (by decide) (Nat.le_of_ble_eq_true rfl) rfl ?_
        refine V_int (layF_ne (by omega) (by omega)) ?_
        refine E_aload0 (q := 18) dX6_layAll_17 rfl ?_
        refine E_iload2 (q := 19) dX6_layAll_18 rfl ?_
        refine E_iload3 (q := 20) dX6_layAll_19 rfl ?_
        refine C_V2I (q := 23) lk_X6_80 (sp_X6_unitsR hw (by omega) (by omega)) rc_X6 dX6_layAll_20 (by decide) (Nat.le_of_ble_eq_true rfl) rfl ?_
        refine V_int (layF_ne (by omega) (by omega)) ?_
        refine C_V4V (q := 26) lk_X6_83 (sp_X6_layR hw (by omega) (by omega)) rc_X6 dX6_layAll_23 (by decide) (Nat.le_of_ble_eq_true rfl) rfl ?_
        refine V_ws (congrArg (fun g => wl D ad (row2 M wx g)) (layF_s (f := f) (bs := fun a => f (211 + 12 * u + a)) (us := fun a => f (475 + 12 * u + a)) h1 hi)) ?_
        refine E_iinc3 (q := 29) dX6_layAll_26 (nI_inc _) rfl rfl ?_
        refine E_goto (q := 2) dX6_layAll_29 (by decide) ?_
        exact ih
  rw [layF_0] at hmain
  refine E_iconst (v := nI 0) (q := 1) dX6_layAll_0 (by decide) rfl ?_
  refine E_istore3 (q := 2) dX6_layAll_1 rfl rfl ?_
  exact hmain
end MODEL
