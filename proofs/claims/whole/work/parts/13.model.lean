/-! THE REFERENCE over a pool: orders, origins, sums -/
def VolA (A : AS) (p : Int32) : Prop := ∃ v, v < 6 ∧ p = nI v ∧ th A (16 + v)
def SnpA (A : AS) (p : Int32) : Prop := ∃ s, s < 16 ∧ p = nI s ∧ th A s
def VerA (A : AS) (p : Int32) : Prop := ∃ w, w < 22 ∧ p = nI w ∧ th A w
theorem th_1 {A : AS} {w : Nat} (h0 : WF0 A) (hw : w < 22) : nI (A.1 1 w) = nI 1 ↔ th A w := nI_eq (by have := h0.2.1 w hw; omega) (by omega)
theorem VolA_nI {A : AS} {v : Nat} (hv : v < 2 ^ 31) : VolA A (nI v) ↔ v < 6 ∧ th A (16 + v) := by
  constructor
  · rintro ⟨u, h1, h2, h3⟩
    rw [(nI_eq hv (by omega)).mp h2]; exact ⟨h1, h3⟩
  · rintro ⟨h1, h2⟩; exact ⟨v, h1, rfl, h2⟩
theorem SnpA_nI {A : AS} {v : Nat} (hv : v < 2 ^ 31) : SnpA A (nI v) ↔ v < 16 ∧ th A v := by
  constructor
  · rintro ⟨u, h1, h2, h3⟩
    rw [(nI_eq hv (by omega)).mp h2]; exact ⟨h1, h3⟩
  · rintro ⟨h1, h2⟩; exact ⟨v, h1, rfl, h2⟩
theorem VerA_nI {A : AS} {v : Nat} (hv : v < 2 ^ 31) : VerA A (nI v) ↔ v < 22 ∧ th A v := by
  constructor
  · rintro ⟨u, h1, h2, h3⟩
    rw [(nI_eq hv (by omega)).mp h2]; exact ⟨h1, h3⟩
  · rintro ⟨h1, h2⟩; exact ⟨v, h1, rfl, h2⟩
section MODEL
variable {D : va_G} {ad : Nat → Nat} {M : Mem} {wx : Nat} {ws : va_W} {A : AS}
theorem isVol_A {p : Int32} (hR : RowIs (M wx) A) (h0 : WF0 A) : isVol M wx p ↔ VolA A p := by
  constructor
  · rintro ⟨v, h1, h2, h3⟩
    rw [hR.2.1 v h1] at h3
    exact ⟨v, h1, h2, (th_1 h0 (by omega)).mp h3⟩
  · rintro ⟨v, h1, h2, h3⟩
    exact ⟨v, h1, h2, by rw [hR.2.1 v h1]; exact (th_1 h0 (by omega)).mpr h3⟩
theorem isSnap_A {p : Int32} (hR : RowIs (M wx) A) (h0 : WF0 A) : isSnap M wx p ↔ SnpA A p := by
  constructor
  · rintro ⟨v, h1, h2, h3⟩
    rw [hR.2.2.1 v h1] at h3
    exact ⟨v, h1, h2, (th_1 h0 (by omega)).mp h3⟩
  · rintro ⟨v, h1, h2, h3⟩
    exact ⟨v, h1, h2, by rw [hR.2.2.1 v h1]; exact (th_1 h0 (by omega)).mpr h3⟩
theorem isVer_A {p : Int32} (hR : RowIs (M wx) A) (h0 : WF0 A) : isVer M wx p ↔ VerA A p := by
  constructor
  · rintro ⟨v, h1, h2, h3⟩; exact ⟨v, h1, h2, (hR.ver h0 h1).mp h3⟩
  · rintro ⟨v, h1, h2, h3⟩; exact ⟨v, h1, h2, (hR.ver h0 h1).mpr h3⟩
theorem sp_X6_isVolA {p : Int32} (hw : WX M wx) (hR : RowIs (M wx) A) (h0 : WF0 A) : Spec D 3 yX6_isVolume cfX6_isVolume [.ref (ad 157), .int (p)] (wl D ad M) 0 0 (PI (zI (VolA A p)) (wl D ad M)) := by
  exact zI_c (isVol_A hR h0) ▸ sp_X6_isVolume hw
theorem sp_X6_isSnpA {p : Int32} (hw : WX M wx) (hR : RowIs (M wx) A) (h0 : WF0 A) : Spec D 3 yX6_isSnapshot cfX6_isSnapshot [.ref (ad 157), .int (p)] (wl D ad M) 0 0 (PI (zI (SnpA A p)) (wl D ad M)) := by
  exact zI_c (isSnap_A hR h0) ▸ sp_X6_isSnapshot hw
theorem sp_X6_isVerA {p : Int32} (hw : WX M wx) (hR : RowIs (M wx) A) (h0 : WF0 A) : Spec D 4 yX6_isVersion cfX6_isVersion [.ref (ad 157), .int (p)] (wl D ad M) 0 0 (PI (zI (VerA A p)) (wl D ad M)) := by
  exact zI_c (isVer_A hR h0) ▸ sp_X6_isVersion hw
theorem sp_X6_isVolN {v : Nat} (hw : WX M wx) (hR : RowIs (M wx) A) (h0 : WF0 A) (hv : v < 6) : Spec D 3 yX6_isVolume cfX6_isVolume [.ref (ad 157), .int (nI (v))] (wl D ad M) 0 0 (PI (zI (th A (16 + v))) (wl D ad M)) := by
  exact zI_c ((VolA_nI (by omega)).trans ⟨fun z => z.2, fun z => ⟨hv, z⟩⟩) ▸ sp_X6_isVolA hw hR h0
theorem sp_X6_isSnpN {v : Nat} (hw : WX M wx) (hR : RowIs (M wx) A) (h0 : WF0 A) (hv : v < 16) : Spec D 3 yX6_isSnapshot cfX6_isSnapshot [.ref (ad 157), .int (nI (v))] (wl D ad M) 0 0 (PI (zI (th A v)) (wl D ad M)) := by
  exact zI_c ((SnpA_nI (by omega)).trans ⟨fun z => z.2, fun z => ⟨hv, z⟩⟩) ▸ sp_X6_isSnpA hw hR h0
theorem sp_X6_isVerN {v : Nat} (hw : WX M wx) (hR : RowIs (M wx) A) (h0 : WF0 A) (hv : v < 22) : Spec D 4 yX6_isVersion cfX6_isVersion [.ref (ad 157), .int (nI (v))] (wl D ad M) 0 0 (PI (zI (th A v)) (wl D ad M)) := by
  exact zI_c ((VerA_nI (by omega)).trans ⟨fun z => z.2, fun z => ⟨hv, z⟩⟩) ▸ sp_X6_isVerA hw hR h0
theorem sp_X6_origin {v : Nat} (hw : WX M wx) (hR : RowIs (M wx) A) (hv : v < 6) (ht : th A (16 + v)) : Spec D 3 yX6_origin cfX6_origin [.ref (ad 157), .int (nI (v))] (wl D ad M) 0 0 (PI (oI (org A v)) (wl D ad M)) := by
  refine Spec.of (by decide) rfl (Nat.le_of_ble_eq_true rfl) rfl ?_
  refine E_aload0 (q := 1) dX6_origin_0 rfl ?_
  refine E_iload1 (q := 2) dX6_origin_1 rfl ?_
  refine E_iconst (v := nI 1) (q := 3) dX6_origin_2 (by decide) rfl ?_
  refine C_V2I (q := 6) lk_X6_64 (sp_X6_volume hw (by omega)) rc_X6 dX6_origin_3 (by decide) (Nat.le_of_ble_eq_true rfl) rfl ?_
  refine V_int (hR.2.2.2.1 v hv ht).1 ?_
  refine E_iconst (v := nI 1) (q := 7) dX6_origin_6 (by decide) rfl ?_
  refine E_isub (q := 8) dX6_origin_7 rfl ?_
  exact E_ireturn rfl rfl dX6_origin_8 (PI_of rfl rfl)
theorem sp_X6_placeOf {s : Nat} (hw : WX M wx) (hR : RowIs (M wx) A) (h0 : WF0 A) (hs : s < 16) (ht : th A s) : Spec D 3 yX6_placeOf cfX6_placeOf [.ref (ad 157), .int (nI (s))] (wl D ad M) 0 0 (PI (nI (plc A s)) (wl D ad M)) := by
  refine Spec.of (by decide) rfl (Nat.le_of_ble_eq_true rfl) rfl ?_
  have hh := h0.2.2.2.2.1 s hs ht
  have hp := plc_lt A s
  refine E_aload0 (q := 1) dX6_placeOf_0 rfl ?_
  refine E_iload1 (q := 2) dX6_placeOf_1 rfl ?_
  refine E_iconst (v := nI 1) (q := 3) dX6_placeOf_2 (by decide) rfl ?_
  refine C_V2I (q := 6) lk_X6_67 (sp_X6_snapshot hw (by omega)) rc_X6 dX6_placeOf_3 (by decide) (Nat.le_of_ble_eq_true rfl) rfl ?_
  refine V_int (hR.2.2.2.2.1 s hs ht).1 ?_
  refine E_istore2 (q := 7) dX6_placeOf_6 rfl rfl ?_
  refine E_iconst (v := nI 0) (q := 8) dX6_placeOf_7 (by decide) rfl ?_
  refine E_istore3 (q := 9) dX6_placeOf_8 rfl rfl ?_
  refine upto0 (n := plc A s) (P := fun i => V D cfX6_placeOf (rmOf 3 0 0) (QM D (PI (nI (plc A s)) (wl D ad M)) 0 0) 0 0 9 [some (.ref (ad 157)), some (.int (nI (s))), some (.int (nI (home A s))), some (.int (nI (i)))] [] (wl D ad M)) ?_ ?_
  · skip
    refine E_aload0 (q := 10) dX6_placeOf_9 rfl ?_
    refine E_iload2 (q := 11) dX6_placeOf_10 rfl ?_
    refine E_iconst (v := nI 5) (q := 12) dX6_placeOf_11 (by decide) rfl ?_
    refine E_iload3 (q := 13) dX6_placeOf_12 rfl ?_
    refine E_iaddN (q := 14) dX6_placeOf_13 rfl ?_
    refine C_V2I (q := 17) lk_X6_64 (sp_X6_volume hw (by omega)) rc_X6 dX6_placeOf_14 (by decide) (Nat.le_of_ble_eq_true rfl) rfl ?_
    refine V_int ((hR.2.2.2.1 _ hh.2.1 hh.2.2.1).2.2.2.2 _ _ (plc_get hs ht)) ?_
    refine E_iload1 (q := 18) dX6_placeOf_17 rfl ?_
    refine E_icmp_eqN (tgt := 27) (q := 21) dX6_placeOf_18 (by decide) rfl (by omega) (by omega) (fun h18 => ?_) (fun h18 => ?_)
    · skip
      refine E_iload3 (q := 28) dX6_placeOf_27 rfl ?_
      exact E_ireturn rfl rfl dX6_placeOf_28 (PI_of rfl rfl)
    · skip
      exact absurd rfl h18
  · intro i hi ih
    have hl := Nat.lt_trans hi (plc_lt16 hs ht)
    have hg : (rowL A (home A s))[i]? = some (rowL A (home A s))[i] := List.getElem?_eq_getElem hl
    have hne : ¬ (rowL A (home A s))[i] = s := fun z => absurd (pw_inj (rowL_pw A _) (z ▸ hg) (plc_get hs ht)) (by omega)
    have hl16 := (mem_rowL.mp (List.getElem_mem hl)).1
    refine E_aload0 (q := 10) dX6_placeOf_9 rfl ?_
    refine E_iload2 (q := 11) dX6_placeOf_10 rfl ?_
    refine E_iconst (v := nI 5) (q := 12) dX6_placeOf_11 (by decide) rfl ?_
    refine E_iload3 (q := 13) dX6_placeOf_12 rfl ?_
    refine E_iaddN (q := 14) dX6_placeOf_13 rfl ?_
    refine C_V2I (q := 17) lk_X6_64 (sp_X6_volume hw (by omega)) rc_X6 dX6_placeOf_14 (by decide) (Nat.le_of_ble_eq_true rfl) rfl ?_
    refine V_int ((hR.2.2.2.1 _ hh.2.1 hh.2.2.1).2.2.2.2 _ _ hg) ?_
    refine E_iload1 (q := 18) dX6_placeOf_17 rfl ?_
    refine E_icmp_eqN (tgt := 27) (q := 21) dX6_placeOf_18 (by decide) rfl (by omega) (by omega) (fun h18 => ?_) (fun h18 => ?_)
    · skip
      exact absurd h18 hne
    · skip
      refine E_iinc3 (q := 24) dX6_placeOf_21 (nI_inc _) rfl rfl ?_
      refine E_goto (q := 9) dX6_placeOf_24 (by decide) ?_
      exact ih
end MODEL
