
/-! THE REFERENCE goes on to the next token -/
section MODEL
variable {D : va_G} {ad : Nat → Nat} {M : Mem} {ws : va_W} {A : AS} {b : Nat → Nat} {n s t e p q g : Nat}
theorem V_long {F : Cfg} {rm : Room} {Qf : QF} {k n pc : Nat} {locs : List (Option Value)} {st : List Value} {ws : va_W} {x y : Int64} (h : x = y) (kk : V D F rm Qf k n pc locs (.long y :: st) ws) : V D F rm Qf k n pc locs (.long x :: st) ws := h ▸ kk
/-- what an advance does -/
def AdvP (D : va_G) (ad : Nat → Nat) (M : Mem) (b : Nat → Nat) (n s : Nat) : va_W → Prop := fun w => ∃ M', w = wl D ad M' ∧ LxR M' b n s ∧ FrA M M'
/-- the text, and no fault -/
def TxR (M : Mem) (b : Nat → Nat) (n : Nat) : Prop := M 157 11 = nI n ∧ n ≤ 1000 ∧ (∀ i, b i < 256) ∧ (∀ i, i < n → M 162 i &&& nI 255 = nI (b i))
theorem TxR.fr {M1 : Mem} (h : TxR M b n) (hF : FrA M M1) : TxR M1 b n := ⟨by rw [hF.2 11 (by omega) (by omega)]; exact h.1, h.2.1, h.2.2.1, fun i hi => by rw [hF.1 162 (by decide)]; exact h.2.2.2 i hi⟩
theorem ad_word (hX : TxR M b n) (hk : knd b n s = 1) : ∀ M1, FrA M M1 → M1 157 12 = nI s → M1 157 13 = nI s → M1 157 14 = nI 1 → M1 157 15 = nI 0 → lgOf (M1 157 16) (M1 157 1016) = 0 → M1 157 17 = nI 0 → V D cfX6_advance (rmOf 3 0 0) (QM D (PY (AdvP D ad M b n s)) 0 0) 0 0 97 [some (.ref (ad 157)), none] [] (wl D ad M1) := by
  have hsn := (knd_1.mp hk).1
  obtain ⟨e1, e2, e3, e4⟩ := tokE_sp hsn (Or.inl hk)
  have hlet : ∀ j, j < tokE b n s - s → 97 ≤ b (s + j) ∧ b (s + j) ≤ 122 := fun j hj => (knd_1.mp ((e4 (s + j) (by omega) (by omega)).trans hk)).2
  have hn := hX.2.1
  have hlt : nmN b s (tokE b n s - s) < 2 ^ 30 := nmN_lt (fun i a d => by have := hlet (i - s) (by omega); rw [show s + (i - s) = i by omega] at this; exact this.2) (by omega)
  have hmain : ∀ M1, FrA M M1 → M1 157 12 = nI (s + 0) → M1 157 13 = nI s → M1 157 14 = nI 1 → M1 157 15 = nI 0 → lgOf (M1 157 16) (M1 157 1016) = wdI b s 0 → M1 157 17 = nI (nmN b s 0) → V D cfX6_advance (rmOf 3 0 0) (QM D (PY (AdvP D ad M b n s)) 0 0) 0 0 97 [some (.ref (ad 157)), none] [] (wl D ad M1) := by
    refine upto0 (n := tokE b n s - s) (P := fun k => ∀ M1, FrA M M1 → M1 157 12 = nI (s + k) → M1 157 13 = nI s → M1 157 14 = nI 1 → M1 157 15 = nI 0 → lgOf (M1 157 16) (M1 157 1016) = wdI b s k → M1 157 17 = nI (nmN b s k) → V D cfX6_advance (rmOf 3 0 0) (QM D (PY (AdvP D ad M b n s)) 0 0) 0 0 97 [some (.ref (ad 157)), none] [] (wl D ad M1)) ?_ ?_
    · intro M1 hF g12 g13 g14 g15 g16 g17
      rw [show s + (tokE b n s - s) = tokE b n s by omega] at g12
      have hend : ∃ M', wl D ad M1 = wl D ad M' ∧ LxR M' b n s ∧ FrA M M' := ⟨M1, rfl, ⟨g12, g13, by rw [hk]; exact g14, fun z => by omega, fun _ => ⟨g16, by rw [g17]; exact congrArg nI (nmN_cd6 (by omega)).symm⟩, ⟨0, by decide, g15⟩, ⟨_, by omega, g17⟩⟩, hF⟩
      by_cases c : tokE b n s < n
      · have hne : ¬ (97 ≤ b (tokE b n s) ∧ b (tokE b n s) ≤ 122) := fun z => e3 (by rw [hk]; exact knd_1.mpr ⟨c, z⟩)
        have h256 := hX.2.2.1 (tokE b n s)
        refine E_aload0 (q := 98) dX6_advance_97 rfl ?_
        refine C_V0I (q := 101) lk_X6_223 (sp_X6_byteAtT (hX.fr hF).1 g12 c hX.2.1 (hX.fr hF).2.2.2) rc_X6 dX6_advance_98 (by decide) (Nat.le_of_ble_eq_true rfl) rfl ?_
        refine E_bipush (v := nI 97) (q := 103) dX6_advance_101 (by decide) rfl ?_
        refine E_bipush (v := nI 122) (q := 105) dX6_advance_103 (by decide) rfl ?_
        refine C_S3I (q := 108) lk_X6_60 (sp_X6_inRange) dX6_advance_105 (by decide) (Nat.le_of_ble_eq_true rfl) rfl ?_
        refine E_if_eq (tgt := 328) (q := 111) dX6_advance_108 (by decide) rfl (fun h108 => ?_) (fun h108 => ?_)
        · skip
          exact E_vreturn rfl rfl dX6_advance_328 ⟨rfl, hend⟩
        · skip
          exact absurd (zI_n h108) (fun z => hne ⟨(nI_leI (by decide) (by omega)).mp z.1, (nI_leI (by omega) (by decide)).mp z.2⟩)
      · skip
        refine E_aload0 (q := 98) dX6_advance_97 rfl ?_
        refine C_V0I (q := 101) lk_X6_223 (sp_X6_byteAtF (hX.fr hF).1 g12 (by omega) (by omega)) rc_X6 dX6_advance_98 (by decide) (Nat.le_of_ble_eq_true rfl) rfl ?_
        refine E_bipush (v := nI 97) (q := 103) dX6_advance_101 (by decide) rfl ?_
        refine E_bipush (v := nI 122) (q := 105) dX6_advance_103 (by decide) rfl ?_
        refine C_S3I (q := 108) lk_X6_60 (sp_X6_inRange) dX6_advance_105 (by decide) (Nat.le_of_ble_eq_true rfl) rfl ?_
        refine E_if_eq (tgt := 328) (q := 111) dX6_advance_108 (by decide) rfl (fun h108 => ?_) (fun h108 => ?_)
        · skip
          exact E_vreturn rfl rfl dX6_advance_328 ⟨rfl, hend⟩
        · skip
          exact absurd (zI_n h108) (fun z => absurd z.1 (by decide))
    · intro k hkk ih M1 hF g12 g13 g14 g15 g16 g17
      have hl := hlet k hkk
      have hF1 : ∀ x y z, FrA M (upd2 (upd2 (upd2 (upd2 M1 157 16 x) 157 1016 y) 157 17 z) 157 12 (nI (s + (k + 1)))) := fun x y z => (((hF.u (by decide)).u (by decide)).u (by decide)).u (by decide)
      have hfin : ∀ (x : Int64) z, x = wdI b s (k + 1) → z = nI (nmN b s (k + 1)) → V D cfX6_advance (rmOf 3 0 0) (QM D (PY (AdvP D ad M b n s)) 0 0) 0 0 97 [some (.ref (ad 157)), some (.int (nI (b (s + k) - 96)))] [] (wl D ad (upd2 (upd2 (upd2 (upd2 M1 157 16 (lgHi x)) 157 1016 (lgLo x)) 157 17 z) 157 12 (nI (s + (k + 1))))) := fun x z hx hz => V_sub (subL_s (subL_n subL_nil)) (ih _ (hF1 _ _ _) upd2_same (by rw [upd2_ne (by decide), upd2_ne (by decide), upd2_ne (by decide), upd2_ne (by decide)]; exact g13) (by rw [upd2_ne (by decide), upd2_ne (by decide), upd2_ne (by decide), upd2_ne (by decide)]; exact g14) (by rw [upd2_ne (by decide), upd2_ne (by decide), upd2_ne (by decide), upd2_ne (by decide)]; exact g15) (by rw [upd2_ne (k := 157) (j := 12) (a := 157) (b := 16) (by decide), upd2_ne (k := 157) (j := 17) (a := 157) (b := 16) (by decide), upd2_ne (k := 157) (j := 1016) (a := 157) (b := 16) (by decide), upd2_same, upd2_ne (k := 157) (j := 12) (a := 157) (b := 1016) (by decide), upd2_ne (k := 157) (j := 17) (a := 157) (b := 1016) (by decide), upd2_same, lgOf_hl]; exact hx) (by rw [upd2_ne (by decide)]; exact upd2_same.trans hz))
      by_cases c6 : k < 6
      · skip
        refine E_aload0 (q := 98) dX6_advance_97 rfl ?_
        refine C_V0I (q := 101) lk_X6_223 (sp_X6_byteAtT (hX.fr hF).1 g12 (by omega) hX.2.1 (hX.fr hF).2.2.2) rc_X6 dX6_advance_98 (by decide) (Nat.le_of_ble_eq_true rfl) rfl ?_
        refine E_bipush (v := nI 97) (q := 103) dX6_advance_101 (by decide) rfl ?_
        refine E_bipush (v := nI 122) (q := 105) dX6_advance_103 (by decide) rfl ?_
        refine C_S3I (q := 108) lk_X6_60 (sp_X6_inRange) dX6_advance_105 (by decide) (Nat.le_of_ble_eq_true rfl) rfl ?_
        refine E_if_eq (tgt := 328) (q := 111) dX6_advance_108 (by decide) rfl (fun h108 => ?_) (fun h108 => ?_)
        · skip
          exact absurd (show nI 97 ≤ nI (b (s + k)) ∧ nI (b (s + k)) ≤ nI 122 from ⟨(nI_leI (by decide) (by omega)).mpr hl.1, (nI_leI (by omega) (by decide)).mpr hl.2⟩) (zI_0 h108)
        · skip
          refine E_aload0 (q := 112) dX6_advance_111 rfl ?_
          refine C_V0I (q := 115) lk_X6_223 (sp_X6_byteAtT (hX.fr hF).1 g12 (by omega) hX.2.1 (hX.fr hF).2.2.2) rc_X6 dX6_advance_112 (by decide) (Nat.le_of_ble_eq_true rfl) rfl ?_
          refine E_bipush (v := nI 96) (q := 117) dX6_advance_115 (by decide) rfl ?_
          refine E_isubN (q := 118) dX6_advance_117 (by omega) rfl ?_
          refine E_istore1 (q := 119) dX6_advance_118 rfl rfl ?_
          refine E_aload0 (q := 120) dX6_advance_119 rfl ?_
          refine E_aload0 (q := 121) dX6_advance_120 rfl ?_
          refine G_X6_at (q := 124) fl_X6_214 dX6_advance_121 rfl ?_
          refine V_int g12 ?_
          refine E_aload0 (q := 125) dX6_advance_124 rfl ?_
          refine G_X6_start (q := 128) fl_X6_226 dX6_advance_125 rfl ?_
          refine V_int g13 ?_
          refine E_isubN (q := 129) dX6_advance_128 (by omega) rfl ?_
          refine E_bipush (v := nI 12) (q := 131) dX6_advance_129 (by decide) rfl ?_
          refine E_icmp_geN (tgt := 148) (q := 134) dX6_advance_131 (by decide) rfl (by omega) (by omega) (fun h131 => ?_) (fun h131 => ?_)
          · skip
            exact absurd h131 (by omega)
          · skip
            refine E_ldc2 (q := 137) dX6_advance_134 cn_X6_242 rfl ?_
            refine E_aload0 (q := 138) dX6_advance_137 rfl ?_
            refine G_X6_word (q := 141) fl_X6_229 dX6_advance_138 rfl ?_
            refine V_long g16 ?_
            refine E_lmul (q := 142) dX6_advance_141 rfl ?_
            refine E_iload1 (q := 143) dX6_advance_142 rfl ?_
            refine E_i2l (q := 144) dX6_advance_143 rfl ?_
            refine E_ladd (q := 145) dX6_advance_144 rfl ?_
            refine E_goto (q := 151) dX6_advance_145 (by decide) ?_
            refine P_X6_word (q := 154) fl_X6_229 dX6_advance_151 rfl ?_
            refine E_aload0 (q := 155) dX6_advance_154 rfl ?_
            refine E_aload0 (q := 156) dX6_advance_155 rfl ?_
            refine G_X6_at (q := 159) fl_X6_214 dX6_advance_156 rfl ?_
            refine V_int (show _ = nI (s + k) by rw [upd2_ne (by decide), upd2_ne (by decide)]; exact g12) ?_
            refine E_aload0 (q := 160) dX6_advance_159 rfl ?_
            refine G_X6_start (q := 163) fl_X6_226 dX6_advance_160 rfl ?_
            refine V_int (show _ = nI s by rw [upd2_ne (by decide), upd2_ne (by decide)]; exact g13) ?_
            refine E_isubN (q := 164) dX6_advance_163 (by omega) rfl ?_
            refine E_bipush (v := nI 6) (q := 166) dX6_advance_164 (by decide) rfl ?_
            refine E_icmp_geN (tgt := 193) (q := 169) dX6_advance_166 (by decide) rfl (by omega) (by omega) (fun h166 => ?_) (fun h166 => ?_)
            · skip
              exact absurd h166 (by omega)
            · skip
              refine E_aload0 (q := 170) dX6_advance_169 rfl ?_
              refine G_X6_letters (q := 173) fl_X6_233 dX6_advance_170 rfl ?_
              refine V_int (show _ = nI (nmN b s k) by rw [upd2_ne (by decide), upd2_ne (by decide)]; exact g17) ?_
              refine E_iload1 (q := 174) dX6_advance_173 rfl ?_
              refine E_bipush (v := nI 25) (q := 176) dX6_advance_174 (by decide) rfl ?_
              refine E_iconst (v := nI 5) (q := 177) dX6_advance_176 (by decide) rfl ?_
              refine E_aload0 (q := 178) dX6_advance_177 rfl ?_
              refine G_X6_at (q := 181) fl_X6_214 dX6_advance_178 rfl ?_
              refine V_int (show _ = nI (s + k) by rw [upd2_ne (by decide), upd2_ne (by decide)]; exact g12) ?_
              refine E_aload0 (q := 182) dX6_advance_181 rfl ?_
              refine G_X6_start (q := 185) fl_X6_226 dX6_advance_182 rfl ?_
              refine V_int (show _ = nI s by rw [upd2_ne (by decide), upd2_ne (by decide)]; exact g13) ?_
              refine E_isubN (q := 186) dX6_advance_185 (by omega) rfl ?_
              refine E_imulN (q := 187) dX6_advance_186 rfl ?_
              refine E_isubN (q := 188) dX6_advance_187 (by omega) rfl ?_
              refine E_ishl (q := 189) dX6_advance_188 rfl ?_
              refine E_ior (q := 190) dX6_advance_189 rfl ?_
              refine E_goto (q := 197) dX6_advance_190 (by decide) ?_
              refine P_X6_letters (q := 200) fl_X6_233 dX6_advance_197 rfl ?_
              refine E_aload0 (q := 201) dX6_advance_200 rfl ?_
              refine E_dup (q := 202) dX6_advance_201 rfl rfl ?_
              refine G_X6_at (q := 205) fl_X6_214 dX6_advance_202 rfl ?_
              refine V_int (show _ = nI (s + k) by rw [upd2_ne (by decide), upd2_ne (by decide), upd2_ne (by decide)]; exact g12) ?_
              refine E_iconst (v := nI 1) (q := 206) dX6_advance_205 (by decide) rfl ?_
              refine E_iaddN (q := 207) dX6_advance_206 rfl ?_
              refine P_X6_at (q := 210) fl_X6_214 dX6_advance_207 rfl ?_
              refine E_goto (q := 97) dX6_advance_210 (by decide) ?_
              exact hfin _ _ (wdI_s (by omega) (by omega)) (show nI (nmN b s k) ||| (nI (b (s + k) - 96) <<< (nI (25 - 5 * (s + k - s)) &&& 31)) = _ by rw [show s + k - s = k by omega]; exact nm_step c6 (by omega))
      · have hn6 : nmN b s (k + 1) = nmN b s k := by rw [nmN, if_neg c6, Nat.add_zero]
        by_cases c12 : k < 12
        · skip
          refine E_aload0 (q := 98) dX6_advance_97 rfl ?_
          refine C_V0I (q := 101) lk_X6_223 (sp_X6_byteAtT (hX.fr hF).1 g12 (by omega) hX.2.1 (hX.fr hF).2.2.2) rc_X6 dX6_advance_98 (by decide) (Nat.le_of_ble_eq_true rfl) rfl ?_
          refine E_bipush (v := nI 97) (q := 103) dX6_advance_101 (by decide) rfl ?_
          refine E_bipush (v := nI 122) (q := 105) dX6_advance_103 (by decide) rfl ?_
          refine C_S3I (q := 108) lk_X6_60 (sp_X6_inRange) dX6_advance_105 (by decide) (Nat.le_of_ble_eq_true rfl) rfl ?_
          refine E_if_eq (tgt := 328) (q := 111) dX6_advance_108 (by decide) rfl (fun h108 => ?_) (fun h108 => ?_)
          · skip
            exact absurd (show nI 97 ≤ nI (b (s + k)) ∧ nI (b (s + k)) ≤ nI 122 from ⟨(nI_leI (by decide) (by omega)).mpr hl.1, (nI_leI (by omega) (by decide)).mpr hl.2⟩) (zI_0 h108)
          · skip
            refine E_aload0 (q := 112) dX6_advance_111 rfl ?_
            refine C_V0I (q := 115) lk_X6_223 (sp_X6_byteAtT (hX.fr hF).1 g12 (by omega) hX.2.1 (hX.fr hF).2.2.2) rc_X6 dX6_advance_112 (by decide) (Nat.le_of_ble_eq_true rfl) rfl ?_
            refine E_bipush (v := nI 96) (q := 117) dX6_advance_115 (by decide) rfl ?_
            refine E_isubN (q := 118) dX6_advance_117 (by omega) rfl ?_
            refine E_istore1 (q := 119) dX6_advance_118 rfl rfl ?_
            refine E_aload0 (q := 120) dX6_advance_119 rfl ?_
            refine E_aload0 (q := 121) dX6_advance_120 rfl ?_
            refine G_X6_at (q := 124) fl_X6_214 dX6_advance_121 rfl ?_
            refine V_int g12 ?_
            refine E_aload0 (q := 125) dX6_advance_124 rfl ?_
            refine G_X6_start (q := 128) fl_X6_226 dX6_advance_125 rfl ?_
            refine V_int g13 ?_
            refine E_isubN (q := 129) dX6_advance_128 (by omega) rfl ?_
            refine E_bipush (v := nI 12) (q := 131) dX6_advance_129 (by decide) rfl ?_
            refine E_icmp_geN (tgt := 148) (q := 134) dX6_advance_131 (by decide) rfl (by omega) (by omega) (fun h131 => ?_) (fun h131 => ?_)
            · skip
              exact absurd h131 (by omega)
            · skip
              refine E_ldc2 (q := 137) dX6_advance_134 cn_X6_242 rfl ?_
              refine E_aload0 (q := 138) dX6_advance_137 rfl ?_
              refine G_X6_word (q := 141) fl_X6_229 dX6_advance_138 rfl ?_
              refine V_long g16 ?_
              refine E_lmul (q := 142) dX6_advance_141 rfl ?_
              refine E_iload1 (q := 143) dX6_advance_142 rfl ?_
              refine E_i2l (q := 144) dX6_advance_143 rfl ?_
              refine E_ladd (q := 145) dX6_advance_144 rfl ?_
              refine E_goto (q := 151) dX6_advance_145 (by decide) ?_
              refine P_X6_word (q := 154) fl_X6_229 dX6_advance_151 rfl ?_
              refine E_aload0 (q := 155) dX6_advance_154 rfl ?_
              refine E_aload0 (q := 156) dX6_advance_155 rfl ?_
              refine G_X6_at (q := 159) fl_X6_214 dX6_advance_156 rfl ?_
              refine V_int (show _ = nI (s + k) by rw [upd2_ne (by decide), upd2_ne (by decide)]; exact g12) ?_
              refine E_aload0 (q := 160) dX6_advance_159 rfl ?_
              refine G_X6_start (q := 163) fl_X6_226 dX6_advance_160 rfl ?_
              refine V_int (show _ = nI s by rw [upd2_ne (by decide), upd2_ne (by decide)]; exact g13) ?_
              refine E_isubN (q := 164) dX6_advance_163 (by omega) rfl ?_
              refine E_bipush (v := nI 6) (q := 166) dX6_advance_164 (by decide) rfl ?_
              refine E_icmp_geN (tgt := 193) (q := 169) dX6_advance_166 (by decide) rfl (by omega) (by omega) (fun h166 => ?_) (fun h166 => ?_)
              · skip
                refine E_aload0 (q := 194) dX6_advance_193 rfl ?_
                refine G_X6_letters (q := 197) fl_X6_233 dX6_advance_194 rfl ?_
                refine V_int (show _ = nI (nmN b s k) by rw [upd2_ne (by decide), upd2_ne (by decide)]; exact g17) ?_
                refine P_X6_letters (q := 200) fl_X6_233 dX6_advance_197 rfl ?_
                refine E_aload0 (q := 201) dX6_advance_200 rfl ?_
                refine E_dup (q := 202) dX6_advance_201 rfl rfl ?_
                refine G_X6_at (q := 205) fl_X6_214 dX6_advance_202 rfl ?_
                refine V_int (show _ = nI (s + k) by rw [upd2_ne (by decide), upd2_ne (by decide), upd2_ne (by decide)]; exact g12) ?_
                refine E_iconst (v := nI 1) (q := 206) dX6_advance_205 (by decide) rfl ?_
                refine E_iaddN (q := 207) dX6_advance_206 rfl ?_
                refine P_X6_at (q := 210) fl_X6_214 dX6_advance_207 rfl ?_
                refine E_goto (q := 97) dX6_advance_210 (by decide) ?_
                exact hfin _ _ (wdI_s c12 (by omega)) (by rw [hn6])
              · skip
                exact absurd h166 (by omega)
        · skip
          refine E_aload0 (q := 98) dX6_advance_97 rfl ?_
          refine C_V0I (q := 101) lk_X6_223 (sp_X6_byteAtT (hX.fr hF).1 g12 (by omega) hX.2.1 (hX.fr hF).2.2.2) rc_X6 dX6_advance_98 (by decide) (Nat.le_of_ble_eq_true rfl) rfl ?_
          refine E_bipush (v := nI 97) (q := 103) dX6_advance_101 (by decide) rfl ?_
          refine E_bipush (v := nI 122) (q := 105) dX6_advance_103 (by decide) rfl ?_
          refine C_S3I (q := 108) lk_X6_60 (sp_X6_inRange) dX6_advance_105 (by decide) (Nat.le_of_ble_eq_true rfl) rfl ?_
          refine E_if_eq (tgt := 328) (q := 111) dX6_advance_108 (by decide) rfl (fun h108 => ?_) (fun h108 => ?_)
          · skip
            exact absurd (show nI 97 ≤ nI (b (s + k)) ∧ nI (b (s + k)) ≤ nI 122 from ⟨(nI_leI (by decide) (by omega)).mpr hl.1, (nI_leI (by omega) (by decide)).mpr hl.2⟩) (zI_0 h108)
          · skip
            refine E_aload0 (q := 112) dX6_advance_111 rfl ?_
            refine C_V0I (q := 115) lk_X6_223 (sp_X6_byteAtT (hX.fr hF).1 g12 (by omega) hX.2.1 (hX.fr hF).2.2.2) rc_X6 dX6_advance_112 (by decide) (Nat.le_of_ble_eq_true rfl) rfl ?_
            refine E_bipush (v := nI 96) (q := 117) dX6_advance_115 (by decide) rfl ?_
            refine E_isubN (q := 118) dX6_advance_117 (by omega) rfl ?_
            refine E_istore1 (q := 119) dX6_advance_118 rfl rfl ?_
            refine E_aload0 (q := 120) dX6_advance_119 rfl ?_
            refine E_aload0 (q := 121) dX6_advance_120 rfl ?_
            refine G_X6_at (q := 124) fl_X6_214 dX6_advance_121 rfl ?_
            refine V_int g12 ?_
            refine E_aload0 (q := 125) dX6_advance_124 rfl ?_
            refine G_X6_start (q := 128) fl_X6_226 dX6_advance_125 rfl ?_
            refine V_int g13 ?_
            refine E_isubN (q := 129) dX6_advance_128 (by omega) rfl ?_
            refine E_bipush (v := nI 12) (q := 131) dX6_advance_129 (by decide) rfl ?_
            refine E_icmp_geN (tgt := 148) (q := 134) dX6_advance_131 (by decide) rfl (by omega) (by omega) (fun h131 => ?_) (fun h131 => ?_)
            · skip
              refine E_ldc2 (q := 151) dX6_advance_148 cn_X6_244 rfl ?_
              refine P_X6_word (q := 154) fl_X6_229 dX6_advance_151 rfl ?_
              refine E_aload0 (q := 155) dX6_advance_154 rfl ?_
              refine E_aload0 (q := 156) dX6_advance_155 rfl ?_
              refine G_X6_at (q := 159) fl_X6_214 dX6_advance_156 rfl ?_
              refine V_int (show _ = nI (s + k) by rw [upd2_ne (by decide), upd2_ne (by decide)]; exact g12) ?_
              refine E_aload0 (q := 160) dX6_advance_159 rfl ?_
              refine G_X6_start (q := 163) fl_X6_226 dX6_advance_160 rfl ?_
              refine V_int (show _ = nI s by rw [upd2_ne (by decide), upd2_ne (by decide)]; exact g13) ?_
              refine E_isubN (q := 164) dX6_advance_163 (by omega) rfl ?_
              refine E_bipush (v := nI 6) (q := 166) dX6_advance_164 (by decide) rfl ?_
              refine E_icmp_geN (tgt := 193) (q := 169) dX6_advance_166 (by decide) rfl (by omega) (by omega) (fun h166 => ?_) (fun h166 => ?_)
              · skip
                refine E_aload0 (q := 194) dX6_advance_193 rfl ?_
                refine G_X6_letters (q := 197) fl_X6_233 dX6_advance_194 rfl ?_
                refine V_int (show _ = nI (nmN b s k) by rw [upd2_ne (by decide), upd2_ne (by decide)]; exact g17) ?_
                refine P_X6_letters (q := 200) fl_X6_233 dX6_advance_197 rfl ?_
                refine E_aload0 (q := 201) dX6_advance_200 rfl ?_
                refine E_dup (q := 202) dX6_advance_201 rfl rfl ?_
                refine G_X6_at (q := 205) fl_X6_214 dX6_advance_202 rfl ?_
                refine V_int (show _ = nI (s + k) by rw [upd2_ne (by decide), upd2_ne (by decide), upd2_ne (by decide)]; exact g12) ?_
                refine E_iconst (v := nI 1) (q := 206) dX6_advance_205 (by decide) rfl ?_
                refine E_iaddN (q := 207) dX6_advance_206 rfl ?_
                refine P_X6_at (q := 210) fl_X6_214 dX6_advance_207 rfl ?_
                refine E_goto (q := 97) dX6_advance_210 (by decide) ?_
                exact hfin _ _ (wdI_e c12) (by rw [hn6])
              · skip
                exact absurd h166 (by omega)
            · skip
              exact absurd h131 (by omega)
  intro M1 hF g12 g13 g14 g15 g16 g17
  exact hmain M1 hF g12 g13 g14 g15 (g16.trans rfl) g17
theorem ad_int (hX : TxR M b n) (hk : knd b n s = 2) : ∀ M1, FrA M M1 → M1 157 12 = nI s → M1 157 13 = nI s → M1 157 14 = nI 2 → M1 157 15 = nI 0 → M1 157 17 = nI 0 → V D cfX6_advance (rmOf 3 0 0) (QM D (PY (AdvP D ad M b n s)) 0 0) 0 0 232 [some (.ref (ad 157)), none] [] (wl D ad M1) := by
  have hsn := (knd_2.mp hk).1
  obtain ⟨e1, e2, e3, e4⟩ := tokE_sp hsn (Or.inr hk)
  have hdig : ∀ j, j < tokE b n s - s → 48 ≤ b (s + j) ∧ b (s + j) ≤ 57 := fun j hj => (knd_2.mp ((e4 (s + j) (by omega) (by omega)).trans hk)).2
  have hn := hX.2.1
  have hmain : ∀ M1, FrA M M1 → M1 157 12 = nI (s + 0) → M1 157 13 = nI s → M1 157 14 = nI 2 → M1 157 15 = nI (itN b s 0) → M1 157 17 = nI 0 → V D cfX6_advance (rmOf 3 0 0) (QM D (PY (AdvP D ad M b n s)) 0 0) 0 0 232 [some (.ref (ad 157)), none] [] (wl D ad M1) := by
    refine upto0 (n := tokE b n s - s) (P := fun k => ∀ M1, FrA M M1 → M1 157 12 = nI (s + k) → M1 157 13 = nI s → M1 157 14 = nI 2 → M1 157 15 = nI (itN b s k) → M1 157 17 = nI 0 → V D cfX6_advance (rmOf 3 0 0) (QM D (PY (AdvP D ad M b n s)) 0 0) 0 0 232 [some (.ref (ad 157)), none] [] (wl D ad M1)) ?_ ?_
    · intro M1 hF g12 g13 g14 g15 g17
      rw [show s + (tokE b n s - s) = tokE b n s by omega] at g12
      have hil := itN_le (b := b) (s := s) (tokE b n s - s)
      have hend : ∃ M', wl D ad M1 = wl D ad M' ∧ LxR M' b n s ∧ FrA M M' := ⟨M1, rfl, ⟨g12, g13, by rw [hk]; exact g14, fun _ => g15, fun z => by omega, ⟨_, by omega, g15⟩, ⟨0, by decide, g17⟩⟩, hF⟩
      by_cases c : tokE b n s < n
      · have hne : ¬ (48 ≤ b (tokE b n s) ∧ b (tokE b n s) ≤ 57) := fun z => e3 (by rw [hk]; exact knd_2.mpr ⟨c, z⟩)
        have h256 := hX.2.2.1 (tokE b n s)
        refine E_aload0 (q := 233) dX6_advance_232 rfl ?_
        refine C_V0I (q := 236) lk_X6_223 (sp_X6_byteAtT (hX.fr hF).1 g12 c hX.2.1 (hX.fr hF).2.2.2) rc_X6 dX6_advance_233 (by decide) (Nat.le_of_ble_eq_true rfl) rfl ?_
        refine E_bipush (v := nI 48) (q := 238) dX6_advance_236 (by decide) rfl ?_
        refine E_bipush (v := nI 57) (q := 240) dX6_advance_238 (by decide) rfl ?_
        refine C_S3I (q := 243) lk_X6_60 (sp_X6_inRange) dX6_advance_240 (by decide) (Nat.le_of_ble_eq_true rfl) rfl ?_
        refine E_if_eq (tgt := 328) (q := 246) dX6_advance_243 (by decide) rfl (fun h243 => ?_) (fun h243 => ?_)
        · skip
          exact E_vreturn rfl rfl dX6_advance_328 ⟨rfl, hend⟩
        · skip
          exact absurd (zI_n h243) (fun z => hne ⟨(nI_leI (by decide) (by omega)).mp z.1, (nI_leI (by omega) (by decide)).mp z.2⟩)
      · skip
        refine E_aload0 (q := 233) dX6_advance_232 rfl ?_
        refine C_V0I (q := 236) lk_X6_223 (sp_X6_byteAtF (hX.fr hF).1 g12 (by omega) (by omega)) rc_X6 dX6_advance_233 (by decide) (Nat.le_of_ble_eq_true rfl) rfl ?_
        refine E_bipush (v := nI 48) (q := 238) dX6_advance_236 (by decide) rfl ?_
        refine E_bipush (v := nI 57) (q := 240) dX6_advance_238 (by decide) rfl ?_
        refine C_S3I (q := 243) lk_X6_60 (sp_X6_inRange) dX6_advance_240 (by decide) (Nat.le_of_ble_eq_true rfl) rfl ?_
        refine E_if_eq (tgt := 328) (q := 246) dX6_advance_243 (by decide) rfl (fun h243 => ?_) (fun h243 => ?_)
        · skip
          exact E_vreturn rfl rfl dX6_advance_328 ⟨rfl, hend⟩
        · skip
          exact absurd (zI_n h243) (fun z => absurd z.1 (by decide))
    · intro k hkk ih M1 hF g12 g13 g14 g15 g17
      have hl := hdig k hkk
      have hil := itN_le (b := b) (s := s) k
      have hs1 : itN b s (k + 1) = if 1000000 < 10 * itN b s k + (b (s + k) - 48) then 1000000 else 10 * itN b s k + (b (s + k) - 48) := rfl
      have hfin : ∀ x y, x = nI (itN b s (k + 1)) → V D cfX6_advance (rmOf 3 0 0) (QM D (PY (AdvP D ad M b n s)) 0 0) 0 0 232 [some (.ref (ad 157)), none] [] (wl D ad (upd2 (upd2 (upd2 M1 157 15 y) 157 15 x) 157 12 (nI (s + (k + 1))))) := fun x y hx => ih _ (((hF.u (by decide)).u (by decide)).u (by decide)) upd2_same (by rw [upd2_ne (by decide), upd2_ne (by decide), upd2_ne (by decide)]; exact g13) (by rw [upd2_ne (by decide), upd2_ne (by decide), upd2_ne (by decide)]; exact g14) (by rw [upd2_ne (by decide)]; exact upd2_same.trans hx) (by rw [upd2_ne (by decide), upd2_ne (by decide), upd2_ne (by decide)]; exact g17)
      refine E_aload0 (q := 233) dX6_advance_232 rfl ?_
      refine C_V0I (q := 236) lk_X6_223 (sp_X6_byteAtT (hX.fr hF).1 g12 (by omega) hX.2.1 (hX.fr hF).2.2.2) rc_X6 dX6_advance_233 (by decide) (Nat.le_of_ble_eq_true rfl) rfl ?_
      refine E_bipush (v := nI 48) (q := 238) dX6_advance_236 (by decide) rfl ?_
      refine E_bipush (v := nI 57) (q := 240) dX6_advance_238 (by decide) rfl ?_
      refine C_S3I (q := 243) lk_X6_60 (sp_X6_inRange) dX6_advance_240 (by decide) (Nat.le_of_ble_eq_true rfl) rfl ?_
      refine E_if_eq (tgt := 328) (q := 246) dX6_advance_243 (by decide) rfl (fun h243 => ?_) (fun h243 => ?_)
      · skip
        exact absurd (show nI 48 ≤ nI (b (s + k)) ∧ nI (b (s + k)) ≤ nI 57 from ⟨(nI_leI (by decide) (by omega)).mpr hl.1, (nI_leI (by omega) (by decide)).mpr hl.2⟩) (zI_0 h243)
      · skip
        refine E_aload0 (q := 247) dX6_advance_246 rfl ?_
        refine E_bipush (v := nI 10) (q := 249) dX6_advance_247 (by decide) rfl ?_
        refine E_aload0 (q := 250) dX6_advance_249 rfl ?_
        refine G_X6_integer (q := 253) fl_X6_236 dX6_advance_250 rfl ?_
        refine V_int g15 ?_
        refine E_imulN (q := 254) dX6_advance_253 rfl ?_
        refine E_aload0 (q := 255) dX6_advance_254 rfl ?_
        refine C_V0I (q := 258) lk_X6_223 (sp_X6_byteAtT (hX.fr hF).1 g12 (by omega) hX.2.1 (hX.fr hF).2.2.2) rc_X6 dX6_advance_255 (by decide) (Nat.le_of_ble_eq_true rfl) rfl ?_
        refine E_iaddN (q := 259) dX6_advance_258 rfl ?_
        refine E_bipush (v := nI 48) (q := 261) dX6_advance_259 (by decide) rfl ?_
        refine E_isubN (q := 262) dX6_advance_261 (by omega) rfl ?_
        refine P_X6_integer (q := 265) fl_X6_236 dX6_advance_262 rfl ?_
        refine E_aload0 (q := 266) dX6_advance_265 rfl ?_
        refine E_aload0 (q := 267) dX6_advance_266 rfl ?_
        refine G_X6_integer (q := 270) fl_X6_236 dX6_advance_267 rfl ?_
        refine V_int upd2_same ?_
        refine E_ldc (q := 272) dX6_advance_270 cn_X6_246 rfl ?_
        refine V_st (show _ = .int (nI 1000000) :: .int (nI (10 * itN b s k + b (s + k) - 48)) :: .ref (ad 157) :: [] from rfl) ?_
        refine E_icmp_leN (tgt := 280) (q := 275) dX6_advance_272 (by decide) rfl (by omega) (by omega) (fun h272 => ?_) (fun h272 => ?_)
        · skip
          skip
          refine E_aload0 (q := 281) dX6_advance_280 rfl ?_
          refine G_X6_integer (q := 284) fl_X6_236 dX6_advance_281 rfl ?_
          refine V_int (show _ = nI (itN b s (k + 1)) by rw [upd2_same, hs1, if_neg (by omega)]; exact congrArg nI (by omega)) ?_
          refine P_X6_integer (q := 287) fl_X6_236 dX6_advance_284 rfl ?_
          refine E_aload0 (q := 288) dX6_advance_287 rfl ?_
          refine E_dup (q := 289) dX6_advance_288 rfl rfl ?_
          refine G_X6_at (q := 292) fl_X6_214 dX6_advance_289 rfl ?_
          refine V_int (show _ = nI (s + k) by rw [upd2_ne (by decide), upd2_ne (by decide)]; exact g12) ?_
          refine E_iconst (v := nI 1) (q := 293) dX6_advance_292 (by decide) rfl ?_
          refine E_iaddN (q := 294) dX6_advance_293 rfl ?_
          refine P_X6_at (q := 297) fl_X6_214 dX6_advance_294 rfl ?_
          refine E_goto (q := 232) dX6_advance_297 (by decide) ?_
          exact hfin _ _ rfl
        · skip
          refine E_ldc (q := 277) dX6_advance_275 cn_X6_246 rfl ?_
          refine E_goto (q := 284) dX6_advance_277 (by decide) ?_
          refine V_int (show _ = nI (itN b s (k + 1)) by rw [hs1, if_pos (by omega)]; rfl) ?_
          refine P_X6_integer (q := 287) fl_X6_236 dX6_advance_284 rfl ?_
          refine E_aload0 (q := 288) dX6_advance_287 rfl ?_
          refine E_dup (q := 289) dX6_advance_288 rfl rfl ?_
          refine G_X6_at (q := 292) fl_X6_214 dX6_advance_289 rfl ?_
          refine V_int (show _ = nI (s + k) by rw [upd2_ne (by decide), upd2_ne (by decide)]; exact g12) ?_
          refine E_iconst (v := nI 1) (q := 293) dX6_advance_292 (by decide) rfl ?_
          refine E_iaddN (q := 294) dX6_advance_293 rfl ?_
          refine P_X6_at (q := 297) fl_X6_214 dX6_advance_294 rfl ?_
          refine E_goto (q := 232) dX6_advance_297 (by decide) ?_
          exact hfin _ _ rfl
  intro M1 hF g12 g13 g14 g15 g17
  exact hmain M1 hF g12 g13 g14 g15 g17

theorem ad_tail (hX : TxR M b n) (hs : s ≤ n) : ∀ M1, FrA M M1 → M1 157 12 = nI s → M1 157 13 = nI s → M1 157 15 = nI 0 → lgOf (M1 157 16) (M1 157 1016) = 0 → M1 157 17 = nI 0 → V D cfX6_advance (rmOf 3 0 0) (QM D (PY (AdvP D ad M b n s)) 0 0) 0 0 62 [some (.ref (ad 157)), none] [] (wl D ad M1) := by
  intro M1 hF g12 g13 g15 g16 g17
  have hn := hX.2.1
  have hkl := knd_le (b := b) (n := n) (q := s)
  by_cases k0 : knd b n s = 0
  · have hns := knd_0.mp k0
    refine E_aload0 (q := 63) dX6_advance_62 rfl ?_
    refine C_V0I (q := 66) lk_X6_223 (sp_X6_byteAtF (hX.fr hF).1 g12 hns (by omega)) rc_X6 dX6_advance_63 (by decide) (Nat.le_of_ble_eq_true rfl) rfl ?_
    refine E_iconst (v := -1) (q := 67) dX6_advance_66 (by decide) rfl ?_
    refine E_icmp_ne (tgt := 78) (q := 70) dX6_advance_67 (by decide) rfl (fun h67 => ?_) (fun h67 => ?_)
    · first | exact absurd h67 (by decide) | exact absurd (by decide) h67
    · skip
      refine E_aload0 (q := 71) dX6_advance_70 rfl ?_
      refine E_iconst (v := nI 0) (q := 72) dX6_advance_71 (by decide) rfl ?_
      refine P_X6_token (q := 75) fl_X6_239 dX6_advance_72 rfl ?_
      refine E_goto (q := 328) dX6_advance_75 (by decide) ?_
      exact E_vreturn rfl rfl dX6_advance_328 ⟨rfl, _, rfl, ⟨by rw [upd2_ne (by decide), tokE_end hns, show n = s by omega]; exact g12, by rw [upd2_ne (by decide)]; exact g13, by rw [k0]; exact upd2_same, fun z => by omega, fun z => by omega, ⟨0, by decide, by rw [upd2_ne (by decide)]; exact g15⟩, ⟨0, by decide, by rw [upd2_ne (by decide)]; exact g17⟩⟩, hF.u (by decide)⟩
  · have hsn : s < n := Nat.lt_of_not_le fun z => k0 (knd_0.mpr z)
    have h256 := hX.2.2.1 s
    by_cases k1 : knd b n s = 1
    · have hl := (knd_1.mp k1).2
      refine E_aload0 (q := 63) dX6_advance_62 rfl ?_
      refine C_V0I (q := 66) lk_X6_223 (sp_X6_byteAtT (hX.fr hF).1 g12 hsn hX.2.1 (hX.fr hF).2.2.2) rc_X6 dX6_advance_63 (by decide) (Nat.le_of_ble_eq_true rfl) rfl ?_
      refine E_iconst (v := -1) (q := 67) dX6_advance_66 (by decide) rfl ?_
      refine E_icmp_ne (tgt := 78) (q := 70) dX6_advance_67 (by decide) rfl (fun h67 => ?_) (fun h67 => ?_)
      · skip
        refine E_aload0 (q := 79) dX6_advance_78 rfl ?_
        refine C_V0I (q := 82) lk_X6_223 (sp_X6_byteAtT (hX.fr hF).1 g12 hsn hX.2.1 (hX.fr hF).2.2.2) rc_X6 dX6_advance_79 (by decide) (Nat.le_of_ble_eq_true rfl) rfl ?_
        refine E_bipush (v := nI 97) (q := 84) dX6_advance_82 (by decide) rfl ?_
        refine E_bipush (v := nI 122) (q := 86) dX6_advance_84 (by decide) rfl ?_
        refine C_S3I (q := 89) lk_X6_60 (sp_X6_inRange) dX6_advance_86 (by decide) (Nat.le_of_ble_eq_true rfl) rfl ?_
        refine E_if_eq (tgt := 213) (q := 92) dX6_advance_89 (by decide) rfl (fun h89 => ?_) (fun h89 => ?_)
        · skip
          exact absurd (show nI 97 ≤ nI (b s) ∧ nI (b s) ≤ nI 122 from ⟨(nI_leI (by decide) (by omega)).mpr hl.1, (nI_leI (by omega) (by decide)).mpr hl.2⟩) (zI_0 h89)
        · skip
          refine E_aload0 (q := 93) dX6_advance_92 rfl ?_
          refine E_iconst (v := nI 1) (q := 94) dX6_advance_93 (by decide) rfl ?_
          refine P_X6_token (q := 97) fl_X6_239 dX6_advance_94 rfl ?_
          exact ad_word hX k1 _ (hF.u (by decide)) (by rw [upd2_ne (by decide)]; exact g12) (by rw [upd2_ne (by decide)]; exact g13) upd2_same (by rw [upd2_ne (by decide)]; exact g15) (by rw [upd2_ne (by decide), upd2_ne (by decide)]; exact g16) (by rw [upd2_ne (by decide)]; exact g17)
      · skip
        exact absurd h67 (nI_nm1 (by omega))
    · have hl : ¬ (97 ≤ b s ∧ b s ≤ 122) := fun z => k1 (knd_1.mpr ⟨hsn, z⟩)
      by_cases k2 : knd b n s = 2
      · have hd := (knd_2.mp k2).2
        refine E_aload0 (q := 63) dX6_advance_62 rfl ?_
        refine C_V0I (q := 66) lk_X6_223 (sp_X6_byteAtT (hX.fr hF).1 g12 hsn hX.2.1 (hX.fr hF).2.2.2) rc_X6 dX6_advance_63 (by decide) (Nat.le_of_ble_eq_true rfl) rfl ?_
        refine E_iconst (v := -1) (q := 67) dX6_advance_66 (by decide) rfl ?_
        refine E_icmp_ne (tgt := 78) (q := 70) dX6_advance_67 (by decide) rfl (fun h67 => ?_) (fun h67 => ?_)
        · skip
          refine E_aload0 (q := 79) dX6_advance_78 rfl ?_
          refine C_V0I (q := 82) lk_X6_223 (sp_X6_byteAtT (hX.fr hF).1 g12 hsn hX.2.1 (hX.fr hF).2.2.2) rc_X6 dX6_advance_79 (by decide) (Nat.le_of_ble_eq_true rfl) rfl ?_
          refine E_bipush (v := nI 97) (q := 84) dX6_advance_82 (by decide) rfl ?_
          refine E_bipush (v := nI 122) (q := 86) dX6_advance_84 (by decide) rfl ?_
          refine C_S3I (q := 89) lk_X6_60 (sp_X6_inRange) dX6_advance_86 (by decide) (Nat.le_of_ble_eq_true rfl) rfl ?_
          refine E_if_eq (tgt := 213) (q := 92) dX6_advance_89 (by decide) rfl (fun h89 => ?_) (fun h89 => ?_)
          · skip
            refine E_aload0 (q := 214) dX6_advance_213 rfl ?_
            refine C_V0I (q := 217) lk_X6_223 (sp_X6_byteAtT (hX.fr hF).1 g12 hsn hX.2.1 (hX.fr hF).2.2.2) rc_X6 dX6_advance_214 (by decide) (Nat.le_of_ble_eq_true rfl) rfl ?_
            refine E_bipush (v := nI 48) (q := 219) dX6_advance_217 (by decide) rfl ?_
            refine E_bipush (v := nI 57) (q := 221) dX6_advance_219 (by decide) rfl ?_
            refine C_S3I (q := 224) lk_X6_60 (sp_X6_inRange) dX6_advance_221 (by decide) (Nat.le_of_ble_eq_true rfl) rfl ?_
            refine E_if_eq (tgt := 300) (q := 227) dX6_advance_224 (by decide) rfl (fun h224 => ?_) (fun h224 => ?_)
            · skip
              exact absurd (show nI 48 ≤ nI (b s) ∧ nI (b s) ≤ nI 57 from ⟨(nI_leI (by decide) (by omega)).mpr hd.1, (nI_leI (by omega) (by decide)).mpr hd.2⟩) (zI_0 h224)
            · skip
              refine E_aload0 (q := 228) dX6_advance_227 rfl ?_
              refine E_iconst (v := nI 2) (q := 229) dX6_advance_228 (by decide) rfl ?_
              refine P_X6_token (q := 232) fl_X6_239 dX6_advance_229 rfl ?_
              exact ad_int hX k2 _ (hF.u (by decide)) (by rw [upd2_ne (by decide)]; exact g12) (by rw [upd2_ne (by decide)]; exact g13) upd2_same (by rw [upd2_ne (by decide)]; exact g15) (by rw [upd2_ne (by decide)]; exact g17)
          · skip
            exact absurd (zI_n h89) (fun z => hl ⟨(nI_leI (by decide) (by omega)).mp z.1, (nI_leI (by omega) (by decide)).mp z.2⟩)
        · skip
          exact absurd h67 (nI_nm1 (by omega))
      · have hd : ¬ (48 ≤ b s ∧ b s ≤ 57) := fun z => k2 (knd_2.mpr ⟨hsn, z⟩)
        have hte := tokE_one hsn k1 k2
        refine E_aload0 (q := 63) dX6_advance_62 rfl ?_
        refine C_V0I (q := 66) lk_X6_223 (sp_X6_byteAtT (hX.fr hF).1 g12 hsn hX.2.1 (hX.fr hF).2.2.2) rc_X6 dX6_advance_63 (by decide) (Nat.le_of_ble_eq_true rfl) rfl ?_
        refine E_iconst (v := -1) (q := 67) dX6_advance_66 (by decide) rfl ?_
        refine E_icmp_ne (tgt := 78) (q := 70) dX6_advance_67 (by decide) rfl (fun h67 => ?_) (fun h67 => ?_)
        · skip
          refine E_aload0 (q := 79) dX6_advance_78 rfl ?_
          refine C_V0I (q := 82) lk_X6_223 (sp_X6_byteAtT (hX.fr hF).1 g12 hsn hX.2.1 (hX.fr hF).2.2.2) rc_X6 dX6_advance_79 (by decide) (Nat.le_of_ble_eq_true rfl) rfl ?_
          refine E_bipush (v := nI 97) (q := 84) dX6_advance_82 (by decide) rfl ?_
          refine E_bipush (v := nI 122) (q := 86) dX6_advance_84 (by decide) rfl ?_
          refine C_S3I (q := 89) lk_X6_60 (sp_X6_inRange) dX6_advance_86 (by decide) (Nat.le_of_ble_eq_true rfl) rfl ?_
          refine E_if_eq (tgt := 213) (q := 92) dX6_advance_89 (by decide) rfl (fun h89 => ?_) (fun h89 => ?_)
          · skip
            refine E_aload0 (q := 214) dX6_advance_213 rfl ?_
            refine C_V0I (q := 217) lk_X6_223 (sp_X6_byteAtT (hX.fr hF).1 g12 hsn hX.2.1 (hX.fr hF).2.2.2) rc_X6 dX6_advance_214 (by decide) (Nat.le_of_ble_eq_true rfl) rfl ?_
            refine E_bipush (v := nI 48) (q := 219) dX6_advance_217 (by decide) rfl ?_
            refine E_bipush (v := nI 57) (q := 221) dX6_advance_219 (by decide) rfl ?_
            refine C_S3I (q := 224) lk_X6_60 (sp_X6_inRange) dX6_advance_221 (by decide) (Nat.le_of_ble_eq_true rfl) rfl ?_
            refine E_if_eq (tgt := 300) (q := 227) dX6_advance_224 (by decide) rfl (fun h224 => ?_) (fun h224 => ?_)
            · skip
              refine E_aload0 (q := 301) dX6_advance_300 rfl ?_
              refine E_aload0 (q := 302) dX6_advance_301 rfl ?_
              refine C_V0I (q := 305) lk_X6_223 (sp_X6_byteAtT (hX.fr hF).1 g12 hsn hX.2.1 (hX.fr hF).2.2.2) rc_X6 dX6_advance_302 (by decide) (Nat.le_of_ble_eq_true rfl) rfl ?_
              refine E_bipush (v := nI 59) (q := 307) dX6_advance_305 (by decide) rfl ?_
              refine E_icmp_neN (tgt := 314) (q := 310) dX6_advance_307 (by decide) rfl (by omega) (by omega) (fun h307 => ?_) (fun h307 => ?_)
              · skip
                refine E_iconst (v := nI 4) (q := 315) dX6_advance_314 (by decide) rfl ?_
                refine V_int (show _ = nI (knd b n s) by rw [knd_4 hsn hl hd h307]) ?_
                refine P_X6_token (q := 318) fl_X6_239 dX6_advance_315 rfl ?_
                refine E_aload0 (q := 319) dX6_advance_318 rfl ?_
                refine E_dup (q := 320) dX6_advance_319 rfl rfl ?_
                refine G_X6_at (q := 323) fl_X6_214 dX6_advance_320 rfl ?_
                refine V_int (show _ = nI s by rw [upd2_ne (by decide)]; exact g12) ?_
                refine E_iconst (v := nI 1) (q := 324) dX6_advance_323 (by decide) rfl ?_
                refine E_iaddN (q := 325) dX6_advance_324 rfl ?_
                refine P_X6_at (q := 328) fl_X6_214 dX6_advance_325 rfl ?_
                exact E_vreturn rfl rfl dX6_advance_328 ⟨rfl, _, rfl, ⟨by rw [hte]; exact upd2_same, by rw [upd2_ne (by decide), upd2_ne (by decide)]; exact g13, by rw [upd2_ne (by decide)]; exact upd2_same, fun z => absurd z k2, fun z => absurd z k1, ⟨0, by decide, by rw [upd2_ne (by decide), upd2_ne (by decide)]; exact g15⟩, ⟨0, by decide, by rw [upd2_ne (by decide), upd2_ne (by decide)]; exact g17⟩⟩, (hF.u (by decide)).u (by decide)⟩
              · skip
                refine E_iconst (v := nI 3) (q := 311) dX6_advance_310 (by decide) rfl ?_
                refine E_goto (q := 315) dX6_advance_311 (by decide) ?_
                refine V_int (show _ = nI (knd b n s) by rw [knd_3.mpr ⟨hsn, h307⟩]) ?_
                refine P_X6_token (q := 318) fl_X6_239 dX6_advance_315 rfl ?_
                refine E_aload0 (q := 319) dX6_advance_318 rfl ?_
                refine E_dup (q := 320) dX6_advance_319 rfl rfl ?_
                refine G_X6_at (q := 323) fl_X6_214 dX6_advance_320 rfl ?_
                refine V_int (show _ = nI s by rw [upd2_ne (by decide)]; exact g12) ?_
                refine E_iconst (v := nI 1) (q := 324) dX6_advance_323 (by decide) rfl ?_
                refine E_iaddN (q := 325) dX6_advance_324 rfl ?_
                refine P_X6_at (q := 328) fl_X6_214 dX6_advance_325 rfl ?_
                exact E_vreturn rfl rfl dX6_advance_328 ⟨rfl, _, rfl, ⟨by rw [hte]; exact upd2_same, by rw [upd2_ne (by decide), upd2_ne (by decide)]; exact g13, by rw [upd2_ne (by decide)]; exact upd2_same, fun z => absurd z k2, fun z => absurd z k1, ⟨0, by decide, by rw [upd2_ne (by decide), upd2_ne (by decide)]; exact g15⟩, ⟨0, by decide, by rw [upd2_ne (by decide), upd2_ne (by decide)]; exact g17⟩⟩, (hF.u (by decide)).u (by decide)⟩
            · skip
              exact absurd (zI_n h224) (fun z => hd ⟨(nI_leI (by decide) (by omega)).mp z.1, (nI_leI (by omega) (by decide)).mp z.2⟩)
          · skip
            exact absurd (zI_n h89) (fun z => hl ⟨(nI_leI (by decide) (by omega)).mp z.1, (nI_leI (by omega) (by decide)).mp z.2⟩)
        · skip
          exact absurd h67 (nI_nm1 (by omega))
theorem sp_X6_advance (hX : TxR M b n) (h18 : M 157 18 = nI 0) (h12 : M 157 12 = nI p) (hp : p ≤ n) (hsg : tokS b n p = s) : Spec D 3 yX6_advance cfX6_advance [.ref (ad 157)] (wl D ad M) 0 0 (PY (AdvP D ad M b n s)) := by
  refine Spec.of (by decide) rfl (Nat.le_of_ble_eq_true rfl) rfl ?_
  obtain ⟨t1, t2, t3, t4⟩ := tokS_sp (b := b) hp
  rw [hsg] at t1 t2 t3 t4
  have hn := hX.2.1
  have hskip : ∀ M1, FrA M M1 → M1 157 12 = nI p → V D cfX6_advance (rmOf 3 0 0) (QM D (PY (AdvP D ad M b n s)) 0 0) 0 0 8 [some (.ref (ad 157)), none] [] (wl D ad M1) := by
    refine upto (n := s) (P := fun i => p ≤ i → ∀ M1, FrA M M1 → M1 157 12 = nI i → V D cfX6_advance (rmOf 3 0 0) (QM D (PY (AdvP D ad M b n s)) 0 0) 0 0 8 [some (.ref (ad 157)), none] [] (wl D ad M1)) ?_ ?_ p t1 (Nat.le_refl _)
    · intro _ M1 hF g12
      have hfin : V D cfX6_advance (rmOf 3 0 0) (QM D (PY (AdvP D ad M b n s)) 0 0) 0 0 39 [some (.ref (ad 157)), none] [] (wl D ad M1) := by
        refine E_aload0 (q := 40) dX6_advance_39 rfl ?_
        refine E_aload0 (q := 41) dX6_advance_40 rfl ?_
        refine G_X6_at (q := 44) fl_X6_214 dX6_advance_41 rfl ?_
        refine V_int g12 ?_
        refine P_X6_start (q := 47) fl_X6_226 dX6_advance_44 rfl ?_
        refine E_aload0 (q := 48) dX6_advance_47 rfl ?_
        refine E_lconst (v := 0) (q := 49) dX6_advance_48 rfl rfl ?_
        refine P_X6_word (q := 52) fl_X6_229 dX6_advance_49 rfl ?_
        refine E_aload0 (q := 53) dX6_advance_52 rfl ?_
        refine E_iconst (v := nI 0) (q := 54) dX6_advance_53 (by decide) rfl ?_
        refine P_X6_letters (q := 57) fl_X6_233 dX6_advance_54 rfl ?_
        refine E_aload0 (q := 58) dX6_advance_57 rfl ?_
        refine E_iconst (v := nI 0) (q := 59) dX6_advance_58 (by decide) rfl ?_
        refine P_X6_integer (q := 62) fl_X6_236 dX6_advance_59 rfl ?_
        exact ad_tail hX t2 _ (((((hF.u (by decide)).u (by decide)).u (by decide)).u (by decide)).u (by decide)) (by rw [upd2_ne (by decide), upd2_ne (by decide), upd2_ne (by decide), upd2_ne (by decide), upd2_ne (by decide)]; exact g12) (by rw [upd2_ne (by decide), upd2_ne (by decide), upd2_ne (by decide), upd2_ne (by decide)]; exact upd2_same) upd2_same (by rw [upd2_ne (k := 157) (j := 15) (a := 157) (b := 16) (by decide), upd2_ne (k := 157) (j := 17) (a := 157) (b := 16) (by decide), upd2_ne (k := 157) (j := 1016) (a := 157) (b := 16) (by decide), upd2_same, upd2_ne (k := 157) (j := 15) (a := 157) (b := 1016) (by decide), upd2_ne (k := 157) (j := 17) (a := 157) (b := 1016) (by decide), upd2_same, lgOf_hl]) (by rw [upd2_ne (by decide)]; exact upd2_same)
      by_cases c : s < n
      · have h256 := hX.2.2.1 s
        refine E_aload0 (q := 9) dX6_advance_8 rfl ?_
        refine C_V0I (q := 12) lk_X6_223 (sp_X6_byteAtT (hX.fr hF).1 g12 c hX.2.1 (hX.fr hF).2.2.2) rc_X6 dX6_advance_9 (by decide) (Nat.le_of_ble_eq_true rfl) rfl ?_
        refine E_bipush (v := nI 32) (q := 14) dX6_advance_12 (by decide) rfl ?_
        refine E_icmp_eqN (tgt := 26) (q := 17) dX6_advance_14 (by decide) rfl (by omega) (by omega) (fun h14 => ?_) (fun h14 => ?_)
        · skip
          exact absurd ⟨c, Or.inl h14⟩ t3
        · skip
          refine E_aload0 (q := 18) dX6_advance_17 rfl ?_
          refine C_V0I (q := 21) lk_X6_223 (sp_X6_byteAtT (hX.fr hF).1 g12 c hX.2.1 (hX.fr hF).2.2.2) rc_X6 dX6_advance_18 (by decide) (Nat.le_of_ble_eq_true rfl) rfl ?_
          refine E_bipush (v := nI 10) (q := 23) dX6_advance_21 (by decide) rfl ?_
          refine E_icmp_neN (tgt := 39) (q := 26) dX6_advance_23 (by decide) rfl (by omega) (by omega) (fun h23 => ?_) (fun h23 => ?_)
          · skip
            exact hfin
          · skip
            exact absurd ⟨c, Or.inr h23⟩ t3
      · skip
        refine E_aload0 (q := 9) dX6_advance_8 rfl ?_
        refine C_V0I (q := 12) lk_X6_223 (sp_X6_byteAtF (hX.fr hF).1 g12 (by omega) (by omega)) rc_X6 dX6_advance_9 (by decide) (Nat.le_of_ble_eq_true rfl) rfl ?_
        refine E_bipush (v := nI 32) (q := 14) dX6_advance_12 (by decide) rfl ?_
        refine E_icmp_eq (tgt := 26) (q := 17) dX6_advance_14 (by decide) rfl (fun h14 => ?_) (fun h14 => ?_)
        · first | exact absurd h14 (by decide) | exact absurd (by decide) h14
        · skip
          refine E_aload0 (q := 18) dX6_advance_17 rfl ?_
          refine C_V0I (q := 21) lk_X6_223 (sp_X6_byteAtF (hX.fr hF).1 g12 (by omega) (by omega)) rc_X6 dX6_advance_18 (by decide) (Nat.le_of_ble_eq_true rfl) rfl ?_
          refine E_bipush (v := nI 10) (q := 23) dX6_advance_21 (by decide) rfl ?_
          refine E_icmp_ne (tgt := 39) (q := 26) dX6_advance_23 (by decide) rfl (fun h23 => ?_) (fun h23 => ?_)
          · skip
            exact hfin
          · first | exact absurd h23 (by decide) | exact absurd (by decide) h23
    · intro i hi ih hpi M1 hF g12
      obtain ⟨w1, w2⟩ := t4 i hpi hi
      have h256 := hX.2.2.1 i
      refine E_aload0 (q := 9) dX6_advance_8 rfl ?_
      refine C_V0I (q := 12) lk_X6_223 (sp_X6_byteAtT (hX.fr hF).1 g12 w1 hX.2.1 (hX.fr hF).2.2.2) rc_X6 dX6_advance_9 (by decide) (Nat.le_of_ble_eq_true rfl) rfl ?_
      refine E_bipush (v := nI 32) (q := 14) dX6_advance_12 (by decide) rfl ?_
      refine E_icmp_eqN (tgt := 26) (q := 17) dX6_advance_14 (by decide) rfl (by omega) (by omega) (fun h14 => ?_) (fun h14 => ?_)
      · skip
        refine E_aload0 (q := 27) dX6_advance_26 rfl ?_
        refine E_dup (q := 28) dX6_advance_27 rfl rfl ?_
        refine G_X6_at (q := 31) fl_X6_214 dX6_advance_28 rfl ?_
        refine V_int g12 ?_
        refine E_iconst (v := nI 1) (q := 32) dX6_advance_31 (by decide) rfl ?_
        refine E_iaddN (q := 33) dX6_advance_32 rfl ?_
        refine P_X6_at (q := 36) fl_X6_214 dX6_advance_33 rfl ?_
        refine E_goto (q := 8) dX6_advance_36 (by decide) ?_
        exact ih (by omega) _ (hF.u (by decide)) upd2_same
      · skip
        refine E_aload0 (q := 18) dX6_advance_17 rfl ?_
        refine C_V0I (q := 21) lk_X6_223 (sp_X6_byteAtT (hX.fr hF).1 g12 w1 hX.2.1 (hX.fr hF).2.2.2) rc_X6 dX6_advance_18 (by decide) (Nat.le_of_ble_eq_true rfl) rfl ?_
        refine E_bipush (v := nI 10) (q := 23) dX6_advance_21 (by decide) rfl ?_
        refine E_icmp_neN (tgt := 39) (q := 26) dX6_advance_23 (by decide) rfl (by omega) (by omega) (fun h23 => ?_) (fun h23 => ?_)
        · skip
          exact absurd w2 (by omega)
        · skip
          refine E_aload0 (q := 27) dX6_advance_26 rfl ?_
          refine E_dup (q := 28) dX6_advance_27 rfl rfl ?_
          refine G_X6_at (q := 31) fl_X6_214 dX6_advance_28 rfl ?_
          refine V_int g12 ?_
          refine E_iconst (v := nI 1) (q := 32) dX6_advance_31 (by decide) rfl ?_
          refine E_iaddN (q := 33) dX6_advance_32 rfl ?_
          refine P_X6_at (q := 36) fl_X6_214 dX6_advance_33 rfl ?_
          refine E_goto (q := 8) dX6_advance_36 (by decide) ?_
          exact ih (by omega) _ (hF.u (by decide)) upd2_same
  refine E_aload0 (q := 1) dX6_advance_0 rfl ?_
  refine G_X6_fault (q := 4) fl_X6_220 dX6_advance_1 rfl ?_
  refine V_int h18 ?_
  refine E_if_eq (tgt := 8) (q := 7) dX6_advance_4 (by decide) rfl (fun h4 => ?_) (fun h4 => ?_)
  · skip
    exact hskip M FrA.rf h12
  · first | exact absurd h4 (by decide) | exact absurd (by decide) h4

end MODEL