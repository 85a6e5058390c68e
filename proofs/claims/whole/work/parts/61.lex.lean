/-! WHAT A TEXT GIVES HANGS TOGETHER -/
section LEX
variable {b : Nat → Nat} {n s t g : Nat} {A : AS}
def GdC (A : AS) : LR → Prop
  | .inl _ => True
  | .inr (_, _, A') => aT A' ≤ aT A + 1 ∧ WF A' ∧ WFC A'
theorem gc_ch {p : Prop} {x y : LR} (h1 : p → GdC A x) (h2 : ¬ p → GdC A y) : GdC A (ch p x y) := by
  by_cases c : p
  · rw [ch_t c]; exact h1 c
  · rw [ch_f c]; exact h2 c
theorem gc_l {e : Int32 × Nat} : GdC A (.inl e) := trivial
theorem gc_nm {K : Nat → LR} (ht : t ≤ n) (h : ∀ m, m < 2 ^ 30 → GdC A (K m)) : GdC A (nmR b n t K) := gc_ch (fun c => h _ (nmc_lt c.1)) (fun _ => gc_l)
theorem gc_vol {K : Nat → LR} (ht : t ≤ n) (h : ∀ v, v < 6 → th A (16 + v) → GdC A (K v)) : GdC A (volR b n A t K) := gc_nm ht fun m _ => gc_ch (fun _ => gc_l) (fun c => by
  rcases fV_or A m with e | ⟨v, h1, h2, -, h3, -⟩
  · exact absurd e c
  · rw [h3]; exact h v h1 h2)
theorem gc_snp {K : Nat → LR} (ht : t ≤ n) (h : ∀ v, v < 16 → th A v → GdC A (K v)) : GdC A (snpR b n A t K) := gc_nm ht fun m _ => gc_ch (fun _ => gc_l) (fun c => by
  rcases fS_or A m with e | ⟨v, h1, h2, -, h3, -⟩
  · exact absurd e c
  · rw [h3]; exact h v h1 h2)
theorem gc_int {K : Nat → LR} {lo hi : Nat} (h : ∀ m, lo ≤ m → m ≤ hi → GdC A (K m)) : GdC A (intR b n t lo hi K) := gc_ch (fun _ => gc_ch (fun c => h _ c.1 c.2) (fun _ => gc_l)) (fun _ => gc_l)
theorem sStm_gc (h : s < n) (h0 : WF A) (hC : WFC A) (hT : aT A + 1 < 2 ^ 24) : GdC A (sStm b n s g A) := by
  obtain ⟨a1, a2, a3⟩ := nxt_le (b := b) (show s ≤ n by omega)
  obtain ⟨b1, b2, b3⟩ := nxt_le (b := b) a2
  have hset : ∀ k lo hi, (k = 0 ∧ hi ≤ 999 ∨ k = 1 ∧ hi ≤ 5) → GdC A (setR b n (nxt b n s) g A k lo hi) := fun k lo hi hk => gc_ch (fun _ => gc_l) (fun _ => gc_int fun x h1 h2 => ⟨by rw [aT_set]; omega, setA_WF h0 (by omega), setA_WFC hC⟩)
  refine gc_ch (fun _ => ?_) (fun _ => gc_ch (fun _ => ?_) (fun _ => gc_ch (fun _ => ?_) (fun _ => gc_ch (fun _ => ?_) (fun _ => gc_ch (fun _ => ?_) (fun _ => gc_ch (fun _ => ?_) (fun _ => gc_ch (fun _ => ?_) (fun _ => gc_l)))))))
  · exact gc_ch (fun c => gc_nm a2 fun m hm => gc_ch (fun _ => ⟨by rw [aT_vol]; omega, mkVol_WF h0 c hm (Or.inl rfl), mkVol_WFC h0 hC c (Or.inl rfl)⟩) (fun _ => gc_l)) (fun _ => gc_l)
  · exact gc_vol a2 fun v hv ht => gc_int fun a _ ha => gc_int fun z hz1 hz2 => gc_ch (fun _ => ⟨by rw [aT_blk]; exact Nat.le_refl _, mkBlk_WF h0 hv ht (by omega) ⟨hz1, hz2⟩ hT, mkBlk_WFC h0 hC⟩) (fun _ => gc_l)
  · exact gc_vol a2 fun v hv ht => gc_int fun a _ ha => ⟨Nat.le_succ _, trmA_WF h0, trmA_WFC h0 hC⟩
  · exact gc_ch (fun c => gc_vol a2 fun v hv ht => gc_nm b2 fun m hm => gc_ch (fun _ => ⟨by rw [aT_snp]; exact Nat.le_refl _, mkSnp_WF h0 c hv ht hm hT, mkSnp_WFC h0 hC c hv ht⟩) (fun _ => gc_l)) (fun _ => gc_l)
  · exact gc_ch (fun c => gc_snp a2 fun x hx ht => gc_ch (fun _ => gc_nm b2 fun m hm => gc_ch (fun _ => ⟨by rw [aT_vol]; omega, mkVol_WF h0 c hm (Or.inr ⟨x, rfl, hx, ht⟩), mkVol_WFC h0 hC c (Or.inr ⟨x, rfl, hx, ht⟩)⟩) (fun _ => gc_l)) (fun _ => gc_l)) (fun _ => gc_l)
  · exact gc_snp a2 fun x hx ht => gc_ch (fun _ => gc_l) (fun _ => ⟨by rw [aT_hld]; omega, hldA_WF h0 ht (by omega), hldA_WFC hC⟩)
  · exact gc_ch (fun _ => hset 0 1 999 (Or.inl ⟨rfl, Nat.le_refl _⟩)) (fun _ => gc_ch (fun _ => hset 1 0 5 (Or.inr ⟨rfl, Nat.le_refl _⟩)) (fun _ => gc_l))
theorem endR_r {A : AS} : endR b n (.inr (t, g, A)) = ch (knd b n t = 3) (.inr (nxt b n t, g, A)) (.inl (-11, t)) := rfl
theorem ldF_gc (hn : n ≤ 1000) : ∀ (f s g : Nat) (A : AS) (k : Nat), s ≤ n → WF A → WFC A → aT A + (n - s) ≤ 1000 → ∀ k' B, ldF b n f s g A k = .inr (k', B) → WF B ∧ WFC B ∧ aT B ≤ 1000 := by
  intro f
  induction f with
  | zero =>
    intro s g A k hs h0 hC hT k' B e
    unfold ldF at e
    injection e with e
    injection e with e1 e2
    subst e2
    exact ⟨h0, hC, by omega⟩
  | succ f ih =>
    intro s g A k hs h0 hC hT k' B e
    unfold ldF at e
    by_cases c : knd b n s = 0
    · rw [ch_t c] at e
      injection e with e
      injection e with e1 e2
      subst e2
      exact ⟨h0, hC, by omega⟩
    · rw [ch_f c] at e
      have hsn : s < n := Nat.lt_of_le_of_ne hs (fun z => c (knd_0.mpr (by omega)))
      have hg := sStm_gd (b := b) (g := g) (A := A) hsn
      have hc := sStm_gc (b := b) (g := g) hsn h0 hC (by omega)
      have he := endR_gd (b := b) hg
      generalize hr : sStm b n s g A = r at e hg hc he
      match r, e, hg, hc, he with
      | .inl x, e, _, _, _ => exact absurd e (by simp [endR])
      | .inr (t, g', A'), e, hg, hc, he =>
        rw [endR_r] at e he
        by_cases c3 : knd b n t = 3
        · rw [ch_t c3] at e he
          obtain ⟨p1, p2, p3⟩ := he
          exact ih (nxt b n t) g' A' (k + 1) p2 hc.2.1 hc.2.2 (by omega) k' B e
        · rw [ch_f c3] at e
          exact absurd e (by simp)
end LEX
