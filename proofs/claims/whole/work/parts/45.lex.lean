/-! WHAT A STATEMENT OF A TEXT DOES -/
section LEX
variable {b : Nat → Nat} {n s t g : Nat} {A : AS}
/-- an error and its place, or the next token, the settings given, the pool -/
abbrev LR : Type := Sum (Int32 × Nat) (Nat × Nat × AS)
noncomputable def ch {α : Type} (p : Prop) (x y : α) : α := if dB p = true then x else y
theorem ch_t {α : Type} {p : Prop} {x y : α} (h : p) : ch p x y = x := if_pos (dB_t h)
theorem ch_f {α : Type} {p : Prop} {x y : α} (h : ¬ p) : ch p x y = y := if_neg (dB_ff h)
noncomputable def nmc (b : Nat → Nat) (n s : Nat) : Nat := cdN b s (tokE b n s) 6
noncomputable def itv (b : Nat → Nat) (n s : Nat) : Nat := itN b s (tokE b n s - s)
noncomputable def fV (A : AS) (m : Nat) : Int32 := fnd (fun k => nI m ≠ 0 ∧ th A (16 + k) ∧ nI (vnm A k) = nI m) 6
noncomputable def fS (A : AS) (m : Nat) : Int32 := fnd (fun k => nI m ≠ 0 ∧ th A k ∧ nI (snm A k) = nI m) 16
def isW (b : Nat → Nat) (n s i : Nat) : Prop := knd b n s = 1 ∧ isWd b s (tokE b n s) (wordL i)
noncomputable def nmR (b : Nat → Nat) (n t : Nat) (K : Nat → LR) : LR := ch (isNm b n t) (K (nmc b n t)) (.inl (-11, t))
noncomputable def volR (b : Nat → Nat) (n : Nat) (A : AS) (t : Nat) (K : Nat → LR) : LR := nmR b n t fun m => ch (fV A m = -1) (.inl (-13, t)) (K (fV A m).toNatClampNeg)
noncomputable def snpR (b : Nat → Nat) (n : Nat) (A : AS) (t : Nat) (K : Nat → LR) : LR := nmR b n t fun m => ch (fS A m = -1) (.inl (-13, t)) (K (fS A m).toNatClampNeg)
noncomputable def intR (b : Nat → Nat) (n t lo hi : Nat) (K : Nat → LR) : LR := ch (knd b n t = 2) (ch (lo ≤ itv b n t ∧ itv b n t ≤ hi) (K (itv b n t)) (.inl (-12, t))) (.inl (-11, t))
noncomputable def sVol (b : Nat → Nat) (n s g : Nat) (A : AS) : LR := ch (aV A < 6) (nmR b n (nxt b n s) fun m => ch (fV A m = -1) (.inr (nxt b n (nxt b n s), g, mkVol A 0 m)) (.inl (-14, nxt b n s))) (.inl (-15, s))
noncomputable def sWrite (b : Nat → Nat) (n s g : Nat) (A : AS) : LR := volR b n A (nxt b n s) fun v => intR b n (nxt b n (nxt b n s)) 0 11 fun a => intR b n (nxt b n (nxt b n (nxt b n s))) 1 9 fun z => ch (wrI A v a z = 0) (.inr (nxt b n (nxt b n (nxt b n (nxt b n s))), g, mkBlk A v a z)) (.inl (-16, nxt b n (nxt b n (nxt b n s))))
noncomputable def sTrim (b : Nat → Nat) (n s g : Nat) (A : AS) : LR := volR b n A (nxt b n s) fun v => intR b n (nxt b n (nxt b n s)) 0 11 fun a => .inr (nxt b n (nxt b n (nxt b n s)), g, trmA A v a)
noncomputable def sSnap (b : Nat → Nat) (n s g : Nat) (A : AS) : LR := ch (aS A < 16) (volR b n A (nxt b n s) fun v => nmR b n (nxt b n (nxt b n s)) fun m => ch (fS A m = -1) (.inr (nxt b n (nxt b n (nxt b n s)), g, mkSnp A v m)) (.inl (-14, nxt b n (nxt b n s)))) (.inl (-15, s))
noncomputable def sClone (b : Nat → Nat) (n s g : Nat) (A : AS) : LR := ch (aV A < 6) (snpR b n A (nxt b n s) fun x => ch (popN (clo A x) < aC A) (nmR b n (nxt b n (nxt b n s)) fun m => ch (fV A m = -1) (.inr (nxt b n (nxt b n (nxt b n s)), g, mkVol A (x + 1) m)) (.inl (-14, nxt b n (nxt b n s)))) (.inl (-15, nxt b n s))) (.inl (-15, s))
noncomputable def sHold (b : Nat → Nat) (n s g : Nat) (A : AS) : LR := snpR b n A (nxt b n s) fun x => ch (A.1 4 x = 1) (.inl (-14, nxt b n s)) (.inr (nxt b n (nxt b n s), g, hldA A x 1))
noncomputable def setR (b : Nat → Nat) (n t g : Nat) (A : AS) (k lo hi : Nat) : LR := ch (g.testBit k = true) (.inl (-14, t)) (intR b n (nxt b n t) lo hi fun x => .inr (nxt b n (nxt b n t), g ||| 2 ^ k, setA A k x))
noncomputable def sSet (b : Nat → Nat) (n s g : Nat) (A : AS) : LR := ch (isW b n (nxt b n s) 7) (setR b n (nxt b n s) g A 0 1 999) (ch (isW b n (nxt b n s) 8) (setR b n (nxt b n s) g A 1 0 5) (.inl (-11, nxt b n s)))
noncomputable def endR (b : Nat → Nat) (n : Nat) : LR → LR
  | .inl e => .inl e
  | .inr (t, g, A) => ch (knd b n t = 3) (.inr (nxt b n t, g, A)) (.inl (-11, t))
noncomputable def sStm (b : Nat → Nat) (n s g : Nat) (A : AS) : LR := ch (isW b n s 0) (sVol b n s g A) (ch (isW b n s 1) (sWrite b n s g A) (ch (isW b n s 2) (sTrim b n s g A) (ch (isW b n s 3) (sSnap b n s g A) (ch (isW b n s 4) (sClone b n s g A) (ch (isW b n s 5) (sHold b n s g A) (ch (isW b n s 6) (sSet b n s g A) (.inl (-11, s))))))))
theorem fV_or (A : AS) (m : Nat) : fV A m = -1 ∨ ∃ v, v < 6 ∧ th A (16 + v) ∧ fV A m = nI v ∧ (fV A m).toNatClampNeg = v ∧ fV A m ≠ -1 := by
  rcases fnd_or (fun k => nI m ≠ 0 ∧ th A (16 + k) ∧ nI (vnm A k) = nI m) 6 with ⟨k, h1, h2, -, h4⟩ | ⟨-, h⟩
  · refine Or.inr ⟨k, h1, h2.2.1, h4, ?_, ?_⟩
    · rw [show fV A m = nI k from h4]; exact nI_clamp (by omega)
    · rw [show fV A m = nI k from h4]; exact nI_nm1 (by omega)
  · exact Or.inl h
theorem fS_or (A : AS) (m : Nat) : fS A m = -1 ∨ ∃ v, v < 16 ∧ th A v ∧ fS A m = nI v ∧ (fS A m).toNatClampNeg = v ∧ fS A m ≠ -1 := by
  rcases fnd_or (fun k => nI m ≠ 0 ∧ th A k ∧ nI (snm A k) = nI m) 16 with ⟨k, h1, h2, -, h4⟩ | ⟨-, h⟩
  · refine Or.inr ⟨k, h1, h2.2.1, h4, ?_, ?_⟩
    · rw [show fS A m = nI k from h4]; exact nI_clamp (by omega)
    · rw [show fS A m = nI k from h4]; exact nI_nm1 (by omega)
  · exact Or.inl h
theorem nmc_lt (h : knd b n s = 1) : nmc b n s < 2 ^ 30 := by
  obtain ⟨e1, e2, e3, e4⟩ := tokE_sp (knd_1.mp h).1 (Or.inl h)
  exact cdN_lt (b := b) (s := s) (e := tokE b n s) (fun i a d => ((knd_1.mp ((e4 i a d).trans h)).2.2)) 6
theorem nxt_n (h : s ≤ n) : nxt b n s ≤ n := (nxt_le h).2.1
end LEX
