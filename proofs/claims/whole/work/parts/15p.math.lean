/-! WHAT THE METHODS TELL, of one pool -/
def WF (A : AS) : Prop := WF0 A ∧ WFT A ∧ WFB A
/-- the version behind -/
def bhd (A : AS) (s : Nat) : Nat := match (rowL A (home A s))[plc A s + 1]? with
  | some t => t
  | none => 16 + home A s
noncomputable def clo (A : AS) (s : Nat) : Nat := bset (fun v => th A (16 + v) ∧ org A v = s + 1) 6
noncomputable def snps (A : AS) : Nat := bset (fun s => th A s) 16
noncomputable def rowM (A : AS) (v : Nat) : Nat := bset (fun s => th A s ∧ home A s = v) 16
/-- the snapshots of s's volume behind s -/
noncomputable def rowB (A : AS) (s : Nat) : Nat := bset (fun t => th A t ∧ home A t = home A s ∧ s < t) 16
noncomputable def whyN (A : AS) (s : Nat) : Nat := if clo A s ≠ 0 then 1 else if A.1 4 s = 1 then 2 else 0
/-- w and all that lie ahead -/
def linF (A : AS) : Nat → Nat → List Nat
  | 0, w => [w]
  | f + 1, w => w :: (match ahd A w with | 0 => [] | p + 1 => linF A f p)
def lin (A : AS) (w : Nat) : List Nat := linF A w w
theorem linF_fuel {A : AS} (h0 : WF0 A) (h : WFT A) : ∀ (f w : Nat), w < 22 → th A w → w ≤ f → linF A f w = lin A w := by
  intro f
  induction f using Nat.strongRecOn with
  | ind f ih =>
    intro w hw ht hf
    have hl := WFT.lt h0 h hw ht
    unfold lin
    cases f with
    | zero => rw [show w = 0 by omega]
    | succ f =>
      cases w with
      | zero =>
        rw [linF, linF]
        cases hz : ahd A 0 with
        | zero => rfl
        | succ p => omega
      | succ w =>
        rw [linF, linF]
        cases hz : ahd A (w + 1) with
        | zero => rfl
        | succ p =>
          have hp := hl.2 p hz
          simp only
          rw [ih f (by omega) p (by omega) hp.2 (by omega), ih w (by omega) p (by omega) hp.2 (by omega)]
theorem lin_0 {A : AS} {w : Nat} (h : ahd A w = 0) : lin A w = [w] := by
  unfold lin
  cases w with
  | zero => rfl
  | succ w => rw [linF, h]
theorem lin_s {A : AS} (h0 : WF0 A) (h : WFT A) {w p : Nat} (hw : w < 22) (ht : th A w) (hp : ahd A w = p + 1) : lin A w = w :: lin A p := by
  have hl := WFT.lt h0 h hw ht
  have hq := hl.2 p hp
  conv => lhs; unfold lin
  cases w with
  | zero => omega
  | succ w =>
    rw [linF, hp]
    simp only
    rw [linF_fuel h0 h w p (by omega) hq.2 (by omega)]
theorem lin_ne (A : AS) (w : Nat) : 1 ≤ (lin A w).length := by
  unfold lin
  cases w with
  | zero => exact Nat.le_refl _
  | succ w => rw [linF, List.length_cons]; omega
/-- the sizes of the blocks of a kind -/
def sumA (A : AS) (w : Nat) : Nat := nsum (fun a => uAt A.2 w a) 12
theorem sumA_f {A : AS} (h : WFB A) (w : Nat) : sumA A w = uW (fun x => (own x).testBit w) A.2 := by
  rw [uW_fsum, ← asum h w siz]
  refine nsum_congr fun a _ => ?_
  cases hx : blkAt A.2 w a with
  | none => exact (bAt_none hx).2
  | some x => exact (bAt_some hx).2
/-- a block counted where the lowest of S has it -/
def gv (A : AS) (S : Nat) (f : Blk → Nat) (v a : Nat) : Nat := match blkAt A.2 v a with
  | some x => if fst (own x &&& S) v then f x else 0
  | none => 0
theorem gv_sum {A : AS} (h : WFB A) (S : Nat) (f : Blk → Nat) : nsum (fun v => nsum (gv A S f v) 12) 22 = fsum (fun x => if own x &&& S = 0 then 0 else f x) A.2 := dsum h S f
theorem gv_case {A : AS} (h : WFB A) (S : Nat) (f : Blk → Nat) (v a : Nat) :
    (bAt A.2 v a = 0 ∧ gv A S f v a = 0) ∨ ∃ x, x ∈ A.2 ∧ bAt A.2 v a = x.1 ∧ uAt A.2 v a = siz x ∧ ownB A.2 (bAt A.2 v a) = own x ∧ (own x).testBit v = true ∧ bAt A.2 v a ≠ 0 ∧ gv A S f v a = if fst (own x &&& S) v then f x else 0 := by
  unfold gv
  cases hx : blkAt A.2 v a with
  | none => exact Or.inl ⟨(bAt_none hx).1, rfl⟩
  | some x =>
    have h1 := blkAt_some hx
    exact Or.inr ⟨x, h1.1, (bAt_some hx).1, (bAt_some hx).2, by rw [(bAt_some hx).1, ownB_mem h.1 h1.1], h1.2.2, h.bpos hx, rfl⟩
theorem gv_th {A : AS} (h : WFB A) (S : Nat) (f : Blk → Nat) {v : Nat} (hv : ¬ th A v) (a : Nat) : gv A S f v a = 0 := by
  unfold gv
  cases hx : blkAt A.2 v a with
  | none => rfl
  | some x =>
    have h1 := blkAt_some hx
    exact absurd ((h.2 x h1.1).2.2.2.2.2.2.2 v h1.2.2) hv
theorem gv_le {A : AS} (h : WFB A) (S : Nat) {f : Blk → Nat} {c : Nat} (hf : ∀ x, x ∈ A.2 → f x ≤ c) (v a : Nat) : gv A S f v a ≤ c := by
  unfold gv
  cases hx : blkAt A.2 v a with
  | none => exact Nat.zero_le _
  | some x =>
    simp only
    split
    · exact hf x (blkAt_some hx).1
    · exact Nat.zero_le _
/-- the bits of all versions -/
abbrev FULL22 : Nat := 4194303
theorem own_full {A : AS} (h : WFB A) {x : Blk} (hx : x ∈ A.2) : own x &&& FULL22 = own x := by
  rw [show FULL22 = 2 ^ 22 - 1 from rfl, Nat.and_two_pow_sub_one_eq_mod]
  exact Nat.mod_eq_of_lt (h.2 x hx).2.2.2.2.2.2.1
theorem gv_full {A : AS} (h : WFB A) (f : Blk → Nat) : nsum (fun v => nsum (gv A FULL22 f v) 12) 22 = fsum f A.2 := by
  rw [gv_sum h]
  exact fsum_congr fun x hx => by rw [own_full h hx, if_neg (h.2 x hx).2.2.2.2.2.1]
theorem fsum_one (bl : List Blk) : fsum (fun _ => 1) bl = bl.length := by
  induction bl with
  | nil => rfl
  | cons x bl ih => rw [fsum_cons, ih, List.length_cons]; omega
/-- the size of a block of w at a that no other version has -/
def aln (A : AS) (w a : Nat) : Nat := match blkAt A.2 w a with
  | some x => if own x = 2 ^ w then siz x else 0
  | none => 0
theorem aln_case {A : AS} (h : WFB A) (w a : Nat) :
    (bAt A.2 w a = 0 ∧ aln A w a = 0) ∨ ∃ x, x ∈ A.2 ∧ bAt A.2 w a = x.1 ∧ uAt A.2 w a = siz x ∧ ownB A.2 (bAt A.2 w a) = own x ∧ (own x).testBit w = true ∧ bAt A.2 w a ≠ 0 ∧ aln A w a = if own x = 2 ^ w then siz x else 0 := by
  unfold aln
  cases hx : blkAt A.2 w a with
  | none => exact Or.inl ⟨(bAt_none hx).1, rfl⟩
  | some x =>
    have h1 := blkAt_some hx
    exact Or.inr ⟨x, h1.1, (bAt_some hx).1, (bAt_some hx).2, by rw [(bAt_some hx).1, ownB_mem h.1 h1.1], h1.2.2, h.bpos hx, rfl⟩
/-- the part of a list from f to k, as bits -/
noncomputable def mkR (L : List Nat) (f k : Nat) : Nat := bset (fun s => ∃ i, f ≤ i ∧ i < k ∧ L[i]? = some s) 16
theorem mkR_0 (L : List Nat) (f : Nat) : mkR L f f = 0 := bset_0.mpr fun k _ => by rintro ⟨i, h1, h2, -⟩; omega
theorem mkR_s {L : List Nat} {f k s : Nat} (hf : f ≤ k) (hk : L[k]? = some s) (hs : s < 16) : mkR L f k ||| 2 ^ s = mkR L f (k + 1) := by
  refine (bset_ext fun t => ?_).symm
  rw [or_bit, mkR, bset_bit, pow_bit]
  constructor
  · rintro (⟨h1, i, h2, h3, h4⟩ | rfl)
    · exact ⟨h1, i, h2, by omega, h4⟩
    · exact ⟨hs, k, hf, by omega, hk⟩
  · rintro ⟨h1, i, h2, h3, h4⟩
    by_cases e : i = k
    · subst e; rw [hk] at h4; exact Or.inr (by simpa using h4)
    · exact Or.inl ⟨h1, i, h2, by omega, h4⟩
theorem mkR_all (A : AS) (v : Nat) : mkR (rowL A v) 0 (rowL A v).length = rowM A v := by
  refine bset_congr fun s hs => ?_
  constructor
  · rintro ⟨i, -, -, h⟩
    have := mem_rowL.mp (List.mem_of_getElem? h)
    exact this.2
  · intro h
    obtain ⟨i, hi⟩ := List.mem_iff_getElem?.mp (mem_rowL.mpr ⟨hs, h⟩)
    exact ⟨i, Nat.zero_le _, (List.getElem?_eq_some_iff.mp hi).1, hi⟩
theorem pw_get_lt {l : List Nat} (h : l.Pairwise (· < ·)) {i j s t : Nat} (hi : l[i]? = some s) (hj : l[j]? = some t) : i < j ↔ s < t := by
  obtain ⟨h1, e1⟩ := List.getElem?_eq_some_iff.mp hi
  obtain ⟨h2, e2⟩ := List.getElem?_eq_some_iff.mp hj
  have hp := List.pairwise_iff_getElem.mp h
  constructor
  · intro q; have := hp i j h1 h2 q; omega
  · intro q
    rcases Nat.lt_trichotomy i j with z | z | z
    · exact z
    · subst z; omega
    · have := hp j i h2 h1 z; omega
theorem mkR_behind {A : AS} {s : Nat} (hs : s < 16) (ht : th A s) : mkR (rowL A (home A s)) (plc A s + 1) (rowL A (home A s)).length = rowB A s := by
  have hg := plc_get hs ht
  refine bset_congr fun t h16 => ?_
  constructor
  · rintro ⟨i, h1, h2, h3⟩
    have hm := mem_rowL.mp (List.mem_of_getElem? h3)
    exact ⟨hm.2.1, hm.2.2, (pw_get_lt (rowL_pw A _) hg h3).mp (by omega)⟩
  · rintro ⟨h1, h2, h3⟩
    obtain ⟨i, hi⟩ := List.mem_iff_getElem?.mp (mem_rowL.mpr ⟨h16, h1, h2⟩)
    exact ⟨i, (pw_get_lt (rowL_pw A _) hg hi).mpr h3, (List.getElem?_eq_some_iff.mp hi).1, hi⟩
theorem nI_z {x : Nat} (h : x < 2 ^ 31) : nI x = 0 ↔ x = 0 := nI_eq (b := 0) h (by decide)
theorem oI_eq {o s : Nat} (ho : o < 2 ^ 31) (hs : s < 2 ^ 31) : oI o = nI s ↔ o = s + 1 := by
  cases o with
  | zero =>
    constructor
    · intro h
      have h1 := (oI_neg (o := 0) (by decide)).mpr rfl
      rw [h] at h1
      exact absurd h1 (nI_pos hs)
    · intro h; omega
  | succ o =>
    rw [oI_s]
    exact ⟨fun h => by rw [(nI_eq (by omega) hs).mp h], fun h => by rw [show o = s by omega]⟩
