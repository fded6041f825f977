/-! TOKENS out of bytes, pure -/
def blB (b : Int32) : Bool := b == 32 || b == 10
def lwB (b : Int32) : Bool := decide (97 ≤ b ∧ b ≤ 122)
def dgB (b : Int32) : Bool := decide (48 ≤ b ∧ b ≤ 57)
def rnB (p : Int32 → Bool) (B : Nat → Int32) : Nat → Nat → Nat
  | 0, x => x
  | k + 1, x => if p (B x) then rnB p B k (x + 1) else x
abbrev spF (B : Nat → Int32) (s b i : Nat) : Prop := b - s = (stxt.getD i []).length ∧ ∀ j, j < (stxt.getD i []).length → B (s + j) = nI ((stxt.getD i []).getD j 0)
def knL (B : Nat → Int32) (s b : Nat) : Nat → Nat → Int32
  | 0, _ => 258
  | m + 1, i => if spF B s b i then nI (259 + i) else knL B s b m (i + 1)
def tokF (B : Nat → Int32) (L x : Nat) : Int32 × Nat × Nat := if L ≤ rnB blB B (L - x) x then (256, L, L) else
  if lwB (B (rnB blB B (L - x) x)) then (knL B (rnB blB B (L - x) x) (rnB lwB B (L - rnB blB B (L - x) x) (rnB blB B (L - x) x)) 22 0, rnB blB B (L - x) x, rnB lwB B (L - rnB blB B (L - x) x) (rnB blB B (L - x) x))
  else if dgB (B (rnB blB B (L - x) x)) then (257, rnB blB B (L - x) x, rnB dgB B (L - rnB blB B (L - x) x) (rnB blB B (L - x) x))
  else (B (rnB blB B (L - x) x), rnB blB B (L - x) x, rnB blB B (L - x) x + 1)
def toksF (B : Nat → Int32) (L : Nat) : tkT
  | 0 => tokF B L 0
  | t + 1 => tokF B L (toksF B L t).2.2
def uksF (B : Nat → Int32) (L : Nat) : ukT := fun t => (if (toksF B L t).1 = 257 then vaF B (toksF B L t).2.1 (min 4 ((toksF B L t).2.2 - (toksF B L t).2.1)) 0 else 0, if 258 ≤ (toksF B L t).1 then (if 8 < (toksF B L t).2.2 - (toksF B L t).2.1 then 0 else leF B (toksF B L t).2.1 ((toksF B L t).2.2 - (toksF B L t).2.1) 0) else 0)
section LEX
variable {B : Nat → Int32} {L : Nat} {p : Int32 → Bool}
theorem rn_le : ∀ k x, x ≤ rnB p B k x ∧ rnB p B k x ≤ x + k
  | 0, x => ⟨Nat.le_refl _, Nat.le_refl _⟩
  | k + 1, x => by
    unfold rnB
    by_cases c : p (B x) = true
    · rw [if_pos c]
      have := rn_le k (x + 1)
      omega
    · rw [if_neg c]
      omega
theorem rn_in : ∀ k x j, x ≤ j → j < rnB p B k x → p (B j) = true
  | 0, x, j, h1, h2 => by
    unfold rnB at h2
    omega
  | k + 1, x, j, h1, h2 => by
    unfold rnB at h2
    by_cases c : p (B x) = true
    · rw [if_pos c] at h2
      by_cases e : j = x
      · rw [e]; exact c
      · exact rn_in k (x + 1) j (by omega) h2
    · rw [if_neg c] at h2
      omega
theorem rn_end : ∀ k x, rnB p B k x < x + k → p (B (rnB p B k x)) = false
  | 0, x, h => by
    unfold rnB at h
    omega
  | k + 1, x, h => by
    unfold rnB at h ⊢
    by_cases c : p (B x) = true
    · rw [if_pos c] at h ⊢
      exact rn_end k (x + 1) (by omega)
    · rw [if_neg c]
      exact Bool.eq_false_iff.mpr c
/-- what a run is: all of p up to its end, which is not of p or the last -/
theorem rn_is : ∀ k x y, x ≤ y → y ≤ x + k → (∀ j, x ≤ j → j < y → p (B j) = true) → (y < x + k → p (B y) = false) → rnB p B k x = y
  | 0, x, y, h1, h2, _, _ => by
    unfold rnB
    omega
  | k + 1, x, y, h1, h2, h3, h4 => by
    unfold rnB
    by_cases c : p (B x) = true
    · rw [if_pos c]
      have hy : x ≠ y := fun e => by
        rw [← e] at h4
        rw [h4 (by omega)] at c
        cases c
      exact rn_is k (x + 1) y (by omega) (by omega) (fun j a b => h3 j (by omega) b) (fun a => h4 (by omega))
    · rw [if_neg c]
      refine Classical.byContradiction fun e => c (h3 x (Nat.le_refl _) (by omega))
/-- a blank ahead changes nothing -/
theorem tok_bl {x : Nat} (h : x < L) (hb : blB (B x) = true) : tokF B L x = tokF B L (x + 1) := by
  have e : rnB blB B (L - x) x = rnB blB B (L - (x + 1)) (x + 1) := by
    rw [show L - x = (L - (x + 1)) + 1 by omega]
    show (if blB (B x) then _ else _) = _
    rw [if_pos hb]
  unfold tokF
  rw [e]
theorem tok_nb {x : Nat} (h : x < L) (hb : blB (B x) = false) : rnB blB B (L - x) x = x := by
  rw [show L - x = (L - (x + 1)) + 1 by omega]
  show (if blB (B x) then _ else _) = _
  rw [if_neg (by rw [hb]; decide)]
theorem tok_end {x : Nat} (h : L ≤ rnB blB B (L - x) x) : tokF B L x = (256, L, L) := by
  unfold tokF
  rw [if_pos h]
theorem knL_in : ∀ m i s b, m + i = 22 → 258 ≤ knL B s b m i ∧ knL B s b m i ≤ 280
  | 0, i, s, b, _ => ⟨show (258 : Int32) ≤ 258 by decide, show (258 : Int32) ≤ 280 by decide⟩
  | m + 1, i, s, b, h => by
    unfold knL
    by_cases c : spF B s b i
    · rw [if_pos c]
      exact ⟨nI_le (a := 258) (by omega) (by omega), nI_le (b := 280) (by omega) (by omega)⟩
    · rw [if_neg c]
      exact knL_in m (i + 1) s b (by omega)
/-- a TOKEN from x on: where it lies, what it is -/
theorem tok_cases (x : Nat) (hx : x ≤ L) : (tokF B L x = (256, L, L) ∧ ∀ j, x ≤ j → j < L → blB (B j) = true) ∨ ∃ s b, (tokF B L x).2.1 = s ∧ (tokF B L x).2.2 = b ∧ x ≤ s ∧ s < b ∧ b ≤ L ∧ (∀ j, x ≤ j → j < s → blB (B j) = true) ∧ blB (B s) = false ∧
    (((tokF B L x).1 = knL B s b 22 0 ∧ b = rnB lwB B (L - s) s ∧ lwB (B s) = true) ∨ ((tokF B L x).1 = 257 ∧ b = rnB dgB B (L - s) s ∧ lwB (B s) = false ∧ dgB (B s) = true) ∨ ((tokF B L x).1 = B s ∧ b = s + 1 ∧ lwB (B s) = false ∧ dgB (B s) = false)) := by
  have h1 := rn_le (p := blB) (B := B) (L - x) x
  have h2 := rn_in (p := blB) (B := B) (L - x) x
  have h3 := rn_end (p := blB) (B := B) (L - x) x
  unfold tokF
  generalize rnB blB B (L - x) x = s at h1 h2 h3 ⊢
  by_cases c : L ≤ s
  · rw [if_pos c]
    exact Or.inl ⟨rfl, fun j a b => h2 j a (by omega)⟩
  · rw [if_neg c]
    right
    have nb := h3 (by omega)
    by_cases c1 : lwB (B s) = true
    · rw [if_pos c1]
      have r1 := rn_le (p := lwB) (B := B) (L - s) s
      refine ⟨s, _, rfl, rfl, h1.1, ?_, show rnB lwB B (L - s) s ≤ L by omega, h2, nb, Or.inl ⟨rfl, rfl, c1⟩⟩
      rw [show L - s = (L - (s + 1)) + 1 by omega]
      show s < (if lwB (B s) then _ else _)
      rw [if_pos c1]
      have := rn_le (p := lwB) (B := B) (L - (s + 1)) (s + 1)
      omega
    · rw [if_neg c1]
      have c1 := Bool.eq_false_iff.mpr c1
      by_cases c2 : dgB (B s) = true
      · rw [if_pos c2]
        have r1 := rn_le (p := dgB) (B := B) (L - s) s
        refine ⟨s, _, rfl, rfl, h1.1, ?_, show rnB dgB B (L - s) s ≤ L by omega, h2, nb, Or.inr (Or.inl ⟨rfl, rfl, c1, c2⟩)⟩
        rw [show L - s = (L - (s + 1)) + 1 by omega]
        show s < (if dgB (B s) then _ else _)
        rw [if_pos c2]
        have := rn_le (p := dgB) (B := B) (L - (s + 1)) (s + 1)
        omega
      · rw [if_neg c2]
        exact ⟨s, s + 1, rfl, rfl, h1.1, by omega, by omega, h2, nb, Or.inr (Or.inr ⟨rfl, rfl, c1, Bool.eq_false_iff.mpr c2⟩)⟩
/-- what is known of a TOKEN by its number -/
theorem toks_le : ∀ t, (toksF B L t).2.1 ≤ (toksF B L t).2.2 ∧ (toksF B L t).2.2 ≤ L
  | 0 => by
    show (tokF B L 0).2.1 ≤ (tokF B L 0).2.2 ∧ (tokF B L 0).2.2 ≤ L
    rcases tok_cases (B := B) (L := L) 0 (Nat.zero_le _) with ⟨e, -⟩ | ⟨s, b, e1, e2, h1, h2, h3, -⟩
    · rw [e]; exact ⟨Nat.le_refl _, Nat.le_refl _⟩
    · rw [e1, e2]; omega
  | t + 1 => by
    have ih := toks_le t
    show (tokF B L (toksF B L t).2.2).2.1 ≤ (tokF B L (toksF B L t).2.2).2.2 ∧ (tokF B L (toksF B L t).2.2).2.2 ≤ L
    rcases tok_cases (B := B) (L := L) (toksF B L t).2.2 ih.2 with ⟨e, -⟩ | ⟨s, b, e1, e2, h1, h2, h3, -⟩
    · rw [e]; exact ⟨Nat.le_refl _, Nat.le_refl _⟩
    · rw [e1, e2]; omega
/-- the place from which a TOKEN is sought -/
def frF (B : Nat → Int32) (L : Nat) : Nat → Nat
  | 0 => 0
  | t + 1 => (toksF B L t).2.2
theorem toks_tok (t : Nat) : toksF B L t = tokF B L (frF B L t) := by
  cases t <;> rfl
theorem frF_le (t : Nat) : frF B L t ≤ L := by
  cases t with
  | zero => exact Nat.zero_le _
  | succ t => exact (toks_le t).2
theorem toks_end {t : Nat} (hB : ∀ j, 0 ≤ B j ∧ B j < 256) (h : (toksF B L t).1 = 256) : toksF B L t = (256, L, L) := by
  rw [toks_tok] at h ⊢
  rcases tok_cases (B := B) (L := L) (frF B L t) (frF_le t) with ⟨e, -⟩ | ⟨s, b, e1, e2, h1, h2, h3, -, -, c⟩
  · exact e
  · rcases c with ⟨c, -⟩ | ⟨c, -⟩ | ⟨c, -⟩
    · rw [c] at h
      have := (knL_in (B := B) 22 0 s b rfl).1
      rw [h] at this
      exact absurd this (by decide)
    · rw [c] at h
      exact absurd h (by decide)
    · rw [c] at h
      have := (hB s).2
      rw [h] at this
      exact absurd this (by decide)
theorem toks_up {t : Nat} (hB : ∀ j, 0 ≤ B j ∧ B j < 256) (h : (toksF B L t).1 = 256) : (toksF B L (t + 1)).1 = 256 := by
  show (tokF B L (toksF B L t).2.2).1 = 256
  rw [toks_end hB h]
  rcases tok_cases (B := B) (L := L) L (Nat.le_refl _) with ⟨e, -⟩ | ⟨s, b, e1, e2, h1, h2, h3, -⟩
  · rw [e]
  · omega
theorem toks_ge (hB : ∀ j, 0 ≤ B j ∧ B j < 256) : ∀ t, (toksF B L t).1 ≠ 256 → t < (toksF B L t).2.2 := by
  intro t
  induction t with
  | zero =>
    intro h
    rw [toks_tok] at h ⊢
    rcases tok_cases (B := B) (L := L) (frF B L 0) (frF_le 0) with ⟨e, -⟩ | ⟨s, b, e1, e2, h1, h2, h3, -⟩
    · rw [e] at h; exact absurd rfl h
    · rw [e2]; omega
  | succ t ih =>
    intro h
    have h0 : (toksF B L t).1 ≠ 256 := fun e => h (toks_up hB e)
    have ih := ih h0
    rw [toks_tok] at h ⊢
    have e0 : frF B L (t + 1) = (toksF B L t).2.2 := rfl
    rcases tok_cases (B := B) (L := L) (frF B L (t + 1)) (frF_le _) with ⟨e, -⟩ | ⟨s, b, e1, e2, h1, h2, h3, -⟩
    · rw [e] at h; exact absurd rfl h
    · rw [e2]; omega
theorem toks_lt (hB : ∀ j, 0 ≤ B j ∧ B j < 256) {t : Nat} (h : (toksF B L t).1 ≠ 256) : t < L := by
  have a := toks_ge hB t h
  have b := toks_le (B := B) (L := L) t
  omega
theorem toks_280 (hB : ∀ j, 0 ≤ B j ∧ B j < 256) (t : Nat) : (toksF B L t).1 ≤ 280 := by
  rw [toks_tok]
  rcases tok_cases (B := B) (L := L) (frF B L t) (frF_le t) with ⟨e, -⟩ | ⟨s, b, e1, e2, h1, h2, h3, -, -, c⟩
  · rw [e]; exact show (256 : Int32) ≤ 280 by decide
  · rcases c with ⟨c, -⟩ | ⟨c, -⟩ | ⟨c, -⟩
    · rw [c]; exact (knL_in (B := B) 22 0 s b rfl).2
    · rw [c]; decide
    · rw [c]; exact Int32.le_of_lt (Int32.lt_of_lt_of_le (hB s).2 (by decide))
end LEX
