/-! THE BEST SALE, pure: houses and persons joined; what sums can be had; the least persons -/
section BST
def hsub (S : Nat → Prop) (i : Nat) : Nat → Prop := fun j => S j ∧ j ≠ i
def padd (O : Nat → Prop) (p : Nat) : Nat → Prop := fun q => O q ∨ q = p
/-- x can be had of the houses S with the persons below P that are not in O: al i p: p may have i, w i p is his part -/
def Had (al : Nat → Nat → Prop) (w : Nat → Nat → Nat) : Nat → (Nat → Prop) → (Nat → Prop) → Nat → Prop
  | 0, _, _, x => x = 0
  | P + 1, O, S, x => Had al w P O S x ∨ (¬ O P ∧ ∃ i, S i ∧ al i P ∧ ∃ y, Had al w P O (hsub S i) y ∧ x = y + w i P)
variable {al : Nat → Nat → Prop} {w : Nat → Nat → Nat}
theorem hsub_c {S : Nat → Prop} {i j : Nat} : hsub (hsub S i) j = hsub (hsub S j) i := by
  funext k
  unfold hsub
  exact propext ⟨fun ⟨⟨a, b⟩, c⟩ => ⟨⟨a, c⟩, b⟩, fun ⟨⟨a, b⟩, c⟩ => ⟨⟨a, c⟩, b⟩⟩
theorem Had_ge {p : Nat} : ∀ {P : Nat} {O S : Nat → Prop} {x : Nat}, P ≤ p → (Had al w P (padd O p) S x ↔ Had al w P O S x)
  | 0, _, _, _, _ => Iff.rfl
  | P + 1, O, S, x, h => by
    have ih := fun (S : Nat → Prop) (x : Nat) => Had_ge (P := P) (O := O) (S := S) (x := x) (Nat.le_of_succ_le h)
    constructor
    · rintro (g | ⟨g1, i, g2, g3, y, g4, g5⟩)
      · exact Or.inl ((ih _ _).mp g)
      · exact Or.inr ⟨fun e => g1 (Or.inl e), i, g2, g3, y, (ih _ _).mp g4, g5⟩
    · rintro (g | ⟨g1, i, g2, g3, y, g4, g5⟩)
      · exact Or.inl ((ih _ _).mpr g)
      · exact Or.inr ⟨fun e => e.elim g1 (fun e => absurd h (by omega)), i, g2, g3, y, (ih _ _).mpr g4, g5⟩
theorem Had_mono : ∀ {P : Nat} {O S S' : Nat → Prop} {x : Nat}, (∀ i, S i → S' i) → Had al w P O S x → Had al w P O S' x
  | 0, _, _, _, _, _, h => h
  | P + 1, O, S, S', x, hs, h => by
    rcases h with g | ⟨g1, i, g2, g3, y, g4, g5⟩
    · exact Or.inl (Had_mono hs g)
    · exact Or.inr ⟨g1, i, hs i g2, g3, y, Had_mono (fun j hj => ⟨hs j hj.1, hj.2⟩) g4, g5⟩
/-- by the house i: nobody has it, or p -/
theorem Had_swap {i : Nat} : ∀ {P : Nat} {O S : Nat → Prop} {x : Nat}, S i → (Had al w P O S x ↔ Had al w P O (hsub S i) x ∨ ∃ p, p < P ∧ ¬ O p ∧ al i p ∧ ∃ y, Had al w P (padd O p) (hsub S i) y ∧ x = y + w i p)
  | 0, _, _, _, _ => ⟨fun h => Or.inl h, fun h => h.elim id (fun ⟨p, hp, _⟩ => absurd hp (Nat.not_lt_zero p))⟩
  | P + 1, O, S, x, hi => by
    have ih := fun (S : Nat → Prop) (x : Nat) (h : S i) => Had_swap (P := P) (O := O) (S := S) (x := x) h
    constructor
    · rintro (g | ⟨g1, j, g2, g3, y, g4, g5⟩)
      · rcases (ih S x hi).mp g with g | ⟨p, a1, a2, a3, y, a4, a5⟩
        · exact Or.inl (Or.inl g)
        · exact Or.inr ⟨p, Nat.lt_succ_of_lt a1, a2, a3, y, Or.inl a4, a5⟩
      · by_cases c : j = i
        · subst c
          exact Or.inr ⟨P, Nat.lt_succ_self P, g1, g3, y, Or.inl ((Had_ge (Nat.le_refl P)).mpr g4), g5⟩
        · rcases (ih (hsub S j) y ⟨hi, fun e => c e.symm⟩).mp g4 with g | ⟨p, a1, a2, a3, z, a4, a5⟩
          · exact Or.inl (Or.inr ⟨g1, j, ⟨g2, c⟩, g3, y, by rw [hsub_c]; exact g, g5⟩)
          · refine Or.inr ⟨p, Nat.lt_succ_of_lt a1, a2, a3, z + w j P, Or.inr ⟨fun e => e.elim g1 (fun e => absurd a1 (by omega)), j, ⟨g2, c⟩, g3, z, by rw [hsub_c]; exact a4, rfl⟩, ?_⟩
            omega
    · rintro (g | ⟨p, a1, a2, a3, y, g, a5⟩)
      · exact Had_mono (fun j hj => hj.1) g
      · rcases g with g | ⟨g1, j, g2, g3, z, g4, g5⟩
        · by_cases c : p = P
          · subst c
            exact Or.inr ⟨a2, i, hi, a3, y, (Had_ge (Nat.le_refl p)).mp g, a5⟩
          · exact Or.inl ((ih S x hi).mpr (Or.inr ⟨p, by omega, a2, a3, y, g, a5⟩))
        · have hp : p ≠ P := fun e => g1 (Or.inr e.symm)
          refine Or.inr ⟨fun e => g1 (Or.inl e), j, g2.1, g3, z + w i p, (ih (hsub S j) _ ⟨hi, fun e => g2.2 e.symm⟩).mpr (Or.inr ⟨p, by omega, a2, a3, z, by rw [hsub_c]; exact g4, rfl⟩), ?_⟩
          omega
/-- the greatest that can be had -/
def Top (al : Nat → Nat → Prop) (w : Nat → Nat → Nat) (P : Nat) (O S : Nat → Prop) (x : Nat) : Prop := Had al w P O S x ∧ ∀ y, Had al w P O S y → y ≤ x
theorem Top_0 {O S : Nat → Prop} : Top al w 0 O S 0 := ⟨rfl, fun _ h => Nat.le_of_eq h⟩
theorem Top_one {P : Nat} {O S : Nat → Prop} {x y : Nat} (h : Top al w P O S x) (k : Top al w P O S y) : x = y := Nat.le_antisymm (k.2 _ h.1) (h.2 _ k.1)
theorem Top_out {P : Nat} {O S : Nat → Prop} {x : Nat} (hO : O P) (h : Top al w P O S x) : Top al w (P + 1) O S x := by
  refine ⟨Or.inl h.1, fun y hy => ?_⟩
  rcases hy with g | ⟨g1, _⟩
  · exact h.2 _ g
  · exact absurd hO g1
/-- one person more: x is what was there or is had by giving him a house, and is no less than all these -/
theorem Top_step {P : Nat} {O S : Nat → Prop} {a x : Nat} (hO : ¬ O P) (h : Top al w P O S a) (hx : x = a ∨ ∃ i, S i ∧ al i P ∧ ∃ b, Top al w P O (hsub S i) b ∧ x = b + w i P) (h1 : a ≤ x) (h2 : ∀ i b, S i → al i P → Top al w P O (hsub S i) b → b + w i P ≤ x) (hT : ∀ i, S i → ∃ b, Top al w P O (hsub S i) b) : Top al w (P + 1) O S x := by
  refine ⟨?_, fun y hy => ?_⟩
  · rcases hx with rfl | ⟨i, g1, g2, b, g3, rfl⟩
    · exact Or.inl h.1
    · exact Or.inr ⟨hO, i, g1, g2, b, g3.1, rfl⟩
  · rcases hy with g | ⟨-, i, g1, g2, z, g3, rfl⟩
    · exact Nat.le_trans (h.2 _ g) h1
    · obtain ⟨b, hb⟩ := hT i g1
      exact Nat.le_trans (Nat.add_le_add_right (hb.2 _ g3) _) (h2 i b g1 g2 hb)
end BST
/-- the class's number: sums above, below a digit of six bits for each of seven houses -/
def dgU (i : Nat) : Nat := match i with
  | 0 => 68719476736
  | 1 => 1073741824
  | 2 => 16777216
  | 3 => 262144
  | 4 => 4096
  | 5 => 64
  | _ => 1
def wS (v : Nat → Nat → Nat) (i p : Nat) : Nat := v i p
def wP (v : Nat → Nat → Nat) (i p : Nat) : Nat := v i p * 4398046511104 + (63 - p) * dgU i
def alV (v : Nat → Nat → Nat) (i p : Nat) : Prop := 0 < v i p
section BSV
variable {v : Nat → Nat → Nat}
def pd (f : Nat → Nat) : Nat := f 0 * 68719476736 + f 1 * 1073741824 + f 2 * 16777216 + f 3 * 262144 + f 4 * 4096 + f 5 * 64 + f 6
def updN (f : Nat → Nat) (i a : Nat) : Nat → Nat := fun j => if j = i then a else f j
theorem pd_upd {f : Nat → Nat} {i a : Nat} (hi : i < 7) (h : f i = 0) : pd (updN f i a) = pd f + a * dgU i := by
  have e : ∀ j, updN f i a j = if j = i then a else f j := fun _ => rfl
  have h0 := e 0; have h1 := e 1; have h2 := e 2; have h3 := e 3; have h4 := e 4; have h5 := e 5; have h6 := e 6
  unfold pd
  rcases (show i = 0 ∨ i = 1 ∨ i = 2 ∨ i = 3 ∨ i = 4 ∨ i = 5 ∨ i = 6 by omega) with rfl | rfl | rfl | rfl | rfl | rfl | rfl <;> (simp only [Nat.reduceEqDiff, if_true, if_false] at h0 h1 h2 h3 h4 h5 h6; rw [h0, h1, h2, h3, h4, h5, h6, h])
  · show _ = _ + a * 68719476736; omega
  · show _ = _ + a * 1073741824; omega
  · show _ = _ + a * 16777216; omega
  · show _ = _ + a * 262144; omega
  · show _ = _ + a * 4096; omega
  · show _ = _ + a * 64; omega
  · show _ = _ + a * 1; omega
theorem pd_lt {f : Nat → Nat} (h : ∀ i, f i ≤ 63) : pd f < 4398046511104 := by
  have h0 := h 0; have h1 := h 1; have h2 := h 2; have h3 := h 3; have h4 := h 4; have h5 := h 5; have h6 := h 6
  unfold pd; omega
/-- what is had in the class's numbers is a sum and digits -/
theorem Had_pd : ∀ {P : Nat} {O S : Nat → Prop} {x : Nat}, (∀ i, S i → i < 7) → Had (alV v) (wP v) P O S x → ∃ (y : Nat) (f : Nat → Nat), Had (alV v) (wS v) P O S y ∧ (∀ i, f i ≤ 63) ∧ (∀ i, ¬ S i → f i = 0) ∧ x = y * 4398046511104 + pd f
  | 0, _, _, x, _, h => ⟨0, fun _ => 0, rfl, fun _ => Nat.zero_le _, fun _ _ => rfl, by have h : x = 0 := h; rw [h]; rfl⟩
  | P + 1, O, S, x, h7, h => by
    rcases h with g | ⟨g1, i, g2, g3, z, g4, rfl⟩
    · obtain ⟨y, f, a1, a2, a3, a4⟩ := Had_pd h7 g
      exact ⟨y, f, Or.inl a1, a2, a3, a4⟩
    · obtain ⟨y, f, a1, a2, a3, a4⟩ := Had_pd (fun j hj => h7 j hj.1) g4
      have hf : f i = 0 := a3 i (fun e => e.2 rfl)
      refine ⟨y + v i P, updN f i (63 - P), Or.inr ⟨g1, i, g2, g3, y, a1, rfl⟩, fun j => ?_, fun j hj => ?_, ?_⟩
      · unfold updN; split
        · omega
        · exact a2 j
      · unfold updN
        rw [if_neg (fun e => hj (by rw [e]; exact g2))]
        exact a3 j (fun e => hj e.1)
      · rw [pd_upd (h7 i g2) hf, a4]
        unfold wP
        rw [Nat.add_mul]
        omega
theorem Had_up : ∀ {P : Nat} {O S : Nat → Prop} {y : Nat}, (∀ i, S i → i < 7) → Had (alV v) (wS v) P O S y → ∃ x, Had (alV v) (wP v) P O S x ∧ x / 4398046511104 = y
  | 0, _, _, y, _, h => ⟨0, rfl, by have h : y = 0 := h; rw [h]⟩
  | P + 1, O, S, y, h7, h => by
    rcases h with g | ⟨g1, i, g2, g3, z, g4, rfl⟩
    · obtain ⟨x, a1, a2⟩ := Had_up h7 g
      exact ⟨x, Or.inl a1, a2⟩
    · obtain ⟨x, a1, a2⟩ := Had_up (fun j hj => h7 j hj.1) g4
      have hx : Had (alV v) (wP v) (P + 1) O S (x + wP v i P) := Or.inr ⟨g1, i, g2, g3, x, a1, rfl⟩
      refine ⟨_, hx, ?_⟩
      obtain ⟨y1, f1, b1, b2, b3, b4⟩ := Had_pd (fun j hj => h7 j hj.1) a1
      have hf : f1 i = 0 := b3 i (fun e => e.2 rfl)
      have hlt : pd (updN f1 i (63 - P)) < 4398046511104 := pd_lt fun j => by
        unfold updN; split
        · omega
        · exact b2 j
      have hlt1 := pd_lt b2
      rw [pd_upd (h7 i g2) hf] at hlt
      unfold wP wS
      have e1 : x / 4398046511104 = y1 := by rw [b4]; omega
      rw [e1] at a2
      subst a2
      rw [b4]
      have : y1 * 4398046511104 + pd f1 + (v i P * 4398046511104 + (63 - P) * dgU i) = (y1 + v i P) * 4398046511104 + (pd f1 + (63 - P) * dgU i) := by rw [Nat.add_mul]; omega
      rw [this]
      omega
/-- the class's best holds the best sum -/
theorem Top_sum {P : Nat} {O S : Nat → Prop} {x : Nat} (h7 : ∀ i, S i → i < 7) (h : Top (alV v) (wP v) P O S x) : Top (alV v) (wS v) P O S (x / 4398046511104) := by
  refine ⟨?_, fun y hy => ?_⟩
  · obtain ⟨y, f, a1, a2, a3, a4⟩ := Had_pd h7 h.1
    have := pd_lt a2
    have e : x / 4398046511104 = y := by rw [a4]; omega
    rw [e]; exact a1
  · obtain ⟨z, a1, a2⟩ := Had_up h7 hy
    rw [← a2]
    exact Nat.div_le_div_right (h.2 _ a1)
end BSV
/-! the least persons, house by house -/
section BSG
variable {al : Nat → Nat → Prop} {w v : Nat → Nat → Nat}
def geS (k m : Nat) : Nat → Prop := fun i => k ≤ i ∧ i < m
theorem geS_s {k m : Nat} : hsub (geS k m) k = geS (k + 1) m := by
  funext i
  unfold hsub geS
  exact propext ⟨fun ⟨⟨a, b⟩, c⟩ => ⟨by omega, b⟩, fun ⟨a, b⟩ => ⟨⟨by omega, b⟩, by omega⟩⟩
theorem nat_max {p : Nat → Prop} : ∀ (B : Nat), (∃ x, p x) → (∀ y, p y → y ≤ B) → ∃ x, p x ∧ ∀ y, p y → y ≤ x
  | 0, ⟨x, hx⟩, hB => ⟨x, hx, fun y hy => Nat.le_trans (hB y hy) (Nat.zero_le x)⟩
  | B + 1, h, hB => by
    by_cases c : p (B + 1)
    · exact ⟨B + 1, c, hB⟩
    · exact nat_max B h (fun y hy => by
        have := hB y hy
        rcases Nat.lt_or_ge y (B + 1) with g | g
        · omega
        · have e : y = B + 1 := by omega
          rw [e] at hy; exact absurd hy c)
theorem Had_0 : ∀ {P : Nat} {O S : Nat → Prop}, Had al w P O S 0
  | 0, _, _ => rfl
  | P + 1, O, S => Or.inl (Had_0 (P := P))
theorem Had_bd (O : Nat → Prop) : ∀ (P : Nat), ∃ B, ∀ (S : Nat → Prop) (y : Nat), (∀ i, S i → i < 7) → Had al w P O S y → y ≤ B
  | 0 => ⟨0, fun _ y _ h => Nat.le_of_eq h⟩
  | P + 1 => by
    obtain ⟨B, hB⟩ := Had_bd O P
    refine ⟨B + (w 0 P + w 1 P + w 2 P + w 3 P + w 4 P + w 5 P + w 6 P), fun S y h7 h => ?_⟩
    rcases h with g | ⟨_, i, g2, _, z, g4, rfl⟩
    · have := hB S y h7 g; omega
    · have h1 := hB (hsub S i) z (fun j hj => h7 j hj.1) g4
      have h2 := h7 i g2
      rcases (show i = 0 ∨ i = 1 ∨ i = 2 ∨ i = 3 ∨ i = 4 ∨ i = 5 ∨ i = 6 by omega) with rfl | rfl | rfl | rfl | rfl | rfl | rfl <;> omega
theorem Top_ex (P : Nat) (O S : Nat → Prop) (h7 : ∀ i, S i → i < 7) : ∃ x, Top al w P O S x := by
  obtain ⟨B, hB⟩ := Had_bd (al := al) (w := w) O P
  exact nat_max B ⟨0, Had_0⟩ (fun y hy => hB S y h7 hy)
theorem pd_k {f : Nat → Nat} {k : Nat} (hk : k < 7) (h : ∀ i, f i ≤ 63) (h0 : ∀ i, i ≤ k → f i = 0) : pd f < dgU k := by
  have g0 := h 0; have g1 := h 1; have g2 := h 2; have g3 := h 3; have g4 := h 4; have g5 := h 5; have g6 := h 6
  unfold pd
  rcases (show k = 0 ∨ k = 1 ∨ k = 2 ∨ k = 3 ∨ k = 4 ∨ k = 5 ∨ k = 6 by omega) with rfl | rfl | rfl | rfl | rfl | rfl | rfl
  · have a0 := h0 0 (by omega); show _ < 68719476736; omega
  · have a0 := h0 0 (by omega); have a1 := h0 1 (by omega); show _ < 1073741824; omega
  · have a0 := h0 0 (by omega); have a1 := h0 1 (by omega); have a2 := h0 2 (by omega); show _ < 16777216; omega
  · have a0 := h0 0 (by omega); have a1 := h0 1 (by omega); have a2 := h0 2 (by omega); have a3 := h0 3 (by omega); show _ < 262144; omega
  · have a0 := h0 0 (by omega); have a1 := h0 1 (by omega); have a2 := h0 2 (by omega); have a3 := h0 3 (by omega); have a4 := h0 4 (by omega); show _ < 4096; omega
  · have a0 := h0 0 (by omega); have a1 := h0 1 (by omega); have a2 := h0 2 (by omega); have a3 := h0 3 (by omega); have a4 := h0 4 (by omega); have a5 := h0 5 (by omega); show _ < 64; omega
  · have a0 := h0 0 (by omega); have a1 := h0 1 (by omega); have a2 := h0 2 (by omega); have a3 := h0 3 (by omega); have a4 := h0 4 (by omega); have a5 := h0 5 (by omega); have a6 := h0 6 (by omega); show _ < 1; omega
theorem dgU_le {k : Nat} : 64 * dgU k ≤ 4398046511104 := by
  unfold dgU
  split <;> omega
/-- a number of houses k + 1 .. m - 1, and k given to q: its parts -/
theorem low_k {k m P : Nat} {O : Nat → Prop} {z : Nat} (hm : m ≤ 7) (hk : k < m) (h : Had (alV v) (wP v) P O (geS (k + 1) m) z) : ∃ y r, z = y * 4398046511104 + r ∧ r < dgU k ∧ Had (alV v) (wS v) P O (geS (k + 1) m) y := by
  obtain ⟨y, f, a1, a2, a3, a4⟩ := Had_pd (fun i hi => by have := hi.2; omega) h
  exact ⟨y, pd f, a4, pd_k (by omega) a2 (fun i hi => a3 i (fun e => by have := e.1; omega)), a1⟩
theorem greedy {k m P : Nat} {O : Nat → Prop} {X : Nat} (hm : m ≤ 7) (hk : k < m) (hP : P ≤ 62) (hX : Top (alV v) (wP v) P O (geS k m) X) :
    (∀ p T, p < P → ¬ O p → 0 < v k p → Top (alV v) (wS v) P (padd O p) (geS (k + 1) m) T → v k p + T = X / 4398046511104 → (∀ q U, q < p → ¬ O q → 0 < v k q → Top (alV v) (wS v) P (padd O q) (geS (k + 1) m) U → v k q + U ≠ X / 4398046511104) → ∃ X', Top (alV v) (wP v) P (padd O p) (geS (k + 1) m) X' ∧ X = X' + wP v k p ∧ X' / 4398046511104 = T) ∧
    ((∀ q U, q < P → ¬ O q → 0 < v k q → Top (alV v) (wS v) P (padd O q) (geS (k + 1) m) U → v k q + U ≠ X / 4398046511104) → Top (alV v) (wP v) P O (geS (k + 1) m) X) := by
  have h7 : ∀ j i, geS j m i → i < 7 := fun j i hi => by have := hi.2; omega
  have hS : geS k m k := ⟨Nat.le_refl k, hk⟩
  have hd := @dgU_le k
  have hd1 : 1 ≤ dgU k := by unfold dgU; split <;> omega
  -- giving k to q
  have give : ∀ q, q < P → ¬ O q → 0 < v k q → ∀ Z, Top (alV v) (wP v) P (padd O q) (geS (k + 1) m) Z → Z + wP v k q ≤ X ∧ ∃ r, r < dgU k ∧ Z + wP v k q = (v k q + Z / 4398046511104) * 4398046511104 + ((63 - q) * dgU k + r) ∧ (63 - q) * dgU k + r < 4398046511104 := by
    intro q hq hO hv Z hZ
    refine ⟨hX.2 _ ((Had_swap hS).mpr (Or.inr ⟨q, hq, hO, hv, Z, by rw [geS_s]; exact hZ.1, rfl⟩)), ?_⟩
    obtain ⟨y, r, e1, e2, -⟩ := low_k hm hk hZ.1
    have e3 : Z / 4398046511104 = y := by omega
    have e4 : (63 - q) * dgU k ≤ 63 * dgU k := Nat.mul_le_mul_right _ (by omega)
    refine ⟨r, e2, ?_, by omega⟩
    rw [e3]
    unfold wP
    rw [Nat.add_mul]
    omega
  rcases (Had_swap hS).mp hX.1 with hN | ⟨q, b1, b2, b3, z, b4, b5⟩
  · rw [geS_s] at hN
    refine ⟨fun p T hp hO hv hT he _ => ?_, fun _ => ⟨hN, fun y hy => hX.2 y (Had_mono (fun i hi => ⟨by have := hi.1; omega, hi.2⟩) hy)⟩⟩
    exfalso
    obtain ⟨X', hX'⟩ := Top_ex (al := alV v) (w := wP v) P (padd O p) (geS (k + 1) m) (h7 _)
    obtain ⟨g1, r, g2, g3, g4⟩ := give p hp hO hv X' hX'
    have e1 := Top_one hT (Top_sum (h7 _) hX')
    obtain ⟨y, r', f1, f2, -⟩ := low_k hm hk hN
    have e2 : X / 4398046511104 = y := by omega
    rw [← e1, he, e2] at g3
    have e4 : 1 * dgU k ≤ (63 - p) * dgU k := Nat.mul_le_mul_right _ (by omega)
    omega
  · rw [geS_s] at b4
    obtain ⟨Z, hZ⟩ := Top_ex (al := alV v) (w := wP v) P (padd O q) (geS (k + 1) m) (h7 _)
    have hzZ := hZ.2 _ b4
    obtain ⟨g1, r, g2, g3, g4⟩ := give q b1 b2 b3 Z hZ
    have hXe : X = Z + wP v k q := by omega
    have hqe : v k q + Z / 4398046511104 = X / 4398046511104 := by
      rw [← hXe] at g3
      omega
    have hqT := Top_sum (h7 _) hZ
    refine ⟨fun p T hp hO hv hT he hl => ?_, fun hn => absurd hqe (hn q _ b1 b2 b3 hqT)⟩
    rcases Nat.lt_or_ge q p with c | c
    · exact absurd hqe (hl q _ c b2 b3 hqT)
    · rcases Nat.lt_or_ge p q with c2 | c2
      · exfalso
        obtain ⟨X', hX'⟩ := Top_ex (al := alV v) (w := wP v) P (padd O p) (geS (k + 1) m) (h7 _)
        obtain ⟨f1, r2, f2, f3, f4⟩ := give p hp hO hv X' hX'
        have e1 := Top_one hT (Top_sum (h7 _) hX')
        rw [← e1, he] at f3
        rw [← hXe, hqe] at g3
        have e4 : (63 - q + 1) * dgU k ≤ (63 - p) * dgU k := Nat.mul_le_mul_right _ (by omega)
        rw [Nat.add_mul] at e4
        omega
      · have e : p = q := by omega
        subst e
        exact ⟨Z, hZ, hXe, Top_one (Top_sum (h7 _) hZ) hT⟩
theorem Top_end {m P : Nat} {O : Nat → Prop} {X : Nat} (h : Top al w P O (geS m m) X) : X = 0 := by
  have e : ∀ {P : Nat} {x : Nat}, Had al w P O (geS m m) x → x = 0 := by
    intro P
    induction P with
    | zero => intro x h; exact h
    | succ P ih =>
      intro x h
      rcases h with g | ⟨_, i, g2, _⟩
      · exact ih g
      · exact absurd g2.1 (by have := g2.2; omega)
  exact e h.1
/-- a digit read -/
theorem pd_dig {f : Nat → Nat} {i a : Nat} (hi : i < 7) (h : ∀ i, f i ≤ 63) : (a * 4398046511104 + pd f) / dgU i % 64 = f i := by
  have g0 := h 0; have g1 := h 1; have g2 := h 2; have g3 := h 3; have g4 := h 4; have g5 := h 5; have g6 := h 6
  unfold pd
  rcases (show i = 0 ∨ i = 1 ∨ i = 2 ∨ i = 3 ∨ i = 4 ∨ i = 5 ∨ i = 6 by omega) with rfl | rfl | rfl | rfl | rfl | rfl | rfl
  · show _ / 68719476736 % 64 = _; omega
  · show _ / 1073741824 % 64 = _; omega
  · show _ / 16777216 % 64 = _; omega
  · show _ / 262144 % 64 = _; omega
  · show _ / 4096 % 64 = _; omega
  · show _ / 64 % 64 = _; omega
  · show _ / 1 % 64 = _; omega
end BSG
