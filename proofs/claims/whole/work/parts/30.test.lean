/-- 1 if c holds, else 0 -/
def bI (c : Prop) [Decidable c] : Int32 := if c then 1 else 0
theorem bI_0 {c : Prop} [Decidable c] : bI c = 0 ↔ ¬ c := by unfold bI; by_cases h : c <;> simp [h]
theorem bI_t {c : Prop} [Decidable c] (h : c) : bI c = 1 := if_pos h
theorem bI_f {c : Prop} [Decidable c] (h : ¬ c) : bI c = 0 := if_neg h
theorem bI_01 {c : Prop} [Decidable c] : bI c = 0 ∨ bI c = 1 := by unfold bI; by_cases h : c <;> simp [h]
section TT
variable {d : Nat} {σ : aM} {Q : aR → aM → Prop}
theorem C136 {n a b : Int32} : WP d 136 0 [some (vi n), some (vi a), some (vi b)] [] σ Q ↔ Q (some (some (vi (bI (a ≤ n ∧ n ≤ b))))) σ := by
  simp only [S136_0, S136_1, S136_2, S136_5, S136_6, S136_7, S136_10, S136_11, S136_14, S136_15]
  by_cases h1 : n < a
  · have : ¬ (a ≤ n ∧ n ≤ b) := fun h => Int32.not_lt.mpr h.1 h1
    simp [h1, bI_f this]
  · by_cases h2 : b < n
    · have : ¬ (a ≤ n ∧ n ≤ b) := fun h => Int32.not_lt.mpr h.2 h2
      simp [h1, h2, bI_f this]
    · have : a ≤ n ∧ n ≤ b := ⟨Int32.not_lt.mp h1, Int32.not_lt.mp h2⟩
      simp [h1, h2, bI_t this]
theorem C133 {n : Int32} (h3 : gC σ 3 = 1) (h21 : gC σ 21 = 1) (hr : gR σ 3 0 0 = some (21, 0)) (hN : gN σ 21 0 < 1000) (hp : ∀ j, gR σ 21 0 j = some (34, j)) (hc : gC σ 34 = gN σ 21 0) : WP (d + 1) 133 0 [some (vr (some (3, 0))), some (vi n)] [] σ Q ↔ Q (some (some (vr (if 0 ≤ n ∧ n ≤ nI (gN σ 21 0) - 1 then some (34, n.toNatClampNeg) else none)))) σ := by
  simp only [S133_0, S133_1, S133_2, S133_3, S133_6, S133_9, S133_10, S133_11, S133_14, S133_17, S133_18, S133_21, S133_22, S133_25n, S133_25, S133_28, S133_31, S133_32, C136, am_ko_v, h3, h21, hr, k21, bI_0]
  sorry
end TT
