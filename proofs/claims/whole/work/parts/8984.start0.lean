/-! the start: the class's constructor, printed by wip/whole/startgen.py -/
def R0 (K _ j : Nat) : Option (Nat × Nat) := if K = 21 then some (34, j) else if K = 22 then some (35, j) else if K = 24 then some (37, j) else if K = 25 then some (38, j) else if K = 26 then some (39, j) else if K = 27 then some (40, j) else if K = 28 then some (33, j) else if K = 34 ∧ (j = 12 ∨ j = 17) then some (35, 0) else if K = 35 ∧ j = 4 then some (34, 0) else if K = 37 ∧ j = 0 then some (34, 0) else if K = 39 ∧ j = 0 then some (34, 0) else none
/-- nothing is made -/
def M0 (L : Nat) (σ : aM) : Prop := (∀ K, gC σ K = 0) ∧ (∀ K i, K ≠ 0 → gN σ K i = 0) ∧ gN σ 0 0 = L ∧ (∀ K i j, K ≠ 0 → gI σ K i j = 0) ∧ (∀ K i j, gL σ K i j = 0) ∧ (∀ K i j, gR σ K i j = R0 K i j) ∧ gB σ = (0, 0)
/-- references as they are foretold, or none -/
def RN (σ : aM) : Prop := ∀ K i j, K ≠ 3 → K ≠ 29 → K ≠ 30 → K ≠ 4 → gR σ K i j = R0 K i j ∨ gR σ K i j = none
section RNS
variable {σ : aM} {K i j n s : Nat} {v : Int32} {q : Option (Nat × Nat)}
theorem RN.sI (h : RN σ) : RN (sI σ K i j v) := h
theorem RN.mk (h : RN σ) : RN (am_mk σ K n s) := fun a b c h3 h29 h30 h4 => by
  rw [gR_am_mk]
  by_cases e : a = K ∧ b = gC σ K
  · rw [if_pos e]; exact Or.inr rfl
  · rw [if_neg e]; exact h a b c h3 h29 h30 h4
theorem RN.ml (h : RN σ) : RN (am_ml σ K) := h
theorem RN.sR (hK : K = 3 ∨ K = 29 ∨ K = 30 ∨ K = 4) (h : RN σ) : RN (sR σ K i j q) := fun a b c h3 h29 h30 h4 => by
  rw [gR_sR, if_neg (by omega)]; exact h a b c h3 h29 h30 h4
theorem RN.add (hq : q = R0 K i (gN σ K i)) (h : RN σ) : RN (am_add σ K i q) := fun a b c h3 h29 h30 h4 => by
  rw [gR_am_add]
  by_cases e : a = K ∧ b = i ∧ c = gN σ K i
  · rw [if_pos e, e.1, e.2.1, e.2.2]; exact Or.inl hq
  · rw [if_neg e]; exact h a b c h3 h29 h30 h4
end RNS
