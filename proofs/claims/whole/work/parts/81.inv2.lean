/-! ===== the invariant while a WEEK is closed, printed by wip/whole/inv2.py ===== -/
def JM (n i : Nat) (σ : aM) : Prop := (∀ j, j < gN σ 21 0 → ∃ a c, gI σ 43 0 j = nI a ∧ gI σ 44 0 j = nI c ∧ a + c ≤ 16800 * gN σ 25 0 + (if j < i then 16800 else 0)) ∧ (∀ j, j < gN σ 21 0 → ∃ a, gI σ 45 0 j = nI a ∧ a ≤ 1000000) ∧ (∀ j, j < gN σ 21 0 → ∃ a, gI σ 46 0 j = nI a ∧ a ≤ 9999 * n) ∧ (∀ j, j < gN σ 21 0 → ∃ a, gI σ 47 0 j = nI a ∧ a ≤ 1000000 * gN σ 25 0 + (if j < i then 1000000 else 0)) ∧ (∀ j, j < gN σ 21 0 → ∃ a, gI σ 48 0 j = nI a ∧ a ≤ 9999) ∧ (∃ a, gI σ 4 0 26 = nI a ∧ a ≤ 1008000 * gN σ 25 0 + 16800 * i) ∧ (∃ a, gI σ 4 0 25 = nI a ∧ a ≤ 100) ∧ (n ≤ 512)
def fJM (K : Nat) : Bool := K == 21 || K == 25 || K == 43 || K == 44 || K == 45 || K == 46 || K == 47 || K == 48
theorem JM_fr {n i : Nat} {σ τ : aM} (h : JM n i σ) (a : Ag fJM σ τ) (e4_0_26 : gI τ 4 0 26 = gI σ 4 0 26) (e4_0_25 : gI τ 4 0 25 = gI σ 4 0 25) : JM n i τ := by
  obtain ⟨e21a, e21b, e21c, e21d, e21e⟩ := a 21 rfl
  obtain ⟨e25a, e25b, e25c, e25d, e25e⟩ := a 25 rfl
  obtain ⟨e43a, e43b, e43c, e43d, e43e⟩ := a 43 rfl
  obtain ⟨e44a, e44b, e44c, e44d, e44e⟩ := a 44 rfl
  obtain ⟨e45a, e45b, e45c, e45d, e45e⟩ := a 45 rfl
  obtain ⟨e46a, e46b, e46c, e46d, e46e⟩ := a 46 rfl
  obtain ⟨e47a, e47b, e47c, e47d, e47e⟩ := a 47 rfl
  obtain ⟨e48a, e48b, e48c, e48d, e48e⟩ := a 48 rfl
  obtain ⟨j_p, j_d, j_f, j_a, j_c, j_b, j_h, j_n⟩ := h
  exact ⟨by simpa only [e21a, e21b, e21c, e21d, e21e, e25a, e25b, e25c, e25d, e25e, e43a, e43b, e43c, e43d, e43e, e44a, e44b, e44c, e44d, e44e, e45a, e45b, e45c, e45d, e45e, e46a, e46b, e46c, e46d, e46e, e47a, e47b, e47c, e47d, e47e, e48a, e48b, e48c, e48d, e48e, e4_0_26, e4_0_25] using j_p,
    by simpa only [e21a, e21b, e21c, e21d, e21e, e25a, e25b, e25c, e25d, e25e, e43a, e43b, e43c, e43d, e43e, e44a, e44b, e44c, e44d, e44e, e45a, e45b, e45c, e45d, e45e, e46a, e46b, e46c, e46d, e46e, e47a, e47b, e47c, e47d, e47e, e48a, e48b, e48c, e48d, e48e, e4_0_26, e4_0_25] using j_d,
    by simpa only [e21a, e21b, e21c, e21d, e21e, e25a, e25b, e25c, e25d, e25e, e43a, e43b, e43c, e43d, e43e, e44a, e44b, e44c, e44d, e44e, e45a, e45b, e45c, e45d, e45e, e46a, e46b, e46c, e46d, e46e, e47a, e47b, e47c, e47d, e47e, e48a, e48b, e48c, e48d, e48e, e4_0_26, e4_0_25] using j_f,
    by simpa only [e21a, e21b, e21c, e21d, e21e, e25a, e25b, e25c, e25d, e25e, e43a, e43b, e43c, e43d, e43e, e44a, e44b, e44c, e44d, e44e, e45a, e45b, e45c, e45d, e45e, e46a, e46b, e46c, e46d, e46e, e47a, e47b, e47c, e47d, e47e, e48a, e48b, e48c, e48d, e48e, e4_0_26, e4_0_25] using j_a,
    by simpa only [e21a, e21b, e21c, e21d, e21e, e25a, e25b, e25c, e25d, e25e, e43a, e43b, e43c, e43d, e43e, e44a, e44b, e44c, e44d, e44e, e45a, e45b, e45c, e45d, e45e, e46a, e46b, e46c, e46d, e46e, e47a, e47b, e47c, e47d, e47e, e48a, e48b, e48c, e48d, e48e, e4_0_26, e4_0_25] using j_c,
    by simpa only [e21a, e21b, e21c, e21d, e21e, e25a, e25b, e25c, e25d, e25e, e43a, e43b, e43c, e43d, e43e, e44a, e44b, e44c, e44d, e44e, e45a, e45b, e45c, e45d, e45e, e46a, e46b, e46c, e46d, e46e, e47a, e47b, e47c, e47d, e47e, e48a, e48b, e48c, e48d, e48e, e4_0_26, e4_0_25] using j_b,
    by simpa only [e21a, e21b, e21c, e21d, e21e, e25a, e25b, e25c, e25d, e25e, e43a, e43b, e43c, e43d, e43e, e44a, e44b, e44c, e44d, e44e, e45a, e45b, e45c, e45d, e45e, e46a, e46b, e46c, e46d, e46e, e47a, e47b, e47c, e47d, e47e, e48a, e48b, e48c, e48d, e48e, e4_0_26, e4_0_25] using j_h,
    by simpa only [e21a, e21b, e21c, e21d, e21e, e25a, e25b, e25c, e25d, e25e, e43a, e43b, e43c, e43d, e43e, e44a, e44b, e44c, e44d, e44e, e45a, e45b, e45c, e45d, e45e, e46a, e46b, e46c, e46d, e46e, e47a, e47b, e47c, e47d, e47e, e48a, e48b, e48c, e48d, e48e, e4_0_26, e4_0_25] using j_n⟩
def JW (i : Nat) (σ : aM) : Prop := (gC σ 38 = gN σ 25 0 + 1) ∧ (gN σ 25 0 + 1 ≤ 1428) ∧ (∀ j, gR σ 25 0 j = some (38, j)) ∧ (gC σ 20 = gN σ 25 0 + 1) ∧ (∀ w, w < gN σ 25 0 + 1 → gR σ 38 w 1 = some (20, w)) ∧ (∀ w, w < gN σ 25 0 → ∃ q, q ≤ gN σ 21 0 ∧ gI σ 38 w 0 = nI q ∧ gN σ 20 w = 7 * q ∧ (∀ p c, p < q → c < 7 → gI σ 20 w (7 * p + c) = gI σ 83 0 (8 * (60 * w + p) + c)) ∧ (∀ p, p < 60 → gI σ 83 0 (8 * (60 * w + p) + 7) = if p < q then 1 else 0) ∧ (∀ p, p < q → gI σ 83 0 (8 * (60 * w + p) + 6) = -1 ∨ ∃ h, h < gN σ 22 0 ∧ gI σ 83 0 (8 * (60 * w + p) + 6) = nI h)) ∧ (gI σ 38 (gN σ 25 0) 0 = nI (gN σ 21 0) ∧ gN σ 20 (gN σ 25 0) = 7 * (gN σ 21 0)) ∧ (∀ p c, p < i → c < 7 → gI σ 20 (gN σ 25 0) (7 * p + c) = gI σ 83 0 (8 * (60 * gN σ 25 0 + p) + c)) ∧ (∀ p, p < 60 → gI σ 83 0 (8 * (60 * gN σ 25 0 + p) + 7) = if p < i then 1 else 0) ∧ (∀ p, p < i → gI σ 83 0 (8 * (60 * gN σ 25 0 + p) + 6) = -1 ∨ ∃ h, h < gN σ 22 0 ∧ gI σ 83 0 (8 * (60 * gN σ 25 0 + p) + 6) = nI h) ∧ (∀ w p, gN σ 25 0 + 1 ≤ w → w < 1429 → p < 60 → gI σ 83 0 (8 * (60 * w + p) + 7) = 0)
def fJW (K : Nat) : Bool := K == 25 || K == 38 || K == 20 || K == 83 || K == 21 || K == 22
theorem JW_fr {i : Nat} {σ τ : aM} (h : JW i σ) (a : Ag fJW σ τ) : JW i τ := by
  obtain ⟨e25a, e25b, e25c, e25d, e25e⟩ := a 25 rfl
  obtain ⟨e38a, e38b, e38c, e38d, e38e⟩ := a 38 rfl
  obtain ⟨e20a, e20b, e20c, e20d, e20e⟩ := a 20 rfl
  obtain ⟨e83a, e83b, e83c, e83d, e83e⟩ := a 83 rfl
  obtain ⟨e21a, e21b, e21c, e21d, e21e⟩ := a 21 rfl
  obtain ⟨e22a, e22b, e22c, e22d, e22e⟩ := a 22 rfl
  obtain ⟨v_c, v_m, v_r, v_k, v_1, v_0, v_i, v_e, v_7, v_6, v_z⟩ := h
  exact ⟨by simpa only [e25a, e25b, e25c, e25d, e25e, e38a, e38b, e38c, e38d, e38e, e20a, e20b, e20c, e20d, e20e, e83a, e83b, e83c, e83d, e83e, e21a, e21b, e21c, e21d, e21e, e22a, e22b, e22c, e22d, e22e] using v_c,
    by simpa only [e25a, e25b, e25c, e25d, e25e, e38a, e38b, e38c, e38d, e38e, e20a, e20b, e20c, e20d, e20e, e83a, e83b, e83c, e83d, e83e, e21a, e21b, e21c, e21d, e21e, e22a, e22b, e22c, e22d, e22e] using v_m,
    by simpa only [e25a, e25b, e25c, e25d, e25e, e38a, e38b, e38c, e38d, e38e, e20a, e20b, e20c, e20d, e20e, e83a, e83b, e83c, e83d, e83e, e21a, e21b, e21c, e21d, e21e, e22a, e22b, e22c, e22d, e22e] using v_r,
    by simpa only [e25a, e25b, e25c, e25d, e25e, e38a, e38b, e38c, e38d, e38e, e20a, e20b, e20c, e20d, e20e, e83a, e83b, e83c, e83d, e83e, e21a, e21b, e21c, e21d, e21e, e22a, e22b, e22c, e22d, e22e] using v_k,
    by simpa only [e25a, e25b, e25c, e25d, e25e, e38a, e38b, e38c, e38d, e38e, e20a, e20b, e20c, e20d, e20e, e83a, e83b, e83c, e83d, e83e, e21a, e21b, e21c, e21d, e21e, e22a, e22b, e22c, e22d, e22e] using v_1,
    by simpa only [e25a, e25b, e25c, e25d, e25e, e38a, e38b, e38c, e38d, e38e, e20a, e20b, e20c, e20d, e20e, e83a, e83b, e83c, e83d, e83e, e21a, e21b, e21c, e21d, e21e, e22a, e22b, e22c, e22d, e22e] using v_0,
    by simpa only [e25a, e25b, e25c, e25d, e25e, e38a, e38b, e38c, e38d, e38e, e20a, e20b, e20c, e20d, e20e, e83a, e83b, e83c, e83d, e83e, e21a, e21b, e21c, e21d, e21e, e22a, e22b, e22c, e22d, e22e] using v_i,
    by simpa only [e25a, e25b, e25c, e25d, e25e, e38a, e38b, e38c, e38d, e38e, e20a, e20b, e20c, e20d, e20e, e83a, e83b, e83c, e83d, e83e, e21a, e21b, e21c, e21d, e21e, e22a, e22b, e22c, e22d, e22e] using v_e,
    by simpa only [e25a, e25b, e25c, e25d, e25e, e38a, e38b, e38c, e38d, e38e, e20a, e20b, e20c, e20d, e20e, e83a, e83b, e83c, e83d, e83e, e21a, e21b, e21c, e21d, e21e, e22a, e22b, e22c, e22d, e22e] using v_7,
    by simpa only [e25a, e25b, e25c, e25d, e25e, e38a, e38b, e38c, e38d, e38e, e20a, e20b, e20c, e20d, e20e, e83a, e83b, e83c, e83d, e83e, e21a, e21b, e21c, e21d, e21e, e22a, e22b, e22c, e22d, e22e] using v_6,
    by simpa only [e25a, e25b, e25c, e25d, e25e, e38a, e38b, e38c, e38d, e38e, e20a, e20b, e20c, e20d, e20e, e83a, e83b, e83c, e83d, e83e, e21a, e21b, e21c, e21d, e21e, e22a, e22b, e22c, e22d, e22e] using v_z⟩
/-- the ref's hours of a PERSON in a WEEK, of the first k told -/
def hrF (σ : aM) (p w : Nat) : Nat → Int32
  | 0 => 0
  | k + 1 => if gI σ 80 0 k = nI p ∧ gI σ 81 0 k = nI w then gI σ 82 0 k else hrF σ p w k
def JU (n : Nat) (σ : aM) : Prop := (gB σ).1 ≤ 302 + 100 * n + 5 * gN σ 25 0 ∧ (gB σ).2 ≤ 720422 + 4000 * n + 2700 * gN σ 25 0
def JK (σ : aM) : Prop := ∀ p, p < gN σ 21 0 → gI σ 34 p 18 = hrF σ p (gN σ 25 0) (gN σ 24 0)
def J (n i : Nat) (σ : aM) : Prop := Sh σ ∧ BP σ ∧ JM n i σ ∧ BH σ ∧ BQ σ ∧ BD σ ∧ BT σ ∧ BX σ ∧ BO σ ∧ JW i σ ∧ BG σ ∧ BS σ ∧ BF σ ∧ JU n σ ∧ JK σ
section JSE
variable {n i : Nat} {σ τ : aM}
theorem SE.hr (a : SE σ τ) : hrF τ = hrF σ := by
  funext p w k
  induction k with
  | zero => rfl
  | succ k ih =>
    unfold hrF
    rw [ih, a.1 80 0 k (by decide) (by decide) (by decide), a.1 81 0 k (by decide) (by decide) (by decide), a.1 82 0 k (by decide) (by decide) (by decide)]
theorem RE.hr (a : RE σ τ) : hrF τ = hrF σ := by
  funext p w k
  induction k with
  | zero => rfl
  | succ k ih =>
    unfold hrF
    rw [ih, a.1 80 0 k (by decide) (by decide), a.1 81 0 k (by decide) (by decide), a.1 82 0 k (by decide) (by decide)]
theorem J.se (h : J n i σ) (a : SE σ τ) : J n i τ := by
  obtain ⟨S, bP, jM, bH, bQ, bD, bT, bX, bO, jW, bG, bS, bF, jU, jK⟩ := h
  have ag : ∀ f : Nat → Bool, f 4 = false → f 30 = false → f 79 = false → f 10 = false → f 11 = false → f 77 = false → f 78 = false → Ag f σ τ := fun f h1 h2 h3 h4 h5 h6 h7 => a.ag h1 h2 h3 h4 h5 h6 h7
  have e4 : ∀ c, c ≠ 0 → c ≠ 57 → gI τ 4 0 c = gI σ 4 0 c := a.2.1
  have eN : ∀ K i, gN τ K i = gN σ K i := a.2.2.2.2.2.2.1
  have e3 : ∀ K c, K ≠ 4 → K ≠ 30 → K ≠ 79 → gI τ K 0 c = gI σ K 0 c := fun K c => a.1 K 0 c
  refine ⟨a.sh S, BP_fr bP (ag _ rfl rfl rfl rfl rfl rfl rfl) (e4 _ (by decide) (by decide)) (Nat.le_of_eq (eN 22 0).symm), JM_fr jM (ag _ rfl rfl rfl rfl rfl rfl rfl) (e4 _ (by decide) (by decide)) (e4 _ (by decide) (by decide)), BH_fr bH (ag _ rfl rfl rfl rfl rfl rfl rfl) (e4 _ (by decide) (by decide)) (Nat.le_of_eq (eN 21 0).symm), BQ_fr bQ (ag _ rfl rfl rfl rfl rfl rfl rfl) (e4 _ (by decide) (by decide)) (Nat.le_of_eq (eN 21 0).symm), BD_fr bD (ag _ rfl rfl rfl rfl rfl rfl rfl) (e3 _ _ (by decide) (by decide) (by decide)) (e3 _ _ (by decide) (by decide) (by decide)) (e3 _ _ (by decide) (by decide) (by decide)) (e4 _ (by decide) (by decide)) (e4 _ (by decide) (by decide)) (e4 _ (by decide) (by decide)), BT_fr bT (ag _ rfl rfl rfl rfl rfl rfl rfl) (e3 _ _ (by decide) (by decide) (by decide)) (e3 _ _ (by decide) (by decide) (by decide)) (e4 _ (by decide) (by decide)) (e4 _ (by decide) (by decide)), BX_fr bX (ag _ rfl rfl rfl rfl rfl rfl rfl) (a.2.2.1 3 (by decide)) (e4 _ (by decide) (by decide)) (e4 _ (by decide) (by decide)), BO_fr bO (ag _ rfl rfl rfl rfl rfl rfl rfl) (e4 _ (by decide) (by decide)) (Nat.le_of_eq (eN 21 0).symm), JW_fr jW (ag _ rfl rfl rfl rfl rfl rfl rfl), BG_fr bG (ag _ rfl rfl rfl rfl rfl rfl rfl), BS_fr bS (ag _ rfl rfl rfl rfl rfl rfl rfl) (e4 _ (by decide) (by decide)) (Nat.le_of_eq (eN 21 0).symm), BF_fr bF (ag _ rfl rfl rfl rfl rfl rfl rfl) (e4 _ (by decide) (by decide)), ?_, ?_⟩
  · unfold JU; rw [a.2.2.2.2.2.2.2.2, eN]; exact jU
  · intro p hp
    rw [eN] at hp
    rw [a.1 34 p 18 (by decide) (by decide) (by decide), eN, eN, a.hr]
    exact jK p hp
end JSE
