section LVS
variable {mid pc tg : Nat} {l : aL} {st : List aV} {σ : aM}
theorem lv_s {y : aX} (hx : am_lv tg pc l st σ = some y) : (tg = 11 ∧ ∃ q K i r, st = vr q :: vr (some (K, i)) :: r ∧ (kT K = (5, 0) ∧ i < gC σ K ∧ gN σ K i ≤ 40000 ∧ r.length ≤ 4) ∧ ((gB σ).1 + 1 ≤ 601024 ∧ (gB σ).2 + (gN σ K i + gN σ K i / 2 + 10) ≤ 7293034) ∧ y = .inl (pc + 3, l, vi 1 :: r, am_add σ K i q)) ∨ (tg = 12 ∧ ∃ q j K i r, st = vr q :: vi j :: vr (some (K, i)) :: r ∧ (kT K = (5, 0) ∧ i < gC σ K ∧ gN σ K i ≤ 40000 ∧ r.length ≤ 4 ∧ am_in j (gN σ K i + 1)) ∧ ((gB σ).1 + 1 ≤ 601024 ∧ (gB σ).2 + (gN σ K i + gN σ K i / 2 + 10) ≤ 7293034) ∧ y = .inl (pc + 3, l, r, am_ins σ K i j.toNatClampNeg q)) ∨ (tg = 13 ∧ ∃ j K i r, st = vi j :: vr (some (K, i)) :: r ∧ (kT K = (5, 0) ∧ i < gC σ K ∧ r.length ≤ 4 ∧ am_in j (gN σ K i)) ∧ y = .inl (pc + 3, l, vr (gR σ K i j.toNatClampNeg) :: r, σ)) ∨ (tg = 14 ∧ ∃ j K i r, st = vi j :: vr (some (K, i)) :: r ∧ (kT K = (5, 0) ∧ i < gC σ K ∧ r.length ≤ 4 ∧ am_in j (gN σ K i)) ∧ y = .inl (pc + 3, l, vr (gR σ K i j.toNatClampNeg) :: r, am_rem σ K i j.toNatClampNeg)) ∨ (tg = 15 ∧ ∃ K i r, st = vr (some (K, i)) :: r ∧ (kT K = (5, 0) ∧ i < gC σ K ∧ r.length ≤ 4) ∧ y = .inl (pc + 3, l, vi (nI (gN σ K i)) :: r, σ)) ∨ (tg = 16 ∧ ∃ K i r, st = vr (some (K, i)) :: r ∧ (kT K = (5, 0) ∧ i < gC σ K ∧ r.length ≤ 4) ∧ y = .inl (pc + 3, l, r, sN σ K i 0)) ∨ (tg = 17 ∧ ∃ K i r, st = vr (some (K, i)) :: r ∧ (kT K = (5, 0) ∧ i < gC σ K ∧ r.length ≤ 4) ∧ y = .inl (pc + 3, l, vi (if gN σ K i = 0 then 1 else 0) :: r, σ)) ∨ (tg = 21 ∧ ∃ i r, st = vr (some (1, i)) :: r ∧ (i < stxt.length ∧ r.length ≤ 4) ∧ y = .inl (pc + 3, l, vi (nI (stxt.getD i []).length) :: r, σ)) ∨ (tg = 22 ∧ ∃ j i r, st = vi j :: vr (some (1, i)) :: r ∧ (i < stxt.length ∧ r.length ≤ 4 ∧ am_in j (stxt.getD i []).length) ∧ y = .inl (pc + 3, l, vi (nI ((stxt.getD i []).getD j.toNatClampNeg 0)) :: r, σ)) := by
  unfold am_lv at hx
  split at hx
  · obtain ⟨q, r1, rfl, h1⟩ := rq_s hx
    obtain ⟨K, i, r, rfl, h2⟩ := ro_s h1
    obtain ⟨hg, h3⟩ := gd_s h2
    obtain ⟨hbd, h4⟩ := gd_s (show am_gd _ _ = some _ from h3)
    exact Or.inl ⟨rfl, q, K, i, r, rfl, hg, hbd, (Option.some.inj h4).symm⟩
  · obtain ⟨q, r1, rfl, h1⟩ := rq_s hx
    obtain ⟨j, r2, rfl, h1b⟩ := i1_s h1
    obtain ⟨K, i, r, rfl, h2⟩ := ro_s h1b
    obtain ⟨hg, h3⟩ := gd_s h2
    obtain ⟨hbd, h4⟩ := gd_s (show am_gd _ _ = some _ from h3)
    exact Or.inr (Or.inl ⟨rfl, q, j, K, i, r, rfl, hg, hbd, (Option.some.inj h4).symm⟩)
  · obtain ⟨j, r2, rfl, h1b⟩ := i1_s hx
    obtain ⟨K, i, r, rfl, h2⟩ := ro_s h1b
    obtain ⟨hg, h4⟩ := gd_s h2
    exact Or.inr (Or.inr (Or.inl ⟨rfl, j, K, i, r, rfl, hg, (Option.some.inj h4).symm⟩))
  · obtain ⟨j, r2, rfl, h1b⟩ := i1_s hx
    obtain ⟨K, i, r, rfl, h2⟩ := ro_s h1b
    obtain ⟨hg, h4⟩ := gd_s h2
    exact Or.inr (Or.inr (Or.inr (Or.inl ⟨rfl, j, K, i, r, rfl, hg, (Option.some.inj h4).symm⟩)))
  · obtain ⟨K, i, r, rfl, h2⟩ := ro_s hx
    obtain ⟨hg, h4⟩ := gd_s h2
    exact Or.inr (Or.inr (Or.inr (Or.inr (Or.inl ⟨rfl, K, i, r, rfl, hg, (Option.some.inj h4).symm⟩))))
  · obtain ⟨K, i, r, rfl, h2⟩ := ro_s hx
    obtain ⟨hg, h4⟩ := gd_s h2
    exact Or.inr (Or.inr (Or.inr (Or.inr (Or.inr (Or.inl ⟨rfl, K, i, r, rfl, hg, (Option.some.inj h4).symm⟩)))))
  · obtain ⟨K, i, r, rfl, h2⟩ := ro_s hx
    obtain ⟨hg, h4⟩ := gd_s h2
    exact Or.inr (Or.inr (Or.inr (Or.inr (Or.inr (Or.inr (Or.inl ⟨rfl, K, i, r, rfl, hg, (Option.some.inj h4).symm⟩))))))
  · obtain ⟨K, i, r, rfl, h2⟩ := ro_s hx
    obtain ⟨⟨rfl, hg⟩, h4⟩ := gd_s h2
    exact Or.inr (Or.inr (Or.inr (Or.inr (Or.inr (Or.inr (Or.inr (Or.inl ⟨rfl, i, r, rfl, hg, (Option.some.inj h4).symm⟩)))))))
  · obtain ⟨j, r2, rfl, h1b⟩ := i1_s hx
    obtain ⟨K, i, r, rfl, h2⟩ := ro_s h1b
    obtain ⟨⟨rfl, hg⟩, h4⟩ := gd_s h2
    exact Or.inr (Or.inr (Or.inr (Or.inr (Or.inr (Or.inr (Or.inr (Or.inr (⟨rfl, j, i, r, rfl, hg, (Option.some.inj h4).symm⟩))))))))
  · cases hx
theorem ls_s {y : aX} (hx : am_ls tg mid pc l st σ = some y) : (tg = 31 ∧ ∃ n K i r K2, st = vi n :: vr (some (K, i)) :: r ∧ kS mid pc = some K2 ∧ (kT K = (1, 0) ∧ kT K2 = (1, 0) ∧ i < gC σ K ∧ gN σ K i ≤ 100000 ∧ r.length ≤ 4 ∧ am_in n (gN σ K i + 1)) ∧ ((gB σ).1 + 1 ≤ 601024 ∧ (gB σ).2 + n.toNatClampNeg ≤ 7293034) ∧ y = .inl (pc + 3, l, vr (some (K2, gC σ K2)) :: r, sIr (am_mk σ K2 n.toNatClampNeg n.toNatClampNeg) K2 (gC σ K2) (gI σ K i))) ∨ (tg = 32 ∧ ∃ v K i r, st = vl v :: vr (some (K, i)) :: r ∧ (kT K = (2, 0) ∧ i < gC σ K ∧ gN σ K i ≤ 100000 ∧ r.length ≤ 4) ∧ y = .inl (pc + 3, l, r, sLr σ K i (fun _ => v))) ∨ (tg = 33 ∧ ∃ a b r, st = vi b :: vi a :: r ∧ r.length ≤ 4 ∧ y = .inl (pc + 3, l, vi (if b < a then b else a) :: r, σ)) ∨ (tg = 34 ∧ ∃ a b r, st = vl b :: vl a :: r ∧ r.length ≤ 4 ∧ y = .inl (pc + 3, l, vl (if a < b then b else a) :: r, σ)) ∨ (tg = 35 ∧ ∃ a r, st = vi a :: r ∧ r.length ≤ 4 ∧ y = .inl (pc + 3, l, vi (am_bc a) :: r, σ)) := by
  unfold am_ls at hx
  split at hx
  · obtain ⟨n, r2, rfl, h1⟩ := i1_s hx
    obtain ⟨K, i, r, rfl, h2⟩ := ro_s h1
    cases hs : kS mid pc with
    | none => rw [hs] at h2; cases h2
    | some K2 =>
      rw [hs] at h2
      obtain ⟨hg, h3⟩ := gd_s h2
      obtain ⟨hbd, h4⟩ := gd_s (show am_gd _ _ = some _ from h3)
      exact Or.inl ⟨rfl, n, K, i, r, K2, rfl, rfl, hg, hbd, (Option.some.inj h4).symm⟩
  · obtain ⟨v, r2, rfl, h1⟩ := l1_s hx
    obtain ⟨K, i, r, rfl, h2⟩ := ro_s h1
    obtain ⟨hg, h4⟩ := gd_s h2
    exact Or.inr (Or.inl ⟨rfl, v, K, i, r, rfl, hg, (Option.some.inj h4).symm⟩)
  · obtain ⟨a, b, r, rfl, h2⟩ := i2_s hx
    obtain ⟨hg, h4⟩ := gd_s h2
    exact Or.inr (Or.inr (Or.inl ⟨rfl, a, b, r, rfl, hg, (Option.some.inj h4).symm⟩))
  · obtain ⟨a, b, r, rfl, h2⟩ := l2_s hx
    obtain ⟨hg, h4⟩ := gd_s h2
    exact Or.inr (Or.inr (Or.inr (Or.inl ⟨rfl, a, b, r, rfl, hg, (Option.some.inj h4).symm⟩)))
  · obtain ⟨a, r, rfl, h2⟩ := i1_s hx
    obtain ⟨hg, h4⟩ := gd_s h2
    exact Or.inr (Or.inr (Or.inr (Or.inr (⟨rfl, a, r, rfl, hg, (Option.some.inj h4).symm⟩))))
  · cases hx
theorem lv_bound {tg pc' : Nat} {l' : aL} {st' : List aV} {σ' : aM} (hx : am_lv tg pc l st σ = some (.inl (pc', l', st', σ'))) (h0 : (gB σ).1 ≤ 601024 ∧ (gB σ).2 ≤ 7293034) : (gB σ').1 ≤ 601024 ∧ (gB σ').2 ≤ 7293034 := by
  rcases lv_s hx with h0 | h1 | h2 | h3 | h4 | h5 | h6 | h7 | h8
  · obtain ⟨_, _, _, _, _, _, _, hbd, hy⟩ := h0
    cases hy; exact hbd
  · obtain ⟨_, _, _, _, _, _, _, _, hbd, hy⟩ := h1
    cases hy; exact hbd
  · obtain ⟨_, _, _, _, _, _, _, hy⟩ := h2
    cases hy; exact h0
  · obtain ⟨_, _, _, _, _, _, _, hy⟩ := h3
    cases hy; exact h0
  · obtain ⟨_, _, _, _, _, _, hy⟩ := h4
    cases hy; exact h0
  · obtain ⟨_, _, _, _, _, _, hy⟩ := h5
    cases hy; exact h0
  · obtain ⟨_, _, _, _, _, _, hy⟩ := h6
    cases hy; exact h0
  · obtain ⟨_, _, _, _, _, hy⟩ := h7
    cases hy; exact h0
  · obtain ⟨_, _, _, _, _, _, hy⟩ := h8
    cases hy; exact h0
theorem ls_bound {tg pc' : Nat} {l' : aL} {st' : List aV} {σ' : aM} (hx : am_ls tg mid pc l st σ = some (.inl (pc', l', st', σ'))) (h0 : (gB σ).1 ≤ 601024 ∧ (gB σ).2 ≤ 7293034) : (gB σ').1 ≤ 601024 ∧ (gB σ').2 ≤ 7293034 := by
  rcases ls_s hx with h0 | h1 | h2 | h3 | h4
  · obtain ⟨_, _, _, _, _, _, _, _, _, hbd, hy⟩ := h0
    cases hy; exact hbd
  · obtain ⟨_, _, _, _, _, _, _, hy⟩ := h1
    cases hy; exact h0
  · obtain ⟨_, _, _, _, _, _, hy⟩ := h2
    cases hy; exact h0
  · obtain ⟨_, _, _, _, _, _, hy⟩ := h3
    cases hy; exact h0
  · obtain ⟨_, _, _, _, _, hy⟩ := h4
    cases hy; exact h0
theorem lv_mono {tg pc' : Nat} {l' : aL} {st' : List aV} {σ' : aM} (hx : am_lv tg pc l st σ = some (.inl (pc', l', st', σ'))) : (gB σ).1 ≤ (gB σ').1 ∧ (gB σ).2 ≤ (gB σ').2 := by
  rcases lv_s hx with h0 | h1 | h2 | h3 | h4 | h5 | h6 | h7 | h8
  · obtain ⟨_, _, _, _, _, _, _, hbd, hy⟩ := h0
    cases hy; exact ⟨Nat.le_add_right _ _, Nat.le_add_right _ _⟩
  · obtain ⟨_, _, _, _, _, _, _, _, hbd, hy⟩ := h1
    cases hy; exact ⟨Nat.le_add_right _ _, Nat.le_add_right _ _⟩
  · obtain ⟨_, _, _, _, _, _, _, hy⟩ := h2
    cases hy; exact ⟨Nat.le_refl _, Nat.le_refl _⟩
  · obtain ⟨_, _, _, _, _, _, _, hy⟩ := h3
    cases hy; exact ⟨Nat.le_refl _, Nat.le_refl _⟩
  · obtain ⟨_, _, _, _, _, _, hy⟩ := h4
    cases hy; exact ⟨Nat.le_refl _, Nat.le_refl _⟩
  · obtain ⟨_, _, _, _, _, _, hy⟩ := h5
    cases hy; exact ⟨Nat.le_refl _, Nat.le_refl _⟩
  · obtain ⟨_, _, _, _, _, _, hy⟩ := h6
    cases hy; exact ⟨Nat.le_refl _, Nat.le_refl _⟩
  · obtain ⟨_, _, _, _, _, hy⟩ := h7
    cases hy; exact ⟨Nat.le_refl _, Nat.le_refl _⟩
  · obtain ⟨_, _, _, _, _, _, hy⟩ := h8
    cases hy; exact ⟨Nat.le_refl _, Nat.le_refl _⟩
theorem ls_mono {tg pc' : Nat} {l' : aL} {st' : List aV} {σ' : aM} (hx : am_ls tg mid pc l st σ = some (.inl (pc', l', st', σ'))) : (gB σ).1 ≤ (gB σ').1 ∧ (gB σ).2 ≤ (gB σ').2 := by
  rcases ls_s hx with h0 | h1 | h2 | h3 | h4
  · obtain ⟨_, _, _, _, _, _, _, _, _, hbd, hy⟩ := h0
    cases hy; exact ⟨Nat.le_add_right _ _, Nat.le_add_right _ _⟩
  · obtain ⟨_, _, _, _, _, _, _, hy⟩ := h1
    cases hy; exact ⟨Nat.le_refl _, Nat.le_refl _⟩
  · obtain ⟨_, _, _, _, _, _, hy⟩ := h2
    cases hy; exact ⟨Nat.le_refl _, Nat.le_refl _⟩
  · obtain ⟨_, _, _, _, _, _, hy⟩ := h3
    cases hy; exact ⟨Nat.le_refl _, Nat.le_refl _⟩
  · obtain ⟨_, _, _, _, _, hy⟩ := h4
    cases hy; exact ⟨Nat.le_refl _, Nat.le_refl _⟩
theorem lv_r {tg : Nat} {z : (Nat × aL × Nat × List aV) ⊕ (aR × aM)} (hx : am_lv tg pc l st σ = some (.inr z)) : False := by
  rcases lv_s hx with h0 | h1 | h2 | h3 | h4 | h5 | h6 | h7 | h8
  · obtain ⟨_, _, _, _, _, _, _, hbd, hy⟩ := h0; cases hy
  · obtain ⟨_, _, _, _, _, _, _, _, hbd, hy⟩ := h1; cases hy
  · obtain ⟨_, _, _, _, _, _, _, hy⟩ := h2; cases hy
  · obtain ⟨_, _, _, _, _, _, _, hy⟩ := h3; cases hy
  · obtain ⟨_, _, _, _, _, _, hy⟩ := h4; cases hy
  · obtain ⟨_, _, _, _, _, _, hy⟩ := h5; cases hy
  · obtain ⟨_, _, _, _, _, _, hy⟩ := h6; cases hy
  · obtain ⟨_, _, _, _, _, hy⟩ := h7; cases hy
  · obtain ⟨_, _, _, _, _, _, hy⟩ := h8; cases hy
theorem ls_r {tg : Nat} {z : (Nat × aL × Nat × List aV) ⊕ (aR × aM)} (hx : am_ls tg mid pc l st σ = some (.inr z)) : False := by
  rcases ls_s hx with h0 | h1 | h2 | h3 | h4
  · obtain ⟨_, _, _, _, _, _, _, _, _, hbd, hy⟩ := h0; cases hy
  · obtain ⟨_, _, _, _, _, _, _, hy⟩ := h1; cases hy
  · obtain ⟨_, _, _, _, _, _, hy⟩ := h2; cases hy
  · obtain ⟨_, _, _, _, _, _, hy⟩ := h3; cases hy
  · obtain ⟨_, _, _, _, _, hy⟩ := h4; cases hy
end LVS
