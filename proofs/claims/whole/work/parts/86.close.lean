section JCL
variable {d n : Nat} {σ τ : aM} {Q : aR → aM → Prop}
theorem csZ_RE {p w T : Nat} {r m : Int32} {h : Bool} : RE τ (csZ τ p w T r m h) := ⟨fun K i j h1 _ => by
  unfold csZ csM
  rw [cwM_Ik (show K ≠ 20 by omega)]
  simp only [mI_sI_k (show K ≠ 34 by omega), mI_sI_k (show K ≠ 3 by omega)], fun c _ _ => rfl, rfl⟩
theorem cl_val {x y : Nat} (hx : x < 2147483648) (hy : y < 2147483648) : mn (nI x) (nI y) = nI (min x y) := by
  unfold mn
  by_cases c : x < y
  · rw [if_pos (nI_lt c hy), Nat.min_eq_left (by omega)]
  · rw [if_neg (nI_nlt (by omega) hx), Nat.min_eq_right (by omega)]
theorem hrF_b {p w : Nat} (bO : BO σ) : ∀ k, k ≤ gN σ 24 0 → ∃ a, a ≤ 84 ∧ hrF σ p w k = nI a := by
  (obtain ⟨o_c, o_400, o_n, o_r, o_0, o_1, o_2, o_p, o_h⟩ := id bO)
  intro k
  induction k with
  | zero => intro _; exact ⟨0, by omega, rfl⟩
  | succ k ih =>
    intro hk
    unfold hrF
    by_cases c : gI σ 80 0 k = nI p ∧ gI σ 81 0 k = nI w
    · rw [if_pos c]; exact o_h k (by omega)
    · rw [if_neg c]; exact ih (by omega)
theorem RE.has {p : Nat} (a : RE σ τ) : hasF τ p ↔ hasF σ p := by
  unfold hasF
  rw [a.1 51 0 p (by decide) (by decide), a.1 60 0 _ (by decide) (by decide)]
theorem RE.ren {p : Nat} (a : RE σ τ) : renF τ p = renF σ p := by
  unfold renF
  by_cases c : hasF σ p
  · rw [if_pos c, if_pos (a.has.mpr c), a.ru]
  · rw [if_neg c, if_neg (fun q => c (a.has.mp q))]
theorem J_go2 {p : Nat} {ζ : aM} (hJ : J n p τ) (hp : p < gN τ 21 0) (hZ : csZ τ p (gN τ 25 0) (gN τ 24 0) (renF τ p) (ruT τ 1 p) (decide (hasF τ p)) = ζ) (rz : RE τ ζ) : J n (p + 1) (clZ ζ p (gN τ 25 0) (gN τ 24 0) (renF τ p) (ruT τ 1 p) (decide (hasF τ p))) := by
  obtain ⟨S, bP, jM, bH, bQ, bD, bT, bX, bO, jW, bG, bS, bF, jU, jK⟩ := id hJ
  obtain ⟨j_p, j_d, j_f, j_a, j_c, j_b, j_h, j_n⟩ := id jM
  obtain ⟨hh, h84, eh⟩ := hrF_b (p := p) (w := gN τ 25 0) bO (gN τ 24 0) (Nat.le_refl _)
  (obtain ⟨p_c, p_60, p_n, p_r, p_0, p_1, p_2, p_3, p_4, p_5, p_6, p_7, p_8, p_9, p_10, p_11, p_13, p_19, p_12, p_17, p_16, p_14, p_z, p_hd, p_ho, p_lh, p_pay, p_wp, p_sc, p_ml⟩ := id bP)
  have wm := jW.2.1
  obtain ⟨pu, sa, e43, e44, l1⟩ := j_p p hp
  obtain ⟨dD, e45, l2⟩ := j_d p hp
  obtain ⟨fF, e46, l3⟩ := j_f p hp
  obtain ⟨aA, e47, l4⟩ := j_a p hp
  obtain ⟨cC, e48, l5⟩ := j_c p hp
  obtain ⟨bB, e26, l6⟩ := j_b
  obtain ⟨hH, e25, l7⟩ := j_h
  obtain ⟨py, l8, e49⟩ := p_pay p hp
  obtain ⟨hd, l9, l10, e41⟩ := p_hd p hp
  rw [if_neg (by omega)] at l1 l4
  have wm2 : gN τ 25 0 ≤ 1427 := by omega
  obtain ⟨rr, er, lr⟩ : ∃ rr, renF τ p = nI rr ∧ rr ≤ 1000000 := by
    unfold renF
    by_cases c : hasF τ p
    · rw [if_pos c]
      obtain ⟨N, eN, hN, -⟩ := rv_b (w := wdF τ p (gI τ 4 0 1)) (k := 0) (nm := -1) (day := gI τ 4 0 1) (known := gI τ 4 0 1) (TX_of bX) (by omega) (by omega)
      exact ⟨N, eN, hN⟩
    · rw [if_neg c]; exact ⟨0, rfl, by omega⟩
  obtain ⟨mm, em, -, lm, -⟩ := rv_b (w := wdF τ p (gI τ 4 0 1)) (k := 1) (nm := -1) (day := gI τ 4 0 1) (known := gI τ 4 0 1) (TX_of bX) (by omega) (by omega)
  have lm := lm rfl
  have em : ruT τ 1 p = nI mm := em
  have le1 : hh * py ≤ 84 * 200 := Nat.mul_le_mul h84 l8
  have le2 : mm * (hh * py) ≤ 100 * 16800 := Nat.mul_le_mul lm (by omega)
  have eE : clE τ p (gN τ 25 0) (gN τ 24 0) = nI (hh * py) := by unfold clE; rw [eh, e49, pk_mul]
  have eL : nI mm * nI (hh * py) / 100 = nI (mm * (hh * py) / 100) := by
    rw [pk_mul, show (100 : Int32) = nI 100 from rfl, pk_div (by omega) (by omega) (by omega)]
  have lL : mm * (hh * py) / 100 ≤ hh * py := by
    have : mm * (hh * py) ≤ 100 * (hh * py) := Nat.mul_le_mul_right _ lm
    omega
  have q51 := rz.1 51 0 p (by decide) (by decide)
  have zE : clE ζ p (gN τ 25 0) (gN τ 24 0) = clE τ p (gN τ 25 0) (gN τ 24 0) := by
    unfold clE; rw [rz.hr, rz.1 49 0 p (by decide) (by decide)]
  unfold clZ
  rw [zE]
  have z46 := rz.1 46 0 p (by decide) (by decide)
  have z47 := rz.1 47 0 p (by decide) (by decide)
  have z45 := rz.1 45 0 p (by decide) (by decide)
  have z48 := rz.1 48 0 p (by decide) (by decide)
  have z44 := rz.1 44 0 p (by decide) (by decide)
  have z43 := rz.1 43 0 p (by decide) (by decide)
  have z41 := rz.1 41 0 p (by decide) (by decide)
  have z49 := rz.1 49 0 p (by decide) (by decide)
  have z26 := rz.2.1 26 (by decide) (by decide)
  have z25 := rz.2.1 25 (by decide) (by decide)
  have c1 : ∀ L, cl1 ζ p L = cl1 τ p L := fun L => by unfold cl1; rw [z46]
  have c2 : ∀ r L, cl2 ζ p r L = cl2 τ p r L := fun r L => by unfold cl2; rw [c1, z47]
  have c3 : ∀ r L, cl3 ζ p r L = cl3 τ p r L := fun r L => by unfold cl3; rw [c1, c2, z45]
  have c4 : ∀ r L, cl4 ζ p r L = cl4 τ p r L := fun r L => by unfold cl4; rw [c1, c2, c3, z48]
  have c5 : ∀ r L, cl5 ζ p r L = cl5 τ p r L := fun r L => by unfold cl5; rw [c1, c2, c3, c4]
  rw [c1, c2, c3, c4, c5]
  -- the values
  have v1 : cl1 τ p (nI (mm * (hh * py) / 100)) = nI (min fF (mm * (hh * py) / 100)) := by
    unfold cl1; rw [e46, cl_val (by omega) (by omega)]
  generalize hLN : mm * (hh * py) / 100 = LN at *
  generalize hEN : hh * py = EN at *
  have n1 : min fF LN ≤ LN := Nat.min_le_right _ _
  have n1' : min fF LN ≤ fF := Nat.min_le_left _ _
  generalize hf1 : min fF LN = f1 at *
  have v2 : cl2 τ p (nI rr) (nI LN) = nI (min (aA + rr) (LN - f1)) := by
    unfold cl2; rw [v1, e47, nI_add, pk_sub n1, cl_val (by omega) (by omega)]
  have n2 : min (aA + rr) (LN - f1) ≤ LN - f1 := Nat.min_le_right _ _
  have n2' : min (aA + rr) (LN - f1) ≤ aA + rr := Nat.min_le_left _ _
  generalize hf2 : min (aA + rr) (LN - f1) = f2 at *
  have v3 : cl3 τ p (nI rr) (nI LN) = nI (min dD (LN - f1 - f2)) := by
    unfold cl3; rw [v1, v2, e45, pk_sub n1, pk_sub n2, cl_val (by omega) (by omega)]
  have n3 : min dD (LN - f1 - f2) ≤ LN - f1 - f2 := Nat.min_le_right _ _
  have n3' : min dD (LN - f1 - f2) ≤ dD := Nat.min_le_left _ _
  generalize hf3 : min dD (LN - f1 - f2) = f3 at *
  have v4 : cl4 τ p (nI rr) (nI LN) = nI (min cC (LN - f1 - f2 - f3)) := by
    unfold cl4; rw [v1, v2, v3, e48, pk_sub n1, pk_sub n2, pk_sub n3, cl_val (by omega) (by omega)]
  have n4 : min cC (LN - f1 - f2 - f3) ≤ LN - f1 - f2 - f3 := Nat.min_le_right _ _
  have n4' : min cC (LN - f1 - f2 - f3) ≤ cC := Nat.min_le_left _ _
  generalize hf4 : min cC (LN - f1 - f2 - f3) = f4 at *
  have v5 : cl5 τ p (nI rr) (nI LN) = nI (f1 + f2 + f3 + f4) := by
    unfold cl5; rw [v1, v2, v3, v4, show (0 : Int32) = nI 0 from rfl, nI_add, nI_add, nI_add, nI_add, Nat.zero_add]
  have lc : f4 * hH ≤ 16800 * 100 := Nat.mul_le_mul (by omega) l7
  have vb : gI τ 4 0 26 + nI f4 * gI τ 4 0 25 / 100 = nI (bB + f4 * hH / 100) := by
    rw [e26, e25, pk_mul, show (100 : Int32) = nI 100 from rfl, pk_div (by omega) (by omega) (by omega), nI_add]
  have vp : gI τ 43 0 p + (nI EN - nI (f1 + f2 + f3 + f4)) = nI (pu + (EN - (f1 + f2 + f3 + f4))) := by
    rw [e43, pk_sub (by omega), nI_add]
  have vq : mn (nI (pu + (EN - (f1 + f2 + f3 + f4)))) (20 * gI τ 41 0 p) = nI (min (pu + (EN - (f1 + f2 + f3 + f4))) (20 * hd)) := by
    rw [e41, mul20, cl_val (by omega) (by omega)]
  have nq : min (pu + (EN - (f1 + f2 + f3 + f4))) (20 * hd) ≤ pu + (EN - (f1 + f2 + f3 + f4)) := Nat.min_le_left _ _
  have Z := J_step (n := n) (τ := τ) (p := p) (y0 := gI τ 47 0 p + renF τ p) (v6 := gI τ 46 0 p - cl1 τ p (ruT τ 1 p * clE τ p (gN τ 25 0) (gN τ 24 0) / 100)) (v7 := gI τ 47 0 p + renF τ p - cl2 τ p (renF τ p) (ruT τ 1 p * clE τ p (gN τ 25 0) (gN τ 24 0) / 100)) (v5 := gI τ 45 0 p - cl3 τ p (renF τ p) (ruT τ 1 p * clE τ p (gN τ 25 0) (gN τ 24 0) / 100)) (v4 := gI τ 44 0 p + cl4 τ p (renF τ p) (ruT τ 1 p * clE τ p (gN τ 25 0) (gN τ 24 0) / 100)) (vb := gI τ 4 0 26 + cl4 τ p (renF τ p) (ruT τ 1 p * clE τ p (gN τ 25 0) (gN τ 24 0) / 100) * gI τ 4 0 25 / 100) (y1 := gI τ 43 0 p + (clE τ p (gN τ 25 0) (gN τ 24 0) - cl5 τ p (renF τ p) (ruT τ 1 p * clE τ p (gN τ 25 0) (gN τ 24 0) / 100))) (v3 := gI τ 43 0 p + (clE τ p (gN τ 25 0) (gN τ 24 0) - cl5 τ p (renF τ p) (ruT τ 1 p * clE τ p (gN τ 25 0) (gN τ 24 0) / 100)) - mn (gI τ 43 0 p + (clE τ p (gN τ 25 0) (gN τ 24 0) - cl5 τ p (renF τ p) (ruT τ 1 p * clE τ p (gN τ 25 0) (gN τ 24 0) / 100))) (20 * gI τ 41 0 p)) (c0 := clE τ p (gN τ 25 0) (gN τ 24 0)) (c1 := renF τ p) (c2 := cl5 τ p (renF τ p) (ruT τ 1 p * clE τ p (gN τ 25 0) (gN τ 24 0) / 100)) (c3 := clE τ p (gN τ 25 0) (gN τ 24 0) - cl5 τ p (renF τ p) (ruT τ 1 p * clE τ p (gN τ 25 0) (gN τ 24 0) / 100)) (c4 := if gI τ 43 0 p + (clE τ p (gN τ 25 0) (gN τ 24 0) - cl5 τ p (renF τ p) (ruT τ 1 p * clE τ p (gN τ 25 0) (gN τ 24 0) / 100)) < 20 * gI τ 41 0 p then 1 else 0) (c5 := gI τ 49 0 p) (c6 := if decide (hasF τ p) = true then gI τ 51 0 p else -1) (L := ruT τ 1 p * clE τ p (gN τ 25 0) (gN τ 24 0) / 100) (s1 := ruT τ 1 p * clE τ p (gN τ 25 0) (gN τ 24 0) / 100 - cl1 τ p (ruT τ 1 p * clE τ p (gN τ 25 0) (gN τ 24 0) / 100)) (s2 := 0 + cl1 τ p (ruT τ 1 p * clE τ p (gN τ 25 0) (gN τ 24 0) / 100)) (s3 := ruT τ 1 p * clE τ p (gN τ 25 0) (gN τ 24 0) / 100 - cl1 τ p (ruT τ 1 p * clE τ p (gN τ 25 0) (gN τ 24 0) / 100) - cl2 τ p (renF τ p) (ruT τ 1 p * clE τ p (gN τ 25 0) (gN τ 24 0) / 100)) (s4 := 0 + cl1 τ p (ruT τ 1 p * clE τ p (gN τ 25 0) (gN τ 24 0) / 100) + cl2 τ p (renF τ p) (ruT τ 1 p * clE τ p (gN τ 25 0) (gN τ 24 0) / 100)) (s5 := ruT τ 1 p * clE τ p (gN τ 25 0) (gN τ 24 0) / 100 - cl1 τ p (ruT τ 1 p * clE τ p (gN τ 25 0) (gN τ 24 0) / 100) - cl2 τ p (renF τ p) (ruT τ 1 p * clE τ p (gN τ 25 0) (gN τ 24 0) / 100) - cl3 τ p (renF τ p) (ruT τ 1 p * clE τ p (gN τ 25 0) (gN τ 24 0) / 100)) (s6 := 0 + cl1 τ p (ruT τ 1 p * clE τ p (gN τ 25 0) (gN τ 24 0) / 100) + cl2 τ p (renF τ p) (ruT τ 1 p * clE τ p (gN τ 25 0) (gN τ 24 0) / 100) + cl3 τ p (renF τ p) (ruT τ 1 p * clE τ p (gN τ 25 0) (gN τ 24 0) / 100)) (s7 := ruT τ 1 p * clE τ p (gN τ 25 0) (gN τ 24 0) / 100 - cl1 τ p (ruT τ 1 p * clE τ p (gN τ 25 0) (gN τ 24 0) / 100) - cl2 τ p (renF τ p) (ruT τ 1 p * clE τ p (gN τ 25 0) (gN τ 24 0) / 100) - cl3 τ p (renF τ p) (ruT τ 1 p * clE τ p (gN τ 25 0) (gN τ 24 0) / 100) - cl4 τ p (renF τ p) (ruT τ 1 p * clE τ p (gN τ 25 0) (gN τ 24 0) / 100)) (s8 := 0 + cl1 τ p (ruT τ 1 p * clE τ p (gN τ 25 0) (gN τ 24 0) / 100) + cl2 τ p (renF τ p) (ruT τ 1 p * clE τ p (gN τ 25 0) (gN τ 24 0) / 100) + cl3 τ p (renF τ p) (ruT τ 1 p * clE τ p (gN τ 25 0) (gN τ 24 0) / 100) + cl4 τ p (renF τ p) (ruT τ 1 p * clE τ p (gN τ 25 0) (gN τ 24 0) / 100)) hJ hp
    (by
      rw [er, em, eE, eL, v5, v4, vp, vq, e44, pk_sub nq, nI_add]
      exact ⟨_, _, rfl, rfl, by omega⟩)
    (by rw [er, em, eE, eL, v3, e45, pk_sub n3']; exact ⟨_, rfl, by omega⟩)
    (by rw [em, eE, eL, v1, e46, pk_sub n1']; exact ⟨_, rfl, by omega⟩)
    (by rw [er, em, eE, eL, v2, e47, nI_add, pk_sub n2']; exact ⟨_, rfl, by omega⟩)
    (by rw [er, em, eE, eL, v4, vb]; exact ⟨_, rfl, by omega⟩)
    (by
      by_cases c : hasF τ p
      · rw [decide_eq_true c]
        exact p_ho p hp
      · rw [decide_eq_false c]; exact Or.inl rfl)
  have hc : crM (csM τ p (gN τ 25 0) (gI τ 47 0 p + renF τ p) (gI τ 46 0 p - cl1 τ p (ruT τ 1 p * clE τ p (gN τ 25 0) (gN τ 24 0) / 100)) (gI τ 47 0 p + renF τ p - cl2 τ p (renF τ p) (ruT τ 1 p * clE τ p (gN τ 25 0) (gN τ 24 0) / 100)) (gI τ 45 0 p - cl3 τ p (renF τ p) (ruT τ 1 p * clE τ p (gN τ 25 0) (gN τ 24 0) / 100)) (gI τ 44 0 p + cl4 τ p (renF τ p) (ruT τ 1 p * clE τ p (gN τ 25 0) (gN τ 24 0) / 100)) (gI τ 4 0 26 + cl4 τ p (renF τ p) (ruT τ 1 p * clE τ p (gN τ 25 0) (gN τ 24 0) / 100) * gI τ 4 0 25 / 100) (gI τ 43 0 p + (clE τ p (gN τ 25 0) (gN τ 24 0) - cl5 τ p (renF τ p) (ruT τ 1 p * clE τ p (gN τ 25 0) (gN τ 24 0) / 100))) (gI τ 43 0 p + (clE τ p (gN τ 25 0) (gN τ 24 0) - cl5 τ p (renF τ p) (ruT τ 1 p * clE τ p (gN τ 25 0) (gN τ 24 0) / 100)) - mn (gI τ 43 0 p + (clE τ p (gN τ 25 0) (gN τ 24 0) - cl5 τ p (renF τ p) (ruT τ 1 p * clE τ p (gN τ 25 0) (gN τ 24 0) / 100))) (20 * gI τ 41 0 p)) (clE τ p (gN τ 25 0) (gN τ 24 0)) (renF τ p) (cl5 τ p (renF τ p) (ruT τ 1 p * clE τ p (gN τ 25 0) (gN τ 24 0) / 100)) (clE τ p (gN τ 25 0) (gN τ 24 0) - cl5 τ p (renF τ p) (ruT τ 1 p * clE τ p (gN τ 25 0) (gN τ 24 0) / 100)) (if gI τ 43 0 p + (clE τ p (gN τ 25 0) (gN τ 24 0) - cl5 τ p (renF τ p) (ruT τ 1 p * clE τ p (gN τ 25 0) (gN τ 24 0) / 100)) < 20 * gI τ 41 0 p then 1 else 0) (gI τ 49 0 p) (if decide (hasF τ p) = true then gI τ 51 0 p else -1)) = crM ζ := by
    rw [← hZ]; rfl
  rw [hc] at Z
  have x43 : gI (clX ζ p (renF τ p) (ruT τ 1 p * clE τ p (gN τ 25 0) (gN τ 24 0) / 100) (cl1 τ p (ruT τ 1 p * clE τ p (gN τ 25 0) (gN τ 24 0) / 100)) (cl2 τ p (renF τ p) (ruT τ 1 p * clE τ p (gN τ 25 0) (gN τ 24 0) / 100)) (cl3 τ p (renF τ p) (ruT τ 1 p * clE τ p (gN τ 25 0) (gN τ 24 0) / 100)) (cl4 τ p (renF τ p) (ruT τ 1 p * clE τ p (gN τ 25 0) (gN τ 24 0) / 100))) 43 0 p = gI τ 43 0 p := z43
  have x41 : gI (clX ζ p (renF τ p) (ruT τ 1 p * clE τ p (gN τ 25 0) (gN τ 24 0) / 100) (cl1 τ p (ruT τ 1 p * clE τ p (gN τ 25 0) (gN τ 24 0) / 100)) (cl2 τ p (renF τ p) (ruT τ 1 p * clE τ p (gN τ 25 0) (gN τ 24 0) / 100)) (cl3 τ p (renF τ p) (ruT τ 1 p * clE τ p (gN τ 25 0) (gN τ 24 0) / 100)) (cl4 τ p (renF τ p) (ruT τ 1 p * clE τ p (gN τ 25 0) (gN τ 24 0) / 100))) 41 0 p = gI τ 41 0 p := z41
  have x49 : gI (clX ζ p (renF τ p) (ruT τ 1 p * clE τ p (gN τ 25 0) (gN τ 24 0) / 100) (cl1 τ p (ruT τ 1 p * clE τ p (gN τ 25 0) (gN τ 24 0) / 100)) (cl2 τ p (renF τ p) (ruT τ 1 p * clE τ p (gN τ 25 0) (gN τ 24 0) / 100)) (cl3 τ p (renF τ p) (ruT τ 1 p * clE τ p (gN τ 25 0) (gN τ 24 0) / 100)) (cl4 τ p (renF τ p) (ruT τ 1 p * clE τ p (gN τ 25 0) (gN τ 24 0) / 100))) 49 0 p = gI τ 49 0 p := z49
  have x51 : gI (clX ζ p (renF τ p) (ruT τ 1 p * clE τ p (gN τ 25 0) (gN τ 24 0) / 100) (cl1 τ p (ruT τ 1 p * clE τ p (gN τ 25 0) (gN τ 24 0) / 100)) (cl2 τ p (renF τ p) (ruT τ 1 p * clE τ p (gN τ 25 0) (gN τ 24 0) / 100)) (cl3 τ p (renF τ p) (ruT τ 1 p * clE τ p (gN τ 25 0) (gN τ 24 0) / 100)) (cl4 τ p (renF τ p) (ruT τ 1 p * clE τ p (gN τ 25 0) (gN τ 24 0) / 100))) 51 0 p = gI τ 51 0 p := q51
  unfold clY
  rw [x43, x41, x49, x51]
  unfold clX
  rw [z47, z46, z45, z44, z26, z25]
  exact Z
theorem J_go {p : Nat} (hJ : J n p τ) (hp : p < gN τ 21 0) : J n (p + 1) (clM p (gN τ 25 0) (gN τ 24 0) (csZ τ p (gN τ 25 0) (gN τ 24 0) (renF τ p) (ruT τ 1 p) (decide (hasF τ p)))) := by
  have A := J_go2 hJ hp rfl csZ_RE
  unfold clM
  have e1 := (csZ_RE (τ := τ) (p := p) (w := gN τ 25 0) (T := gN τ 24 0) (r := renF τ p) (m := ruT τ 1 p) (h := decide (hasF τ p))).ren (p := p)
  have e2 := (csZ_RE (τ := τ) (p := p) (w := gN τ 25 0) (T := gN τ 24 0) (r := renF τ p) (m := ruT τ 1 p) (h := decide (hasF τ p))).ru (k := 1) (p := p)
  have e3 := (csZ_RE (τ := τ) (p := p) (w := gN τ 25 0) (T := gN τ 24 0) (r := renF τ p) (m := ruT τ 1 p) (h := decide (hasF τ p))).has (p := p)
  rw [e1, e2, decide_eq_decide.mpr e3]
  exact A
end JCL
