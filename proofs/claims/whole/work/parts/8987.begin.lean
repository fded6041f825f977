/-! the start, printed by wip/whole/startgen3.py -/
def opsA : List OP := [omk 3 0 15, oml 21, owR 3 0 0 (some (21, 0)), oml 22, owR 3 0 1 (some (22, 0)), oml 23, owR 3 0 2 (some (23, 0)), oml 24, owR 3 0 3 (some (24, 0)), oml 25, owR 3 0 4 (some (25, 0)), oml 26, owR 3 0 5 (some (26, 0)), oml 27, owR 3 0 6 (some (27, 0)), oml 28, owR 3 0 7 (some (28, 0)), omk 29 0 14, omk 13 300 300, owR 29 0 0 (some (13, 0)), owI 29 0 1 0, owI 29 0 2 0, owI 29 0 3 (-1), omk 14 300 300, owR 29 0 4 (some (14, 0)), owI 29 0 5 0, omk 15 301 301, owR 29 0 6 (some (15, 0)), omk 16 301 301, owR 29 0 7 (some (16, 0)), omk 17 301 301, owR 29 0 8 (some (17, 0)), owI 29 0 9 0, owI 29 0 10 (-1), owI 29 0 11 256, owI 29 0 12 0, owI 29 0 13 0, owR 3 0 8 (some (29, 0)), omk 30 0 9, oml 7, owR 30 0 0 (some (7, 0)), oml 8, owR 30 0 1 (some (8, 0)), omk 9 120 120, owR 30 0 2 (some (9, 0)), owI 30 0 3 0, omk 10 10 10, owR 30 0 4 (some (10, 0)), omk 11 40 40, owR 30 0 5 (some (11, 0)), owR 30 0 6 none, owR 30 0 7 none, owI 30 0 8 0, owR 3 0 9 (some (30, 0)), oml 31, owR 3 0 10 (some (31, 0)), omk 32 128 128, owR 3 0 11 (some (32, 0)), owI 3 0 12 0, owI 3 0 13 0, owI 3 0 14 100, omk 33 0 3, owI 33 0 0 1, owI 33 0 1 1, owI 33 0 2 0, oad 28 0 (some (33, 0)), omk 33 0 3, owI 33 1 0 1, owI 33 1 1 1, owI 33 1 2 0, oad 28 0 (some (33, 1)), omk 33 0 3, owI 33 2 0 1, owI 33 2 1 1, owI 33 2 2 0, oad 28 0 (some (33, 2)), omk 33 0 3, owI 33 3 0 1, owI 33 3 1 1, owI 33 3 2 0, oad 28 0 (some (33, 3)), omk 33 0 3, owI 33 4 0 1, owI 33 4 1 1, owI 33 4 2 0, oad 28 0 (some (33, 4)), omk 33 0 3, owI 33 5 0 1, owI 33 5 1 1, owI 33 5 2 0, oad 28 0 (some (33, 5))]
def opsB : List OP := [omk 4 0 86, omk 41 60 60, owR 4 0 3 (some (41, 0)), omk 42 60 60, owR 4 0 4 (some (42, 0)), omk 43 60 60, owR 4 0 5 (some (43, 0)), omk 44 60 60, owR 4 0 6 (some (44, 0)), omk 45 60 60, owR 4 0 7 (some (45, 0)), omk 46 60 60, owR 4 0 8 (some (46, 0)), omk 47 60 60, owR 4 0 9 (some (47, 0)), omk 48 60 60, owR 4 0 10 (some (48, 0)), omk 49 60 60, owR 4 0 11 (some (49, 0)), omk 50 60 60, owR 4 0 12 (some (50, 0)), omk 51 60 60, owR 4 0 13 (some (51, 0)), omk 52 60 60, owR 4 0 14 (some (52, 0)), omk 53 60 60, owR 4 0 15 (some (53, 0)), omk 54 60 60, owR 4 0 16 (some (54, 0)), omk 55 60 60, owR 4 0 17 (some (55, 0)), omk 56 60 60, owR 4 0 18 (some (56, 0)), omk 57 60 60, owR 4 0 19 (some (57, 0)), omk 58 30 30, owR 4 0 21 (some (58, 0)), omk 59 30 30, owR 4 0 22 (some (59, 0)), omk 60 30 30, owR 4 0 23 (some (60, 0)), omk 61 30 30, owR 4 0 24 (some (61, 0)), owI 4 0 25 100, omk 62 12 12, owR 4 0 28 (some (62, 0)), omk 63 12 12, owR 4 0 29 (some (63, 0)), omk 64 12 12, owR 4 0 30 (some (64, 0)), omk 65 120 120, owR 4 0 31 (some (65, 0)), omk 66 120 120, owR 4 0 32 (some (66, 0)), omk 67 120 120, owR 4 0 33 (some (67, 0)), omk 68 120 120, owR 4 0 34 (some (68, 0)), omk 69 120 120, owR 4 0 35 (some (69, 0)), omk 70 120 120, owR 4 0 36 (some (70, 0)), omk 71 120 120, owR 4 0 37 (some (71, 0)), omk 72 120 120, owR 4 0 38 (some (72, 0)), omk 73 3840 3840, owR 4 0 39 (some (73, 0)), omk 74 3840 3840, owR 4 0 40 (some (74, 0)), omk 75 120 120, owR 4 0 43 (some (75, 0)), omk 76 300 300, owR 4 0 44 (some (76, 0)), owI 4 0 46 (-1), omk 77 10 10, owR 4 0 54 (some (77, 0)), omk 78 320 320, owR 4 0 55 (some (78, 0)), omk 79 12 12, owR 4 0 56 (some (79, 0)), omk 80 400 400, owR 4 0 59 (some (80, 0)), omk 81 400 400, owR 4 0 60 (some (81, 0)), omk 82 400 400, owR 4 0 61 (some (82, 0)), omk 83 685920 685920, owR 4 0 62 (some (83, 0)), omk 84 6 6, owR 4 0 65 (some (84, 0)), omk 85 6 6, owR 4 0 66 (some (85, 0)), omk 86 6 6, owR 4 0 67 (some (86, 0)), omk 87 60 60, owR 4 0 69 (some (87, 0)), omk 88 60 60, owR 4 0 70 (some (88, 0)), omk 89 100 100, owR 4 0 72 (some (89, 0)), omk 90 100 100, owR 4 0 73 (some (90, 0)), omk 91 100 100, owR 4 0 74 (some (91, 0)), omk 92 100 100, owR 4 0 75 (some (92, 0)), omk 93 60 60, owR 4 0 77 (some (93, 0)), omk 94 60 60, owR 4 0 78 (some (94, 0)), omk 95 60 60, owR 4 0 79 (some (95, 0)), omk 96 60 60, owR 4 0 80 (some (96, 0)), omk 97 1800 1800, owR 4 0 81 (some (97, 0)), omk 98 7 7, owR 4 0 82 (some (98, 0)), omk 99 7 7, owR 4 0 83 (some (99, 0)), omk 100 128 128, owR 4 0 84 (some (100, 0))]
def ops2 : List OP := [owI 84 0 0 1, owI 85 0 0 1, owI 84 0 1 1, owI 85 0 1 1, owI 84 0 2 1, owI 85 0 2 1, owI 84 0 3 1, owI 85 0 3 1, owI 84 0 4 1, owI 85 0 4 1, owI 84 0 5 1, owI 85 0 5 1]
set_option maxRecDepth 100000 in
theorem chA_ops (σ : aM) : chA σ = aps opsA σ := rfl
set_option maxRecDepth 100000 in
theorem chB1_ops (σ : aM) : chB1 σ = aps opsB σ := rfl
def zA0 : SM := sts opsA SM0
def zB0 : SM := sts opsB zA0
def zC0 : SM := sts ops2 zB0
def zF0 : SM := op_st (omk 5 1 1) zC0
def ltO (m : Nat) : Option Nat → Bool
  | none => false
  | some k => Nat.blt k m
theorem ltO_s {m : Nat} {q : Option Nat} (h : ltO m q = true) : ∃ k, q = some k ∧ k < m := by
  cases q with
  | none => cases h
  | some k => exact ⟨k, rfl, Nat.blt_eq.mp h⟩
/-- a write of what stands there anyway -/
def eq0 (e : Nat × Nat × Option Nat × Option (Nat × Nat)) : Bool := match e.2.2.1 with
  | none => false
  | some k => decide (e.2.2.2 = R0 e.1 e.2.1 k)
theorem lkR_eq0 : ∀ {l : List (Nat × Nat × Option Nat × Option (Nat × Nat))} {K i j : Nat}, (∀ e ∈ l, e.1 = K → eq0 e = true) → lkR l K i j = R0 K i j
  | [], _, _, _, _ => rfl
  | e :: l, K, i, j, h => by
    show (if K = e.1 ∧ i = e.2.1 ∧ (∀ k, e.2.2.1 = some k → j = k) then e.2.2.2 else lkR l K i j) = R0 K i j
    by_cases c : K = e.1 ∧ i = e.2.1 ∧ (∀ k, e.2.2.1 = some k → j = k)
    · rw [if_pos c]
      have h1 := h e List.mem_cons_self c.1.symm
      unfold eq0 at h1
      cases hq : e.2.2.1 with
      | none => rw [hq] at h1; cases h1
      | some k =>
        rw [hq] at h1
        rw [of_decide_eq_true h1, c.2.2 k hq, c.1, c.2.1]
    · rw [if_neg c]; exact lkR_eq0 fun e he => h e (List.mem_cons_of_mem _ he)
theorem lkR_or : ∀ {l : List (Nat × Nat × Option Nat × Option (Nat × Nat))} {K i j : Nat}, lkR l K i j = R0 K i j ∨ ∃ e ∈ l, e.1 = K ∧ lkR l K i j = e.2.2.2
  | [], _, _, _ => Or.inl rfl
  | e :: l, K, i, j => by
    show (if K = e.1 ∧ i = e.2.1 ∧ (∀ k, e.2.2.1 = some k → j = k) then e.2.2.2 else lkR l K i j) = R0 K i j ∨ _
    by_cases c : K = e.1 ∧ i = e.2.1 ∧ (∀ k, e.2.2.1 = some k → j = k)
    · exact Or.inr ⟨e, List.mem_cons_self, c.1.symm, if_pos c⟩
    · rcases lkR_or (l := l) (K := K) (i := i) (j := j) with h | ⟨e2, h1, h2, h3⟩
      · exact Or.inl ((if_neg c).trans h)
      · exact Or.inr ⟨e2, List.mem_cons_of_mem _ h1, h2, (if_neg c).trans h3⟩
set_option maxRecDepth 100000 in
theorem sh3_lo : ∀ j, j < 12 → lkR (smR zF0) 3 0 j = shR3 j := by decide +kernel
set_option maxRecDepth 100000 in
theorem sh3_w : (∀ e ∈ (smR zF0), e.1 = 3 → e.2.1 = 0 → e.2.2.2 = none ∨ ltO 12 e.2.2.1 = true) ∧ ∃ e ∈ (smR zF0), e.1 = 3 ∧ e.2.1 = 0 ∧ e.2.2.1 = none := by decide +kernel
theorem sh3 (j : Nat) : lkR (smR zF0) 3 0 j = shR3 j := by
  rcases Nat.lt_or_ge j 12 with c | c
  · exact sh3_lo j c
  · rw [lkR_hi 12 c (fun e h1 h2 h3 => (sh3_w.1 e h1 h2 h3).imp id ltO_s) sh3_w.2]
    unfold shR3
    repeat rw [if_neg (by omega)]
set_option maxRecDepth 100000 in
theorem sh4_lo : ∀ j, j < 85 → lkR (smR zF0) 4 0 j = shR4 j := by decide +kernel
set_option maxRecDepth 100000 in
theorem sh4_w : (∀ e ∈ (smR zF0), e.1 = 4 → e.2.1 = 0 → e.2.2.2 = none ∨ ltO 85 e.2.2.1 = true) ∧ ∃ e ∈ (smR zF0), e.1 = 4 ∧ e.2.1 = 0 ∧ e.2.2.1 = none := by decide +kernel
theorem sh4 (j : Nat) : lkR (smR zF0) 4 0 j = shR4 j := by
  rcases Nat.lt_or_ge j 85 with c | c
  · exact sh4_lo j c
  · rw [lkR_hi 85 c (fun e h1 h2 h3 => (sh4_w.1 e h1 h2 h3).imp id ltO_s) sh4_w.2]
    unfold shR4
    repeat rw [if_neg (by omega)]
set_option maxRecDepth 100000 in
theorem sh29_lo : ∀ j, j < 9 → lkR (smR zF0) 29 0 j = shR29 j := by decide +kernel
set_option maxRecDepth 100000 in
theorem sh29_w : (∀ e ∈ (smR zF0), e.1 = 29 → e.2.1 = 0 → e.2.2.2 = none ∨ ltO 9 e.2.2.1 = true) ∧ ∃ e ∈ (smR zF0), e.1 = 29 ∧ e.2.1 = 0 ∧ e.2.2.1 = none := by decide +kernel
theorem sh29 (j : Nat) : lkR (smR zF0) 29 0 j = shR29 j := by
  rcases Nat.lt_or_ge j 9 with c | c
  · exact sh29_lo j c
  · rw [lkR_hi 9 c (fun e h1 h2 h3 => (sh29_w.1 e h1 h2 h3).imp id ltO_s) sh29_w.2]
    unfold shR29
    repeat rw [if_neg (by omega)]
set_option maxRecDepth 100000 in
theorem sh30_lo : ∀ j, j < 6 → lkR (smR zF0) 30 0 j = shR30 j := by decide +kernel
theorem shC_hi {K : Nat} (h : 101 ≤ K) : shC K = false := by
  unfold shC
  repeat rw [if_neg (by omega)]
theorem shS_hi {K : Nat} (h : 101 ≤ K) : shS K = false := by
  unfold shS
  repeat rw [if_neg (by omega)]
set_option maxRecDepth 100000 in
theorem shC_lo : ∀ K, K < 101 → shC K = true → lkC (smc zF0) K = 1 := by decide +kernel
set_option maxRecDepth 100000 in
theorem shS_lo : ∀ K, K < 101 → shS K = true → K ≠ 0 ∧ lkN (smn zF0) K 0 = shN K := by decide +kernel
def nzL : List Nat := [3, 4, 29, 33, 84, 85]
set_option maxRecDepth 100000 in
theorem zI_w : ∀ e ∈ (smI zF0), e.2.2.2 = 0 ∨ e.1 ∈ nzL := by decide +kernel
section STZ
variable {d L : Nat} {σ μ : aM}
theorem F_Z (hF : REP L zF0 μ) (K : Nat) (h0 : K ≠ 0) (hK : K ∉ nzL) (i j : Nat) : gI μ K i j = 0 := (hF.2.2.2.1 K i j h0).trans (lkI_no fun e he hk => (zI_w e he).resolve_right (by rw [hk]; exact hK))
theorem F_q0 (hF : REP L zF0 μ) {K : Nat} (h : ∀ e ∈ (smR zF0), e.1 = K → eq0 e = true) (i j : Nat) : gR μ K i j = R0 K i j := (hF.2.2.2.2.2.1 K i j).trans (lkR_eq0 h)
set_option maxRecDepth 100000 in
theorem F_i3_12 (hF : REP L zF0 μ) : gI μ 3 0 12 = 0 := (hF.2.2.2.1 3 0 12 (by decide)).trans (by decide +kernel)
set_option maxRecDepth 100000 in
theorem F_i3_13 (hF : REP L zF0 μ) : gI μ 3 0 13 = 0 := (hF.2.2.2.1 3 0 13 (by decide)).trans (by decide +kernel)
set_option maxRecDepth 100000 in
theorem F_i3_14 (hF : REP L zF0 μ) : gI μ 3 0 14 = 100 := (hF.2.2.2.1 3 0 14 (by decide)).trans (by decide +kernel)
set_option maxRecDepth 100000 in
theorem F_i29_1 (hF : REP L zF0 μ) : gI μ 29 0 1 = 0 := (hF.2.2.2.1 29 0 1 (by decide)).trans (by decide +kernel)
set_option maxRecDepth 100000 in
theorem F_i29_3 (hF : REP L zF0 μ) : gI μ 29 0 3 = -1 := (hF.2.2.2.1 29 0 3 (by decide)).trans (by decide +kernel)
set_option maxRecDepth 100000 in
theorem F_i4_1 (hF : REP L zF0 μ) : gI μ 4 0 1 = 0 := (hF.2.2.2.1 4 0 1 (by decide)).trans (by decide +kernel)
set_option maxRecDepth 100000 in
theorem F_i4_2 (hF : REP L zF0 μ) : gI μ 4 0 2 = 0 := (hF.2.2.2.1 4 0 2 (by decide)).trans (by decide +kernel)
set_option maxRecDepth 100000 in
theorem F_i4_20 (hF : REP L zF0 μ) : gI μ 4 0 20 = 0 := (hF.2.2.2.1 4 0 20 (by decide)).trans (by decide +kernel)
set_option maxRecDepth 100000 in
theorem F_i4_25 (hF : REP L zF0 μ) : gI μ 4 0 25 = 100 := (hF.2.2.2.1 4 0 25 (by decide)).trans (by decide +kernel)
set_option maxRecDepth 100000 in
theorem F_i4_26 (hF : REP L zF0 μ) : gI μ 4 0 26 = 0 := (hF.2.2.2.1 4 0 26 (by decide)).trans (by decide +kernel)
set_option maxRecDepth 100000 in
theorem F_i4_27 (hF : REP L zF0 μ) : gI μ 4 0 27 = 0 := (hF.2.2.2.1 4 0 27 (by decide)).trans (by decide +kernel)
set_option maxRecDepth 100000 in
theorem F_i4_42 (hF : REP L zF0 μ) : gI μ 4 0 42 = 0 := (hF.2.2.2.1 4 0 42 (by decide)).trans (by decide +kernel)
set_option maxRecDepth 100000 in
theorem F_i4_45 (hF : REP L zF0 μ) : gI μ 4 0 45 = 0 := (hF.2.2.2.1 4 0 45 (by decide)).trans (by decide +kernel)
set_option maxRecDepth 100000 in
theorem F_i4_46 (hF : REP L zF0 μ) : gI μ 4 0 46 = -1 := (hF.2.2.2.1 4 0 46 (by decide)).trans (by decide +kernel)
set_option maxRecDepth 100000 in
theorem F_i4_58 (hF : REP L zF0 μ) : gI μ 4 0 58 = 0 := (hF.2.2.2.1 4 0 58 (by decide)).trans (by decide +kernel)
set_option maxRecDepth 100000 in
theorem F_i4_68 (hF : REP L zF0 μ) : gI μ 4 0 68 = 0 := (hF.2.2.2.1 4 0 68 (by decide)).trans (by decide +kernel)
set_option maxRecDepth 100000 in
theorem F_i4_71 (hF : REP L zF0 μ) : gI μ 4 0 71 = 0 := (hF.2.2.2.1 4 0 71 (by decide)).trans (by decide +kernel)
set_option maxRecDepth 100000 in
theorem F_i4_76 (hF : REP L zF0 μ) : gI μ 4 0 76 = 0 := (hF.2.2.2.1 4 0 76 (by decide)).trans (by decide +kernel)
set_option maxRecDepth 100000 in
theorem F_n7 (hF : REP L zF0 μ) : gN μ 7 0 = 0 := (hF.2.1 7 0 (by decide)).trans (by decide +kernel)
set_option maxRecDepth 100000 in
theorem F_n8 (hF : REP L zF0 μ) : gN μ 8 0 = 0 := (hF.2.1 8 0 (by decide)).trans (by decide +kernel)
set_option maxRecDepth 100000 in
theorem F_n21 (hF : REP L zF0 μ) : gN μ 21 0 = 0 := (hF.2.1 21 0 (by decide)).trans (by decide +kernel)
set_option maxRecDepth 100000 in
theorem F_n22 (hF : REP L zF0 μ) : gN μ 22 0 = 0 := (hF.2.1 22 0 (by decide)).trans (by decide +kernel)
set_option maxRecDepth 100000 in
theorem F_n23 (hF : REP L zF0 μ) : gN μ 23 0 = 0 := (hF.2.1 23 0 (by decide)).trans (by decide +kernel)
set_option maxRecDepth 100000 in
theorem F_n24 (hF : REP L zF0 μ) : gN μ 24 0 = 0 := (hF.2.1 24 0 (by decide)).trans (by decide +kernel)
set_option maxRecDepth 100000 in
theorem F_n25 (hF : REP L zF0 μ) : gN μ 25 0 = 0 := (hF.2.1 25 0 (by decide)).trans (by decide +kernel)
set_option maxRecDepth 100000 in
theorem F_n26 (hF : REP L zF0 μ) : gN μ 26 0 = 0 := (hF.2.1 26 0 (by decide)).trans (by decide +kernel)
set_option maxRecDepth 100000 in
theorem F_n27 (hF : REP L zF0 μ) : gN μ 27 0 = 0 := (hF.2.1 27 0 (by decide)).trans (by decide +kernel)
set_option maxRecDepth 100000 in
theorem F_c6 (hF : REP L zF0 μ) : gC μ 6 = 0 := (hF.1 6).trans (by decide +kernel)
set_option maxRecDepth 100000 in
theorem F_c12 (hF : REP L zF0 μ) : gC μ 12 = 0 := (hF.1 12).trans (by decide +kernel)
set_option maxRecDepth 100000 in
theorem F_c18 (hF : REP L zF0 μ) : gC μ 18 = 0 := (hF.1 18).trans (by decide +kernel)
set_option maxRecDepth 100000 in
theorem F_c19 (hF : REP L zF0 μ) : gC μ 19 = 0 := (hF.1 19).trans (by decide +kernel)
set_option maxRecDepth 100000 in
theorem F_c20 (hF : REP L zF0 μ) : gC μ 20 = 0 := (hF.1 20).trans (by decide +kernel)
set_option maxRecDepth 100000 in
theorem F_c34 (hF : REP L zF0 μ) : gC μ 34 = 0 := (hF.1 34).trans (by decide +kernel)
set_option maxRecDepth 100000 in
theorem F_c35 (hF : REP L zF0 μ) : gC μ 35 = 0 := (hF.1 35).trans (by decide +kernel)
set_option maxRecDepth 100000 in
theorem F_c36 (hF : REP L zF0 μ) : gC μ 36 = 0 := (hF.1 36).trans (by decide +kernel)
set_option maxRecDepth 100000 in
theorem F_c37 (hF : REP L zF0 μ) : gC μ 37 = 0 := (hF.1 37).trans (by decide +kernel)
set_option maxRecDepth 100000 in
theorem F_c38 (hF : REP L zF0 μ) : gC μ 38 = 0 := (hF.1 38).trans (by decide +kernel)
set_option maxRecDepth 100000 in
theorem F_c39 (hF : REP L zF0 μ) : gC μ 39 = 0 := (hF.1 39).trans (by decide +kernel)
set_option maxRecDepth 100000 in
theorem F_c40 (hF : REP L zF0 μ) : gC μ 40 = 0 := (hF.1 40).trans (by decide +kernel)
set_option maxRecDepth 100000 in
theorem F_c33 (hF : REP L zF0 μ) : gC μ 33 = 6 := (hF.1 33).trans (by decide +kernel)
set_option maxRecDepth 100000 in
theorem F_q21 (hF : REP L zF0 μ) : ∀ i j, gR μ 21 i j = R0 21 i j := F_q0 hF (by decide +kernel)
set_option maxRecDepth 100000 in
theorem F_q22 (hF : REP L zF0 μ) : ∀ i j, gR μ 22 i j = R0 22 i j := F_q0 hF (by decide +kernel)
set_option maxRecDepth 100000 in
theorem F_q24 (hF : REP L zF0 μ) : ∀ i j, gR μ 24 i j = R0 24 i j := F_q0 hF (by decide +kernel)
set_option maxRecDepth 100000 in
theorem F_q25 (hF : REP L zF0 μ) : ∀ i j, gR μ 25 i j = R0 25 i j := F_q0 hF (by decide +kernel)
set_option maxRecDepth 100000 in
theorem F_q26 (hF : REP L zF0 μ) : ∀ i j, gR μ 26 i j = R0 26 i j := F_q0 hF (by decide +kernel)
set_option maxRecDepth 100000 in
theorem F_q27 (hF : REP L zF0 μ) : ∀ i j, gR μ 27 i j = R0 27 i j := F_q0 hF (by decide +kernel)
set_option maxRecDepth 100000 in
theorem F_q28 (hF : REP L zF0 μ) : ∀ i j, gR μ 28 i j = R0 28 i j := F_q0 hF (by decide +kernel)
set_option maxRecDepth 100000 in
theorem F_q34 (hF : REP L zF0 μ) : ∀ i j, gR μ 34 i j = R0 34 i j := F_q0 hF (by decide +kernel)
set_option maxRecDepth 100000 in
theorem F_q35 (hF : REP L zF0 μ) : ∀ i j, gR μ 35 i j = R0 35 i j := F_q0 hF (by decide +kernel)
set_option maxRecDepth 100000 in
theorem F_q37 (hF : REP L zF0 μ) : ∀ i j, gR μ 37 i j = R0 37 i j := F_q0 hF (by decide +kernel)
set_option maxRecDepth 100000 in
theorem F_q39 (hF : REP L zF0 μ) : ∀ i j, gR μ 39 i j = R0 39 i j := F_q0 hF (by decide +kernel)
set_option maxRecDepth 100000 in
theorem F_b : (smb zF0).1 ≤ 300 ∧ (smb zF0).2 ≤ 720000 := by decide +kernel
theorem F_Sh (hF : REP L zF0 μ) : Sh μ := by
  obtain ⟨hC, hN, hL, hI, hLg, hR, hB⟩ := id hF
  refine ⟨fun j => (hR 3 0 j).trans (sh3 j), fun j => (hR 4 0 j).trans (sh4 j), fun j => (hR 29 0 j).trans (sh29 j), fun j hj => (hR 30 0 j).trans (sh30_lo j hj), fun j => F_q28 hF 0 j, fun K h => ?_, fun K h => ?_, F_c33 hF⟩
  · rcases Nat.lt_or_ge K 101 with c | c
    · exact (hC K).trans (shC_lo K c h)
    · rw [shC_hi c] at h; cases h
  · rcases Nat.lt_or_ge K 101 with c | c
    · obtain ⟨h1, h2⟩ := shS_lo K c h
      exact (hN K 0 h1).trans h2
    · rw [shS_hi c] at h; cases h
theorem F_BP (hF : REP L zF0 μ) : BP μ := by
  refine ⟨?_, ?_, ?_, ?_, ?_, ?_, ?_, ?_, ?_, ?_, ?_, ?_, ?_, ?_, ?_, ?_, ?_, ?_, ?_, ?_, ?_, ?_, ?_, ?_, ?_, ?_, ?_, ?_, ?_, ?_⟩
  · simp only [F_n21 hF, F_c34 hF, nI_0, and_self, true_or]
  · simp only [F_n21 hF, nI_0, and_self, true_or, Nat.zero_le]
  · simp only [F_i4_2 hF, F_n21 hF, nI_0, and_self, true_or]
  · intro j; exact F_q21 hF 0 j
  · intro j hh; rw [F_n21 hF] at hh; exact absurd hh (Nat.not_lt_zero _)
  · intros; simp only [F_Z hF 34 (by decide) (by decide), F_Z hF 41 (by decide) (by decide), nI_0, and_self, true_or]
  · intros; simp only [F_Z hF 34 (by decide) (by decide), F_Z hF 42 (by decide) (by decide), nI_0, and_self, true_or]
  · intros; simp only [F_Z hF 34 (by decide) (by decide), F_Z hF 43 (by decide) (by decide), nI_0, and_self, true_or]
  · intros; simp only [F_Z hF 34 (by decide) (by decide), F_Z hF 44 (by decide) (by decide), nI_0, and_self, true_or]
  · intros; simp only [F_Z hF 34 (by decide) (by decide), F_Z hF 45 (by decide) (by decide), nI_0, and_self, true_or]
  · intros; simp only [F_Z hF 34 (by decide) (by decide), F_Z hF 46 (by decide) (by decide), nI_0, and_self, true_or]
  · intros; simp only [F_Z hF 34 (by decide) (by decide), F_Z hF 47 (by decide) (by decide), nI_0, and_self, true_or]
  · intros; simp only [F_Z hF 34 (by decide) (by decide), F_Z hF 48 (by decide) (by decide), nI_0, and_self, true_or]
  · intros; simp only [F_Z hF 34 (by decide) (by decide), F_Z hF 53 (by decide) (by decide), nI_0, and_self, true_or]
  · intros; simp only [F_Z hF 34 (by decide) (by decide), F_Z hF 49 (by decide) (by decide), nI_0, and_self, true_or]
  · intros; simp only [F_Z hF 34 (by decide) (by decide), F_Z hF 50 (by decide) (by decide), nI_0, and_self, true_or]
  · intros; simp only [F_Z hF 34 (by decide) (by decide), F_Z hF 52 (by decide) (by decide), nI_0, and_self, true_or]
  · intros; simp only [F_Z hF 34 (by decide) (by decide), F_Z hF 88 (by decide) (by decide), nI_0, and_self, true_or]
  · intro j; simp only [F_q34 hF, F_Z hF 51 (by decide) (by decide)]; rfl
  · intro j; simp only [F_q34 hF, F_Z hF 57 (by decide) (by decide)]; rfl
  · intros; simp only [F_Z hF 34 (by decide) (by decide), F_Z hF 49 (by decide) (by decide), F_Z hF 54 (by decide) (by decide), nI_0, and_self, true_or]
  · intros; simp only [F_Z hF 34 (by decide) (by decide), F_Z hF 49 (by decide) (by decide), F_Z hF 54 (by decide) (by decide), F_Z hF 55 (by decide) (by decide), F_Z hF 56 (by decide) (by decide), nI_0, and_self, true_or]
  · intros; simp only [F_Z hF 43 (by decide) (by decide), F_Z hF 44 (by decide) (by decide), F_Z hF 45 (by decide) (by decide), F_Z hF 46 (by decide) (by decide), F_Z hF 47 (by decide) (by decide), F_Z hF 48 (by decide) (by decide), F_Z hF 49 (by decide) (by decide), F_Z hF 53 (by decide) (by decide), F_Z hF 88 (by decide) (by decide), F_n21 hF, nI_0, and_self, true_or, Nat.zero_le]
  · intro j hh; rw [F_n21 hF] at hh; exact absurd hh (Nat.not_lt_zero _)
  · intro j hh; rw [F_n21 hF] at hh; exact absurd hh (Nat.not_lt_zero _)
  · intro j hh; rw [F_n21 hF] at hh; exact absurd hh (Nat.not_lt_zero _)
  · intro j hh; rw [F_n21 hF] at hh; exact absurd hh (Nat.not_lt_zero _)
  · intro j hh; rw [F_n21 hF] at hh; exact absurd hh (Nat.not_lt_zero _)
  · intro j hh; rw [F_n21 hF] at hh; exact absurd hh (Nat.not_lt_zero _)
  · intro j hh; rw [F_n21 hF] at hh; exact absurd hh (Nat.not_lt_zero _)
theorem F_BH (hF : REP L zF0 μ) : BH μ := by
  refine ⟨?_, ?_, ?_, ?_, ?_, ?_, ?_, ?_, ?_, ?_, ?_, ?_, ?_, ?_, ?_, ?_, ?_, ?_⟩
  · simp only [F_n22 hF, F_c35 hF, nI_0, and_self, true_or]
  · simp only [F_n22 hF, nI_0, and_self, true_or, Nat.zero_le]
  · simp only [F_i4_20 hF, F_n22 hF, nI_0, and_self, true_or]
  · intro j; exact F_q22 hF 0 j
  · intro j hh; rw [F_n22 hF] at hh; exact absurd hh (Nat.not_lt_zero _)
  · intros; simp only [F_Z hF 35 (by decide) (by decide), F_Z hF 58 (by decide) (by decide), nI_0, and_self, true_or]
  · intros; simp only [F_Z hF 35 (by decide) (by decide), F_Z hF 59 (by decide) (by decide), nI_0, and_self, true_or]
  · intros; simp only [F_Z hF 35 (by decide) (by decide), F_Z hF 60 (by decide) (by decide), nI_0, and_self, true_or]
  · intro j; simp only [F_q35 hF, F_Z hF 61 (by decide) (by decide)]; rfl
  · intro j hh; rw [F_n22 hF] at hh; exact absurd hh (Nat.not_lt_zero _)
  · simp only [F_n22 hF, F_c6 hF, nI_0, and_self, true_or]
  · intro j hh; rw [F_n22 hF] at hh; exact absurd hh (Nat.not_lt_zero _)
  · intro h p hh; rw [F_n22 hF] at hh; exact absurd hh (Nat.not_lt_zero _)
  · intros; simp only [F_Z hF 97 (by decide) (by decide), F_n22 hF, nI_0, and_self, true_or, Nat.zero_le]
  · intro h p hh; rw [F_n22 hF] at hh; exact absurd hh (Nat.not_lt_zero _)
  · intro h hh; rw [F_n22 hF] at hh; exact absurd hh (Nat.not_lt_zero _)
  · intro h hh; rw [F_n22 hF] at hh; exact absurd hh (Nat.not_lt_zero _)
  · intro h hh; rw [F_n22 hF] at hh; exact absurd hh (Nat.not_lt_zero _)
theorem F_BQ (hF : REP L zF0 μ) : BQ μ := by
  refine ⟨?_, ?_, ?_⟩
  · simp only [F_i4_68 hF, F_n23 hF, nI_0, and_self, true_or]
  · intro i hh; rw [F_n23 hF] at hh; exact absurd hh (Nat.not_lt_zero _)
  · intro i k hh; rw [F_n23 hF] at hh; exact absurd hh (Nat.not_lt_zero _)
theorem F_BO (hF : REP L zF0 μ) : BO μ := by
  refine ⟨?_, ?_, ?_, ?_, ?_, ?_, ?_, ?_, ?_⟩
  · simp only [F_n24 hF, F_c37 hF, nI_0, and_self, true_or]
  · simp only [F_n24 hF, nI_0, and_self, true_or, Nat.zero_le]
  · simp only [F_i4_58 hF, F_n24 hF, nI_0, and_self, true_or]
  · intro j; exact F_q24 hF 0 j
  · intro j; simp only [F_q37 hF, F_Z hF 80 (by decide) (by decide)]; rfl
  · intros; simp only [F_Z hF 37 (by decide) (by decide), F_Z hF 81 (by decide) (by decide), nI_0, and_self, true_or]
  · intros; simp only [F_Z hF 37 (by decide) (by decide), F_Z hF 82 (by decide) (by decide), nI_0, and_self, true_or]
  · intro j hh; rw [F_n24 hF] at hh; exact absurd hh (Nat.not_lt_zero _)
  · intro j hh; rw [F_n24 hF] at hh; exact absurd hh (Nat.not_lt_zero _)
theorem F_BS (hF : REP L zF0 μ) : BS μ := by
  refine ⟨?_, ?_, ?_, ?_, ?_, ?_, ?_, ?_, ?_, ?_, ?_, ?_⟩
  · simp only [F_n26 hF, F_c39 hF, nI_0, and_self, true_or]
  · simp only [F_n26 hF, nI_0, and_self, true_or, Nat.zero_le]
  · simp only [F_i4_71 hF, F_n26 hF, nI_0, and_self, true_or]
  · intro j; exact F_q26 hF 0 j
  · intro j; simp only [F_q39 hF, F_Z hF 89 (by decide) (by decide)]; rfl
  · intros; simp only [F_Z hF 39 (by decide) (by decide), F_Z hF 90 (by decide) (by decide), nI_0, and_self, true_or]
  · intros; simp only [F_Z hF 39 (by decide) (by decide), F_Z hF 91 (by decide) (by decide), nI_0, and_self, true_or]
  · intros; simp only [F_Z hF 39 (by decide) (by decide), F_Z hF 92 (by decide) (by decide), nI_0, and_self, true_or]
  · intros; simp only [F_Z hF 92 (by decide) (by decide), F_n26 hF, nI_0, and_self, true_or, Nat.zero_le]
  · intro j hh; rw [F_n26 hF] at hh; exact absurd hh (Nat.not_lt_zero _)
  · intro j hh; rw [F_n26 hF] at hh; exact absurd hh (Nat.not_lt_zero _)
  · intros; simp only [F_Z hF 92 (by decide) (by decide), nI_0, and_self, true_or]
theorem F_BF (hF : REP L zF0 μ) : BF μ := by
  refine ⟨?_, ?_, ?_, ?_, ?_, ?_, ?_, ?_, ?_, ?_⟩
  · simp only [F_n27 hF, F_c40 hF, nI_0, and_self, true_or]
  · simp only [F_n27 hF, nI_0, and_self, true_or, Nat.zero_le]
  · simp only [F_i4_76 hF, F_n27 hF, nI_0, and_self, true_or]
  · intro j; exact F_q27 hF 0 j
  · intros; simp only [F_Z hF 40 (by decide) (by decide), F_Z hF 93 (by decide) (by decide), nI_0, and_self, true_or]
  · intros; simp only [F_Z hF 40 (by decide) (by decide), F_Z hF 94 (by decide) (by decide), nI_0, and_self, true_or]
  · intros; simp only [F_Z hF 40 (by decide) (by decide), F_Z hF 95 (by decide) (by decide), nI_0, and_self, true_or]
  · intros; simp only [F_Z hF 40 (by decide) (by decide), F_Z hF 96 (by decide) (by decide), nI_0, and_self, true_or]
  · intros; simp only [F_Z hF 96 (by decide) (by decide), F_n27 hF, nI_0, and_self, true_or, Nat.zero_le]
  · intros; simp only [F_Z hF 96 (by decide) (by decide), nI_0, and_self, true_or]
theorem F_BM (hF : REP L zF0 μ) : BM 0 μ := by
  refine ⟨?_, ?_, ?_, ?_, ?_, ⟨0, F_i4_26 hF, Nat.zero_le _⟩, ⟨100, F_i4_25 hF, Nat.le_refl _⟩, Nat.zero_le _⟩ <;> (intro j hh; rw [F_n21 hF] at hh; exact absurd hh (Nat.not_lt_zero _))
theorem F_BD (hF : REP L zF0 μ) : BD μ := by
  refine ⟨?_, ?_, ?_, 0, Nat.zero_le _, F_i4_1 hF, F_n25 hF⟩
  · rw [F_i3_12 hF, F_i4_1 hF]
  · rw [F_i3_13 hF, F_i4_26 hF]
  · rw [F_i3_14 hF, F_i4_25 hF]
theorem F_BT (hF : REP L zF0 μ) : BT μ := by
  refine ⟨?_, ⟨0, Nat.zero_le _, F_i4_45 hF⟩, fun j => ?_, ?_⟩
  · rw [F_i29_1 hF, F_i4_45 hF]
  · rw [F_Z hF 13 (by decide) (by decide), F_Z hF 76 (by decide) (by decide)]; rfl
  · rw [F_i29_3 hF, F_i4_46 hF]
theorem F_BW (hF : REP L zF0 μ) : BW μ := by
  refine ⟨?_, ?_, fun j => F_q25 hF 0 j, ?_, ?_, ?_, ?_⟩
  · rw [F_c38 hF, F_n25 hF]
  · rw [F_n25 hF]; exact Nat.zero_le _
  · rw [F_c20 hF, F_n25 hF]
  · intro w hh; rw [F_n25 hF] at hh; exact absurd hh (Nat.not_lt_zero _)
  · intro w hh; rw [F_n25 hF] at hh; exact absurd hh (Nat.not_lt_zero _)
  · intro w p _ _ _; exact F_Z hF 83 (by decide) (by decide) _ _
set_option maxRecDepth 100000 in
theorem g33_w : ∀ e ∈ (smI zF0), e.1 = 33 → e.2.1 < 6 := by decide +kernel
set_option maxRecDepth 100000 in
theorem g84_w : ∀ e ∈ (smI zF0), (e.1 = 84 → e.2.2.2 = 0 ∨ ltO 6 e.2.2.1 = true) ∧ (e.1 = 85 → e.2.2.2 = 0 ∨ ltO 6 e.2.2.1 = true) := by decide +kernel
set_option maxRecDepth 100000 in
theorem g_lo : ∀ j, j < 6 → lkI (smI zF0) 33 j 0 = 1 ∧ lkI (smI zF0) 33 j 1 = 1 ∧ lkI (smI zF0) 33 j 2 = 0 ∧ lkI (smI zF0) 84 0 j = 1 ∧ lkI (smI zF0) 85 0 j = 1 := by decide +kernel
theorem F_BG (hF : REP L zF0 μ) : BG μ := by
  have i := hF.2.2.2.1
  have hi : ∀ j, 6 ≤ j → ∀ f, gI μ 33 j f = 0 := fun j hj f => (i 33 j f (by decide)).trans (lkI_up 6 hj g33_w)
  have h84 : ∀ j, 6 ≤ j → gI μ 84 0 j = 0 := fun j hj => (i 84 0 j (by decide)).trans (lkI_hi 6 hj fun e he hk => ((g84_w e he).1 hk).imp id ltO_s)
  have h85 : ∀ j, 6 ≤ j → gI μ 85 0 j = 0 := fun j hj => (i 85 0 j (by decide)).trans (lkI_hi 6 hj fun e he hk => ((g84_w e he).2 hk).imp id ltO_s)
  refine ⟨fun j => ?_, fun j => ?_, fun j => ?_, fun j hj => ?_⟩
  · rcases Nat.lt_or_ge j 6 with c | c
    · obtain ⟨g1, g2, g3, g4, g5⟩ := g_lo j c
      rw [i 33 j 0 (by decide), i 84 0 j (by decide), g1, g4]
    · rw [hi j c, h84 j c]
  · rcases Nat.lt_or_ge j 6 with c | c
    · obtain ⟨g1, g2, g3, g4, g5⟩ := g_lo j c
      rw [i 33 j 1 (by decide), i 85 0 j (by decide), g2, g5]
    · rw [hi j c, h85 j c]
  · rw [F_Z hF 86 (by decide) (by decide)]
    rcases Nat.lt_or_ge j 6 with c | c
    · obtain ⟨g1, g2, g3, g4, g5⟩ := g_lo j c
      rw [i 33 j 2 (by decide), g3]
    · rw [hi j c]
  · obtain ⟨g1, g2, g3, g4, g5⟩ := g_lo j hj
    exact ⟨1, 0, by decide, by decide, by decide, (i 84 0 j (by decide)).trans g4, F_Z hF 86 (by decide) (by decide) _ _⟩
theorem F_BX (hF : REP L zF0 μ) : BX μ := by
  refine ⟨?_, ?_, ?_, ⟨0, Nat.zero_le _, F_i4_42 hF⟩, fun j => ?_, ?_, ?_, ?_, ?_, ?_⟩
  · rw [F_n7 hF]; exact Nat.zero_le _
  · rw [F_i4_27 hF, F_n7 hF]; rfl
  · rw [F_Z hF 30 (by decide) (by decide), F_i4_42 hF]
  · rw [hF.2.2.2.2.1, hF.2.2.2.2.1]
  · rw [F_n8 hF, F_n7 hF]
  · rw [F_c12 hF, F_c36 hF]
  · rw [F_c18 hF, F_n7 hF]
  · intro j hh; rw [F_n7 hF] at hh; exact absurd hh (Nat.not_lt_zero _)
  · intro j hh; rw [F_n7 hF] at hh; exact absurd hh (Nat.not_lt_zero _)
theorem F_BU (hF : REP L zF0 μ) : BU 0 μ := by
  refine ⟨?_, ?_⟩
  · rw [hF.2.2.2.2.2.2]; have := F_b.1; omega
  · rw [hF.2.2.2.2.2.2]; have := F_b.2; omega
def zkb (z : Nat → Bool) (q : Option (Nat × Nat)) : Bool := match q with
  | none => true
  | some r => z r.1
theorem zkb_s {z : Nat → Bool} {q : Option (Nat × Nat)} (h : zkb z q = true) : zkq z q := fun K i e => by
  rw [e] at h
  exact Or.inl h
theorem R0_C (K i j : Nat) : (∃ k x, R0 K i j = some (k, x) ∧ zC k = true ∧ zC K = true) ∨ R0 K i j = none := by
  unfold R0
  by_cases h0 : K = 21
  · rw [if_pos h0]; exact Or.inl ⟨34, j, rfl, by decide, by rw [h0]; decide⟩
  rw [if_neg h0]
  by_cases h1 : K = 22
  · rw [if_pos h1]; exact Or.inl ⟨35, j, rfl, by decide, by rw [h1]; decide⟩
  rw [if_neg h1]
  by_cases h2 : K = 24
  · rw [if_pos h2]; exact Or.inl ⟨37, j, rfl, by decide, by rw [h2]; decide⟩
  rw [if_neg h2]
  by_cases h3 : K = 25
  · rw [if_pos h3]; exact Or.inl ⟨38, j, rfl, by decide, by rw [h3]; decide⟩
  rw [if_neg h3]
  by_cases h4 : K = 26
  · rw [if_pos h4]; exact Or.inl ⟨39, j, rfl, by decide, by rw [h4]; decide⟩
  rw [if_neg h4]
  by_cases h5 : K = 27
  · rw [if_pos h5]; exact Or.inl ⟨40, j, rfl, by decide, by rw [h5]; decide⟩
  rw [if_neg h5]
  by_cases h6 : K = 28
  · rw [if_pos h6]; exact Or.inl ⟨33, j, rfl, by decide, by rw [h6]; decide⟩
  rw [if_neg h6]
  by_cases h7 : K = 34 ∧ (j = 12 ∨ j = 17)
  · rw [if_pos h7]; exact Or.inl ⟨35, 0, rfl, by decide, by rw [h7.1]; decide⟩
  rw [if_neg h7]
  by_cases h8 : K = 35 ∧ j = 4
  · rw [if_pos h8]; exact Or.inl ⟨34, 0, rfl, by decide, by rw [h8.1]; decide⟩
  rw [if_neg h8]
  by_cases h9 : K = 37 ∧ j = 0
  · rw [if_pos h9]; exact Or.inl ⟨34, 0, rfl, by decide, by rw [h9.1]; decide⟩
  rw [if_neg h9]
  by_cases h10 : K = 39 ∧ j = 0
  · rw [if_pos h10]; exact Or.inl ⟨34, 0, rfl, by decide, by rw [h10.1]; decide⟩
  rw [if_neg h10]
  exact Or.inr rfl
set_option maxRecDepth 100000 in
theorem zk_w : ∀ e ∈ (smR zF0), (zC e.1 = true → zkb zC e.2.2.2 = true) ∧ (zR e.1 = true → zkb zR e.2.2.2 = true) ∧ (zQ e.1 = true → zkb zQ e.2.2.2 = true) := by decide +kernel
theorem zR_C {K : Nat} (h : zR K = true) : zC K = false := by
  unfold zR at h
  simpa using h
theorem zQ_C9 {K : Nat} (h : zQ K = true) : zC K = false := by
  unfold zQ at h
  unfold zC
  simp only [Bool.or_eq_true, beq_iff_eq, Nat.ble_eq] at h
  rcases h with h | h
  · subst h; decide
  · have a : (K == 2) = false := by simp; omega
    have b : (K == 3) = false := by simp; omega
    have c : Nat.ble K 40 = false := by rw [Bool.eq_false_iff]; intro e; have := Nat.le_of_ble_eq_true e; omega
    rw [a, b, c]; simp
theorem F_zk (hF : REP L zF0 μ) : zkM zC μ ∧ zkM zR μ ∧ zkM zQ μ := by
  have hR := hF.2.2.2.2.2.1
  refine ⟨fun K i j hz => ?_, fun K i j hz => ?_, fun K i j hz => ?_⟩
  · rw [hR]
    rcases lkR_or (l := (smR zF0)) (K := K) (i := i) (j := j) with h | ⟨e, h1, h2, h3⟩
    · rw [h]
      rcases R0_C K i j with ⟨k, x, g1, g2, g3⟩ | g
      · rw [g1]; intro K' i' e; cases e; exact Or.inl g2
      · rw [g]; intro K' i' e; cases e
    · rw [h3]; exact zkb_s ((zk_w e h1).1 (by rw [h2]; exact hz))
  · rw [hR]
    rcases lkR_or (l := (smR zF0)) (K := K) (i := i) (j := j) with h | ⟨e, h1, h2, h3⟩
    · rw [h]
      rcases R0_C K i j with ⟨k, x, g1, g2, g3⟩ | g
      · rw [zR_C hz] at g3; cases g3
      · rw [g]; intro K' i' e; cases e
    · rw [h3]; exact zkb_s ((zk_w e h1).2.1 (by rw [h2]; exact hz))
  · rw [hR]
    rcases lkR_or (l := (smR zF0)) (K := K) (i := i) (j := j) with h | ⟨e, h1, h2, h3⟩
    · rw [h]
      rcases R0_C K i j with ⟨k, x, g1, g2, g3⟩ | g
      · rw [zQ_C9 hz] at g3; cases g3
      · rw [g]; intro K' i' e; cases e
    · rw [h3]; exact zkb_s ((zk_w e h1).2.2 (by rw [h2]; exact hz))
theorem F_LI (hF : REP L zF0 μ) : LI 0 L μ := by
  obtain ⟨z1, z2, z3⟩ := F_zk hF
  exact ⟨⟨F_Sh hF, F_BP hF, F_BM hF, F_BH hF, F_BQ hF, F_BD hF, F_BT hF, F_BX hF, F_BO hF, F_BW hF, F_BG hF, F_BS hF, F_BF hF, F_BU hF⟩, z1, z2, z3, hF.2.2.1⟩
set_option maxRecDepth 100000 in
theorem opsA_k : opsA.all (fun o => o.2.1 != 0) = true := by decide +kernel
set_option maxRecDepth 100000 in
theorem opsB_k : opsB.all (fun o => o.2.1 != 0) = true := by decide +kernel
set_option maxRecDepth 100000 in
theorem ops2_k : ops2.all (fun o => o.2.1 != 0) = true := by decide +kernel
set_option maxRecDepth 100000 in
theorem zA_f : lkC (smc zA0) 3 = 1 ∧ lkC (smc zA0) 4 = 0 ∧ (∀ e ∈ (smc zA0), e.1 < 41) ∧ (smb zA0).1 ≤ 100 ∧ (smb zA0).2 ≤ 3000 := by decide +kernel
set_option maxRecDepth 100000 in
theorem zB_f : lkC (smc zB0) 4 = 1 ∧ lkR (smR zB0) 4 0 65 = some (84, 0) ∧ lkR (smR zB0) 4 0 66 = some (85, 0) ∧ lkC (smc zB0) 84 = 1 ∧ lkC (smc zB0) 85 = 1 ∧ lkN (smn zB0) 84 0 = 6 ∧ lkN (smn zB0) 85 0 = 6 := by decide +kernel
set_option maxRecDepth 100000 in
theorem z2_f : lkC (smc zC0) 5 = 0 ∧ (smb zC0).1 ≤ 300 ∧ (smb zC0).2 ≤ 720000 := by decide +kernel
theorem law_start (hL : L ≤ 3072) (h : M0 L σ) : WP (d + 62) 0 0 [some (vr (some (0, 0))), none, none, none, none, none, none] [] σ (fun v s => v = some (some (vi 1)) ∧ enM s) := by
  have hA : REP L zA0 (aps opsA σ) := (REP.of h).aps opsA_k
  have hB9 : REP L zB0 (aps opsB (aps opsA σ)) := hA.aps opsB_k
  have hC9 : REP L zC0 (aps ops2 (aps opsB (aps opsA σ))) := hB9.aps ops2_k
  have hF : REP L zF0 (am_mk (aps ops2 (aps opsB (aps opsA σ))) 5 1 1) := REP.st (o := omk 5 1 1) (show (5 : Nat) ≠ 0 by decide) hC9
  have b0 : gB σ = (0, 0) := h.2.2.2.2.2.2
  have c0 : ∀ K, gC σ K = 0 := h.1
  rw [S0_0]
  refine ⟨by unfold am_ok; rw [b0]; decide, ?_⟩
  rw [c0, S0_3q, S0_4]
  refine ⟨⟨by rw [gC_am_mk, if_pos rfl]; exact Nat.succ_pos _, by decide⟩, ?_⟩
  refine C71 h ?_
  rw [am_ko_0, S0_7, S0_8, chA_ops]
  obtain ⟨f1, f2, f3, f4, f5⟩ := zA_f
  refine ⟨by unfold am_ok; rw [hA.2.2.2.2.2.2]; omega, ?_⟩
  have g4 : gC (aps opsA σ) 4 = 0 := (hA.1 4).trans f2
  rw [g4, S0_11q, S0_12]
  refine ⟨⟨by rw [gC_am_mk, if_pos rfl]; exact Nat.succ_pos _, by decide⟩, ?_⟩
  refine C137a g4 (fun K hK => (hA.1 K).trans (lkC_no fun e he hk => absurd (f3 e he) (by omega))) (by rw [hA.2.2.2.2.2.2]; exact f4) (by rw [hA.2.2.2.2.2.2]; exact f5) ?_
  rw [chB1_ops]
  obtain ⟨e1, e2, e3, e4, e5, e6, e7⟩ := zB_f
  refine C137b ((hB9.1 4).trans e1) ((hB9.2.2.2.2.2.1 4 0 65).trans e2) ((hB9.2.2.2.2.2.1 4 0 66).trans e3) ((hB9.1 84).trans e4) ((hB9.1 85).trans e5) ((hB9.2.1 84 0 (by decide)).trans e6) ((hB9.2.1 85 0 (by decide)).trans e7) ?_
  show am_ko _ _ _ _ _ _ _ (some none) (aps ops2 (aps opsB (aps opsA σ)))
  obtain ⟨k1, k2, k3⟩ := z2_f
  rw [am_ko_0, S0_15, S0_16, S0_17]
  refine ⟨⟨by decide, ?_⟩, ?_⟩
  · unfold am_ok
    rw [hC9.2.2.2.2.2.2, show ((1 : Int32)).toNatClampNeg = 1 from rfl]
    omega
  · rw [(hC9.1 5).trans k1, show ((1 : Int32)).toNatClampNeg = 1 from rfl, S0_19, S0_20, S0_21]
    exact law_loop hL 513 0 _ _ _ rfl (F_LI hF) (by omega)
theorem R0_Kq (K i j : Nat) : R0 K i j = none ∨ ∃ k x, R0 K i j = some (k, x) ∧ (kT k).1 = 0 := by
  unfold R0
  by_cases h0 : K = 21
  · rw [if_pos h0]; exact Or.inr ⟨34, j, rfl, by decide +kernel⟩
  rw [if_neg h0]
  by_cases h1 : K = 22
  · rw [if_pos h1]; exact Or.inr ⟨35, j, rfl, by decide +kernel⟩
  rw [if_neg h1]
  by_cases h2 : K = 24
  · rw [if_pos h2]; exact Or.inr ⟨37, j, rfl, by decide +kernel⟩
  rw [if_neg h2]
  by_cases h3 : K = 25
  · rw [if_pos h3]; exact Or.inr ⟨38, j, rfl, by decide +kernel⟩
  rw [if_neg h3]
  by_cases h4 : K = 26
  · rw [if_pos h4]; exact Or.inr ⟨39, j, rfl, by decide +kernel⟩
  rw [if_neg h4]
  by_cases h5 : K = 27
  · rw [if_pos h5]; exact Or.inr ⟨40, j, rfl, by decide +kernel⟩
  rw [if_neg h5]
  by_cases h6 : K = 28
  · rw [if_pos h6]; exact Or.inr ⟨33, j, rfl, by decide +kernel⟩
  rw [if_neg h6]
  by_cases h7 : K = 34 ∧ (j = 12 ∨ j = 17)
  · rw [if_pos h7]; exact Or.inr ⟨35, 0, rfl, by decide +kernel⟩
  rw [if_neg h7]
  by_cases h8 : K = 35 ∧ j = 4
  · rw [if_pos h8]; exact Or.inr ⟨34, 0, rfl, by decide +kernel⟩
  rw [if_neg h8]
  by_cases h9 : K = 37 ∧ j = 0
  · rw [if_pos h9]; exact Or.inr ⟨34, 0, rfl, by decide +kernel⟩
  rw [if_neg h9]
  by_cases h10 : K = 39 ∧ j = 0
  · rw [if_pos h10]; exact Or.inr ⟨34, 0, rfl, by decide +kernel⟩
  rw [if_neg h10]
  exact Or.inl rfl
end STZ
