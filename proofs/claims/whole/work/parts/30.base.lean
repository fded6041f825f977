/-! ===== THE COMPARISON: small things ===== -/
/-- 1 if c holds, else 0 -/
def bI (c : Prop) [Decidable c] : Int32 := if c then 1 else 0
theorem bI_0 {c : Prop} [Decidable c] : bI c = 0 ↔ ¬ c := by unfold bI; by_cases h : c <;> simp [h]
theorem bI_1 {c : Prop} [Decidable c] : bI c = 1 ↔ c := by unfold bI; by_cases h : c <;> simp [h]
theorem bI_t {c : Prop} [Decidable c] (h : c) : bI c = 1 := if_pos h
theorem bI_f {c : Prop} [Decidable c] (h : ¬ c) : bI c = 0 := if_neg h
theorem bI_b {c : Prop} [Decidable c] : (bI c = 0 ∨ bI c = 1) ↔ True := by unfold bI; by_cases h : c <;> simp [h]
theorem bI_c {c e : Prop} [Decidable c] [Decidable e] (h : c ↔ e) : bI c = bI e := by
  by_cases hc : c
  · rw [bI_t hc, bI_t (h.mp hc)]
  · rw [bI_f hc, bI_f (fun k => hc (h.mpr k))]
theorem nor_self {p : Prop} : (¬ p ∨ p) ↔ True := ⟨fun _ => trivial, fun _ => (Classical.em p).symm⟩
theorem i32_10 : ((1 : Int32) = 0) = False := by decide
theorem i32_01 : ((0 : Int32) = 1) = False := by decide
theorem i32_m0 : ((-1 : Int32) = 0) = False := by decide
theorem i32_m1 : ((-1 : Int32) = 1) = False := by decide
theorem i32_e0 : ((0 : Int32) = 0) = True := by decide
theorem i32_e1 : ((1 : Int32) = 1) = True := by decide
theorem ini_iff {k n : Nat} (h : k < 2147483648) : am_in (nI k) n ↔ k < n := by
  unfold am_in
  rw [nI_clamp h]
  exact ⟨fun q => q.2, fun q => ⟨nI_pos' h, q⟩⟩
/-- the numbers from 0 up to n less 1 -/
theorem in_iff {P : Nat} (h : P < 2147483648) {n : Int32} : (0 ≤ n ∧ n ≤ nI P - 1) ↔ ∃ k, k < P ∧ n = nI k := by
  constructor
  · rintro ⟨h1, h2⟩
    obtain ⟨j, hj, rfl⟩ := nI_of (x := n) (Int32.not_lt.mpr h1)
    refine ⟨j, ?_, rfl⟩
    cases P with
    | zero => exact absurd h2 (by
        have e : nI 0 - 1 = (-1 : Int32) := by decide
        rw [e]
        intro h3
        have := Int32.le_trans h1 h3
        exact absurd this (by decide))
    | succ P =>
      rw [nI_pred] at h2
      have := (nI_leI hj (by omega)).mp h2
      omega
  · rintro ⟨k, hk, rfl⟩
    refine ⟨nI_pos' (by omega), ?_⟩
    cases P with
    | zero => omega
    | succ P => rw [nI_pred]; exact nI_le (by omega) (by omega)
def rf (K : Nat) (x : Int32) : Option (Nat × Nat) := if x = -1 then none else some (K, x.toNatClampNeg)
theorem rf_n {K : Nat} : rf K (-1) = none := rfl
theorem nI_m1 {k : Nat} (h : k < 2147483648) : nI k ≠ -1 := fun e => by
  have := congrArg Int32.toInt e
  rw [nI_toInt h, show ((-1 : Int32)).toInt = -1 from rfl] at this
  omega
theorem rf_k {K k : Nat} (h : k < 2147483648) : rf K (nI k) = some (K, k) := by
  unfold rf
  rw [if_neg (nI_m1 h), nI_clamp h]
theorem bud1 {x : Nat} (h : x ≤ 601024) : (x ≤ 601024) = True := eq_true h
theorem bud2 {x : Nat} (h : x ≤ 7293034) : (x ≤ 7293034) = True := eq_true h
section TT
variable {d : Nat} {σ : aM} {Q : aR → aM → Prop}
theorem C136 {n a b : Int32} : WP d 136 0 [some (vi n), some (vi a), some (vi b)] [] σ Q ↔ Q (some (some (vi (bI (a ≤ n ∧ n ≤ b))))) σ := by
  simp only [S136_0, S136_1, S136_2, S136_5, S136_6, S136_7, S136_10, S136_11, S136_14, S136_15]
  by_cases h1 : n < a
  · have : ¬ (a ≤ n ∧ n ≤ b) := fun h => Int32.not_lt.mpr h.1 h1
    simp [h1, bI_f this]
  · by_cases h2 : b < n
    · have : ¬ (a ≤ n ∧ n ≤ b) := fun h => Int32.not_lt.mpr h.2 h2
      simp [h1, h2, bI_f this]
    · have : a ≤ n ∧ n ≤ b := ⟨Int32.not_lt.mp h1, Int32.not_lt.mp h2⟩
      simp [h1, h2, bI_t this]
theorem C140 {n a b : Int32} : WP d 140 0 [some (vi n), some (vi a), some (vi b)] [] σ Q ↔ Q (some (some (vi (bI (a ≤ n ∧ n ≤ b))))) σ := by
  simp only [S140_0, S140_1, S140_2, S140_5, S140_6, S140_7, S140_10, S140_11, S140_14, S140_15]
  by_cases h1 : n < a
  · have : ¬ (a ≤ n ∧ n ≤ b) := fun h => Int32.not_lt.mpr h.1 h1
    simp [h1, bI_f this]
  · by_cases h2 : b < n
    · have : ¬ (a ≤ n ∧ n ≤ b) := fun h => Int32.not_lt.mpr h.2 h2
      simp [h1, h2, bI_f this]
    · have : a ≤ n ∧ n ≤ b := ⟨Int32.not_lt.mp h1, Int32.not_lt.mp h2⟩
      simp [h1, h2, bI_t this]
theorem C135 {n : Int32} : WP (d + 1) 135 0 [some (vi n)] [] σ Q ↔ Q (some (some (vi (bI (0 ≤ n ∧ n ≤ 9999))))) σ := by
  simp only [S135_0, S135_1, S135_2, S135_5, S135_8, C136, am_ko_v, bI_b, true_and, List.length_nil, Nat.zero_le]
theorem C141 {n : Int32} : WP (d + 1) 141 0 [some (vi n)] [] σ Q ↔ Q (some (some (vi (bI (0 ≤ n ∧ n ≤ 9999))))) σ := by
  simp only [S141_0, S141_1, S141_2, S141_5, S141_8, C140, am_ko_v, bI_b, true_and, List.length_nil, Nat.zero_le]
theorem C133k {k : Nat} (h3 : gC σ 3 = 1) (h21 : gC σ 21 = 1) (hr : gR σ 3 0 0 = some (21, 0)) (hN : gN σ 21 0 ≤ 60) (hp : ∀ j, gR σ 21 0 j = some (34, j)) (hc : gC σ 34 = gN σ 21 0) (hk : k < gN σ 21 0) : WP (d + 1) 133 0 [some (vr (some (3, 0))), some (vi (nI k))] [] σ Q ↔ Q (some (some (vr (some (34, k))))) σ := by
  have kb31 : k < 2147483648 := by omega
  have e : (0 ≤ nI k ∧ nI k ≤ nI (gN σ 21 0) - 1) := (in_iff (by omega)).mpr ⟨k, hk, rfl⟩
  simp only [S133_0, S133_1, S133_2, S133_3, S133_6, S133_9, S133_10, S133_11, S133_14, S133_17, S133_18, S133_21, S133_22, S133_25n, S133_25, S133_28, S133_31, S133_32, C136, h3, h21, hr, hp, hc, k21, e, ini_iff kb31, nI_clamp kb31, hk, true_and, and_true, and_self, if_true, if_false, ite_true, ite_false, Nat.lt_irrefl, List.length_nil, List.length_cons, Nat.reduceAdd, Nat.reduceLeDiff, Nat.reduceLT, Nat.reduceEqDiff, Nat.zero_lt_one, not_true, not_false_iff, bI_0, bI_1, ne_eq, reduceCtorEq, false_and, and_false, or_true, true_or, or_false, false_or, Nat.lt_one_iff, eq_self, Nat.zero_le, am_ko_v, am_ko_0, am_kil, Nat.reduceBEq, Int32.reduceLT, Int32.reduceLE, Int32.reduceAdd, Int32.reduceSub, i32_10, i32_01, not_true_eq_false, not_false_eq_true, Classical.not_not, nor_self, Nat.lt_add_one, nI_1, nI_pred, rf_n, i32_m0, i32_m1, reduceIte]
theorem C133n {n : Int32} (h3 : gC σ 3 = 1) (h21 : gC σ 21 = 1) (hr : gR σ 3 0 0 = some (21, 0)) (hN : gN σ 21 0 ≤ 60) (hk : ¬ ∃ k, k < gN σ 21 0 ∧ n = nI k) : WP (d + 1) 133 0 [some (vr (some (3, 0))), some (vi n)] [] σ Q ↔ Q (some (some (vr none))) σ := by
  have e : ¬ (0 ≤ n ∧ n ≤ nI (gN σ 21 0) - 1) := fun h => hk ((in_iff (by omega)).mp h)
  simp only [S133_0, S133_1, S133_2, S133_3, S133_6, S133_9, S133_10, S133_11, S133_14, S133_17, S133_18, S133_21, S133_22, S133_25n, S133_25, S133_28, S133_31, S133_32, C136, h3, h21, hr, k21, e, true_and, and_true, and_self, if_true, if_false, ite_true, ite_false, Nat.lt_irrefl, List.length_nil, List.length_cons, Nat.reduceAdd, Nat.reduceLeDiff, Nat.reduceLT, Nat.reduceEqDiff, Nat.zero_lt_one, not_true, not_false_iff, bI_0, bI_1, ne_eq, reduceCtorEq, false_and, and_false, or_true, true_or, or_false, false_or, Nat.lt_one_iff, eq_self, Nat.zero_le, am_ko_v, am_ko_0, am_kil, Nat.reduceBEq, Int32.reduceLT, Int32.reduceLE, Int32.reduceAdd, Int32.reduceSub, i32_10, i32_01, not_true_eq_false, not_false_eq_true, Classical.not_not, nor_self, Nat.lt_add_one, nI_1, nI_pred, rf_n, i32_m0, i32_m1, reduceIte]
theorem C134k {k : Nat} (h3 : gC σ 3 = 1) (h21 : gC σ 22 = 1) (hr : gR σ 3 0 1 = some (22, 0)) (hN : gN σ 22 0 ≤ 30) (hp : ∀ j, gR σ 22 0 j = some (35, j)) (hc : gC σ 35 = gN σ 22 0) (hk : k < gN σ 22 0) : WP (d + 1) 134 0 [some (vr (some (3, 0))), some (vi (nI k))] [] σ Q ↔ Q (some (some (vr (some (35, k))))) σ := by
  have kb31 : k < 2147483648 := by omega
  have e : (0 ≤ nI k ∧ nI k ≤ nI (gN σ 22 0) - 1) := (in_iff (by omega)).mpr ⟨k, hk, rfl⟩
  simp only [S134_0, S134_1, S134_2, S134_3, S134_6, S134_9, S134_10, S134_11, S134_14, S134_17, S134_18, S134_21, S134_22, S134_25n, S134_25, S134_28, S134_31, S134_32, C136, h3, h21, hr, hp, hc, k22, e, ini_iff kb31, nI_clamp kb31, hk, true_and, and_true, and_self, if_true, if_false, ite_true, ite_false, Nat.lt_irrefl, List.length_nil, List.length_cons, Nat.reduceAdd, Nat.reduceLeDiff, Nat.reduceLT, Nat.reduceEqDiff, Nat.zero_lt_one, not_true, not_false_iff, bI_0, bI_1, ne_eq, reduceCtorEq, false_and, and_false, or_true, true_or, or_false, false_or, Nat.lt_one_iff, eq_self, Nat.zero_le, am_ko_v, am_ko_0, am_kil, Nat.reduceBEq, Int32.reduceLT, Int32.reduceLE, Int32.reduceAdd, Int32.reduceSub, i32_10, i32_01, not_true_eq_false, not_false_eq_true, Classical.not_not, nor_self, Nat.lt_add_one, nI_1, nI_pred, rf_n, i32_m0, i32_m1, reduceIte]
theorem C134n {n : Int32} (h3 : gC σ 3 = 1) (h21 : gC σ 22 = 1) (hr : gR σ 3 0 1 = some (22, 0)) (hN : gN σ 22 0 ≤ 30) (hk : ¬ ∃ k, k < gN σ 22 0 ∧ n = nI k) : WP (d + 1) 134 0 [some (vr (some (3, 0))), some (vi n)] [] σ Q ↔ Q (some (some (vr none))) σ := by
  have e : ¬ (0 ≤ n ∧ n ≤ nI (gN σ 22 0) - 1) := fun h => hk ((in_iff (by omega)).mp h)
  simp only [S134_0, S134_1, S134_2, S134_3, S134_6, S134_9, S134_10, S134_11, S134_14, S134_17, S134_18, S134_21, S134_22, S134_25n, S134_25, S134_28, S134_31, S134_32, C136, h3, h21, hr, k22, e, true_and, and_true, and_self, if_true, if_false, ite_true, ite_false, Nat.lt_irrefl, List.length_nil, List.length_cons, Nat.reduceAdd, Nat.reduceLeDiff, Nat.reduceLT, Nat.reduceEqDiff, Nat.zero_lt_one, not_true, not_false_iff, bI_0, bI_1, ne_eq, reduceCtorEq, false_and, and_false, or_true, true_or, or_false, false_or, Nat.lt_one_iff, eq_self, Nat.zero_le, am_ko_v, am_ko_0, am_kil, Nat.reduceBEq, Int32.reduceLT, Int32.reduceLE, Int32.reduceAdd, Int32.reduceSub, i32_10, i32_01, not_true_eq_false, not_false_eq_true, Classical.not_not, nor_self, Nat.lt_add_one, nI_1, nI_pred, rf_n, i32_m0, i32_m1, reduceIte]
theorem C142 {n : Int32} (h4 : gC σ 4 = 1) : WP (d + 1) 142 0 [some (vr (some (4, 0))), some (vi n)] [] σ Q ↔ Q (some (some (vi (bI (0 ≤ n ∧ n ≤ gI σ 4 0 2 - 1))))) σ := by
  simp only [S142_0, S142_1, S142_2, S142_3, S142_6, S142_7, S142_8, S142_11, C140, h4, bI_b, true_and, and_true, and_self, if_true, if_false, ite_true, ite_false, Nat.lt_irrefl, List.length_nil, List.length_cons, Nat.reduceAdd, Nat.reduceLeDiff, Nat.reduceLT, Nat.reduceEqDiff, Nat.zero_lt_one, not_true, not_false_iff, bI_0, bI_1, ne_eq, reduceCtorEq, false_and, and_false, or_true, true_or, or_false, false_or, Nat.lt_one_iff, eq_self, Nat.zero_le, am_ko_v, am_ko_0, am_kil, Nat.reduceBEq, Int32.reduceLT, Int32.reduceLE, Int32.reduceAdd, Int32.reduceSub, i32_10, i32_01, not_true_eq_false, not_false_eq_true, Classical.not_not, nor_self, Nat.lt_add_one, nI_1, nI_pred, rf_n, i32_m0, i32_m1, reduceIte]
theorem C143 {n : Int32} (h4 : gC σ 4 = 1) : WP (d + 1) 143 0 [some (vr (some (4, 0))), some (vi n)] [] σ Q ↔ Q (some (some (vi (bI (0 ≤ n ∧ n ≤ gI σ 4 0 20 - 1))))) σ := by
  simp only [S143_0, S143_1, S143_2, S143_3, S143_6, S143_7, S143_8, S143_11, C140, h4, bI_b, true_and, and_true, and_self, if_true, if_false, ite_true, ite_false, Nat.lt_irrefl, List.length_nil, List.length_cons, Nat.reduceAdd, Nat.reduceLeDiff, Nat.reduceLT, Nat.reduceEqDiff, Nat.zero_lt_one, not_true, not_false_iff, bI_0, bI_1, ne_eq, reduceCtorEq, false_and, and_false, or_true, true_or, or_false, false_or, Nat.lt_one_iff, eq_self, Nat.zero_le, am_ko_v, am_ko_0, am_kil, Nat.reduceBEq, Int32.reduceLT, Int32.reduceLE, Int32.reduceAdd, Int32.reduceSub, i32_10, i32_01, not_true_eq_false, not_false_eq_true, Classical.not_not, nor_self, Nat.lt_add_one, nI_1, nI_pred, rf_n, i32_m0, i32_m1, reduceIte]
theorem C27 {i : Nat} (h : i < gC σ 34) : WP d 27 0 [some (vr (some (34, i)))] [] σ Q ↔ Q (some (some (vi (bI (0 < gI σ 34 i 10))))) σ := by
  simp only [S27_0, S27_1, S27_4, S27_7, S27_8, S27_11, S27_12, h, true_and, and_true, and_self, if_true, if_false, ite_true, ite_false, Nat.lt_irrefl, List.length_nil, List.length_cons, Nat.reduceAdd, Nat.reduceLeDiff, Nat.reduceLT, Nat.reduceEqDiff, Nat.zero_lt_one, not_true, not_false_iff, bI_0, bI_1, ne_eq, reduceCtorEq, false_and, and_false, or_true, true_or, or_false, false_or, Nat.lt_one_iff, eq_self, Nat.zero_le, am_ko_v, am_ko_0, am_kil, Nat.reduceBEq, Int32.reduceLT, Int32.reduceLE, Int32.reduceAdd, Int32.reduceSub, i32_10, i32_01, not_true_eq_false, not_false_eq_true, Classical.not_not, nor_self, Nat.lt_add_one, nI_1, nI_pred, rf_n, i32_m0, i32_m1, reduceIte]
  by_cases c : 0 < gI σ 34 i 10
  · rw [bI_t c]; simp [c]
  · rw [bI_f c]; simp [c]
end TT
