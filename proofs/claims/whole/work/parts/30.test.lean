/-- 1 if c holds, else 0 -/
def bI (c : Prop) [Decidable c] : Int32 := if c then 1 else 0
theorem bI_0 {c : Prop} [Decidable c] : bI c = 0 ↔ ¬ c := by unfold bI; by_cases h : c <;> simp [h]
theorem bI_1 {c : Prop} [Decidable c] : bI c = 1 ↔ c := by unfold bI; by_cases h : c <;> simp [h]
theorem bI_t {c : Prop} [Decidable c] (h : c) : bI c = 1 := if_pos h
theorem bI_f {c : Prop} [Decidable c] (h : ¬ c) : bI c = 0 := if_neg h
section TT
variable {d : Nat} {σ : aM} {Q : aR → aM → Prop}
theorem C136 {n a b : Int32} : WP d 136 0 [some (vi n), some (vi a), some (vi b)] [] σ Q ↔ Q (some (some (vi (bI (a ≤ n ∧ n ≤ b))))) σ := by
  simp only [S136_0, S136_1, S136_2, S136_5, S136_6, S136_7, S136_10, S136_11, S136_14, S136_15]
  by_cases h1 : n < a
  · have : ¬ (a ≤ n ∧ n ≤ b) := fun h => Int32.not_lt.mpr h.1 h1
    simp [h1, bI_f this]
  · by_cases h2 : b < n
    · have : ¬ (a ≤ n ∧ n ≤ b) := fun h => Int32.not_lt.mpr h.2 h2
      simp [h1, h2, bI_f this]
    · have : a ≤ n ∧ n ≤ b := ⟨Int32.not_lt.mp h1, Int32.not_lt.mp h2⟩
      simp [h1, h2, bI_t this]
theorem C140 {n a b : Int32} : WP d 140 0 [some (vi n), some (vi a), some (vi b)] [] σ Q ↔ Q (some (some (vi (bI (a ≤ n ∧ n ≤ b))))) σ := by
  simp only [S140_0, S140_1, S140_2, S140_5, S140_6, S140_7, S140_10, S140_11, S140_14, S140_15]
  by_cases h1 : n < a
  · have : ¬ (a ≤ n ∧ n ≤ b) := fun h => Int32.not_lt.mpr h.1 h1
    simp [h1, bI_f this]
  · by_cases h2 : b < n
    · have : ¬ (a ≤ n ∧ n ≤ b) := fun h => Int32.not_lt.mpr h.2 h2
      simp [h1, h2, bI_f this]
    · have : a ≤ n ∧ n ≤ b := ⟨Int32.not_lt.mp h1, Int32.not_lt.mp h2⟩
      simp [h1, h2, bI_t this]
theorem C133 {n : Int32} (h3 : gC σ 3 = 1) (h21 : gC σ 21 = 1) (hr : gR σ 3 0 0 = some (21, 0)) (hN : gN σ 21 0 < 1000) (hp : ∀ j, gR σ 21 0 j = some (34, j)) (hc : gC σ 34 = gN σ 21 0) : WP (d + 1) 133 0 [some (vr (some (3, 0))), some (vi n)] [] σ Q ↔ Q (some (some (vr (if 0 ≤ n ∧ n ≤ nI (gN σ 21 0) - 1 then some (34, n.toNatClampNeg) else none)))) σ := by
  simp only [S133_0, S133_1, S133_2, S133_3, S133_6, S133_9, S133_10, S133_11, S133_14, S133_17, S133_18, S133_21, S133_22, S133_25n, S133_25, S133_28, S133_31, S133_32, C136, h3, h21, hr, hp, hc, k21, true_and, and_true, and_self, if_true, if_false, ite_true, ite_false, Nat.lt_irrefl, List.length_nil, List.length_cons, Nat.reduceAdd, Nat.reduceLeDiff, Nat.reduceLT, Nat.reduceLTLE, Nat.reduceEqDiff, Nat.zero_lt_one, not_true, not_false_iff, bI_0, bI_1, ne_eq, reduceCtorEq, false_and, and_false, or_true, true_or, or_false, false_or, Nat.lt_one_iff, eq_self, Nat.zero_le, am_ko_v, am_ko_0, am_kil, OfNat.ofNat_ne_zero, Nat.reduceBEq]
  by_cases c1 : 0 ≤ n ∧ n ≤ nI (gN σ 21 0) - 1
  · have c2 : n.toNatClampNeg < gN σ 21 0 := sorry
    simp only [c1, c2, true_and, and_true, and_self, if_true, if_false, ite_true, ite_false, Nat.lt_irrefl, List.length_nil, List.length_cons, Nat.reduceAdd, Nat.reduceLeDiff, Nat.reduceLT, Nat.reduceLTLE, Nat.reduceEqDiff, Nat.zero_lt_one, not_true, not_false_iff, bI_0, bI_1, ne_eq, reduceCtorEq, false_and, and_false, or_true, true_or, or_false, false_or, Nat.lt_one_iff, eq_self, Nat.zero_le, am_ko_v, am_ko_0, am_kil, OfNat.ofNat_ne_zero, Nat.reduceBEq]
  · simp only [c1, true_and, and_true, and_self, if_true, if_false, ite_true, ite_false, Nat.lt_irrefl, List.length_nil, List.length_cons, Nat.reduceAdd, Nat.reduceLeDiff, Nat.reduceLT, Nat.reduceLTLE, Nat.reduceEqDiff, Nat.zero_lt_one, not_true, not_false_iff, bI_0, bI_1, ne_eq, reduceCtorEq, false_and, and_false, or_true, true_or, or_false, false_or, Nat.lt_one_iff, eq_self, Nat.zero_le, am_ko_v, am_ko_0, am_kil, OfNat.ofNat_ne_zero, Nat.reduceBEq]
theorem case_holds {n5 n6 : Option aV} {i : Int32} (h3 : gC σ 3 = 1) (h4 : gC σ 4 = 1) (hi : am_in (i + 1) (gN σ 0 0)) (K : ∀ σ', gC σ' 3 = 1 → gC σ' 4 = 1 → gI σ' 3 0 14 = gI σ' 4 0 25 → WP (d + 5) 0 1819 [some (vr (some (0, 0))), some (vr (some (3, 0))), some (vr (some (4, 0))), some (vr (some (5, 0))), some (vi i), n5, n6] [] σ' Q) (hh : gI σ 3 0 14 = gI σ 4 0 25) :
    WP (d + 5) 0 368 [some (vr (some (0, 0))), some (vr (some (3, 0))), some (vr (some (4, 0))), some (vr (some (5, 0))), some (vi i), n5, n6] [] σ Q := by
  simp only [S0_368, S0_369, S0_370, S0_372, S0_373, S0_374, S0_375, S0_378, S0_379, S0_380, S0_382, S0_383, S0_384, S0_385, S0_388, S0_391, S0_392, S76_0, S76_1, S76_2, S76_4, S76_7, S76_10, S76_11, S76_12, S76_13, S76_14, S76_17, S76_18, S148_0, S148_1, S148_2, S148_5, S148_6, S148_7, S148_9, S148_12, S148_15, S148_16, S148_17, S148_18, S148_19, S148_22, S148_23, C136, C140, gI_sI, gL_sI, gR_sI, gN_sI, gC_sI, gB_sI, gI_sL, gL_sL, gR_sL, gN_sL, gC_sL, gB_sL, gI_sR, gL_sR, gR_sR, gN_sR, gC_sR, gB_sR, gI_sIr, gL_sIr, gR_sIr, gN_sIr, gC_sIr, gB_sIr, gI_sLr, gL_sLr, gR_sLr, gN_sLr, gC_sLr, gB_sLr, gI_sRr, gL_sRr, gR_sRr, gN_sRr, gC_sRr, gB_sRr, gI_sN, gL_sN, gR_sN, gN_sN, gC_sN, gB_sN, gI_sC, gL_sC, gR_sC, gN_sC, gC_sC, gB_sC, gI_sB, gL_sB, gR_sB, gN_sB, gC_sB, gB_sB, gI_am_mk, gL_am_mk, gR_am_mk, gN_am_mk, gC_am_mk, gB_am_mk, gI_am_ml, gL_am_ml, gR_am_ml, gN_am_ml, gC_am_ml, gB_am_ml, gI_am_add, gL_am_add, gR_am_add, gN_am_add, gC_am_add, gB_am_add, gI_am_ins, gL_am_ins, gR_am_ins, gN_am_ins, gC_am_ins, gB_am_ins, gI_am_rem, gL_am_rem, gR_am_rem, gN_am_rem, gC_am_rem, gB_am_rem, gI_am_thr, gL_am_thr, gR_am_thr, gN_am_thr, gC_am_thr, gB_am_thr, h3, h4, hi, k0, true_and, and_true, and_self, if_true, if_false, ite_true, ite_false, Nat.lt_irrefl, List.length_nil, List.length_cons, Nat.reduceAdd, Nat.reduceLeDiff, Nat.reduceLT, Nat.reduceLTLE, Nat.reduceEqDiff, Nat.zero_lt_one, not_true, not_false_iff, bI_0, bI_1, ne_eq, reduceCtorEq, false_and, and_false, or_true, true_or, or_false, false_or, Nat.lt_one_iff, eq_self, Nat.zero_le, am_ko_v, am_ko_0, am_kil, OfNat.ofNat_ne_zero, Nat.reduceBEq]
  skip
end TT
