theorem lgc_lt {x y : Int64} : lg_cmp x y < 0 ↔ x < y := by
  unfold lg_cmp
  by_cases h1 : x > y
  · rw [if_pos h1]
    exact ⟨fun h => absurd h (by decide), fun h => absurd (Int64.lt_trans h h1) Int64.lt_irrefl⟩
  · rw [if_neg h1]
    by_cases h2 : x = y
    · rw [if_pos h2, h2]
      exact ⟨fun h => absurd h (by decide), fun h => absurd h Int64.lt_irrefl⟩
    · rw [if_neg h2]
      refine ⟨fun _ => ?_, fun _ => by decide⟩
      rcases Int64.lt_or_eq_of_le (Int64.not_lt.mp h1) with h | h
      · exact h
      · exact absurd h h2
theorem lgc_gt {x y : Int64} : 0 < lg_cmp x y ↔ y < x := by
  unfold lg_cmp
  by_cases h1 : x > y
  · rw [if_pos h1]
    exact ⟨fun _ => h1, fun _ => by decide⟩
  · rw [if_neg h1]
    by_cases h2 : x = y
    · rw [if_pos h2]
      exact ⟨fun h => absurd h (by decide), fun h => absurd h h1⟩
    · rw [if_neg h2]
      exact ⟨fun h => absurd h (by decide), fun h => absurd h h1⟩
theorem lgc_eq {x y : Int64} : lg_cmp x y = 0 ↔ x = y := by
  unfold lg_cmp
  by_cases h1 : x > y
  · rw [if_pos h1]
    exact ⟨fun h => absurd h (by decide), fun h => absurd h1 (by rw [h]; exact Int64.lt_irrefl)⟩
  · rw [if_neg h1]
    by_cases h2 : x = y
    · rw [if_pos h2]; exact ⟨fun _ => h2, fun _ => rfl⟩
    · rw [if_neg h2]; exact ⟨fun h => absurd h (by decide), fun h => absurd h h2⟩
/-- the stack as it stands in its row -/
def repS (g : Nat → Int64) : List Int64 → Prop
  | [] => True
  | x :: s => g s.length = x ∧ repS g s
theorem repS_up {g : Nat → Int64} {v : Int64} {n : Nat} : ∀ {st : List Int64}, repS g st → st.length ≤ n → repS (fun c => if c = n then v else g c) st
  | [], _, _ => trivial
  | x :: s, h, hn => ⟨by
      have : ¬ s.length = n := by simp at hn; omega
      simp only [this, if_false]; exact h.1, repS_up h.2 (by simp at hn; omega)⟩
theorem repS_push {g : Nat → Int64} {v : Int64} {st : List Int64} (h : repS g st) : repS (fun c => if c = st.length then v else g c) (v :: st) := ⟨by simp only [if_true], repS_up h (Nat.le_refl _)⟩
theorem sL_sLr {σ : aM} {K i j : Nat} {f : Nat → Int64} {v : Int64} : sL (sLr σ K i f) K i j v = sLr σ K i (fun c => if c = j then v else f c) := by
  unfold sL sLr am_u3
  refine Prod.ext rfl (Prod.ext ?_ rfl)
  funext a b c
  dsimp only
  by_cases h : a = K ∧ b = i
  · simp [h]
  · rw [if_neg (fun q => h ⟨q.1, q.2.1⟩), if_neg h, if_neg h]
theorem sLr_id {σ : aM} {K i : Nat} : sLr σ K i (gL σ K i) = σ := by
  unfold sLr gL
  refine Prod.ext rfl (Prod.ext ?_ rfl)
  funext a b c
  dsimp only
  by_cases h : a = K ∧ b = i
  · rw [if_pos h, h.1, h.2]
  · rw [if_neg h]
theorem sLr_sLr {σ : aM} {K i : Nat} {f g : Nat → Int64} : sLr (sLr σ K i f) K i g = sLr σ K i g := by
  unfold sLr
  refine Prod.ext rfl (Prod.ext ?_ rfl)
  funext a b c
  dsimp only
  by_cases h : a = K ∧ b = i
  · rw [if_pos h, if_pos h]
  · rw [if_neg h, if_neg h, if_neg h]
def topF : List Int64 → Int64
  | [] => 1
  | x :: _ => x
section EV
variable {d : Nat} {σ : aM} {Q : aR → aM → Prop}
theorem C25 {c : Int32} {x y : Int64} : WP d 25 0 [some (vi c), some (vl x), none, some (vl y), none, none, none] [] σ Q ↔ Q (some (some (vl (opC c x y)))) σ := by
  unfold opC heldF
  by_cases c1 : c = -18
  · simp only [S25_0, S25_1, S25_48, S25_49, S25_50, S25_51, S25_54, S25_55, S25_58, S25_59, S25_60, S25_61, S25_62, S25_63, S25_66, S25_67, S25_70, S25_71, S25_72, S25_73, S25_74, S25_75, S25_78, S25_79, S25_82, S25_83, S25_84, S25_85, S25_86, S25_87, S25_88, S25_89, S25_90, S25_91, S25_92, S25_93, S25_94, S25_95, S25_97, S25_100, S25_101, S25_102, S25_103, S25_105, S25_108, S25_109, S25_110, S25_111, S25_113, S25_115, S25_118, S25_119, S25_122, S25_125, S25_128, S25_130, S25_133, S25_134, S25_137, S25_140, S25_143, S25_145, c1, true_and, and_true, and_self, if_true, if_false, ite_true, ite_false, Nat.lt_irrefl, List.length_nil, List.length_cons, Nat.reduceAdd, Nat.reduceLeDiff, Nat.reduceLT, Nat.reduceEqDiff, Nat.zero_lt_one, not_true, not_false_iff, bI_0, bI_1, ne_eq, reduceCtorEq, false_and, and_false, or_true, true_or, or_false, false_or, Nat.lt_one_iff, eq_self, Nat.zero_le, am_ko_v, am_ko_0, am_kil, Nat.reduceBEq, Int32.reduceLT, Int32.reduceLE, Int32.reduceAdd, Int32.reduceSub, i32_10, i32_01, not_true_eq_false, not_false_eq_true, Classical.not_not, nor_self, Nat.lt_add_one, nI_1, nI_pred, rf_n, i32_m0, i32_m1, reduceIte]
  by_cases c2 : c = -17
  · simp only [S25_0, S25_1, S25_48, S25_49, S25_50, S25_51, S25_54, S25_55, S25_58, S25_59, S25_60, S25_61, S25_62, S25_63, S25_66, S25_67, S25_70, S25_71, S25_72, S25_73, S25_74, S25_75, S25_78, S25_79, S25_82, S25_83, S25_84, S25_85, S25_86, S25_87, S25_88, S25_89, S25_90, S25_91, S25_92, S25_93, S25_94, S25_95, S25_97, S25_100, S25_101, S25_102, S25_103, S25_105, S25_108, S25_109, S25_110, S25_111, S25_113, S25_115, S25_118, S25_119, S25_122, S25_125, S25_128, S25_130, S25_133, S25_134, S25_137, S25_140, S25_143, S25_145, c1, c2, show ((-17 : Int32) = -18) = False by decide, true_and, and_true, and_self, if_true, if_false, ite_true, ite_false, Nat.lt_irrefl, List.length_nil, List.length_cons, Nat.reduceAdd, Nat.reduceLeDiff, Nat.reduceLT, Nat.reduceEqDiff, Nat.zero_lt_one, not_true, not_false_iff, bI_0, bI_1, ne_eq, reduceCtorEq, false_and, and_false, or_true, true_or, or_false, false_or, Nat.lt_one_iff, eq_self, Nat.zero_le, am_ko_v, am_ko_0, am_kil, Nat.reduceBEq, Int32.reduceLT, Int32.reduceLE, Int32.reduceAdd, Int32.reduceSub, i32_10, i32_01, not_true_eq_false, not_false_eq_true, Classical.not_not, nor_self, Nat.lt_add_one, nI_1, nI_pred, rf_n, i32_m0, i32_m1, reduceIte]
  by_cases c3 : c = -16
  · by_cases h : x = y <;> simp only [S25_0, S25_1, S25_48, S25_49, S25_50, S25_51, S25_54, S25_55, S25_58, S25_59, S25_60, S25_61, S25_62, S25_63, S25_66, S25_67, S25_70, S25_71, S25_72, S25_73, S25_74, S25_75, S25_78, S25_79, S25_82, S25_83, S25_84, S25_85, S25_86, S25_87, S25_88, S25_89, S25_90, S25_91, S25_92, S25_93, S25_94, S25_95, S25_97, S25_100, S25_101, S25_102, S25_103, S25_105, S25_108, S25_109, S25_110, S25_111, S25_113, S25_115, S25_118, S25_119, S25_122, S25_125, S25_128, S25_130, S25_133, S25_134, S25_137, S25_140, S25_143, S25_145, c1, c2, c3, lgc_lt, lgc_gt, lgc_eq, h, show ((-16 : Int32) = -18) = False by decide, show ((-16 : Int32) = -17) = False by decide, true_and, and_true, and_self, if_true, if_false, ite_true, ite_false, Nat.lt_irrefl, List.length_nil, List.length_cons, Nat.reduceAdd, Nat.reduceLeDiff, Nat.reduceLT, Nat.reduceEqDiff, Nat.zero_lt_one, not_true, not_false_iff, bI_0, bI_1, ne_eq, reduceCtorEq, false_and, and_false, or_true, true_or, or_false, false_or, Nat.lt_one_iff, eq_self, Nat.zero_le, am_ko_v, am_ko_0, am_kil, Nat.reduceBEq, Int32.reduceLT, Int32.reduceLE, Int32.reduceAdd, Int32.reduceSub, i32_10, i32_01, not_true_eq_false, not_false_eq_true, Classical.not_not, nor_self, Nat.lt_add_one, nI_1, nI_pred, rf_n, i32_m0, i32_m1, reduceIte]
  by_cases c4 : c = -15
  · by_cases h : y < x <;> simp only [S25_0, S25_1, S25_48, S25_49, S25_50, S25_51, S25_54, S25_55, S25_58, S25_59, S25_60, S25_61, S25_62, S25_63, S25_66, S25_67, S25_70, S25_71, S25_72, S25_73, S25_74, S25_75, S25_78, S25_79, S25_82, S25_83, S25_84, S25_85, S25_86, S25_87, S25_88, S25_89, S25_90, S25_91, S25_92, S25_93, S25_94, S25_95, S25_97, S25_100, S25_101, S25_102, S25_103, S25_105, S25_108, S25_109, S25_110, S25_111, S25_113, S25_115, S25_118, S25_119, S25_122, S25_125, S25_128, S25_130, S25_133, S25_134, S25_137, S25_140, S25_143, S25_145, c1, c2, c3, c4, lgc_lt, lgc_gt, lgc_eq, h, show ((-15 : Int32) = -18) = False by decide, show ((-15 : Int32) = -17) = False by decide, show ((-15 : Int32) = -16) = False by decide, true_and, and_true, and_self, if_true, if_false, ite_true, ite_false, Nat.lt_irrefl, List.length_nil, List.length_cons, Nat.reduceAdd, Nat.reduceLeDiff, Nat.reduceLT, Nat.reduceEqDiff, Nat.zero_lt_one, not_true, not_false_iff, bI_0, bI_1, ne_eq, reduceCtorEq, false_and, and_false, or_true, true_or, or_false, false_or, Nat.lt_one_iff, eq_self, Nat.zero_le, am_ko_v, am_ko_0, am_kil, Nat.reduceBEq, Int32.reduceLT, Int32.reduceLE, Int32.reduceAdd, Int32.reduceSub, i32_10, i32_01, not_true_eq_false, not_false_eq_true, Classical.not_not, nor_self, Nat.lt_add_one, nI_1, nI_pred, rf_n, i32_m0, i32_m1, reduceIte]
  by_cases c5 : c = -14
  · by_cases h : x < y <;> simp only [S25_0, S25_1, S25_48, S25_49, S25_50, S25_51, S25_54, S25_55, S25_58, S25_59, S25_60, S25_61, S25_62, S25_63, S25_66, S25_67, S25_70, S25_71, S25_72, S25_73, S25_74, S25_75, S25_78, S25_79, S25_82, S25_83, S25_84, S25_85, S25_86, S25_87, S25_88, S25_89, S25_90, S25_91, S25_92, S25_93, S25_94, S25_95, S25_97, S25_100, S25_101, S25_102, S25_103, S25_105, S25_108, S25_109, S25_110, S25_111, S25_113, S25_115, S25_118, S25_119, S25_122, S25_125, S25_128, S25_130, S25_133, S25_134, S25_137, S25_140, S25_143, S25_145, c1, c2, c3, c4, c5, lgc_lt, lgc_gt, lgc_eq, h, show ((-14 : Int32) = -18) = False by decide, show ((-14 : Int32) = -17) = False by decide, show ((-14 : Int32) = -16) = False by decide, show ((-14 : Int32) = -15) = False by decide, true_and, and_true, and_self, if_true, if_false, ite_true, ite_false, Nat.lt_irrefl, List.length_nil, List.length_cons, Nat.reduceAdd, Nat.reduceLeDiff, Nat.reduceLT, Nat.reduceEqDiff, Nat.zero_lt_one, not_true, not_false_iff, bI_0, bI_1, ne_eq, reduceCtorEq, false_and, and_false, or_true, true_or, or_false, false_or, Nat.lt_one_iff, eq_self, Nat.zero_le, am_ko_v, am_ko_0, am_kil, Nat.reduceBEq, Int32.reduceLT, Int32.reduceLE, Int32.reduceAdd, Int32.reduceSub, i32_10, i32_01, not_true_eq_false, not_false_eq_true, Classical.not_not, nor_self, Nat.lt_add_one, nI_1, nI_pred, rf_n, i32_m0, i32_m1, reduceIte]
  by_cases c6 : c = -12
  · subst c6
    by_cases h : 1000000000 < x - y <;> by_cases h2 : x - y < -1000000000 <;> simp only [S25_0, S25_1, S25_48, S25_49, S25_50, S25_51, S25_54, S25_55, S25_58, S25_59, S25_60, S25_61, S25_62, S25_63, S25_66, S25_67, S25_70, S25_71, S25_72, S25_73, S25_74, S25_75, S25_78, S25_79, S25_82, S25_83, S25_84, S25_85, S25_86, S25_87, S25_88, S25_89, S25_90, S25_91, S25_92, S25_93, S25_94, S25_95, S25_97, S25_100, S25_101, S25_102, S25_103, S25_105, S25_108, S25_109, S25_110, S25_111, S25_113, S25_115, S25_118, S25_119, S25_122, S25_125, S25_128, S25_130, S25_133, S25_134, S25_137, S25_140, S25_143, S25_145, c1, c2, c3, c4, c5, lgc_lt, lgc_gt, lgc_eq, h, h2, show ((-12 : Int32) = -13) = False by decide, true_and, and_true, and_self, if_true, if_false, ite_true, ite_false, Nat.lt_irrefl, List.length_nil, List.length_cons, Nat.reduceAdd, Nat.reduceLeDiff, Nat.reduceLT, Nat.reduceEqDiff, Nat.zero_lt_one, not_true, not_false_iff, bI_0, bI_1, ne_eq, reduceCtorEq, false_and, and_false, or_true, true_or, or_false, false_or, Nat.lt_one_iff, eq_self, Nat.zero_le, am_ko_v, am_ko_0, am_kil, Nat.reduceBEq, Int32.reduceLT, Int32.reduceLE, Int32.reduceAdd, Int32.reduceSub, i32_10, i32_01, not_true_eq_false, not_false_eq_true, Classical.not_not, nor_self, Nat.lt_add_one, nI_1, nI_pred, rf_n, i32_m0, i32_m1, reduceIte]
  by_cases c7 : c = -11
  · subst c7
    by_cases h : 1000000000 < x + y <;> by_cases h2 : x + y < -1000000000 <;> simp only [S25_0, S25_1, S25_48, S25_49, S25_50, S25_51, S25_54, S25_55, S25_58, S25_59, S25_60, S25_61, S25_62, S25_63, S25_66, S25_67, S25_70, S25_71, S25_72, S25_73, S25_74, S25_75, S25_78, S25_79, S25_82, S25_83, S25_84, S25_85, S25_86, S25_87, S25_88, S25_89, S25_90, S25_91, S25_92, S25_93, S25_94, S25_95, S25_97, S25_100, S25_101, S25_102, S25_103, S25_105, S25_108, S25_109, S25_110, S25_111, S25_113, S25_115, S25_118, S25_119, S25_122, S25_125, S25_128, S25_130, S25_133, S25_134, S25_137, S25_140, S25_143, S25_145, c1, c2, c3, c4, c5, c6, lgc_lt, lgc_gt, lgc_eq, h, h2, show ((-11 : Int32) = -13) = False by decide, true_and, and_true, and_self, if_true, if_false, ite_true, ite_false, Nat.lt_irrefl, List.length_nil, List.length_cons, Nat.reduceAdd, Nat.reduceLeDiff, Nat.reduceLT, Nat.reduceEqDiff, Nat.zero_lt_one, not_true, not_false_iff, bI_0, bI_1, ne_eq, reduceCtorEq, false_and, and_false, or_true, true_or, or_false, false_or, Nat.lt_one_iff, eq_self, Nat.zero_le, am_ko_v, am_ko_0, am_kil, Nat.reduceBEq, Int32.reduceLT, Int32.reduceLE, Int32.reduceAdd, Int32.reduceSub, i32_10, i32_01, not_true_eq_false, not_false_eq_true, Classical.not_not, nor_self, Nat.lt_add_one, nI_1, nI_pred, rf_n, i32_m0, i32_m1, reduceIte]
  by_cases c8 : c = -13
  · subst c8
    by_cases h : 1000000000 < x * y <;> by_cases h2 : x * y < -1000000000 <;> simp only [S25_0, S25_1, S25_48, S25_49, S25_50, S25_51, S25_54, S25_55, S25_58, S25_59, S25_60, S25_61, S25_62, S25_63, S25_66, S25_67, S25_70, S25_71, S25_72, S25_73, S25_74, S25_75, S25_78, S25_79, S25_82, S25_83, S25_84, S25_85, S25_86, S25_87, S25_88, S25_89, S25_90, S25_91, S25_92, S25_93, S25_94, S25_95, S25_97, S25_100, S25_101, S25_102, S25_103, S25_105, S25_108, S25_109, S25_110, S25_111, S25_113, S25_115, S25_118, S25_119, S25_122, S25_125, S25_128, S25_130, S25_133, S25_134, S25_137, S25_140, S25_143, S25_145, c1, c2, c3, c4, c5, c6, c7, lgc_lt, lgc_gt, lgc_eq, h, h2, true_and, and_true, and_self, if_true, if_false, ite_true, ite_false, Nat.lt_irrefl, List.length_nil, List.length_cons, Nat.reduceAdd, Nat.reduceLeDiff, Nat.reduceLT, Nat.reduceEqDiff, Nat.zero_lt_one, not_true, not_false_iff, bI_0, bI_1, ne_eq, reduceCtorEq, false_and, and_false, or_true, true_or, or_false, false_or, Nat.lt_one_iff, eq_self, Nat.zero_le, am_ko_v, am_ko_0, am_kil, Nat.reduceBEq, Int32.reduceLT, Int32.reduceLE, Int32.reduceAdd, Int32.reduceSub, i32_10, i32_01, not_true_eq_false, not_false_eq_true, Classical.not_not, nor_self, Nat.lt_add_one, nI_1, nI_pred, rf_n, i32_m0, i32_m1, reduceIte]
  · by_cases h : 1000000000 < x * y <;> by_cases h2 : x * y < -1000000000 <;> simp only [S25_0, S25_1, S25_48, S25_49, S25_50, S25_51, S25_54, S25_55, S25_58, S25_59, S25_60, S25_61, S25_62, S25_63, S25_66, S25_67, S25_70, S25_71, S25_72, S25_73, S25_74, S25_75, S25_78, S25_79, S25_82, S25_83, S25_84, S25_85, S25_86, S25_87, S25_88, S25_89, S25_90, S25_91, S25_92, S25_93, S25_94, S25_95, S25_97, S25_100, S25_101, S25_102, S25_103, S25_105, S25_108, S25_109, S25_110, S25_111, S25_113, S25_115, S25_118, S25_119, S25_122, S25_125, S25_128, S25_130, S25_133, S25_134, S25_137, S25_140, S25_143, S25_145, c1, c2, c3, c4, c5, c6, c7, c8, lgc_lt, lgc_gt, lgc_eq, h, h2, true_and, and_true, and_self, if_true, if_false, ite_true, ite_false, Nat.lt_irrefl, List.length_nil, List.length_cons, Nat.reduceAdd, Nat.reduceLeDiff, Nat.reduceLT, Nat.reduceEqDiff, Nat.zero_lt_one, not_true, not_false_iff, bI_0, bI_1, ne_eq, reduceCtorEq, false_and, and_false, or_true, true_or, or_false, false_or, Nat.lt_one_iff, eq_self, Nat.zero_le, am_ko_v, am_ko_0, am_kil, Nat.reduceBEq, Int32.reduceLT, Int32.reduceLE, Int32.reduceAdd, Int32.reduceSub, i32_10, i32_01, not_true_eq_false, not_false_eq_true, Classical.not_not, nor_self, Nat.lt_add_one, nI_1, nI_pred, rf_n, i32_m0, i32_m1, reduceIte]
end EV
