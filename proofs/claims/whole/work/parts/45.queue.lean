/-- the first place from i on, k places long, where f is x; -1 without -/
def fqI (f : Nat → Int32) (x : Int32) : Nat → Nat → Int32
  | _, 0 => -1
  | i, k + 1 => if f i = x then nI i else fqI f x (i + 1) k
theorem fqI_s {f : Nat → Int32} {x : Int32} : ∀ k i, (fqI f x i k = -1 ∧ ∀ j, i ≤ j → j < i + k → f j ≠ x) ∨ ∃ j, i ≤ j ∧ j < i + k ∧ fqI f x i k = nI j ∧ f j = x ∧ ∀ m, i ≤ m → m < j → f m ≠ x := by
  intro k
  induction k with
  | zero => intro i; exact Or.inl ⟨rfl, fun j h1 h2 => by omega⟩
  | succ k ih =>
    intro i
    unfold fqI
    by_cases c : f i = x
    · rw [if_pos c]; exact Or.inr ⟨i, Nat.le_refl _, by omega, rfl, c, fun m h1 h2 => by omega⟩
    · rw [if_neg c]
      rcases ih (i + 1) with ⟨e, h⟩ | ⟨j, h1, h2, h3, h4, h5⟩
      · refine Or.inl ⟨e, fun j h1 h2 => ?_⟩
        by_cases ji : j = i
        · subst ji; exact c
        · exact h j (by omega) (by omega)
      · refine Or.inr ⟨j, by omega, by omega, h3, h4, fun m h6 h7 => ?_⟩
        by_cases mi : m = i
        · subst mi; exact c
        · exact h5 m (by omega) h7
theorem sI_sIr {σ : aM} {K i j : Nat} {f : Nat → Int32} {v : Int32} : sI (sIr σ K i f) K i j v = sIr σ K i (fun c => if c = j then v else f c) := by
  unfold sI sIr am_u3
  refine Prod.ext ?_ rfl
  funext a b c
  dsimp only
  by_cases h : a = K ∧ b = i
  · simp [h]
  · rw [if_neg (fun q => h ⟨q.1, q.2.1⟩), if_neg h, if_neg h]
theorem sIr_id {σ : aM} {K i : Nat} : sIr σ K i (gI σ K i) = σ := by
  unfold sIr gI
  refine Prod.ext ?_ rfl
  funext a b c
  dsimp only
  by_cases h : a = K ∧ b = i
  · rw [if_pos h, h.1, h.2]
  · rw [if_neg h]
theorem sIr_sIr {σ : aM} {K i : Nat} {f g : Nat → Int32} : sIr (sIr σ K i f) K i g = sIr σ K i g := by
  unfold sIr
  refine Prod.ext ?_ rfl
  funext a b c
  dsimp only
  by_cases h : a = K ∧ b = i
  · rw [if_pos h, if_pos h]
  · rw [if_neg h, if_neg h, if_neg h]
theorem gIr_s {σ : aM} {K i : Nat} {f : Nat → Int32} : gI (sIr σ K i f) K i = f := by
  funext c
  exact if_pos ⟨rfl, rfl⟩
section QUE
variable {d n : Nat} {σ : aM} {Q : aR → aM → Prop}
theorem L105 {p : Nat} (S : Sh σ) (hP : gN σ 21 0 ≤ 60) (bQ : BQ σ) (p_c : gC σ 34 = gN σ 21 0) (p_0 : ∀ j, j < gN σ 21 0 → gI σ 34 j 0 = nI j) (hp : p < gN σ 21 0) (hq : gN σ 23 0 ≤ 60) : ∀ k i, i + k = gN σ 23 0 → (WP d 105 2 [some (vr (some (3, 0))), some (vr (some (34, p))), some (vi (nI i))] [] σ Q ↔ Q (some (some (vi (fqI (gI σ 87 0) (nI p) i k)))) σ) := by
  obtain ⟨q_n, q_e, q_d⟩ := id bQ
  intro k
  induction k with
  | zero =>
    intro i hi
    have c : ¬ nI i < nI (gN σ 23 0) := nI_nlt (by omega) (by omega)
    rw [S105_2]
    simp only [S105_0, S105_1, S105_3, S105_4, S105_7, S105_10, S105_13, S105_14, S105_17, S105_18, S105_21n, S105_21, S105_24, S105_27, S105_28, S105_31, S105_34, S105_35, S105_36, S105_39, S105_42, S105_43, gL_sI, gR_sI, gN_sI, gC_sI, gB_sI, gI_sL, gR_sL, gN_sL, gC_sL, gB_sL, gI_sR, gL_sR, gN_sR, gC_sR, gB_sR, gL_sIr, gR_sIr, gN_sIr, gC_sIr, gB_sIr, gI_sLr, gR_sLr, gN_sLr, gC_sLr, gB_sLr, gI_sRr, gL_sRr, gN_sRr, gC_sRr, gB_sRr, gI_sN, gL_sN, gR_sN, gC_sN, gB_sN, gI_sC, gL_sC, gR_sC, gN_sC, gB_sC, gI_sB, gL_sB, gR_sB, gN_sB, gC_sB, gB_sB, gB_am_mk, gI_am_ml, gL_am_ml, gR_am_ml, gB_am_ml, gI_am_add, gL_am_add, gC_am_add, gB_am_add, gI_am_ins, gL_am_ins, gC_am_ins, gB_am_ins, gI_am_rem, gL_am_rem, gC_am_rem, gB_am_rem, gI_am_thr, gL_am_thr, gR_am_thr, gN_am_thr, gB_am_thr, mI_sI_k, mI_sI_j, mI_sI_b, mI_sI_s, mI_sI_i, mI_sI_c, mL_sL_k, mL_sL_j, mL_sL_b, mL_sL_s, mL_sL_i, mL_sL_c, mR_sR_k, mR_sR_j, mR_sR_b, mR_sR_s, mR_sR_i, mR_sR_c, mI_sIr_k, mI_sIr_s, mI_sIr_i, mL_sLr_k, mL_sLr_s, mL_sLr_i, mR_sRr_k, mR_sRr_s, mR_sRr_i, mN_sN_k, mN_sN_i, mN_am_add_k, mN_am_add_s, mR_am_add_k, mN_am_ins_k, mN_am_ins_s, mR_am_ins_k, mN_am_rem_k, mN_am_rem_s, mR_am_rem_k, mR_am_add_s, mR_am_ins_s, mR_am_rem_s, mI_am_mk_k, mI_am_mk_s, mI_am_mk_i, mL_am_mk_k, mL_am_mk_s, mL_am_mk_i, mR_am_mk_k, mR_am_mk_s, mR_am_mk_i, mN_am_mk_k, mN_am_mk_i, mC_am_mk_k, mC_am_mk_s, mN_am_ml_k, mN_am_ml_i, mC_am_ml_k, mC_am_ml_s, mC_sC_k, mC_am_thr_k, sC_3 S, sC_4 S, sR_3_2 S, sC_23 S, k0, k1, k2, k3, k4, k5, k6, k7, k8, k9, k10, k11, k12, k13, k14, k15, k16, k17, k18, k19, k20, k21, k22, k23, k24, k25, k26, k27, k28, k29, k30, k31, k32, k33, k34, k35, k36, k37, k38, k39, k40, k41, k42, k43, k44, k45, k46, k47, k48, k49, k50, k51, k52, k53, k54, k55, k56, k57, k58, k59, k60, k61, k62, k63, k64, k65, k66, k67, k68, k69, k70, k71, k72, k73, k74, k75, k76, k77, k78, k79, k80, k81, k82, k83, k84, k85, k86, k87, k88, k89, k90, k91, k92, k93, k94, k95, k96, k97, k98, k99, k100, c, fqI, true_and, and_true, and_self, if_true, if_false, ite_true, ite_false, Nat.lt_irrefl, List.length_nil, List.length_cons, Nat.reduceAdd, Nat.reduceLeDiff, Nat.reduceLT, Nat.reduceEqDiff, Nat.zero_lt_one, not_true, not_false_iff, bI_0, bI_1, ne_eq, reduceCtorEq, false_and, and_false, or_true, true_or, or_false, false_or, Nat.lt_one_iff, eq_self, Nat.zero_le, am_ko_v, am_ko_0, am_kil, Nat.reduceBEq, Int32.reduceLT, Int32.reduceLE, Int32.reduceAdd, Int32.reduceSub, i32_10, i32_01, not_true_eq_false, not_false_eq_true, Classical.not_not, nor_self, Nat.lt_add_one, nI_1, nI_pred, rf_n, i32_m0, i32_m1, reduceIte]
  | succ k ih =>
    intro i hi
    have c : nI i < nI (gN σ 23 0) := nI_lt (by omega) (by omega)
    obtain ⟨q, hq1, hq2, hq3, -⟩ := q_e i (by omega)
    have i31 : i < 2147483648 := by omega
    have iq : i < gN σ 23 0 := by omega
    rw [S105_2]
    by_cases e : nI q = nI p
    · simp only [S105_0, S105_1, S105_3, S105_4, S105_7, S105_10, S105_13, S105_14, S105_17, S105_18, S105_21n, S105_21, S105_24, S105_27, S105_28, S105_31, S105_34, S105_35, S105_36, S105_39, S105_42, S105_43, gL_sI, gR_sI, gN_sI, gC_sI, gB_sI, gI_sL, gR_sL, gN_sL, gC_sL, gB_sL, gI_sR, gL_sR, gN_sR, gC_sR, gB_sR, gL_sIr, gR_sIr, gN_sIr, gC_sIr, gB_sIr, gI_sLr, gR_sLr, gN_sLr, gC_sLr, gB_sLr, gI_sRr, gL_sRr, gN_sRr, gC_sRr, gB_sRr, gI_sN, gL_sN, gR_sN, gC_sN, gB_sN, gI_sC, gL_sC, gR_sC, gN_sC, gB_sC, gI_sB, gL_sB, gR_sB, gN_sB, gC_sB, gB_sB, gB_am_mk, gI_am_ml, gL_am_ml, gR_am_ml, gB_am_ml, gI_am_add, gL_am_add, gC_am_add, gB_am_add, gI_am_ins, gL_am_ins, gC_am_ins, gB_am_ins, gI_am_rem, gL_am_rem, gC_am_rem, gB_am_rem, gI_am_thr, gL_am_thr, gR_am_thr, gN_am_thr, gB_am_thr, mI_sI_k, mI_sI_j, mI_sI_b, mI_sI_s, mI_sI_i, mI_sI_c, mL_sL_k, mL_sL_j, mL_sL_b, mL_sL_s, mL_sL_i, mL_sL_c, mR_sR_k, mR_sR_j, mR_sR_b, mR_sR_s, mR_sR_i, mR_sR_c, mI_sIr_k, mI_sIr_s, mI_sIr_i, mL_sLr_k, mL_sLr_s, mL_sLr_i, mR_sRr_k, mR_sRr_s, mR_sRr_i, mN_sN_k, mN_sN_i, mN_am_add_k, mN_am_add_s, mR_am_add_k, mN_am_ins_k, mN_am_ins_s, mR_am_ins_k, mN_am_rem_k, mN_am_rem_s, mR_am_rem_k, mR_am_add_s, mR_am_ins_s, mR_am_rem_s, mI_am_mk_k, mI_am_mk_s, mI_am_mk_i, mL_am_mk_k, mL_am_mk_s, mL_am_mk_i, mR_am_mk_k, mR_am_mk_s, mR_am_mk_i, mN_am_mk_k, mN_am_mk_i, mC_am_mk_k, mC_am_mk_s, mN_am_ml_k, mN_am_ml_i, mC_am_ml_k, mC_am_ml_s, mC_sC_k, mC_am_thr_k, sC_3 S, sC_4 S, sR_3_2 S, sC_23 S, k0, k1, k2, k3, k4, k5, k6, k7, k8, k9, k10, k11, k12, k13, k14, k15, k16, k17, k18, k19, k20, k21, k22, k23, k24, k25, k26, k27, k28, k29, k30, k31, k32, k33, k34, k35, k36, k37, k38, k39, k40, k41, k42, k43, k44, k45, k46, k47, k48, k49, k50, k51, k52, k53, k54, k55, k56, k57, k58, k59, k60, k61, k62, k63, k64, k65, k66, k67, k68, k69, k70, k71, k72, k73, k74, k75, k76, k77, k78, k79, k80, k81, k82, k83, k84, k85, k86, k87, k88, k89, k90, k91, k92, k93, k94, k95, k96, k97, k98, k99, k100, c, fqI, ini_iff i31, nI_clamp i31, iq, nI_pos' i31, hq2, hq3, p_c, hq1, hp, p_0 q hq1, p_0 p hp, e, true_and, and_true, and_self, if_true, if_false, ite_true, ite_false, Nat.lt_irrefl, List.length_nil, List.length_cons, Nat.reduceAdd, Nat.reduceLeDiff, Nat.reduceLT, Nat.reduceEqDiff, Nat.zero_lt_one, not_true, not_false_iff, bI_0, bI_1, ne_eq, reduceCtorEq, false_and, and_false, or_true, true_or, or_false, false_or, Nat.lt_one_iff, eq_self, Nat.zero_le, am_ko_v, am_ko_0, am_kil, Nat.reduceBEq, Int32.reduceLT, Int32.reduceLE, Int32.reduceAdd, Int32.reduceSub, i32_10, i32_01, not_true_eq_false, not_false_eq_true, Classical.not_not, nor_self, Nat.lt_add_one, nI_1, nI_pred, rf_n, i32_m0, i32_m1, reduceIte]
    · simp only [S105_0, S105_1, S105_3, S105_4, S105_7, S105_10, S105_13, S105_14, S105_17, S105_18, S105_21n, S105_21, S105_24, S105_27, S105_28, S105_31, S105_34, S105_35, S105_36, S105_39, S105_42, S105_43, gL_sI, gR_sI, gN_sI, gC_sI, gB_sI, gI_sL, gR_sL, gN_sL, gC_sL, gB_sL, gI_sR, gL_sR, gN_sR, gC_sR, gB_sR, gL_sIr, gR_sIr, gN_sIr, gC_sIr, gB_sIr, gI_sLr, gR_sLr, gN_sLr, gC_sLr, gB_sLr, gI_sRr, gL_sRr, gN_sRr, gC_sRr, gB_sRr, gI_sN, gL_sN, gR_sN, gC_sN, gB_sN, gI_sC, gL_sC, gR_sC, gN_sC, gB_sC, gI_sB, gL_sB, gR_sB, gN_sB, gC_sB, gB_sB, gB_am_mk, gI_am_ml, gL_am_ml, gR_am_ml, gB_am_ml, gI_am_add, gL_am_add, gC_am_add, gB_am_add, gI_am_ins, gL_am_ins, gC_am_ins, gB_am_ins, gI_am_rem, gL_am_rem, gC_am_rem, gB_am_rem, gI_am_thr, gL_am_thr, gR_am_thr, gN_am_thr, gB_am_thr, mI_sI_k, mI_sI_j, mI_sI_b, mI_sI_s, mI_sI_i, mI_sI_c, mL_sL_k, mL_sL_j, mL_sL_b, mL_sL_s, mL_sL_i, mL_sL_c, mR_sR_k, mR_sR_j, mR_sR_b, mR_sR_s, mR_sR_i, mR_sR_c, mI_sIr_k, mI_sIr_s, mI_sIr_i, mL_sLr_k, mL_sLr_s, mL_sLr_i, mR_sRr_k, mR_sRr_s, mR_sRr_i, mN_sN_k, mN_sN_i, mN_am_add_k, mN_am_add_s, mR_am_add_k, mN_am_ins_k, mN_am_ins_s, mR_am_ins_k, mN_am_rem_k, mN_am_rem_s, mR_am_rem_k, mR_am_add_s, mR_am_ins_s, mR_am_rem_s, mI_am_mk_k, mI_am_mk_s, mI_am_mk_i, mL_am_mk_k, mL_am_mk_s, mL_am_mk_i, mR_am_mk_k, mR_am_mk_s, mR_am_mk_i, mN_am_mk_k, mN_am_mk_i, mC_am_mk_k, mC_am_mk_s, mN_am_ml_k, mN_am_ml_i, mC_am_ml_k, mC_am_ml_s, mC_sC_k, mC_am_thr_k, sC_3 S, sC_4 S, sR_3_2 S, sC_23 S, k0, k1, k2, k3, k4, k5, k6, k7, k8, k9, k10, k11, k12, k13, k14, k15, k16, k17, k18, k19, k20, k21, k22, k23, k24, k25, k26, k27, k28, k29, k30, k31, k32, k33, k34, k35, k36, k37, k38, k39, k40, k41, k42, k43, k44, k45, k46, k47, k48, k49, k50, k51, k52, k53, k54, k55, k56, k57, k58, k59, k60, k61, k62, k63, k64, k65, k66, k67, k68, k69, k70, k71, k72, k73, k74, k75, k76, k77, k78, k79, k80, k81, k82, k83, k84, k85, k86, k87, k88, k89, k90, k91, k92, k93, k94, k95, k96, k97, k98, k99, k100, c, fqI, ini_iff i31, nI_clamp i31, iq, nI_pos' i31, hq2, hq3, p_c, hq1, hp, p_0 q hq1, p_0 p hp, e, true_and, and_true, and_self, if_true, if_false, ite_true, ite_false, Nat.lt_irrefl, List.length_nil, List.length_cons, Nat.reduceAdd, Nat.reduceLeDiff, Nat.reduceLT, Nat.reduceEqDiff, Nat.zero_lt_one, not_true, not_false_iff, bI_0, bI_1, ne_eq, reduceCtorEq, false_and, and_false, or_true, true_or, or_false, false_or, Nat.lt_one_iff, eq_self, Nat.zero_le, am_ko_v, am_ko_0, am_kil, Nat.reduceBEq, Int32.reduceLT, Int32.reduceLE, Int32.reduceAdd, Int32.reduceSub, i32_10, i32_01, not_true_eq_false, not_false_eq_true, Classical.not_not, nor_self, Nat.lt_add_one, nI_1, nI_pred, rf_n, i32_m0, i32_m1, reduceIte]
      exact ih (i + 1) (by omega)
theorem C105 {p : Nat} (S : Sh σ) (hP : gN σ 21 0 ≤ 60) (bQ : BQ σ) (p_c : gC σ 34 = gN σ 21 0) (p_0 : ∀ j, j < gN σ 21 0 → gI σ 34 j 0 = nI j) (hp : p < gN σ 21 0) (hq : gN σ 23 0 ≤ 60) : WP d 105 0 [some (vr (some (3, 0))), some (vr (some (34, p))), none] [] σ Q ↔ Q (some (some (vi (fqI (gI σ 87 0) (nI p) 0 (gN σ 23 0))))) σ := by
  have h := L105 (d := d) (Q := Q) S hP bQ p_c p_0 hp hq (gN σ 23 0) 0 (by omega)
  rw [nI_0] at h
  simp only [S105_0, S105_1, am_kil]
  exact h
theorem L205 {x : Int32} {N : Nat} (S : Sh σ) (hq : N ≤ 60) (q_n : gI σ 4 0 68 = nI N) : ∀ k i, i + k = N → (WP d 205 2 [some (vr (some (4, 0))), some (vi x), some (vi (nI i))] [] σ Q ↔ Q (some (some (vi (fqI (gI σ 87 0) x i k)))) σ) := by
  intro k
  induction k with
  | zero =>
    intro i hi
    have c : ¬ nI i < nI N := nI_nlt (by omega) (by omega)
    rw [S205_2]
    simp only [S205_0, S205_1, S205_3, S205_4, S205_7, S205_10, S205_11, S205_14, S205_15, S205_16, S205_17, S205_20, S205_21, S205_22, S205_25, S205_28, S205_29, gL_sI, gR_sI, gN_sI, gC_sI, gB_sI, gI_sL, gR_sL, gN_sL, gC_sL, gB_sL, gI_sR, gL_sR, gN_sR, gC_sR, gB_sR, gL_sIr, gR_sIr, gN_sIr, gC_sIr, gB_sIr, gI_sLr, gR_sLr, gN_sLr, gC_sLr, gB_sLr, gI_sRr, gL_sRr, gN_sRr, gC_sRr, gB_sRr, gI_sN, gL_sN, gR_sN, gC_sN, gB_sN, gI_sC, gL_sC, gR_sC, gN_sC, gB_sC, gI_sB, gL_sB, gR_sB, gN_sB, gC_sB, gB_sB, gB_am_mk, gI_am_ml, gL_am_ml, gR_am_ml, gB_am_ml, gI_am_add, gL_am_add, gC_am_add, gB_am_add, gI_am_ins, gL_am_ins, gC_am_ins, gB_am_ins, gI_am_rem, gL_am_rem, gC_am_rem, gB_am_rem, gI_am_thr, gL_am_thr, gR_am_thr, gN_am_thr, gB_am_thr, mI_sI_k, mI_sI_j, mI_sI_b, mI_sI_s, mI_sI_i, mI_sI_c, mL_sL_k, mL_sL_j, mL_sL_b, mL_sL_s, mL_sL_i, mL_sL_c, mR_sR_k, mR_sR_j, mR_sR_b, mR_sR_s, mR_sR_i, mR_sR_c, mI_sIr_k, mI_sIr_s, mI_sIr_i, mL_sLr_k, mL_sLr_s, mL_sLr_i, mR_sRr_k, mR_sRr_s, mR_sRr_i, mN_sN_k, mN_sN_i, mN_am_add_k, mN_am_add_s, mR_am_add_k, mN_am_ins_k, mN_am_ins_s, mR_am_ins_k, mN_am_rem_k, mN_am_rem_s, mR_am_rem_k, mR_am_add_s, mR_am_ins_s, mR_am_rem_s, mI_am_mk_k, mI_am_mk_s, mI_am_mk_i, mL_am_mk_k, mL_am_mk_s, mL_am_mk_i, mR_am_mk_k, mR_am_mk_s, mR_am_mk_i, mN_am_mk_k, mN_am_mk_i, mC_am_mk_k, mC_am_mk_s, mN_am_ml_k, mN_am_ml_i, mC_am_ml_k, mC_am_ml_s, mC_sC_k, mC_am_thr_k, sC_3 S, sC_4 S, sR_4_69 S, sC_87 S, sN_87 S, k0, k1, k2, k3, k4, k5, k6, k7, k8, k9, k10, k11, k12, k13, k14, k15, k16, k17, k18, k19, k20, k21, k22, k23, k24, k25, k26, k27, k28, k29, k30, k31, k32, k33, k34, k35, k36, k37, k38, k39, k40, k41, k42, k43, k44, k45, k46, k47, k48, k49, k50, k51, k52, k53, k54, k55, k56, k57, k58, k59, k60, k61, k62, k63, k64, k65, k66, k67, k68, k69, k70, k71, k72, k73, k74, k75, k76, k77, k78, k79, k80, k81, k82, k83, k84, k85, k86, k87, k88, k89, k90, k91, k92, k93, k94, k95, k96, k97, k98, k99, k100, c, q_n, fqI, true_and, and_true, and_self, if_true, if_false, ite_true, ite_false, Nat.lt_irrefl, List.length_nil, List.length_cons, Nat.reduceAdd, Nat.reduceLeDiff, Nat.reduceLT, Nat.reduceEqDiff, Nat.zero_lt_one, not_true, not_false_iff, bI_0, bI_1, ne_eq, reduceCtorEq, false_and, and_false, or_true, true_or, or_false, false_or, Nat.lt_one_iff, eq_self, Nat.zero_le, am_ko_v, am_ko_0, am_kil, Nat.reduceBEq, Int32.reduceLT, Int32.reduceLE, Int32.reduceAdd, Int32.reduceSub, i32_10, i32_01, not_true_eq_false, not_false_eq_true, Classical.not_not, nor_self, Nat.lt_add_one, nI_1, nI_pred, rf_n, i32_m0, i32_m1, reduceIte]
  | succ k ih =>
    intro i hi
    have c : nI i < nI N := nI_lt (by omega) (by omega)
    have i31 : i < 2147483648 := by omega
    have iq : i < 60 := by omega
    rw [S205_2]
    by_cases e : gI σ 87 0 i = x
    · simp only [S205_0, S205_1, S205_3, S205_4, S205_7, S205_10, S205_11, S205_14, S205_15, S205_16, S205_17, S205_20, S205_21, S205_22, S205_25, S205_28, S205_29, gL_sI, gR_sI, gN_sI, gC_sI, gB_sI, gI_sL, gR_sL, gN_sL, gC_sL, gB_sL, gI_sR, gL_sR, gN_sR, gC_sR, gB_sR, gL_sIr, gR_sIr, gN_sIr, gC_sIr, gB_sIr, gI_sLr, gR_sLr, gN_sLr, gC_sLr, gB_sLr, gI_sRr, gL_sRr, gN_sRr, gC_sRr, gB_sRr, gI_sN, gL_sN, gR_sN, gC_sN, gB_sN, gI_sC, gL_sC, gR_sC, gN_sC, gB_sC, gI_sB, gL_sB, gR_sB, gN_sB, gC_sB, gB_sB, gB_am_mk, gI_am_ml, gL_am_ml, gR_am_ml, gB_am_ml, gI_am_add, gL_am_add, gC_am_add, gB_am_add, gI_am_ins, gL_am_ins, gC_am_ins, gB_am_ins, gI_am_rem, gL_am_rem, gC_am_rem, gB_am_rem, gI_am_thr, gL_am_thr, gR_am_thr, gN_am_thr, gB_am_thr, mI_sI_k, mI_sI_j, mI_sI_b, mI_sI_s, mI_sI_i, mI_sI_c, mL_sL_k, mL_sL_j, mL_sL_b, mL_sL_s, mL_sL_i, mL_sL_c, mR_sR_k, mR_sR_j, mR_sR_b, mR_sR_s, mR_sR_i, mR_sR_c, mI_sIr_k, mI_sIr_s, mI_sIr_i, mL_sLr_k, mL_sLr_s, mL_sLr_i, mR_sRr_k, mR_sRr_s, mR_sRr_i, mN_sN_k, mN_sN_i, mN_am_add_k, mN_am_add_s, mR_am_add_k, mN_am_ins_k, mN_am_ins_s, mR_am_ins_k, mN_am_rem_k, mN_am_rem_s, mR_am_rem_k, mR_am_add_s, mR_am_ins_s, mR_am_rem_s, mI_am_mk_k, mI_am_mk_s, mI_am_mk_i, mL_am_mk_k, mL_am_mk_s, mL_am_mk_i, mR_am_mk_k, mR_am_mk_s, mR_am_mk_i, mN_am_mk_k, mN_am_mk_i, mC_am_mk_k, mC_am_mk_s, mN_am_ml_k, mN_am_ml_i, mC_am_ml_k, mC_am_ml_s, mC_sC_k, mC_am_thr_k, sC_3 S, sC_4 S, sR_4_69 S, sC_87 S, sN_87 S, k0, k1, k2, k3, k4, k5, k6, k7, k8, k9, k10, k11, k12, k13, k14, k15, k16, k17, k18, k19, k20, k21, k22, k23, k24, k25, k26, k27, k28, k29, k30, k31, k32, k33, k34, k35, k36, k37, k38, k39, k40, k41, k42, k43, k44, k45, k46, k47, k48, k49, k50, k51, k52, k53, k54, k55, k56, k57, k58, k59, k60, k61, k62, k63, k64, k65, k66, k67, k68, k69, k70, k71, k72, k73, k74, k75, k76, k77, k78, k79, k80, k81, k82, k83, k84, k85, k86, k87, k88, k89, k90, k91, k92, k93, k94, k95, k96, k97, k98, k99, k100, c, q_n, fqI, ini_iff i31, nI_clamp i31, iq, nI_pos' i31, e, true_and, and_true, and_self, if_true, if_false, ite_true, ite_false, Nat.lt_irrefl, List.length_nil, List.length_cons, Nat.reduceAdd, Nat.reduceLeDiff, Nat.reduceLT, Nat.reduceEqDiff, Nat.zero_lt_one, not_true, not_false_iff, bI_0, bI_1, ne_eq, reduceCtorEq, false_and, and_false, or_true, true_or, or_false, false_or, Nat.lt_one_iff, eq_self, Nat.zero_le, am_ko_v, am_ko_0, am_kil, Nat.reduceBEq, Int32.reduceLT, Int32.reduceLE, Int32.reduceAdd, Int32.reduceSub, i32_10, i32_01, not_true_eq_false, not_false_eq_true, Classical.not_not, nor_self, Nat.lt_add_one, nI_1, nI_pred, rf_n, i32_m0, i32_m1, reduceIte]
    · simp only [S205_0, S205_1, S205_3, S205_4, S205_7, S205_10, S205_11, S205_14, S205_15, S205_16, S205_17, S205_20, S205_21, S205_22, S205_25, S205_28, S205_29, gL_sI, gR_sI, gN_sI, gC_sI, gB_sI, gI_sL, gR_sL, gN_sL, gC_sL, gB_sL, gI_sR, gL_sR, gN_sR, gC_sR, gB_sR, gL_sIr, gR_sIr, gN_sIr, gC_sIr, gB_sIr, gI_sLr, gR_sLr, gN_sLr, gC_sLr, gB_sLr, gI_sRr, gL_sRr, gN_sRr, gC_sRr, gB_sRr, gI_sN, gL_sN, gR_sN, gC_sN, gB_sN, gI_sC, gL_sC, gR_sC, gN_sC, gB_sC, gI_sB, gL_sB, gR_sB, gN_sB, gC_sB, gB_sB, gB_am_mk, gI_am_ml, gL_am_ml, gR_am_ml, gB_am_ml, gI_am_add, gL_am_add, gC_am_add, gB_am_add, gI_am_ins, gL_am_ins, gC_am_ins, gB_am_ins, gI_am_rem, gL_am_rem, gC_am_rem, gB_am_rem, gI_am_thr, gL_am_thr, gR_am_thr, gN_am_thr, gB_am_thr, mI_sI_k, mI_sI_j, mI_sI_b, mI_sI_s, mI_sI_i, mI_sI_c, mL_sL_k, mL_sL_j, mL_sL_b, mL_sL_s, mL_sL_i, mL_sL_c, mR_sR_k, mR_sR_j, mR_sR_b, mR_sR_s, mR_sR_i, mR_sR_c, mI_sIr_k, mI_sIr_s, mI_sIr_i, mL_sLr_k, mL_sLr_s, mL_sLr_i, mR_sRr_k, mR_sRr_s, mR_sRr_i, mN_sN_k, mN_sN_i, mN_am_add_k, mN_am_add_s, mR_am_add_k, mN_am_ins_k, mN_am_ins_s, mR_am_ins_k, mN_am_rem_k, mN_am_rem_s, mR_am_rem_k, mR_am_add_s, mR_am_ins_s, mR_am_rem_s, mI_am_mk_k, mI_am_mk_s, mI_am_mk_i, mL_am_mk_k, mL_am_mk_s, mL_am_mk_i, mR_am_mk_k, mR_am_mk_s, mR_am_mk_i, mN_am_mk_k, mN_am_mk_i, mC_am_mk_k, mC_am_mk_s, mN_am_ml_k, mN_am_ml_i, mC_am_ml_k, mC_am_ml_s, mC_sC_k, mC_am_thr_k, sC_3 S, sC_4 S, sR_4_69 S, sC_87 S, sN_87 S, k0, k1, k2, k3, k4, k5, k6, k7, k8, k9, k10, k11, k12, k13, k14, k15, k16, k17, k18, k19, k20, k21, k22, k23, k24, k25, k26, k27, k28, k29, k30, k31, k32, k33, k34, k35, k36, k37, k38, k39, k40, k41, k42, k43, k44, k45, k46, k47, k48, k49, k50, k51, k52, k53, k54, k55, k56, k57, k58, k59, k60, k61, k62, k63, k64, k65, k66, k67, k68, k69, k70, k71, k72, k73, k74, k75, k76, k77, k78, k79, k80, k81, k82, k83, k84, k85, k86, k87, k88, k89, k90, k91, k92, k93, k94, k95, k96, k97, k98, k99, k100, c, q_n, fqI, ini_iff i31, nI_clamp i31, iq, nI_pos' i31, e, true_and, and_true, and_self, if_true, if_false, ite_true, ite_false, Nat.lt_irrefl, List.length_nil, List.length_cons, Nat.reduceAdd, Nat.reduceLeDiff, Nat.reduceLT, Nat.reduceEqDiff, Nat.zero_lt_one, not_true, not_false_iff, bI_0, bI_1, ne_eq, reduceCtorEq, false_and, and_false, or_true, true_or, or_false, false_or, Nat.lt_one_iff, eq_self, Nat.zero_le, am_ko_v, am_ko_0, am_kil, Nat.reduceBEq, Int32.reduceLT, Int32.reduceLE, Int32.reduceAdd, Int32.reduceSub, i32_10, i32_01, not_true_eq_false, not_false_eq_true, Classical.not_not, nor_self, Nat.lt_add_one, nI_1, nI_pred, rf_n, i32_m0, i32_m1, reduceIte]
      exact ih (i + 1) (by omega)
theorem C205 {x : Int32} {N : Nat} (S : Sh σ) (hq : N ≤ 60) (q_n : gI σ 4 0 68 = nI N) : WP d 205 0 [some (vr (some (4, 0))), some (vi x), none] [] σ Q ↔ Q (some (some (vi (fqI (gI σ 87 0) x 0 N)))) σ := by
  have h := L205 (d := d) (Q := Q) (x := x) S hq q_n N 0 (by omega)
  rw [nI_0] at h
  simp only [S205_0, S205_1, am_kil]
  exact h
/-- a row without its place a, n long -/
def cutF (f : Nat → Int32) (a n : Nat) : Nat → Int32 := fun j => if a ≤ j ∧ j + 1 < n then f (j + 1) else f j
theorem L206 {x y : Int32} {N a : Nat} {f : Nat → Int32} (S : Sh σ) (hq : N < 60) (q_n : gI σ 4 0 68 = nI N) : ∀ k i, i + k = N → a ≤ i → (WP d 206 24 [some (vr (some (4, 0))), some (vi x), some (vi y), some (vi (nI i))] [] (sIr σ 87 0 (fun j => if a ≤ j ∧ j < i then f (j + 1) else f j)) Q ↔ Q (some none) (sIr σ 87 0 (fun j => if a ≤ j ∧ j < N then f (j + 1) else f j))) := by
  intro k
  induction k with
  | zero =>
    intro i hi ha
    have c : ¬ nI i < nI N := nI_nlt (by omega) (by omega)
    obtain rfl : i = N := by omega
    rw [S206_24]
    simp only [S206_0, S206_1, S206_2, S206_5, S206_6, S206_7, S206_8, S206_11, S206_12, S206_13, S206_13q, S206_14, S206_17, S206_18, S206_19, S206_22, S206_23, S206_25, S206_26, S206_29, S206_32, S206_33, S206_36, S206_37, S206_38, S206_41, S206_42, S206_43, S206_44, S206_45, S206_46, S206_49, S206_52, gL_sI, gR_sI, gN_sI, gC_sI, gB_sI, gI_sL, gR_sL, gN_sL, gC_sL, gB_sL, gI_sR, gL_sR, gN_sR, gC_sR, gB_sR, gL_sIr, gR_sIr, gN_sIr, gC_sIr, gB_sIr, gI_sLr, gR_sLr, gN_sLr, gC_sLr, gB_sLr, gI_sRr, gL_sRr, gN_sRr, gC_sRr, gB_sRr, gI_sN, gL_sN, gR_sN, gC_sN, gB_sN, gI_sC, gL_sC, gR_sC, gN_sC, gB_sC, gI_sB, gL_sB, gR_sB, gN_sB, gC_sB, gB_sB, gB_am_mk, gI_am_ml, gL_am_ml, gR_am_ml, gB_am_ml, gI_am_add, gL_am_add, gC_am_add, gB_am_add, gI_am_ins, gL_am_ins, gC_am_ins, gB_am_ins, gI_am_rem, gL_am_rem, gC_am_rem, gB_am_rem, gI_am_thr, gL_am_thr, gR_am_thr, gN_am_thr, gB_am_thr, mI_sI_k, mI_sI_j, mI_sI_b, mI_sI_s, mI_sI_i, mI_sI_c, mL_sL_k, mL_sL_j, mL_sL_b, mL_sL_s, mL_sL_i, mL_sL_c, mR_sR_k, mR_sR_j, mR_sR_b, mR_sR_s, mR_sR_i, mR_sR_c, mI_sIr_k, mI_sIr_s, mI_sIr_i, mL_sLr_k, mL_sLr_s, mL_sLr_i, mR_sRr_k, mR_sRr_s, mR_sRr_i, mN_sN_k, mN_sN_i, mN_am_add_k, mN_am_add_s, mR_am_add_k, mN_am_ins_k, mN_am_ins_s, mR_am_ins_k, mN_am_rem_k, mN_am_rem_s, mR_am_rem_k, mR_am_add_s, mR_am_ins_s, mR_am_rem_s, mI_am_mk_k, mI_am_mk_s, mI_am_mk_i, mL_am_mk_k, mL_am_mk_s, mL_am_mk_i, mR_am_mk_k, mR_am_mk_s, mR_am_mk_i, mN_am_mk_k, mN_am_mk_i, mC_am_mk_k, mC_am_mk_s, mN_am_ml_k, mN_am_ml_i, mC_am_ml_k, mC_am_ml_s, mC_sC_k, mC_am_thr_k, sC_3 S, sC_4 S, sR_4_69 S, sC_87 S, sN_87 S, k0, k1, k2, k3, k4, k5, k6, k7, k8, k9, k10, k11, k12, k13, k14, k15, k16, k17, k18, k19, k20, k21, k22, k23, k24, k25, k26, k27, k28, k29, k30, k31, k32, k33, k34, k35, k36, k37, k38, k39, k40, k41, k42, k43, k44, k45, k46, k47, k48, k49, k50, k51, k52, k53, k54, k55, k56, k57, k58, k59, k60, k61, k62, k63, k64, k65, k66, k67, k68, k69, k70, k71, k72, k73, k74, k75, k76, k77, k78, k79, k80, k81, k82, k83, k84, k85, k86, k87, k88, k89, k90, k91, k92, k93, k94, k95, k96, k97, k98, k99, k100, c, q_n, true_and, and_true, and_self, if_true, if_false, ite_true, ite_false, Nat.lt_irrefl, List.length_nil, List.length_cons, Nat.reduceAdd, Nat.reduceLeDiff, Nat.reduceLT, Nat.reduceEqDiff, Nat.zero_lt_one, not_true, not_false_iff, bI_0, bI_1, ne_eq, reduceCtorEq, false_and, and_false, or_true, true_or, or_false, false_or, Nat.lt_one_iff, eq_self, Nat.zero_le, am_ko_v, am_ko_0, am_kil, Nat.reduceBEq, Int32.reduceLT, Int32.reduceLE, Int32.reduceAdd, Int32.reduceSub, i32_10, i32_01, not_true_eq_false, not_false_eq_true, Classical.not_not, nor_self, Nat.lt_add_one, nI_1, nI_pred, rf_n, i32_m0, i32_m1, reduceIte]
  | succ k ih =>
    intro i hi ha
    have c : nI i < nI N := nI_lt (by omega) (by omega)
    have i31 : i < 2147483648 := by omega
    have j31 : i + 1 < 2147483648 := by omega
    have iq : i < 60 := by omega
    have jq : i + 1 < 60 := by omega
    have e1 : ¬ (a ≤ i + 1 ∧ i + 1 < i) := by omega
    rw [S206_24]
    simp only [S206_0, S206_1, S206_2, S206_5, S206_6, S206_7, S206_8, S206_11, S206_12, S206_13, S206_13q, S206_14, S206_17, S206_18, S206_19, S206_22, S206_23, S206_25, S206_26, S206_29, S206_32, S206_33, S206_36, S206_37, S206_38, S206_41, S206_42, S206_43, S206_44, S206_45, S206_46, S206_49, S206_52, gL_sI, gR_sI, gN_sI, gC_sI, gB_sI, gI_sL, gR_sL, gN_sL, gC_sL, gB_sL, gI_sR, gL_sR, gN_sR, gC_sR, gB_sR, gL_sIr, gR_sIr, gN_sIr, gC_sIr, gB_sIr, gI_sLr, gR_sLr, gN_sLr, gC_sLr, gB_sLr, gI_sRr, gL_sRr, gN_sRr, gC_sRr, gB_sRr, gI_sN, gL_sN, gR_sN, gC_sN, gB_sN, gI_sC, gL_sC, gR_sC, gN_sC, gB_sC, gI_sB, gL_sB, gR_sB, gN_sB, gC_sB, gB_sB, gB_am_mk, gI_am_ml, gL_am_ml, gR_am_ml, gB_am_ml, gI_am_add, gL_am_add, gC_am_add, gB_am_add, gI_am_ins, gL_am_ins, gC_am_ins, gB_am_ins, gI_am_rem, gL_am_rem, gC_am_rem, gB_am_rem, gI_am_thr, gL_am_thr, gR_am_thr, gN_am_thr, gB_am_thr, mI_sI_k, mI_sI_j, mI_sI_b, mI_sI_s, mI_sI_i, mI_sI_c, mL_sL_k, mL_sL_j, mL_sL_b, mL_sL_s, mL_sL_i, mL_sL_c, mR_sR_k, mR_sR_j, mR_sR_b, mR_sR_s, mR_sR_i, mR_sR_c, mI_sIr_k, mI_sIr_s, mI_sIr_i, mL_sLr_k, mL_sLr_s, mL_sLr_i, mR_sRr_k, mR_sRr_s, mR_sRr_i, mN_sN_k, mN_sN_i, mN_am_add_k, mN_am_add_s, mR_am_add_k, mN_am_ins_k, mN_am_ins_s, mR_am_ins_k, mN_am_rem_k, mN_am_rem_s, mR_am_rem_k, mR_am_add_s, mR_am_ins_s, mR_am_rem_s, mI_am_mk_k, mI_am_mk_s, mI_am_mk_i, mL_am_mk_k, mL_am_mk_s, mL_am_mk_i, mR_am_mk_k, mR_am_mk_s, mR_am_mk_i, mN_am_mk_k, mN_am_mk_i, mC_am_mk_k, mC_am_mk_s, mN_am_ml_k, mN_am_ml_i, mC_am_ml_k, mC_am_ml_s, mC_sC_k, mC_am_thr_k, sC_3 S, sC_4 S, sR_4_69 S, sC_87 S, sN_87 S, k0, k1, k2, k3, k4, k5, k6, k7, k8, k9, k10, k11, k12, k13, k14, k15, k16, k17, k18, k19, k20, k21, k22, k23, k24, k25, k26, k27, k28, k29, k30, k31, k32, k33, k34, k35, k36, k37, k38, k39, k40, k41, k42, k43, k44, k45, k46, k47, k48, k49, k50, k51, k52, k53, k54, k55, k56, k57, k58, k59, k60, k61, k62, k63, k64, k65, k66, k67, k68, k69, k70, k71, k72, k73, k74, k75, k76, k77, k78, k79, k80, k81, k82, k83, k84, k85, k86, k87, k88, k89, k90, k91, k92, k93, k94, k95, k96, k97, k98, k99, k100, c, q_n, ini_iff i31, nI_clamp i31, iq, nI_pos' i31, ini_iff j31, nI_clamp j31, jq, nI_pos' j31, e1, sI_sIr, true_and, and_true, and_self, if_true, if_false, ite_true, ite_false, Nat.lt_irrefl, List.length_nil, List.length_cons, Nat.reduceAdd, Nat.reduceLeDiff, Nat.reduceLT, Nat.reduceEqDiff, Nat.zero_lt_one, not_true, not_false_iff, bI_0, bI_1, ne_eq, reduceCtorEq, false_and, and_false, or_true, true_or, or_false, false_or, Nat.lt_one_iff, eq_self, Nat.zero_le, am_ko_v, am_ko_0, am_kil, Nat.reduceBEq, Int32.reduceLT, Int32.reduceLE, Int32.reduceAdd, Int32.reduceSub, i32_10, i32_01, not_true_eq_false, not_false_eq_true, Classical.not_not, nor_self, Nat.lt_add_one, nI_1, nI_pred, rf_n, i32_m0, i32_m1, reduceIte]
    have e2 : (fun c => if c = i then f (i + 1) else if a ≤ c ∧ c < i then f (c + 1) else f c) = (fun j => if a ≤ j ∧ j < i + 1 then f (j + 1) else f j) := by
      funext c
      by_cases h : c = i
      · subst h; rw [if_pos rfl, if_pos ⟨ha, by omega⟩]
      · rw [if_neg h]
        by_cases h2 : a ≤ c ∧ c < i
        · rw [if_pos h2, if_pos ⟨h2.1, by omega⟩]
        · rw [if_neg h2, if_neg (by omega)]
    rw [e2]
    exact ih (i + 1) (by omega) (by omega)
theorem C206n {x : Int32} {N : Nat} (S : Sh σ) (hq : N ≤ 60) (q_n : gI σ 4 0 68 = nI N) (h : fqI (gI σ 87 0) x 0 N = -1) : WP (d + 1) 206 0 [some (vr (some (4, 0))), some (vi x), none, none] [] σ Q ↔ Q (some none) σ := by
  simp only [S206_0, S206_1, S206_2, S206_5, S206_6, S206_7, S206_8, S206_11, S206_12, S206_13, S206_13q, S206_14, S206_17, S206_18, S206_19, S206_22, S206_23, S206_25, S206_26, S206_29, S206_32, S206_33, S206_36, S206_37, S206_38, S206_41, S206_42, S206_43, S206_44, S206_45, S206_46, S206_49, S206_52, gL_sI, gR_sI, gN_sI, gC_sI, gB_sI, gI_sL, gR_sL, gN_sL, gC_sL, gB_sL, gI_sR, gL_sR, gN_sR, gC_sR, gB_sR, gL_sIr, gR_sIr, gN_sIr, gC_sIr, gB_sIr, gI_sLr, gR_sLr, gN_sLr, gC_sLr, gB_sLr, gI_sRr, gL_sRr, gN_sRr, gC_sRr, gB_sRr, gI_sN, gL_sN, gR_sN, gC_sN, gB_sN, gI_sC, gL_sC, gR_sC, gN_sC, gB_sC, gI_sB, gL_sB, gR_sB, gN_sB, gC_sB, gB_sB, gB_am_mk, gI_am_ml, gL_am_ml, gR_am_ml, gB_am_ml, gI_am_add, gL_am_add, gC_am_add, gB_am_add, gI_am_ins, gL_am_ins, gC_am_ins, gB_am_ins, gI_am_rem, gL_am_rem, gC_am_rem, gB_am_rem, gI_am_thr, gL_am_thr, gR_am_thr, gN_am_thr, gB_am_thr, mI_sI_k, mI_sI_j, mI_sI_b, mI_sI_s, mI_sI_i, mI_sI_c, mL_sL_k, mL_sL_j, mL_sL_b, mL_sL_s, mL_sL_i, mL_sL_c, mR_sR_k, mR_sR_j, mR_sR_b, mR_sR_s, mR_sR_i, mR_sR_c, mI_sIr_k, mI_sIr_s, mI_sIr_i, mL_sLr_k, mL_sLr_s, mL_sLr_i, mR_sRr_k, mR_sRr_s, mR_sRr_i, mN_sN_k, mN_sN_i, mN_am_add_k, mN_am_add_s, mR_am_add_k, mN_am_ins_k, mN_am_ins_s, mR_am_ins_k, mN_am_rem_k, mN_am_rem_s, mR_am_rem_k, mR_am_add_s, mR_am_ins_s, mR_am_rem_s, mI_am_mk_k, mI_am_mk_s, mI_am_mk_i, mL_am_mk_k, mL_am_mk_s, mL_am_mk_i, mR_am_mk_k, mR_am_mk_s, mR_am_mk_i, mN_am_mk_k, mN_am_mk_i, mC_am_mk_k, mC_am_mk_s, mN_am_ml_k, mN_am_ml_i, mC_am_ml_k, mC_am_ml_s, mC_sC_k, mC_am_thr_k, sC_3 S, sC_4 S, sR_4_69 S, sC_87 S, sN_87 S, k0, k1, k2, k3, k4, k5, k6, k7, k8, k9, k10, k11, k12, k13, k14, k15, k16, k17, k18, k19, k20, k21, k22, k23, k24, k25, k26, k27, k28, k29, k30, k31, k32, k33, k34, k35, k36, k37, k38, k39, k40, k41, k42, k43, k44, k45, k46, k47, k48, k49, k50, k51, k52, k53, k54, k55, k56, k57, k58, k59, k60, k61, k62, k63, k64, k65, k66, k67, k68, k69, k70, k71, k72, k73, k74, k75, k76, k77, k78, k79, k80, k81, k82, k83, k84, k85, k86, k87, k88, k89, k90, k91, k92, k93, k94, k95, k96, k97, k98, k99, k100, C205 S hq q_n, h, true_and, and_true, and_self, if_true, if_false, ite_true, ite_false, Nat.lt_irrefl, List.length_nil, List.length_cons, Nat.reduceAdd, Nat.reduceLeDiff, Nat.reduceLT, Nat.reduceEqDiff, Nat.zero_lt_one, not_true, not_false_iff, bI_0, bI_1, ne_eq, reduceCtorEq, false_and, and_false, or_true, true_or, or_false, false_or, Nat.lt_one_iff, eq_self, Nat.zero_le, am_ko_v, am_ko_0, am_kil, Nat.reduceBEq, Int32.reduceLT, Int32.reduceLE, Int32.reduceAdd, Int32.reduceSub, i32_10, i32_01, not_true_eq_false, not_false_eq_true, Classical.not_not, nor_self, Nat.lt_add_one, nI_1, nI_pred, rf_n, i32_m0, i32_m1, reduceIte]
theorem C206k {x : Int32} {N a : Nat} (S : Sh σ) (hq : N ≤ 60) (q_n : gI σ 4 0 68 = nI N) (ha : a < N) (h : fqI (gI σ 87 0) x 0 N = nI a) : WP (d + 1) 206 0 [some (vr (some (4, 0))), some (vi x), none, none] [] σ Q ↔ Q (some none) (sIr (sI σ 4 0 68 (nI (N - 1))) 87 0 (cutF (gI σ 87 0) a N)) := by
  have m1 : nI a ≠ -1 := nI_m1 (by omega)
  have e1 : nI N - 1 = nI (N - 1) := by
    obtain ⟨M, rfl⟩ : ∃ M, N = M + 1 := ⟨N - 1, by omega⟩
    rw [nI_pred]; rfl
  have S2 : Sh (sI σ 4 0 68 (nI (N - 1))) := Sh_fr S (by repeat (first | exact Ar.rf | refine Ar.sI ?_ | refine Ar.sR rfl ?_ | refine Ar.sL ?_ | refine Ar.add rfl rfl ?_ | refine Ar.mk rfl rfl rfl ?_ | refine Ar.sIr ?_ | refine Ar.sLr ?_ | refine Ar.sRr rfl ?_ | refine Ar.sN rfl ?_ | refine Ar.ml rfl rfl ?_ | refine Ar.ins rfl rfl ?_ | refine Ar.rem rfl rfl ?_ | refine Ar.thr rfl ?_ | refine Ar.stL rfl ?_ | refine Ar.rsL ?_)) rfl (fun _ _ => rfl)
  have L := L206 (d := d + 1) (σ := sI σ 4 0 68 (nI (N - 1))) (Q := Q) (x := x) (y := nI a) (N := N - 1) (a := a) (f := gI σ 87 0) S2 (by omega) rfl (N - 1 - a) a (by omega) (Nat.le_refl _)
  have e3 : (fun j => if a ≤ j ∧ j < a then gI σ 87 0 (j + 1) else gI σ 87 0 j) = gI (sI σ 4 0 68 (nI (N - 1))) 87 0 := by
    funext j; rw [if_neg (by omega)]; rfl
  have e4 : (fun j => if a ≤ j ∧ j < N - 1 then gI σ 87 0 (j + 1) else gI σ 87 0 j) = cutF (gI σ 87 0) a N := by
    funext j; unfold cutF
    by_cases h1 : a ≤ j ∧ j < N - 1
    · rw [if_pos h1, if_pos ⟨h1.1, by omega⟩]
    · rw [if_neg h1, if_neg (by omega)]
  rw [e3, sIr_id, e4] at L
  simp only [S206_0, S206_1, S206_2, S206_5, S206_6, S206_7, S206_8, S206_11, S206_12, S206_13, S206_13q, S206_14, S206_17, S206_18, S206_19, S206_22, S206_23, S206_25, S206_26, S206_29, S206_32, S206_33, S206_36, S206_37, S206_38, S206_41, S206_42, S206_43, S206_44, S206_45, S206_46, S206_49, S206_52, gL_sI, gR_sI, gN_sI, gC_sI, gB_sI, gI_sL, gR_sL, gN_sL, gC_sL, gB_sL, gI_sR, gL_sR, gN_sR, gC_sR, gB_sR, gL_sIr, gR_sIr, gN_sIr, gC_sIr, gB_sIr, gI_sLr, gR_sLr, gN_sLr, gC_sLr, gB_sLr, gI_sRr, gL_sRr, gN_sRr, gC_sRr, gB_sRr, gI_sN, gL_sN, gR_sN, gC_sN, gB_sN, gI_sC, gL_sC, gR_sC, gN_sC, gB_sC, gI_sB, gL_sB, gR_sB, gN_sB, gC_sB, gB_sB, gB_am_mk, gI_am_ml, gL_am_ml, gR_am_ml, gB_am_ml, gI_am_add, gL_am_add, gC_am_add, gB_am_add, gI_am_ins, gL_am_ins, gC_am_ins, gB_am_ins, gI_am_rem, gL_am_rem, gC_am_rem, gB_am_rem, gI_am_thr, gL_am_thr, gR_am_thr, gN_am_thr, gB_am_thr, mI_sI_k, mI_sI_j, mI_sI_b, mI_sI_s, mI_sI_i, mI_sI_c, mL_sL_k, mL_sL_j, mL_sL_b, mL_sL_s, mL_sL_i, mL_sL_c, mR_sR_k, mR_sR_j, mR_sR_b, mR_sR_s, mR_sR_i, mR_sR_c, mI_sIr_k, mI_sIr_s, mI_sIr_i, mL_sLr_k, mL_sLr_s, mL_sLr_i, mR_sRr_k, mR_sRr_s, mR_sRr_i, mN_sN_k, mN_sN_i, mN_am_add_k, mN_am_add_s, mR_am_add_k, mN_am_ins_k, mN_am_ins_s, mR_am_ins_k, mN_am_rem_k, mN_am_rem_s, mR_am_rem_k, mR_am_add_s, mR_am_ins_s, mR_am_rem_s, mI_am_mk_k, mI_am_mk_s, mI_am_mk_i, mL_am_mk_k, mL_am_mk_s, mL_am_mk_i, mR_am_mk_k, mR_am_mk_s, mR_am_mk_i, mN_am_mk_k, mN_am_mk_i, mC_am_mk_k, mC_am_mk_s, mN_am_ml_k, mN_am_ml_i, mC_am_ml_k, mC_am_ml_s, mC_sC_k, mC_am_thr_k, sC_3 S, sC_4 S, sR_4_69 S, sC_87 S, sN_87 S, k0, k1, k2, k3, k4, k5, k6, k7, k8, k9, k10, k11, k12, k13, k14, k15, k16, k17, k18, k19, k20, k21, k22, k23, k24, k25, k26, k27, k28, k29, k30, k31, k32, k33, k34, k35, k36, k37, k38, k39, k40, k41, k42, k43, k44, k45, k46, k47, k48, k49, k50, k51, k52, k53, k54, k55, k56, k57, k58, k59, k60, k61, k62, k63, k64, k65, k66, k67, k68, k69, k70, k71, k72, k73, k74, k75, k76, k77, k78, k79, k80, k81, k82, k83, k84, k85, k86, k87, k88, k89, k90, k91, k92, k93, k94, k95, k96, k97, k98, k99, k100, C205 S hq q_n, h, m1, q_n, e1, true_and, and_true, and_self, if_true, if_false, ite_true, ite_false, Nat.lt_irrefl, List.length_nil, List.length_cons, Nat.reduceAdd, Nat.reduceLeDiff, Nat.reduceLT, Nat.reduceEqDiff, Nat.zero_lt_one, not_true, not_false_iff, bI_0, bI_1, ne_eq, reduceCtorEq, false_and, and_false, or_true, true_or, or_false, false_or, Nat.lt_one_iff, eq_self, Nat.zero_le, am_ko_v, am_ko_0, am_kil, Nat.reduceBEq, Int32.reduceLT, Int32.reduceLE, Int32.reduceAdd, Int32.reduceSub, i32_10, i32_01, not_true_eq_false, not_false_eq_true, Classical.not_not, nor_self, Nat.lt_add_one, nI_1, nI_pred, rf_n, i32_m0, i32_m1, reduceIte]
  exact L
end QUE
theorem pig : ∀ (m n : Nat) (f : Nat → Nat), (∀ i, i < n → f i < m) → (∀ i k, i < n → k < n → f i = f k → i = k) → n ≤ m := by
  intro m
  induction m with
  | zero => intro n f h _; cases n with
    | zero => omega
    | succ n => exact absurd (h 0 (by omega)) (by omega)
  | succ m ih =>
    intro n f h1 h2
    by_cases c : ∃ i, i < n ∧ f i = m
    · obtain ⟨i0, hi, he⟩ := c
      have := ih (n - 1) (fun i => if i < i0 then f i else f (i + 1)) (fun i hi2 => by
        by_cases q : i < i0
        · simp only [q, if_true]
          have a1 := h1 i (by omega)
          have : f i ≠ m := fun e => by have := h2 i i0 (by omega) hi (e.trans he.symm); omega
          omega
        · simp only [q, if_false]
          have a1 := h1 (i + 1) (by omega)
          have : f (i + 1) ≠ m := fun e => by have := h2 (i + 1) i0 (by omega) hi (e.trans he.symm); omega
          omega) (fun i k hi2 hk2 e => by
        by_cases q : i < i0 <;> by_cases r : k < i0 <;> simp only [q, r, if_true, if_false] at e
        · exact h2 i k (by omega) (by omega) e
        · have := h2 i (k + 1) (by omega) (by omega) e; omega
        · have := h2 (i + 1) k (by omega) (by omega) e; omega
        · have := h2 (i + 1) (k + 1) (by omega) (by omega) e; omega)
      omega
    · have := ih n f (fun i hi => by
        have a1 := h1 i hi
        have : f i ≠ m := fun e => c ⟨i, hi, e⟩
        omega) h2
      omega
theorem q_le {σ : aM} (bQ : BQ σ) (hP : gN σ 21 0 ≤ 60) : gN σ 23 0 ≤ gN σ 21 0 := by
  obtain ⟨q_n, q_e, q_d⟩ := bQ
  refine pig _ _ (fun i => (gI σ 87 0 i).toNatClampNeg) (fun i hi => ?_) (fun i k hi hk e => ?_)
  · obtain ⟨p, h1, h2, -⟩ := q_e i hi
    show (gI σ 87 0 i).toNatClampNeg < _
    rw [h2, nI_clamp (by omega)]; exact h1
  · obtain ⟨p, h1, h2, -⟩ := q_e i hi
    obtain ⟨q, h3, h4, -⟩ := q_e k hk
    have e : (gI σ 87 0 i).toNatClampNeg = (gI σ 87 0 k).toNatClampNeg := e
    rw [h2, h4, nI_clamp (by omega), nI_clamp (by omega)] at e
    exact q_d i k hi hk (by rw [h2, h4, e])
theorem q_lt {σ : aM} {k : Nat} (bQ : BQ σ) (hP : gN σ 21 0 ≤ 60) (hk : k < gN σ 21 0) (h : ∀ j, j < gN σ 23 0 → gI σ 87 0 j ≠ nI k) : gN σ 23 0 < gN σ 21 0 := by
  obtain ⟨q_n, q_e, q_d⟩ := bQ
  have := pig (gN σ 21 0) (gN σ 23 0 + 1) (fun i => if i < gN σ 23 0 then (gI σ 87 0 i).toNatClampNeg else k) (fun i hi => ?_) (fun i j hi hj e => ?_)
  · omega
  · by_cases q : i < gN σ 23 0
    · simp only [q, if_true]
      obtain ⟨p, h1, h2, -⟩ := q_e i q
      rw [h2, nI_clamp (by omega)]; exact h1
    · simp only [q, if_false]; exact hk
  · by_cases q : i < gN σ 23 0 <;> by_cases r : j < gN σ 23 0 <;> simp only [q, r, if_true, if_false] at e
    · obtain ⟨p, h1, h2, -⟩ := q_e i q
      obtain ⟨p2, h3, h4, -⟩ := q_e j r
      rw [h2, h4, nI_clamp (by omega), nI_clamp (by omega)] at e
      exact q_d i j q r (by rw [h2, h4, e])
    · obtain ⟨p, h1, h2, -⟩ := q_e i q
      rw [h2, nI_clamp (by omega)] at e
      exact absurd (e ▸ h2) (h i q)
    · obtain ⟨p, h1, h2, -⟩ := q_e j r
      rw [h2, nI_clamp (by omega)] at e
      exact absurd (e ▸ h2) (h j r)
    · omega
theorem mn_c (x y : Int32) : (if y < x then y else x) = (if x < y then x else y) := by
  by_cases a : y < x
  · rw [if_pos a, if_neg (fun b => absurd (Int32.lt_trans a b) (Int32.lt_irrefl))]
  · rw [if_neg a]
    by_cases b : x < y
    · rw [if_pos b]
    · rw [if_neg b]; exact Int32.le_antisymm (Int32.not_lt.mp a) (Int32.not_lt.mp b)
theorem i_add0 (x : Int32) : x + 0 = x := Int32.add_zero x
