/-! the class's STATEMENTS -/
/-- letters as a number -/
def leF (B : Nat → Int32) : Nat → Nat → Int64 → Int64
  | _, 0, x => x
  | s, k + 1, x => leF B (s + 1) k (x <<< ((8 : Int32).toInt64 &&& 63) ||| (B s).toInt64)
def leC (σ : aM) (T : tkT) (U : ukT) : Prop := ∀ t, 258 ≤ (T t).1 → (T t).2.2 - (T t).2.1 ≤ 8 → (U t).2 = leF (gI σ 13 0) (T t).2.1 ((T t).2.2 - (T t).2.1) 0
def rdE (σ : aM) (T : tkT) (U : ukT) : Prop := Sh σ ∧ tkC σ T ∧ tkOK T (fun t => (U t).1) ∧ vaC σ T (fun t => (U t).1) ∧ leC σ T U
theorem bit_or : ∀ m, m < 128 → ∀ j, j < 7 → (nI m ||| ((1 : Int32) <<< (nI j &&& 31)) = nI (m ||| 2 ^ j) ∧ m ||| 2 ^ j < 128) ∧ ∀ k, k < 7 → ((((nI m ||| ((1 : Int32) <<< (nI j &&& 31))) >>> (nI k &&& 31)) &&& 1 = 1) ↔ ((nI m >>> (nI k &&& 31)) &&& 1 = 1) ∨ k = j) := by decide +kernel
section CSB
variable {σ : aM} {T : tkT} {t n K i j len sl : Nat} {g : Nat → Int32} {k p v : Int32} {w : Int64} {q : Option (Nat × Nat)}
theorem sI_cm {K2 i2 j2 : Nat} {v2 : Int32} (h : K ≠ K2) : sI (sI σ K2 i2 j2 v2) K i j v = sI (sI σ K i j v) K2 i2 j2 v2 := by
  unfold sI am_u3
  refine Prod.ext ?_ rfl
  funext a b c
  dsimp only
  by_cases c1 : a = K
  · subst c1
    simp [h]
  · simp [c1]
theorem sIr_cm {K2 i2 : Nat} {f : Nat → Int32} (h : K ≠ K2) : sI (sIr σ K2 i2 f) K i j v = sIr (sI σ K i j v) K2 i2 f := by
  unfold sI sIr am_u3
  refine Prod.ext ?_ rfl
  funext a b c
  dsimp only
  by_cases c1 : a = K
  · subst c1
    simp [h]
  · simp [c1]
theorem rd_s (h : K ≠ 29) (h2 : K ≠ 14) : sI (rdM σ T t n g k p) K i j v = rdM (sI σ K i j v) T t n g k p := by
  unfold rdM
  rw [sI_cm h, sI_cm h, sI_cm h, sI_cm h, sI_cm h, sI_cm h, sI_cm h, sIr_cm h2]
theorem rd_sL : sL (rdM σ T t n g k p) K i j w = rdM (sL σ K i j w) T t n g k p := rfl
theorem rd_sR : sR (rdM σ T t n g k p) K i j q = rdM (sR σ K i j q) T t n g k p := rfl
theorem rd_add : am_add (rdM σ T t n g k p) K i q = rdM (am_add σ K i q) T t n g k p := rfl
theorem rd_mk (h : K ≠ 29) (h2 : K ≠ 14) : am_mk (rdM σ T t n g k p) K len sl = rdM (am_mk σ K len sl) T t n g k p := by
  unfold am_mk rdM sB sC sN sRr sLr sIr sI am_u3 gC
  refine Prod.ext ?_ rfl
  funext a b c
  dsimp only
  by_cases c1 : a = K
  · subst c1
    simp [h, h2]
  · simp [c1]
end CSB
section CST
variable {d D : Nat} {σ : aM} {T : tkT} {U : ukT} {t n : Nat} {g : Nat → Int32} {k p : Int32} {Q : aR → aM → Prop}
theorem C34 {u : Nat} {i kk : Int32} {le : Int64} (h : u < gC σ 19) : WP d 34 0 [some (vr (some (19, u))), some (vi i), some (vi kk), some (vl le), none] [] σ Q ↔ Q (some none) (sL (sI (sI (sI (sI (sI (sI σ 19 u 3 (-1)) 19 u 4 0) 19 u 5 0) 19 u 6 0) 19 u 0 i) 19 u 1 kk) 19 u 2 le) := by
  simp only [S34_0, S34_1, S34_4, S34_5, S34_6, S34_9, S34_10, S34_11, S34_14, S34_15, S34_16, S34_19, S34_20, S34_21, S34_24, S34_25, S34_26, S34_29, S34_30, S34_31, S34_34, S34_35, S34_36, S34_39, h, gC_sI, gC_sL, true_and, and_true, and_self, if_true, if_false, ite_true, ite_false, Nat.lt_irrefl, List.length_nil, List.length_cons, Nat.reduceAdd, Nat.reduceLeDiff, Nat.reduceLT, Nat.reduceEqDiff, Nat.zero_lt_one, not_true, not_false_iff, bI_0, bI_1, ne_eq, reduceCtorEq, false_and, and_false, or_true, true_or, or_false, false_or, Nat.lt_one_iff, eq_self, Nat.zero_le, am_ko_v, am_ko_0, am_kil, Nat.reduceBEq, Int32.reduceLT, Int32.reduceLE, Int32.reduceAdd, Int32.reduceSub, i32_10, i32_01, not_true_eq_false, not_false_eq_true, Classical.not_not, nor_self, Nat.lt_add_one, nI_1, nI_pred, rf_n, i32_m0, i32_m1, reduceIte]
theorem C38 {tt : Nat} {x : Int32} (h : tt < gC σ 36) : WP d 38 0 [some (vr (some (36, tt))), some (vi x)] [] σ Q ↔ Q (some none) (sI σ 36 tt 5 (gI σ 36 tt 5 ||| (1 <<< (x &&& 31)))) := by
  simp only [S38_0, S38_1, S38_1q, S38_2, S38_5, S38_6, S38_7, S38_8, S38_9, S38_12, h, true_and, and_true, and_self, if_true, if_false, ite_true, ite_false, Nat.lt_irrefl, List.length_nil, List.length_cons, Nat.reduceAdd, Nat.reduceLeDiff, Nat.reduceLT, Nat.reduceEqDiff, Nat.zero_lt_one, not_true, not_false_iff, bI_0, bI_1, ne_eq, reduceCtorEq, false_and, and_false, or_true, true_or, or_false, false_or, Nat.lt_one_iff, eq_self, Nat.zero_le, am_ko_v, am_ko_0, am_kil, Nat.reduceBEq, Int32.reduceLT, Int32.reduceLE, Int32.reduceAdd, Int32.reduceSub, i32_10, i32_01, not_true_eq_false, not_false_eq_true, Classical.not_not, nor_self, Nat.lt_add_one, nI_1, nI_pred, rf_n, i32_m0, i32_m1, reduceIte]
theorem L56 (S : Sh σ) (hb : (T t).2.2 ≤ 300) : ∀ m j (x : Int64), j + m = (T t).2.2 → WP (D + 1) 56 49 [some (vr (some (29, 0))), some (vl (leF (gI σ 13 0) j m x)), none, some (vi (nI (T t).2.2))] [] (rdM σ T t n g k p) Q → WP (D + 1) 56 7 [some (vr (some (29, 0))), some (vl x), none, some (vi (nI j))] [] (rdM σ T t n g k p) Q := by
  intro m
  induction m with
  | zero =>
    intro j x hj h
    have c1 : ¬ nI j < nI (T t).2.2 := nI_nlt (by omega) (by omega)
    have e : j = (T t).2.2 := by omega
    rw [S56_7]
    simp only [S56_8, S56_9, S56_12, S56_15, S56_16, S56_17, S56_18, S56_21, S56_22, S56_23, S56_24, S56_27, S56_30, S56_31, S56_33, S56_34, S56_35, S56_38, S56_39, S56_40, S56_41, S56_42, S56_43, S56_46, gL_sI, gR_sI, gN_sI, gC_sI, gB_sI, gI_sL, gR_sL, gN_sL, gC_sL, gB_sL, gI_sR, gL_sR, gN_sR, gC_sR, gB_sR, gL_sIr, gR_sIr, gN_sIr, gC_sIr, gB_sIr, gI_sLr, gR_sLr, gN_sLr, gC_sLr, gB_sLr, gI_sRr, gL_sRr, gN_sRr, gC_sRr, gB_sRr, gI_sN, gL_sN, gR_sN, gC_sN, gB_sN, gI_sC, gL_sC, gR_sC, gN_sC, gB_sC, gI_sB, gL_sB, gR_sB, gN_sB, gC_sB, gB_sB, gB_am_mk, gI_am_ml, gL_am_ml, gR_am_ml, gB_am_ml, gI_am_add, gL_am_add, gC_am_add, gB_am_add, gI_am_ins, gL_am_ins, gC_am_ins, gB_am_ins, gI_am_rem, gL_am_rem, gC_am_rem, gB_am_rem, gI_am_thr, gL_am_thr, gR_am_thr, gN_am_thr, gB_am_thr, mI_sI_k, mI_sI_j, mI_sI_b, mI_sI_s, mI_sI_i, mI_sI_c, mL_sL_k, mL_sL_j, mL_sL_b, mL_sL_s, mL_sL_i, mL_sL_c, mR_sR_k, mR_sR_j, mR_sR_b, mR_sR_s, mR_sR_i, mR_sR_c, mI_sIr_k, mI_sIr_s, mI_sIr_i, mL_sLr_k, mL_sLr_s, mL_sLr_i, mR_sRr_k, mR_sRr_s, mR_sRr_i, mN_sN_k, mN_sN_i, mN_am_add_k, mN_am_add_s, mR_am_add_k, mN_am_ins_k, mN_am_ins_s, mR_am_ins_k, mN_am_rem_k, mN_am_rem_s, mR_am_rem_k, mR_am_add_s, mR_am_ins_s, mR_am_rem_s, mI_am_mk_k, mI_am_mk_s, mI_am_mk_i, mL_am_mk_k, mL_am_mk_s, mL_am_mk_i, mR_am_mk_k, mR_am_mk_s, mR_am_mk_i, mN_am_mk_k, mN_am_mk_i, mC_am_mk_k, mC_am_mk_s, mN_am_ml_k, mN_am_ml_i, mC_am_ml_k, mC_am_ml_s, mC_sC_k, mC_am_thr_k, sC_3 S, sC_4 S, sC_29 S, sR_29_0 S, sC_13 S, sN_13 S, k0, k1, k2, k3, k4, k5, k6, k7, k8, k9, k10, k11, k12, k13, k14, k15, k16, k17, k18, k19, k20, k21, k22, k23, k24, k25, k26, k27, k28, k29, k30, k31, k32, k33, k34, k35, k36, k37, k38, k39, k40, k41, k42, k43, k44, k45, k46, k47, k48, k49, k50, k51, k52, k53, k54, k55, k56, k57, k58, k59, k60, k61, k62, k63, k64, k65, k66, k67, k68, k69, k70, k71, k72, k73, k74, k75, k76, k77, k78, k79, k80, k81, k82, k83, k84, k85, k86, k87, k88, k89, k90, k91, k92, k93, k94, k95, k96, k97, k98, k99, k100, rd_13, rd_R, rd_C, c1, true_and, and_true, and_self, if_true, if_false, ite_true, ite_false, Nat.lt_irrefl, List.length_nil, List.length_cons, Nat.reduceAdd, Nat.reduceLeDiff, Nat.reduceLT, Nat.reduceEqDiff, Nat.zero_lt_one, not_true, not_false_iff, bI_0, bI_1, ne_eq, reduceCtorEq, false_and, and_false, or_true, true_or, or_false, false_or, Nat.lt_one_iff, eq_self, Nat.zero_le, am_ko_v, am_ko_0, am_kil, Nat.reduceBEq, Int32.reduceLT, Int32.reduceLE, Int32.reduceAdd, Int32.reduceSub, i32_10, i32_01, not_true_eq_false, not_false_eq_true, Classical.not_not, nor_self, Nat.lt_add_one, nI_1, nI_pred, rf_n, i32_m0, i32_m1, reduceIte]
    rw [show nI j = nI (T t).2.2 from congrArg nI e]
    exact h
  | succ m ih =>
    intro j x hj h
    have c1 : nI j < nI (T t).2.2 := nI_lt (by omega) (by omega)
    have j3 : j < 300 := by omega
    have j31 : j < 2147483648 := by omega
    have e29 : nI 300 - 1 = nI 299 := by decide
    have b0 : (0 ≤ nI j ∧ nI j ≤ nI 299) := ⟨nI_pos' j31, nI_le (by omega) (by omega)⟩
    rw [S56_7]
    simp only [S56_8, S56_9, S56_12, S56_15, S56_16, S56_17, S56_18, S56_21, S56_22, S56_23, S56_24, S56_27, S56_30, S56_31, S56_33, S56_34, S56_35, S56_38, S56_39, S56_40, S56_41, S56_42, S56_43, S56_46, gL_sI, gR_sI, gN_sI, gC_sI, gB_sI, gI_sL, gR_sL, gN_sL, gC_sL, gB_sL, gI_sR, gL_sR, gN_sR, gC_sR, gB_sR, gL_sIr, gR_sIr, gN_sIr, gC_sIr, gB_sIr, gI_sLr, gR_sLr, gN_sLr, gC_sLr, gB_sLr, gI_sRr, gL_sRr, gN_sRr, gC_sRr, gB_sRr, gI_sN, gL_sN, gR_sN, gC_sN, gB_sN, gI_sC, gL_sC, gR_sC, gN_sC, gB_sC, gI_sB, gL_sB, gR_sB, gN_sB, gC_sB, gB_sB, gB_am_mk, gI_am_ml, gL_am_ml, gR_am_ml, gB_am_ml, gI_am_add, gL_am_add, gC_am_add, gB_am_add, gI_am_ins, gL_am_ins, gC_am_ins, gB_am_ins, gI_am_rem, gL_am_rem, gC_am_rem, gB_am_rem, gI_am_thr, gL_am_thr, gR_am_thr, gN_am_thr, gB_am_thr, mI_sI_k, mI_sI_j, mI_sI_b, mI_sI_s, mI_sI_i, mI_sI_c, mL_sL_k, mL_sL_j, mL_sL_b, mL_sL_s, mL_sL_i, mL_sL_c, mR_sR_k, mR_sR_j, mR_sR_b, mR_sR_s, mR_sR_i, mR_sR_c, mI_sIr_k, mI_sIr_s, mI_sIr_i, mL_sLr_k, mL_sLr_s, mL_sLr_i, mR_sRr_k, mR_sRr_s, mR_sRr_i, mN_sN_k, mN_sN_i, mN_am_add_k, mN_am_add_s, mR_am_add_k, mN_am_ins_k, mN_am_ins_s, mR_am_ins_k, mN_am_rem_k, mN_am_rem_s, mR_am_rem_k, mR_am_add_s, mR_am_ins_s, mR_am_rem_s, mI_am_mk_k, mI_am_mk_s, mI_am_mk_i, mL_am_mk_k, mL_am_mk_s, mL_am_mk_i, mR_am_mk_k, mR_am_mk_s, mR_am_mk_i, mN_am_mk_k, mN_am_mk_i, mC_am_mk_k, mC_am_mk_s, mN_am_ml_k, mN_am_ml_i, mC_am_ml_k, mC_am_ml_s, mC_sC_k, mC_am_thr_k, sC_3 S, sC_4 S, sC_29 S, sR_29_0 S, sC_13 S, sN_13 S, k0, k1, k2, k3, k4, k5, k6, k7, k8, k9, k10, k11, k12, k13, k14, k15, k16, k17, k18, k19, k20, k21, k22, k23, k24, k25, k26, k27, k28, k29, k30, k31, k32, k33, k34, k35, k36, k37, k38, k39, k40, k41, k42, k43, k44, k45, k46, k47, k48, k49, k50, k51, k52, k53, k54, k55, k56, k57, k58, k59, k60, k61, k62, k63, k64, k65, k66, k67, k68, k69, k70, k71, k72, k73, k74, k75, k76, k77, k78, k79, k80, k81, k82, k83, k84, k85, k86, k87, k88, k89, k90, k91, k92, k93, k94, k95, k96, k97, k98, k99, k100, rd_13, rd_R, rd_C, rd_N, rd_k, c1, C136, e29, b0, ini_iff j31, nI_clamp j31, j3, true_and, and_true, and_self, if_true, if_false, ite_true, ite_false, Nat.lt_irrefl, List.length_nil, List.length_cons, Nat.reduceAdd, Nat.reduceLeDiff, Nat.reduceLT, Nat.reduceEqDiff, Nat.zero_lt_one, not_true, not_false_iff, bI_0, bI_1, ne_eq, reduceCtorEq, false_and, and_false, or_true, true_or, or_false, false_or, Nat.lt_one_iff, eq_self, Nat.zero_le, am_ko_v, am_ko_0, am_kil, Nat.reduceBEq, Int32.reduceLT, Int32.reduceLE, Int32.reduceAdd, Int32.reduceSub, i32_10, i32_01, not_true_eq_false, not_false_eq_true, Classical.not_not, nor_self, Nat.lt_add_one, nI_1, nI_pred, rf_n, i32_m0, i32_m1, reduceIte]
    exact ih (j + 1) _ (by omega) h
theorem C56 (S : Sh σ) (E : tkC σ T) (L : leC σ T U) (ht : t ≤ 300) (h1 : 258 ≤ (T t).1) (h2 : (T t).2.2 - (T t).2.1 ≤ 8) : WP (D + 1) 56 0 [some (vr (some (29, 0))), none, none, none] [] (rdM σ T t n g k p) Q ↔ Q (some (some (vl (U t).2))) (rdM σ T (t + 1) n g k p) := by
  refine WP_iff (fun Q q => ?_)
  obtain ⟨N, M, hN, hM, e1, e2, e3, e4, e5⟩ := id E
  obtain ⟨b1, b2⟩ := e5 t
  simp only [S56_0, S56_1, S56_2, S56_3, S56_6, gL_sI, gR_sI, gN_sI, gC_sI, gB_sI, gI_sL, gR_sL, gN_sL, gC_sL, gB_sL, gI_sR, gL_sR, gN_sR, gC_sR, gB_sR, gL_sIr, gR_sIr, gN_sIr, gC_sIr, gB_sIr, gI_sLr, gR_sLr, gN_sLr, gC_sLr, gB_sLr, gI_sRr, gL_sRr, gN_sRr, gC_sRr, gB_sRr, gI_sN, gL_sN, gR_sN, gC_sN, gB_sN, gI_sC, gL_sC, gR_sC, gN_sC, gB_sC, gI_sB, gL_sB, gR_sB, gN_sB, gC_sB, gB_sB, gB_am_mk, gI_am_ml, gL_am_ml, gR_am_ml, gB_am_ml, gI_am_add, gL_am_add, gC_am_add, gB_am_add, gI_am_ins, gL_am_ins, gC_am_ins, gB_am_ins, gI_am_rem, gL_am_rem, gC_am_rem, gB_am_rem, gI_am_thr, gL_am_thr, gR_am_thr, gN_am_thr, gB_am_thr, mI_sI_k, mI_sI_j, mI_sI_b, mI_sI_s, mI_sI_i, mI_sI_c, mL_sL_k, mL_sL_j, mL_sL_b, mL_sL_s, mL_sL_i, mL_sL_c, mR_sR_k, mR_sR_j, mR_sR_b, mR_sR_s, mR_sR_i, mR_sR_c, mI_sIr_k, mI_sIr_s, mI_sIr_i, mL_sLr_k, mL_sLr_s, mL_sLr_i, mR_sRr_k, mR_sRr_s, mR_sRr_i, mN_sN_k, mN_sN_i, mN_am_add_k, mN_am_add_s, mR_am_add_k, mN_am_ins_k, mN_am_ins_s, mR_am_ins_k, mN_am_rem_k, mN_am_rem_s, mR_am_rem_k, mR_am_add_s, mR_am_ins_s, mR_am_rem_s, mI_am_mk_k, mI_am_mk_s, mI_am_mk_i, mL_am_mk_k, mL_am_mk_s, mL_am_mk_i, mR_am_mk_k, mR_am_mk_s, mR_am_mk_i, mN_am_mk_k, mN_am_mk_i, mC_am_mk_k, mC_am_mk_s, mN_am_ml_k, mN_am_ml_i, mC_am_ml_k, mC_am_ml_s, mC_sC_k, mC_am_thr_k, sC_3 S, sC_4 S, sC_29 S, sR_29_0 S, sC_13 S, sN_13 S, k0, k1, k2, k3, k4, k5, k6, k7, k8, k9, k10, k11, k12, k13, k14, k15, k16, k17, k18, k19, k20, k21, k22, k23, k24, k25, k26, k27, k28, k29, k30, k31, k32, k33, k34, k35, k36, k37, k38, k39, k40, k41, k42, k43, k44, k45, k46, k47, k48, k49, k50, k51, k52, k53, k54, k55, k56, k57, k58, k59, k60, k61, k62, k63, k64, k65, k66, k67, k68, k69, k70, k71, k72, k73, k74, k75, k76, k77, k78, k79, k80, k81, k82, k83, k84, k85, k86, k87, k88, k89, k90, k91, k92, k93, k94, k95, k96, k97, k98, k99, k100, rd_12, rd_R, rd_C, true_and, and_true, and_self, if_true, if_false, ite_true, ite_false, Nat.lt_irrefl, List.length_nil, List.length_cons, Nat.reduceAdd, Nat.reduceLeDiff, Nat.reduceLT, Nat.reduceEqDiff, Nat.zero_lt_one, not_true, not_false_iff, bI_0, bI_1, ne_eq, reduceCtorEq, false_and, and_false, or_true, true_or, or_false, false_or, Nat.lt_one_iff, eq_self, Nat.zero_le, am_ko_v, am_ko_0, am_kil, Nat.reduceBEq, Int32.reduceLT, Int32.reduceLE, Int32.reduceAdd, Int32.reduceSub, i32_10, i32_01, not_true_eq_false, not_false_eq_true, Classical.not_not, nor_self, Nat.lt_add_one, nI_1, nI_pred, rf_n, i32_m0, i32_m1, reduceIte]
  refine L56 S (by omega) ((T t).2.2 - (T t).2.1) (T t).2.1 0 (by omega) ?_
  rw [← L t h1 h2]
  simp only [S56_49, S56_50, S56_53, S56_54, gL_sI, gR_sI, gN_sI, gC_sI, gB_sI, gI_sL, gR_sL, gN_sL, gC_sL, gB_sL, gI_sR, gL_sR, gN_sR, gC_sR, gB_sR, gL_sIr, gR_sIr, gN_sIr, gC_sIr, gB_sIr, gI_sLr, gR_sLr, gN_sLr, gC_sLr, gB_sLr, gI_sRr, gL_sRr, gN_sRr, gC_sRr, gB_sRr, gI_sN, gL_sN, gR_sN, gC_sN, gB_sN, gI_sC, gL_sC, gR_sC, gN_sC, gB_sC, gI_sB, gL_sB, gR_sB, gN_sB, gC_sB, gB_sB, gB_am_mk, gI_am_ml, gL_am_ml, gR_am_ml, gB_am_ml, gI_am_add, gL_am_add, gC_am_add, gB_am_add, gI_am_ins, gL_am_ins, gC_am_ins, gB_am_ins, gI_am_rem, gL_am_rem, gC_am_rem, gB_am_rem, gI_am_thr, gL_am_thr, gR_am_thr, gN_am_thr, gB_am_thr, mI_sI_k, mI_sI_j, mI_sI_b, mI_sI_s, mI_sI_i, mI_sI_c, mL_sL_k, mL_sL_j, mL_sL_b, mL_sL_s, mL_sL_i, mL_sL_c, mR_sR_k, mR_sR_j, mR_sR_b, mR_sR_s, mR_sR_i, mR_sR_c, mI_sIr_k, mI_sIr_s, mI_sIr_i, mL_sLr_k, mL_sLr_s, mL_sLr_i, mR_sRr_k, mR_sRr_s, mR_sRr_i, mN_sN_k, mN_sN_i, mN_am_add_k, mN_am_add_s, mR_am_add_k, mN_am_ins_k, mN_am_ins_s, mR_am_ins_k, mN_am_rem_k, mN_am_rem_s, mR_am_rem_k, mR_am_add_s, mR_am_ins_s, mR_am_rem_s, mI_am_mk_k, mI_am_mk_s, mI_am_mk_i, mL_am_mk_k, mL_am_mk_s, mL_am_mk_i, mR_am_mk_k, mR_am_mk_s, mR_am_mk_i, mN_am_mk_k, mN_am_mk_i, mC_am_mk_k, mC_am_mk_s, mN_am_ml_k, mN_am_ml_i, mC_am_ml_k, mC_am_ml_s, mC_sC_k, mC_am_thr_k, sC_3 S, sC_4 S, sC_29 S, sR_29_0 S, sC_13 S, sN_13 S, k0, k1, k2, k3, k4, k5, k6, k7, k8, k9, k10, k11, k12, k13, k14, k15, k16, k17, k18, k19, k20, k21, k22, k23, k24, k25, k26, k27, k28, k29, k30, k31, k32, k33, k34, k35, k36, k37, k38, k39, k40, k41, k42, k43, k44, k45, k46, k47, k48, k49, k50, k51, k52, k53, k54, k55, k56, k57, k58, k59, k60, k61, k62, k63, k64, k65, k66, k67, k68, k69, k70, k71, k72, k73, k74, k75, k76, k77, k78, k79, k80, k81, k82, k83, k84, k85, k86, k87, k88, k89, k90, k91, k92, k93, k94, k95, k96, k97, k98, k99, k100, rd_R, rd_C, C50d S E ht, true_and, and_true, and_self, if_true, if_false, ite_true, ite_false, Nat.lt_irrefl, List.length_nil, List.length_cons, Nat.reduceAdd, Nat.reduceLeDiff, Nat.reduceLT, Nat.reduceEqDiff, Nat.zero_lt_one, not_true, not_false_iff, bI_0, bI_1, ne_eq, reduceCtorEq, false_and, and_false, or_true, true_or, or_false, false_or, Nat.lt_one_iff, eq_self, Nat.zero_le, am_ko_v, am_ko_0, am_kil, Nat.reduceBEq, Int32.reduceLT, Int32.reduceLE, Int32.reduceAdd, Int32.reduceSub, i32_10, i32_01, not_true_eq_false, not_false_eq_true, Classical.not_not, nor_self, Nat.lt_add_one, nI_1, nI_pred, rf_n, i32_m0, i32_m1, reduceIte]
  exact q
end CST
/-- what the reader leaves of a memory, a fault or none: TEXT tt is read -/
def frC (σ σ1 : aM) (tt : Nat) : Prop := (∀ K, K ≠ 12 → K ≠ 19 → K ≠ 36 → (∀ i j, gI σ1 K i j = gI σ K i j) ∧ (∀ i j, gL σ1 K i j = gL σ K i j) ∧ (∀ i j, gR σ1 K i j = gR σ K i j) ∧ (∀ i, gN σ1 K i = gN σ K i) ∧ gC σ1 K = gC σ K) ∧ gC σ1 12 = gC σ 12 ∧ gC σ1 36 = gC σ 36 ∧ (∀ i j, i ≠ tt → gR σ1 12 i j = gR σ 12 i j) ∧ (∀ i, i ≠ tt → gN σ1 12 i = gN σ 12 i) ∧ (∀ u j, u < gC σ 19 → gI σ1 19 u j = gI σ 19 u j) ∧ gC σ 19 ≤ gC σ1 19 ∧ (∀ i j, (i ≠ tt ∨ j ≠ 5) → gI σ1 36 i j = gI σ 36 i j) ∧ (∀ i j, gR σ1 36 i j = gR σ 36 i j)
section FRC
variable {σ σ1 : aM} {tt : Nat}
theorem frC_rf : frC σ σ tt := ⟨fun _ _ _ _ => ⟨fun _ _ => rfl, fun _ _ => rfl, fun _ _ => rfl, fun _ => rfl, rfl⟩, rfl, rfl, fun _ _ _ => rfl, fun _ _ => rfl, fun _ _ _ => rfl, Nat.le_refl _, fun _ _ _ => rfl, fun _ _ => rfl⟩
theorem frC_19 {u j : Nat} {v : Int32} (h : frC σ σ1 tt) (hu : gC σ 19 ≤ u) : frC σ (sI σ1 19 u j v) tt := by
  obtain ⟨f1, f2, f3, f4, f5, f6, f7, f8, f9⟩ := h
  refine ⟨fun K h1 h2 h3 => ?_, f2, f3, f4, f5, fun w j hw => ?_, f7, fun i j hh => ?_, f9⟩
  · obtain ⟨a1, a2, a3, a4, a5⟩ := f1 K h1 h2 h3
    exact ⟨fun i j => (mI_sI_k h2).trans (a1 i j), a2, a3, a4, a5⟩
  · rw [← f6 w j hw]
    exact if_neg (fun q => by have := q.2.1; omega)
  · exact (mI_sI_k (by decide)).trans (f8 i j hh)
theorem frC_36 {v : Int32} (h : frC σ σ1 tt) : frC σ (sI σ1 36 tt 5 v) tt := by
  obtain ⟨f1, f2, f3, f4, f5, f6, f7, f8, f9⟩ := h
  refine ⟨fun K h1 h2 h3 => ?_, f2, f3, f4, f5, fun w j hw => ?_, f7, fun i j hh => ?_, f9⟩
  · obtain ⟨a1, a2, a3, a4, a5⟩ := f1 K h1 h2 h3
    exact ⟨fun i j => (mI_sI_k h3).trans (a1 i j), a2, a3, a4, a5⟩
  · exact (mI_sI_k (by decide)).trans (f6 w j hw)
  · rw [← f8 i j hh]
    exact if_neg (fun q => by rcases hh with a | a; exact a q.2.1; exact a q.2.2)
/-- a new STATEMENT, laid into its TEXT's list -/
def nwS (σ : aM) (tt : Nat) (i kk : Int32) (le : Int64) : aM := am_add (sL (sI (sI (sI (sI (sI (sI (am_mk σ 19 0 7) 19 (gC σ 19) 3 (-1)) 19 (gC σ 19) 4 0) 19 (gC σ 19) 5 0) 19 (gC σ 19) 6 0) 19 (gC σ 19) 0 i) 19 (gC σ 19) 1 kk) 19 (gC σ 19) 2 le) 12 tt (some (19, gC σ 19))
theorem nw_I {i kk : Int32} {le : Int64} {K a b : Nat} (h : K ≠ 19) : gI (nwS σ1 tt i kk le) K a b = gI σ1 K a b := by
  unfold nwS
  rw [gI_am_add, gI_sL, mI_sI_k h, mI_sI_k h, mI_sI_k h, mI_sI_k h, mI_sI_k h, mI_sI_k h, mI_am_mk_k h]
theorem nw_u {i kk : Int32} {le : Int64} {a b : Nat} (h : a ≠ gC σ1 19) : gI (nwS σ1 tt i kk le) 19 a b = gI σ1 19 a b := by
  unfold nwS
  rw [gI_am_add, gI_sL, mI_sI_b h, mI_sI_b h, mI_sI_b h, mI_sI_b h, mI_sI_b h, mI_sI_b h, mI_am_mk_i, if_neg h]
theorem nw_L {i kk : Int32} {le : Int64} {K a b : Nat} (h : K ≠ 19 ∨ a ≠ gC σ1 19) : gL (nwS σ1 tt i kk le) K a b = gL σ1 K a b := by
  unfold nwS
  rw [gL_am_add]
  have e : ∀ σ : aM, gL (sL σ 19 (gC σ1 19) 2 le) K a b = gL σ K a b := fun σ => if_neg (fun q => h.elim (fun e => e q.1) (fun e => e q.2.1))
  rw [e, gL_sI, gL_sI, gL_sI, gL_sI, gL_sI, gL_sI]
  exact if_neg (fun q => h.elim (fun e => e q.1) (fun e => e q.2))
theorem nw_0 {i kk : Int32} {le : Int64} : gI (nwS σ1 tt i kk le) 19 (gC σ1 19) 0 = i := by
  unfold nwS
  rw [gI_am_add, gI_sL, mI_sI_j (by decide), mI_sI_s]
theorem nw_1 {i kk : Int32} {le : Int64} : gI (nwS σ1 tt i kk le) 19 (gC σ1 19) 1 = kk := by
  unfold nwS
  rw [gI_am_add, gI_sL, mI_sI_s]
theorem nw_2 {i kk : Int32} {le : Int64} : gL (nwS σ1 tt i kk le) 19 (gC σ1 19) 2 = le := by
  unfold nwS
  rw [gL_am_add, mL_sL_s]
theorem nw_3 {i kk : Int32} {le : Int64} : gI (nwS σ1 tt i kk le) 19 (gC σ1 19) 3 = -1 := by
  unfold nwS
  rw [gI_am_add, gI_sL, mI_sI_j (by decide), mI_sI_j (by decide), mI_sI_j (by decide), mI_sI_j (by decide), mI_sI_j (by decide), mI_sI_s]
theorem nw_456 {i kk : Int32} {le : Int64} : gI (nwS σ1 tt i kk le) 19 (gC σ1 19) 4 = 0 ∧ gI (nwS σ1 tt i kk le) 19 (gC σ1 19) 5 = 0 ∧ gI (nwS σ1 tt i kk le) 19 (gC σ1 19) 6 = 0 := by
  unfold nwS
  refine ⟨?_, ?_, ?_⟩
  · rw [gI_am_add, gI_sL, mI_sI_j (by decide), mI_sI_j (by decide), mI_sI_j (by decide), mI_sI_j (by decide), mI_sI_s]
  · rw [gI_am_add, gI_sL, mI_sI_j (by decide), mI_sI_j (by decide), mI_sI_j (by decide), mI_sI_s]
  · rw [gI_am_add, gI_sL, mI_sI_j (by decide), mI_sI_j (by decide), mI_sI_s]
theorem nw_R {i kk : Int32} {le : Int64} {K a b : Nat} (h : K ≠ 12) (h2 : K ≠ 19) : gR (nwS σ1 tt i kk le) K a b = gR σ1 K a b := by
  unfold nwS
  rw [mR_am_add_k h, gR_sL, gR_sI, gR_sI, gR_sI, gR_sI, gR_sI, gR_sI]
  exact if_neg (fun q => h2 q.1)
theorem nw_R12 {i kk : Int32} {le : Int64} {a b : Nat} (h : a ≠ tt) : gR (nwS σ1 tt i kk le) 12 a b = gR σ1 12 a b := by
  unfold nwS
  have e : ∀ σ : aM, gR (am_add σ 12 tt (some (19, gC σ1 19))) 12 a b = gR σ 12 a b := fun σ => if_neg (fun q => h q.2.1)
  rw [e]; rfl
theorem nw_Rt {i kk : Int32} {le : Int64} {b : Nat} : gR (nwS σ1 tt i kk le) 12 tt b = if b = gN σ1 12 tt then some (19, gC σ1 19) else gR σ1 12 tt b := by
  unfold nwS
  rw [mR_am_add_s]; rfl
theorem nw_N {i kk : Int32} {le : Int64} {K a : Nat} (h : K ≠ 12) (h2 : K ≠ 19) : gN (nwS σ1 tt i kk le) K a = gN σ1 K a := by
  unfold nwS
  rw [mN_am_add_k h]
  exact if_neg (fun q => h2 q.1)
theorem nw_N12 {i kk : Int32} {le : Int64} {a : Nat} (h : a ≠ tt) : gN (nwS σ1 tt i kk le) 12 a = gN σ1 12 a := by
  unfold nwS
  have e : ∀ σ : aM, gN (am_add σ 12 tt (some (19, gC σ1 19))) 12 a = gN σ 12 a := fun σ => if_neg (fun q => h q.2)
  rw [e]; rfl
theorem nw_Nt {i kk : Int32} {le : Int64} : gN (nwS σ1 tt i kk le) 12 tt = gN σ1 12 tt + 1 := by
  unfold nwS
  rw [mN_am_add_s]; rfl
theorem nw_C {i kk : Int32} {le : Int64} {K : Nat} (h : K ≠ 19) : gC (nwS σ1 tt i kk le) K = gC σ1 K := by
  unfold nwS
  rw [gC_am_add, gC_sL, gC_sI, gC_sI, gC_sI, gC_sI, gC_sI, gC_sI, mC_am_mk_k h]
theorem nw_C19 {i kk : Int32} {le : Int64} : gC (nwS σ1 tt i kk le) 19 = gC σ1 19 + 1 := rfl
theorem nw_B {i kk : Int32} {le : Int64} : gB (nwS σ1 tt i kk le) = ((gB σ1).1 + 2, (gB σ1).2 + 7 + (gN σ1 12 tt + gN σ1 12 tt / 2 + 10)) := rfl
theorem frC_nw {i kk : Int32} {le : Int64} (h : frC σ σ1 tt) : frC σ (nwS σ1 tt i kk le) tt := by
  obtain ⟨f1, f2, f3, f4, f5, f6, f7, f8, f9⟩ := h
  refine ⟨fun K h1 h2 h3 => ?_, f2, f3, fun a b ha => ?_, fun a ha => ?_, fun w j hw => ?_, ?_, fun a j hh => ?_, fun a j => ?_⟩
  · obtain ⟨a1, a2, a3, a4, a5⟩ := f1 K h1 h2 h3
    exact ⟨fun i j => (nw_I h2).trans (a1 i j), fun i j => (nw_L (Or.inl h2)).trans (a2 i j), fun i j => (nw_R h1 h2).trans (a3 i j), fun i => (nw_N h1 h2).trans (a4 i), (nw_C h2).trans a5⟩
  · exact (nw_R12 ha).trans (f4 a b ha)
  · exact (nw_N12 ha).trans (f5 a ha)
  · exact (nw_u (by omega)).trans (f6 w j hw)
  · rw [nw_C19]; omega
  · exact (nw_I (by decide)).trans (f8 a j hh)
  · exact (nw_R (by decide) (by decide)).trans (f9 a j)
theorem frC_Sh (S : Sh σ) (h : frC σ σ1 tt) : Sh σ1 := by
  obtain ⟨s3, s4, s29, s30, s28, sC, sN, s33⟩ := S
  have f := h.1
  refine ⟨fun j => ((f 3 (by decide) (by decide) (by decide)).2.2.1 0 j).trans (s3 j), fun j => ((f 4 (by decide) (by decide) (by decide)).2.2.1 0 j).trans (s4 j), fun j => ((f 29 (by decide) (by decide) (by decide)).2.2.1 0 j).trans (s29 j), fun j hj => ((f 30 (by decide) (by decide) (by decide)).2.2.1 0 j).trans (s30 j hj), fun j => ((f 28 (by decide) (by decide) (by decide)).2.2.1 0 j).trans (s28 j), fun K hK => ?_, fun K hK => ?_, (f 33 (by decide) (by decide) (by decide)).2.2.2.2.trans s33⟩
  · exact (f K (fun e => by rw [e] at hK; exact absurd hK (by decide)) (fun e => by rw [e] at hK; exact absurd hK (by decide)) (fun e => by rw [e] at hK; exact absurd hK (by decide))).2.2.2.2.trans (sC K hK)
  · exact ((f K (fun e => by rw [e] at hK; exact absurd hK (by decide)) (fun e => by rw [e] at hK; exact absurd hK (by decide)) (fun e => by rw [e] at hK; exact absurd hK (by decide))).2.2.2.1 0).trans (sN K hK)
theorem frC_E {T : tkT} {U : ukT} (E : rdE σ T U) (h : frC σ σ1 tt) : rdE σ1 T U := by
  obtain ⟨S, ⟨N, L, h1, h2, h3, h4, h5, h6, h7⟩, k, V, W⟩ := E
  have f := h.1
  have f29 := (f 29 (by decide) (by decide) (by decide)).1
  have f15 := (f 15 (by decide) (by decide) (by decide)).1
  have f16 := (f 16 (by decide) (by decide) (by decide)).1
  have f17 := (f 17 (by decide) (by decide) (by decide)).1
  have f13 : gI σ1 13 0 = gI σ 13 0 := funext ((f 13 (by decide) (by decide) (by decide)).1 0)
  refine ⟨frC_Sh S h, ⟨N, L, h1, h2, (f29 _ _).trans h3, (f29 _ _).trans h4, fun t ht => ?_, h6, h7⟩, k, fun t a b => ?_, fun t a b => ?_⟩
  · rw [f15, f16, f17]; exact h5 t ht
  · rw [f13]; exact V t a b
  · rw [f13]; exact W t a b
end FRC
/-- what is read so far -/
def clT (σ σ1 : aM) (tt : Nat) (g : Nat → Int32) (n : Nat) (R : List rcT) : Prop := frC σ σ1 tt ∧ gC σ1 19 = gC σ 19 + R.length ∧ gN σ1 12 tt = R.length ∧ ((gB σ1).1 ≤ (gB σ).1 + 2 * R.length ∧ (gB σ1).2 ≤ (gB σ).2 + 40 * R.length) ∧ (∀ s r, R[s]? = some r → gR σ1 12 tt s = some (19, gC σ 19 + s) ∧ gI σ1 19 (gC σ 19 + s) 0 = nI s ∧ gI σ1 19 (gC σ 19 + s) 1 = nI r.1 ∧ gL σ1 19 (gC σ 19 + s) 2 = r.2.1 ∧ gI σ1 19 (gC σ 19 + s) 3 = -1 ∧ ∃ a b e, gI σ1 19 (gC σ 19 + s) 4 = nI a ∧ gI σ1 19 (gC σ 19 + s) 5 = nI b ∧ gI σ1 19 (gC σ 19 + s) 6 = nI e ∧ a ≤ b ∧ b ≤ e ∧ e ≤ n ∧ sgC g a b = r.2.2.2.1 ∧ sgC g b e = r.2.2.2.2.2.1) ∧ (∃ m, m < 128 ∧ gI σ1 36 tt 5 = nI m) ∧ ∀ k, k < 7 → (((gI σ1 36 tt 5 >>> (nI k &&& 31)) &&& 1 = 1) ↔ ∃ (s : Nat) (r : rcT), R[s]? = some r ∧ r.1 = 7 ∧ r.2.2.1 = nI k)
theorem sgF_cg {f f1 : Nat → Int32} : ∀ k i, (∀ j, i ≤ j → j < i + k → f j = f1 j) → sgF f i k = sgF f1 i k
  | 0, _, _ => rfl
  | k + 1, i, h => by
    show f i :: sgF f (i + 1) k = f1 i :: sgF f1 (i + 1) k
    rw [h i (Nat.le_refl _) (by omega), sgF_cg k (i + 1) (fun j h1 h2 => h j (by omega) (by omega))]
theorem sgF_wc : ∀ (c : List Int32) (g : Nat → Int32) (n : Nat), sgF (wcF g n c) n c.length = c
  | [], _, _ => rfl
  | x :: c, g, n => by
    have e : wcF g n (x :: c) = wcF (wcF g n [x]) (n + 1) c := (wr_wr (a := [x]) (b := c)).symm
    show wcF g n (x :: c) n :: sgF (wcF g n (x :: c)) (n + 1) c.length = x :: c
    rw [e, sgF_wc c, ← e]
    congr 1
    unfold wcF
    rw [if_pos (by simp only [List.length_cons]; omega), Nat.sub_self]; rfl
theorem sgC_lo {g : Nat → Int32} {n a b : Nat} {c : List Int32} (h : b ≤ n) : sgC (wcF g n c) a b = sgC g a b := by
  unfold sgC
  refine sgF_cg _ _ (fun j h1 h2 => ?_)
  unfold wcF
  exact if_neg (by omega)
theorem sgC_wc {g : Nat → Int32} {n : Nat} {c : List Int32} : sgC (wcF g n c) n (n + c.length) = c := by
  unfold sgC
  rw [show n + c.length - n = c.length by omega]
  exact sgF_wc c g n
theorem sgC_12 {g : Nat → Int32} {n : Nat} {c1 c2 : List Int32} : sgC (wcF g n (c1 ++ c2)) n (n + c1.length) = c1 ∧ sgC (wcF g n (c1 ++ c2)) (n + c1.length) (n + c1.length + c2.length) = c2 := by
  rw [← wr_wr]
  exact ⟨by rw [sgC_lo (Nat.le_refl _), sgC_wc], sgC_wc⟩
/-- one more STATEMENT -/
theorem clT_add {σ σ1 σ2 : aM} {tt n n2 : Nat} {g g2 : Nat → Int32} {R : List rcT} {r : rcT} (H : clT σ σ1 tt g n R) (h10 : R.length ≤ 10) (hg : ∀ a b, b ≤ n → sgC g2 a b = sgC g a b) (hn : n ≤ n2) (F : frC σ σ2 tt) (hC : gC σ2 19 = gC σ1 19 + 1) (hN : gN σ2 12 tt = gN σ1 12 tt + 1) (hB : gB σ2 = ((gB σ1).1 + 2, (gB σ1).2 + 7 + (gN σ1 12 tt + gN σ1 12 tt / 2 + 10))) (hR : ∀ b, gR σ2 12 tt b = if b = gN σ1 12 tt then some (19, gC σ1 19) else gR σ1 12 tt b) (ho : ∀ a b, a ≠ gC σ1 19 → gI σ2 19 a b = gI σ1 19 a b) (hl : ∀ a b, a ≠ gC σ1 19 → gL σ2 19 a b = gL σ1 19 a b) (e0 : gI σ2 19 (gC σ1 19) 0 = nI R.length) (e1 : gI σ2 19 (gC σ1 19) 1 = nI r.1) (e2 : gL σ2 19 (gC σ1 19) 2 = r.2.1) (e3 : gI σ2 19 (gC σ1 19) 3 = -1) (ee : ∃ a b e, gI σ2 19 (gC σ1 19) 4 = nI a ∧ gI σ2 19 (gC σ1 19) 5 = nI b ∧ gI σ2 19 (gC σ1 19) 6 = nI e ∧ a ≤ b ∧ b ≤ e ∧ e ≤ n2 ∧ sgC g2 a b = r.2.2.2.1 ∧ sgC g2 b e = r.2.2.2.2.2.1) (hs : (r.1 ≠ 7 ∧ gI σ2 36 tt 5 = gI σ1 36 tt 5) ∨ ∃ j, r.1 = 7 ∧ j < 7 ∧ r.2.2.1 = nI j ∧ gI σ2 36 tt 5 = gI σ1 36 tt 5 ||| (1 <<< (nI j &&& 31))) : clT σ σ2 tt g2 n2 (R ++ [r]) := by
  obtain ⟨f, c1, c2, ⟨b1, b2⟩, c4, ⟨m, m1, m2⟩, c6⟩ := H
  have hL : (R ++ [r]).length = R.length + 1 := by simp only [List.length_append, List.length_cons, List.length_nil]
  refine ⟨F, by omega, by omega, ⟨?_, ?_⟩, fun s r1 hs1 => ?_, ?_, fun k hk => ?_⟩
  · rw [hB, hL]; show (gB σ1).1 + 2 ≤ _; omega
  · rw [hB, hL, c2]; show (gB σ1).2 + 7 + (R.length + R.length / 2 + 10) ≤ _; omega
  · by_cases cs : s < R.length
    · rw [List.getElem?_append_left cs] at hs1
      obtain ⟨d1, d2, d3, d4, d5, a, b, e, d6, d7, d8, d9, d10, d11, d12, d13⟩ := c4 s r1 hs1
      have hne : gC σ 19 + s ≠ gC σ1 19 := by omega
      refine ⟨?_, (ho _ _ hne).trans d2, (ho _ _ hne).trans d3, (hl _ _ hne).trans d4, (ho _ _ hne).trans d5, a, b, e, (ho _ _ hne).trans d6, (ho _ _ hne).trans d7, (ho _ _ hne).trans d8, d9, d10, by omega, ?_, ?_⟩
      · rw [hR, if_neg (by omega)]; exact d1
      · rw [hg a b (by omega)]; exact d12
      · rw [hg b e d11]; exact d13
    · have es : s = R.length := by
        have := (List.getElem?_eq_some_iff.mp hs1).1
        omega
      subst es
      rw [List.getElem?_append_right (Nat.le_refl _), Nat.sub_self] at hs1
      cases hs1
      have eu : gC σ 19 + R.length = gC σ1 19 := c1.symm
      rw [eu]
      exact ⟨by rw [hR, if_pos c2.symm], e0, e1, e2, e3, ee⟩
  · rcases hs with ⟨-, q⟩ | ⟨j, -, hj, -, q⟩
    · exact ⟨m, m1, q.trans m2⟩
    · obtain ⟨⟨a1, a2⟩, -⟩ := bit_or m m1 j hj
      exact ⟨m ||| 2 ^ j, a2, by rw [q, m2, a1]⟩
  · have split : (∃ (s : Nat) (r1 : rcT), (R ++ [r])[s]? = some r1 ∧ r1.1 = 7 ∧ r1.2.2.1 = nI k) ↔ (∃ (s : Nat) (r1 : rcT), R[s]? = some r1 ∧ r1.1 = 7 ∧ r1.2.2.1 = nI k) ∨ (r.1 = 7 ∧ r.2.2.1 = nI k) := by
      constructor
      · rintro ⟨s, r1, h1, h2, h3⟩
        by_cases cs : s < R.length
        · rw [List.getElem?_append_left cs] at h1
          exact Or.inl ⟨s, r1, h1, h2, h3⟩
        · have es : s = R.length := by
            have := (List.getElem?_eq_some_iff.mp h1).1
            omega
          subst es
          rw [List.getElem?_append_right (Nat.le_refl _), Nat.sub_self] at h1
          cases h1
          exact Or.inr ⟨h2, h3⟩
      · rintro (⟨s, r1, h1, h2, h3⟩ | ⟨h2, h3⟩)
        · exact ⟨s, r1, by rw [List.getElem?_append_left (List.getElem?_eq_some_iff.mp h1).1]; exact h1, h2, h3⟩
        · exact ⟨R.length, r, by rw [List.getElem?_append_right (Nat.le_refl _), Nat.sub_self]; rfl, h2, h3⟩
    rw [split]
    rcases hs with ⟨q7, q⟩ | ⟨j, q7, hj, qj, q⟩
    · rw [q, c6 k hk]
      exact ⟨Or.inl, fun h => h.elim id (fun h => absurd h.1 q7)⟩
    · obtain ⟨-, a3⟩ := bit_or m m1 j hj
      have c6 := c6 k hk
      rw [m2] at c6
      rw [q, m2, a3 k hk, c6]
      constructor
      · rintro (h | h)
        · exact Or.inl h
        · exact Or.inr ⟨q7, by rw [qj, h]⟩
      · rintro (h | ⟨-, h⟩)
        · exact Or.inl h
        · rw [qj] at h
          exact Or.inr ((nI_eq (by omega) (by omega)).mp h).symm
