/-! the reference: names numbered, the TEXT kept -/
section G22
variable {σ σ1 : aM} {K i j : Nat}
theorem gR_22 (e : σ1.2.2 = σ.2.2) : gR σ1 K i j = gR σ K i j := by unfold gR; rw [e]
theorem gN_22 (e : σ1.2.2 = σ.2.2) : gN σ1 K i = gN σ K i := by unfold gN; rw [e]
theorem gC_22 (e : σ1.2.2 = σ.2.2) : gC σ1 K = gC σ K := by unfold gC; rw [e]
theorem gB_22 (e : σ1.2.2 = σ.2.2) : gB σ1 = gB σ := by unfold gB; rw [e]
theorem Sh_22 (e : σ1.2.2 = σ.2.2) (S : Sh σ) : Sh σ1 := by
  obtain ⟨s3, s4, s29, s30, s28, sC, sN, s33⟩ := S
  exact ⟨fun j => (gR_22 e).trans (s3 j), fun j => (gR_22 e).trans (s4 j), fun j => (gR_22 e).trans (s29 j), fun j hj => (gR_22 e).trans (s30 j hj), fun j => (gR_22 e).trans (s28 j), fun K hK => (gC_22 e).trans (sC K hK), fun K hK => (gN_22 e).trans (sN K hK), (gC_22 e).trans s33⟩
end G22
def rN (σ σ1 : aM) (tx : Nat) (R : List rcT) (S0 : nmT) (i : Nat) : Prop := σ1.2.2 = σ.2.2 ∧ (∀ K a j, K ≠ 75 → gL σ1 K a j = gL σ K a j) ∧ (∀ j, gL σ1 75 0 j = (nmS R S0 i).1 j) ∧ gI σ1 4 0 42 = nI (nmS R S0 i).2 ∧ (∀ K a j, K ≠ 67 → (K ≠ 4 ∨ j ≠ 42) → gI σ1 K a j = gI σ K a j) ∧ (∀ j, (j < 10 * tx ∨ 10 * tx + i ≤ j) → gI σ1 67 0 j = gI σ 67 0 j) ∧ ∀ s, s < i → gI σ1 67 0 (10 * tx + s) = nmX R S0 s
section RNM
variable {d n tx m : Nat} {σ : aM} {Q : aR → aM → Prop} {S0 : nmT} {w : Int64}
theorem L175 (S : Sh σ) (h42 : gI σ 4 0 42 = nI m) (hm : m < 120) {f : Nat → Int64} (h75 : ∀ j, gL σ 75 0 j = f j) : ∀ k i, i + k = m → (if nmF1 f w k i < m then Q (some (some (vi (nI (nmF1 f w k i))))) σ else WP d 175 29 [some (vr (some (4, 0))), some (vl w), none, some (vi (nI m))] [] σ Q) → WP d 175 2 [some (vr (some (4, 0))), some (vl w), none, some (vi (nI i))] [] σ Q := by
  intro k
  induction k with
  | zero =>
    intro i hi q
    have e : i = m := by omega
    subst e
    have c1 : ¬ nI i < nI i := nI_nlt (Nat.le_refl i) (by omega)
    rw [if_neg (by unfold nmF1; omega)] at q
    rw [S175_2]
    simp only [S175_3, S175_4, S175_7, S175_10, S175_11, S175_14, S175_15, S175_16, S175_17, S175_18, S175_21, S175_22, S175_23, S175_26, gL_sI, gR_sI, gN_sI, gC_sI, gB_sI, gI_sL, gR_sL, gN_sL, gC_sL, gB_sL, gI_sR, gL_sR, gN_sR, gC_sR, gB_sR, gL_sIr, gR_sIr, gN_sIr, gC_sIr, gB_sIr, gI_sLr, gR_sLr, gN_sLr, gC_sLr, gB_sLr, gI_sRr, gL_sRr, gN_sRr, gC_sRr, gB_sRr, gI_sN, gL_sN, gR_sN, gC_sN, gB_sN, gI_sC, gL_sC, gR_sC, gN_sC, gB_sC, gI_sB, gL_sB, gR_sB, gN_sB, gC_sB, gB_sB, gB_am_mk, gI_am_ml, gL_am_ml, gR_am_ml, gB_am_ml, gI_am_add, gL_am_add, gC_am_add, gB_am_add, gI_am_ins, gL_am_ins, gC_am_ins, gB_am_ins, gI_am_rem, gL_am_rem, gC_am_rem, gB_am_rem, gI_am_thr, gL_am_thr, gR_am_thr, gN_am_thr, gB_am_thr, mI_sI_k, mI_sI_j, mI_sI_b, mI_sI_s, mI_sI_i, mI_sI_c, mL_sL_k, mL_sL_j, mL_sL_b, mL_sL_s, mL_sL_i, mL_sL_c, mR_sR_k, mR_sR_j, mR_sR_b, mR_sR_s, mR_sR_i, mR_sR_c, mI_sIr_k, mI_sIr_s, mI_sIr_i, mL_sLr_k, mL_sLr_s, mL_sLr_i, mR_sRr_k, mR_sRr_s, mR_sRr_i, mN_sN_k, mN_sN_i, mN_am_add_k, mN_am_add_s, mR_am_add_k, mN_am_ins_k, mN_am_ins_s, mR_am_ins_k, mN_am_rem_k, mN_am_rem_s, mR_am_rem_k, mR_am_add_s, mR_am_ins_s, mR_am_rem_s, mI_am_mk_k, mI_am_mk_s, mI_am_mk_i, mL_am_mk_k, mL_am_mk_s, mL_am_mk_i, mR_am_mk_k, mR_am_mk_s, mR_am_mk_i, mN_am_mk_k, mN_am_mk_i, mC_am_mk_k, mC_am_mk_s, mN_am_ml_k, mN_am_ml_i, mC_am_ml_k, mC_am_ml_s, mC_sC_k, mC_am_thr_k, sC_3 S, sC_4 S, sR_4_43 S, sC_75 S, sN_75 S, k0, k1, k2, k3, k4, k5, k6, k7, k8, k9, k10, k11, k12, k13, k14, k15, k16, k17, k18, k19, k20, k21, k22, k23, k24, k25, k26, k27, k28, k29, k30, k31, k32, k33, k34, k35, k36, k37, k38, k39, k40, k41, k42, k43, k44, k45, k46, k47, k48, k49, k50, k51, k52, k53, k54, k55, k56, k57, k58, k59, k60, k61, k62, k63, k64, k65, k66, k67, k68, k69, k70, k71, k72, k73, k74, k75, k76, k77, k78, k79, k80, k81, k82, k83, k84, k85, k86, k87, k88, k89, k90, k91, k92, k93, k94, k95, k96, k97, k98, k99, k100, h42, c1, true_and, and_true, and_self, if_true, if_false, ite_true, ite_false, Nat.lt_irrefl, List.length_nil, List.length_cons, Nat.reduceAdd, Nat.reduceLeDiff, Nat.reduceLT, Nat.reduceEqDiff, Nat.zero_lt_one, not_true, not_false_iff, bI_0, bI_1, ne_eq, reduceCtorEq, false_and, and_false, or_true, true_or, or_false, false_or, Nat.lt_one_iff, eq_self, Nat.zero_le, am_ko_v, am_ko_0, am_kil, Nat.reduceBEq, Int32.reduceLT, Int32.reduceLE, Int32.reduceAdd, Int32.reduceSub, i32_10, i32_01, not_true_eq_false, not_false_eq_true, Classical.not_not, nor_self, Nat.lt_add_one, nI_1, nI_pred, rf_n, i32_m0, i32_m1, reduceIte]
    exact q
  | succ k ih =>
    intro i hi q
    have c1 : nI i < nI m := nI_lt (by omega) (by omega)
    have i31 : i < 2147483648 := by omega
    have i120 : i < 120 := by omega
    unfold nmF1 at q
    rw [S175_2]
    by_cases c : f i = w
    · rw [if_pos c, if_pos (by omega)] at q
      have cc : lg_cmp (f i) w = 0 := lgc_eq.mpr c
      simp only [S175_3, S175_4, S175_7, S175_10, S175_11, S175_14, S175_15, S175_16, S175_17, S175_18, S175_21, S175_22, S175_23, S175_26, gL_sI, gR_sI, gN_sI, gC_sI, gB_sI, gI_sL, gR_sL, gN_sL, gC_sL, gB_sL, gI_sR, gL_sR, gN_sR, gC_sR, gB_sR, gL_sIr, gR_sIr, gN_sIr, gC_sIr, gB_sIr, gI_sLr, gR_sLr, gN_sLr, gC_sLr, gB_sLr, gI_sRr, gL_sRr, gN_sRr, gC_sRr, gB_sRr, gI_sN, gL_sN, gR_sN, gC_sN, gB_sN, gI_sC, gL_sC, gR_sC, gN_sC, gB_sC, gI_sB, gL_sB, gR_sB, gN_sB, gC_sB, gB_sB, gB_am_mk, gI_am_ml, gL_am_ml, gR_am_ml, gB_am_ml, gI_am_add, gL_am_add, gC_am_add, gB_am_add, gI_am_ins, gL_am_ins, gC_am_ins, gB_am_ins, gI_am_rem, gL_am_rem, gC_am_rem, gB_am_rem, gI_am_thr, gL_am_thr, gR_am_thr, gN_am_thr, gB_am_thr, mI_sI_k, mI_sI_j, mI_sI_b, mI_sI_s, mI_sI_i, mI_sI_c, mL_sL_k, mL_sL_j, mL_sL_b, mL_sL_s, mL_sL_i, mL_sL_c, mR_sR_k, mR_sR_j, mR_sR_b, mR_sR_s, mR_sR_i, mR_sR_c, mI_sIr_k, mI_sIr_s, mI_sIr_i, mL_sLr_k, mL_sLr_s, mL_sLr_i, mR_sRr_k, mR_sRr_s, mR_sRr_i, mN_sN_k, mN_sN_i, mN_am_add_k, mN_am_add_s, mR_am_add_k, mN_am_ins_k, mN_am_ins_s, mR_am_ins_k, mN_am_rem_k, mN_am_rem_s, mR_am_rem_k, mR_am_add_s, mR_am_ins_s, mR_am_rem_s, mI_am_mk_k, mI_am_mk_s, mI_am_mk_i, mL_am_mk_k, mL_am_mk_s, mL_am_mk_i, mR_am_mk_k, mR_am_mk_s, mR_am_mk_i, mN_am_mk_k, mN_am_mk_i, mC_am_mk_k, mC_am_mk_s, mN_am_ml_k, mN_am_ml_i, mC_am_ml_k, mC_am_ml_s, mC_sC_k, mC_am_thr_k, sC_3 S, sC_4 S, sR_4_43 S, sC_75 S, sN_75 S, k0, k1, k2, k3, k4, k5, k6, k7, k8, k9, k10, k11, k12, k13, k14, k15, k16, k17, k18, k19, k20, k21, k22, k23, k24, k25, k26, k27, k28, k29, k30, k31, k32, k33, k34, k35, k36, k37, k38, k39, k40, k41, k42, k43, k44, k45, k46, k47, k48, k49, k50, k51, k52, k53, k54, k55, k56, k57, k58, k59, k60, k61, k62, k63, k64, k65, k66, k67, k68, k69, k70, k71, k72, k73, k74, k75, k76, k77, k78, k79, k80, k81, k82, k83, k84, k85, k86, k87, k88, k89, k90, k91, k92, k93, k94, k95, k96, k97, k98, k99, k100, h42, c1, h75, ini_iff i31, nI_clamp i31, i120, cc, true_and, and_true, and_self, if_true, if_false, ite_true, ite_false, Nat.lt_irrefl, List.length_nil, List.length_cons, Nat.reduceAdd, Nat.reduceLeDiff, Nat.reduceLT, Nat.reduceEqDiff, Nat.zero_lt_one, not_true, not_false_iff, bI_0, bI_1, ne_eq, reduceCtorEq, false_and, and_false, or_true, true_or, or_false, false_or, Nat.lt_one_iff, eq_self, Nat.zero_le, am_ko_v, am_ko_0, am_kil, Nat.reduceBEq, Int32.reduceLT, Int32.reduceLE, Int32.reduceAdd, Int32.reduceSub, i32_10, i32_01, not_true_eq_false, not_false_eq_true, Classical.not_not, nor_self, Nat.lt_add_one, nI_1, nI_pred, rf_n, i32_m0, i32_m1, reduceIte]
      exact q
    · rw [if_neg c] at q
      have cc : ¬ lg_cmp (f i) w = 0 := fun e => c (lgc_eq.mp e)
      simp only [S175_3, S175_4, S175_7, S175_10, S175_11, S175_14, S175_15, S175_16, S175_17, S175_18, S175_21, S175_22, S175_23, S175_26, gL_sI, gR_sI, gN_sI, gC_sI, gB_sI, gI_sL, gR_sL, gN_sL, gC_sL, gB_sL, gI_sR, gL_sR, gN_sR, gC_sR, gB_sR, gL_sIr, gR_sIr, gN_sIr, gC_sIr, gB_sIr, gI_sLr, gR_sLr, gN_sLr, gC_sLr, gB_sLr, gI_sRr, gL_sRr, gN_sRr, gC_sRr, gB_sRr, gI_sN, gL_sN, gR_sN, gC_sN, gB_sN, gI_sC, gL_sC, gR_sC, gN_sC, gB_sC, gI_sB, gL_sB, gR_sB, gN_sB, gC_sB, gB_sB, gB_am_mk, gI_am_ml, gL_am_ml, gR_am_ml, gB_am_ml, gI_am_add, gL_am_add, gC_am_add, gB_am_add, gI_am_ins, gL_am_ins, gC_am_ins, gB_am_ins, gI_am_rem, gL_am_rem, gC_am_rem, gB_am_rem, gI_am_thr, gL_am_thr, gR_am_thr, gN_am_thr, gB_am_thr, mI_sI_k, mI_sI_j, mI_sI_b, mI_sI_s, mI_sI_i, mI_sI_c, mL_sL_k, mL_sL_j, mL_sL_b, mL_sL_s, mL_sL_i, mL_sL_c, mR_sR_k, mR_sR_j, mR_sR_b, mR_sR_s, mR_sR_i, mR_sR_c, mI_sIr_k, mI_sIr_s, mI_sIr_i, mL_sLr_k, mL_sLr_s, mL_sLr_i, mR_sRr_k, mR_sRr_s, mR_sRr_i, mN_sN_k, mN_sN_i, mN_am_add_k, mN_am_add_s, mR_am_add_k, mN_am_ins_k, mN_am_ins_s, mR_am_ins_k, mN_am_rem_k, mN_am_rem_s, mR_am_rem_k, mR_am_add_s, mR_am_ins_s, mR_am_rem_s, mI_am_mk_k, mI_am_mk_s, mI_am_mk_i, mL_am_mk_k, mL_am_mk_s, mL_am_mk_i, mR_am_mk_k, mR_am_mk_s, mR_am_mk_i, mN_am_mk_k, mN_am_mk_i, mC_am_mk_k, mC_am_mk_s, mN_am_ml_k, mN_am_ml_i, mC_am_ml_k, mC_am_ml_s, mC_sC_k, mC_am_thr_k, sC_3 S, sC_4 S, sR_4_43 S, sC_75 S, sN_75 S, k0, k1, k2, k3, k4, k5, k6, k7, k8, k9, k10, k11, k12, k13, k14, k15, k16, k17, k18, k19, k20, k21, k22, k23, k24, k25, k26, k27, k28, k29, k30, k31, k32, k33, k34, k35, k36, k37, k38, k39, k40, k41, k42, k43, k44, k45, k46, k47, k48, k49, k50, k51, k52, k53, k54, k55, k56, k57, k58, k59, k60, k61, k62, k63, k64, k65, k66, k67, k68, k69, k70, k71, k72, k73, k74, k75, k76, k77, k78, k79, k80, k81, k82, k83, k84, k85, k86, k87, k88, k89, k90, k91, k92, k93, k94, k95, k96, k97, k98, k99, k100, h42, c1, h75, ini_iff i31, nI_clamp i31, i120, cc, nI_add, true_and, and_true, and_self, if_true, if_false, ite_true, ite_false, Nat.lt_irrefl, List.length_nil, List.length_cons, Nat.reduceAdd, Nat.reduceLeDiff, Nat.reduceLT, Nat.reduceEqDiff, Nat.zero_lt_one, not_true, not_false_iff, bI_0, bI_1, ne_eq, reduceCtorEq, false_and, and_false, or_true, true_or, or_false, false_or, Nat.lt_one_iff, eq_self, Nat.zero_le, am_ko_v, am_ko_0, am_kil, Nat.reduceBEq, Int32.reduceLT, Int32.reduceLE, Int32.reduceAdd, Int32.reduceSub, i32_10, i32_01, not_true_eq_false, not_false_eq_true, Classical.not_not, nor_self, Nat.lt_add_one, nI_1, nI_pred, rf_n, i32_m0, i32_m1, reduceIte]
      exact ih (i + 1) (by omega) q
theorem C175 (S : Sh σ) (h42 : gI σ 4 0 42 = nI S0.2) (hm : S0.2 < 120) (h75 : ∀ j, gL σ 75 0 j = S0.1 j) (q : Q (some (some (vi (nI (nmK S0 w))))) (sI (sL σ 75 0 (nmK S0 w) w) 4 0 42 (nI (nmU S0 w).2))) : WP d 175 0 [some (vr (some (4, 0))), some (vl w), none, none] [] σ Q := by
  have m31 : S0.2 < 2147483648 := by omega
  have go := L175 (d := d) (w := w) (Q := Q) S h42 hm (f := S0.1) h75 S0.2 0 (by omega) (by
    show (if nmK S0 w < S0.2 then _ else _)
    by_cases c : nmK S0 w < S0.2
    · rw [if_pos c]
      have e := nmF1_at (f := S0.1) (w := w) S0.2 0 (by unfold nmK at c; omega)
      have e1 : sL σ 75 0 (nmK S0 w) w = σ := by
        have : gL σ 75 0 (nmK S0 w) = w := (h75 _).trans e
        unfold sL am_u3
        refine Prod.ext rfl (Prod.ext ?_ rfl)
        funext x y z
        dsimp only
        by_cases h : x = 75 ∧ y = 0 ∧ z = nmK S0 w
        · rw [if_pos h, h.1, h.2.1, h.2.2]; exact this.symm
        · rw [if_neg h]
      have e2 : sI σ 4 0 42 (nI (nmU S0 w).2) = σ := by
        rw [nmU_id c]
        unfold sI am_u3
        refine Prod.ext ?_ rfl
        funext x y z
        dsimp only
        by_cases h : x = 4 ∧ y = 0 ∧ z = 42
        · rw [if_pos h, h.1, h.2.1, h.2.2]; exact h42.symm
        · rw [if_neg h]
      rw [e1, e2] at q
      exact q
    · rw [if_neg c]
      obtain ⟨e1, e2⟩ := nmU_new c
      rw [e1, e2] at q
      have e3 : nI (S0.2 + 1) - 1 = nI S0.2 := nI_pred _
      simp only [S175_29, S175_30, S175_33, S175_34, S175_37, S175_38, S175_39, S175_40, S175_40q, S175_41, S175_44, S175_45, S175_46, S175_49, S175_50, S175_53, S175_54, S175_55, gL_sI, gR_sI, gN_sI, gC_sI, gB_sI, gI_sL, gR_sL, gN_sL, gC_sL, gB_sL, gI_sR, gL_sR, gN_sR, gC_sR, gB_sR, gL_sIr, gR_sIr, gN_sIr, gC_sIr, gB_sIr, gI_sLr, gR_sLr, gN_sLr, gC_sLr, gB_sLr, gI_sRr, gL_sRr, gN_sRr, gC_sRr, gB_sRr, gI_sN, gL_sN, gR_sN, gC_sN, gB_sN, gI_sC, gL_sC, gR_sC, gN_sC, gB_sC, gI_sB, gL_sB, gR_sB, gN_sB, gC_sB, gB_sB, gB_am_mk, gI_am_ml, gL_am_ml, gR_am_ml, gB_am_ml, gI_am_add, gL_am_add, gC_am_add, gB_am_add, gI_am_ins, gL_am_ins, gC_am_ins, gB_am_ins, gI_am_rem, gL_am_rem, gC_am_rem, gB_am_rem, gI_am_thr, gL_am_thr, gR_am_thr, gN_am_thr, gB_am_thr, mI_sI_k, mI_sI_j, mI_sI_b, mI_sI_s, mI_sI_i, mI_sI_c, mL_sL_k, mL_sL_j, mL_sL_b, mL_sL_s, mL_sL_i, mL_sL_c, mR_sR_k, mR_sR_j, mR_sR_b, mR_sR_s, mR_sR_i, mR_sR_c, mI_sIr_k, mI_sIr_s, mI_sIr_i, mL_sLr_k, mL_sLr_s, mL_sLr_i, mR_sRr_k, mR_sRr_s, mR_sRr_i, mN_sN_k, mN_sN_i, mN_am_add_k, mN_am_add_s, mR_am_add_k, mN_am_ins_k, mN_am_ins_s, mR_am_ins_k, mN_am_rem_k, mN_am_rem_s, mR_am_rem_k, mR_am_add_s, mR_am_ins_s, mR_am_rem_s, mI_am_mk_k, mI_am_mk_s, mI_am_mk_i, mL_am_mk_k, mL_am_mk_s, mL_am_mk_i, mR_am_mk_k, mR_am_mk_s, mR_am_mk_i, mN_am_mk_k, mN_am_mk_i, mC_am_mk_k, mC_am_mk_s, mN_am_ml_k, mN_am_ml_i, mC_am_ml_k, mC_am_ml_s, mC_sC_k, mC_am_thr_k, sC_3 S, sC_4 S, sR_4_43 S, sC_75 S, sN_75 S, k0, k1, k2, k3, k4, k5, k6, k7, k8, k9, k10, k11, k12, k13, k14, k15, k16, k17, k18, k19, k20, k21, k22, k23, k24, k25, k26, k27, k28, k29, k30, k31, k32, k33, k34, k35, k36, k37, k38, k39, k40, k41, k42, k43, k44, k45, k46, k47, k48, k49, k50, k51, k52, k53, k54, k55, k56, k57, k58, k59, k60, k61, k62, k63, k64, k65, k66, k67, k68, k69, k70, k71, k72, k73, k74, k75, k76, k77, k78, k79, k80, k81, k82, k83, k84, k85, k86, k87, k88, k89, k90, k91, k92, k93, k94, k95, k96, k97, k98, k99, k100, h42, ini_iff m31, nI_clamp m31, hm, nI_add, e3, true_and, and_true, and_self, if_true, if_false, ite_true, ite_false, Nat.lt_irrefl, List.length_nil, List.length_cons, Nat.reduceAdd, Nat.reduceLeDiff, Nat.reduceLT, Nat.reduceEqDiff, Nat.zero_lt_one, not_true, not_false_iff, bI_0, bI_1, ne_eq, reduceCtorEq, false_and, and_false, or_true, true_or, or_false, false_or, Nat.lt_one_iff, eq_self, Nat.zero_le, am_ko_v, am_ko_0, am_kil, Nat.reduceBEq, Int32.reduceLT, Int32.reduceLE, Int32.reduceAdd, Int32.reduceSub, i32_10, i32_01, not_true_eq_false, not_false_eq_true, Classical.not_not, nor_self, Nat.lt_add_one, nI_1, nI_pred, rf_n, i32_m0, i32_m1, reduceIte]
      exact q)
  rw [nI_0] at go
  simp only [S175_0, S175_1, gL_sI, gR_sI, gN_sI, gC_sI, gB_sI, gI_sL, gR_sL, gN_sL, gC_sL, gB_sL, gI_sR, gL_sR, gN_sR, gC_sR, gB_sR, gL_sIr, gR_sIr, gN_sIr, gC_sIr, gB_sIr, gI_sLr, gR_sLr, gN_sLr, gC_sLr, gB_sLr, gI_sRr, gL_sRr, gN_sRr, gC_sRr, gB_sRr, gI_sN, gL_sN, gR_sN, gC_sN, gB_sN, gI_sC, gL_sC, gR_sC, gN_sC, gB_sC, gI_sB, gL_sB, gR_sB, gN_sB, gC_sB, gB_sB, gB_am_mk, gI_am_ml, gL_am_ml, gR_am_ml, gB_am_ml, gI_am_add, gL_am_add, gC_am_add, gB_am_add, gI_am_ins, gL_am_ins, gC_am_ins, gB_am_ins, gI_am_rem, gL_am_rem, gC_am_rem, gB_am_rem, gI_am_thr, gL_am_thr, gR_am_thr, gN_am_thr, gB_am_thr, mI_sI_k, mI_sI_j, mI_sI_b, mI_sI_s, mI_sI_i, mI_sI_c, mL_sL_k, mL_sL_j, mL_sL_b, mL_sL_s, mL_sL_i, mL_sL_c, mR_sR_k, mR_sR_j, mR_sR_b, mR_sR_s, mR_sR_i, mR_sR_c, mI_sIr_k, mI_sIr_s, mI_sIr_i, mL_sLr_k, mL_sLr_s, mL_sLr_i, mR_sRr_k, mR_sRr_s, mR_sRr_i, mN_sN_k, mN_sN_i, mN_am_add_k, mN_am_add_s, mR_am_add_k, mN_am_ins_k, mN_am_ins_s, mR_am_ins_k, mN_am_rem_k, mN_am_rem_s, mR_am_rem_k, mR_am_add_s, mR_am_ins_s, mR_am_rem_s, mI_am_mk_k, mI_am_mk_s, mI_am_mk_i, mL_am_mk_k, mL_am_mk_s, mL_am_mk_i, mR_am_mk_k, mR_am_mk_s, mR_am_mk_i, mN_am_mk_k, mN_am_mk_i, mC_am_mk_k, mC_am_mk_s, mN_am_ml_k, mN_am_ml_i, mC_am_ml_k, mC_am_ml_s, mC_sC_k, mC_am_thr_k, sC_3 S, sC_4 S, sR_4_43 S, sC_75 S, sN_75 S, k0, k1, k2, k3, k4, k5, k6, k7, k8, k9, k10, k11, k12, k13, k14, k15, k16, k17, k18, k19, k20, k21, k22, k23, k24, k25, k26, k27, k28, k29, k30, k31, k32, k33, k34, k35, k36, k37, k38, k39, k40, k41, k42, k43, k44, k45, k46, k47, k48, k49, k50, k51, k52, k53, k54, k55, k56, k57, k58, k59, k60, k61, k62, k63, k64, k65, k66, k67, k68, k69, k70, k71, k72, k73, k74, k75, k76, k77, k78, k79, k80, k81, k82, k83, k84, k85, k86, k87, k88, k89, k90, k91, k92, k93, k94, k95, k96, k97, k98, k99, k100, true_and, and_true, and_self, if_true, if_false, ite_true, ite_false, Nat.lt_irrefl, List.length_nil, List.length_cons, Nat.reduceAdd, Nat.reduceLeDiff, Nat.reduceLT, Nat.reduceEqDiff, Nat.zero_lt_one, not_true, not_false_iff, bI_0, bI_1, ne_eq, reduceCtorEq, false_and, and_false, or_true, true_or, or_false, false_or, Nat.lt_one_iff, eq_self, Nat.zero_le, am_ko_v, am_ko_0, am_kil, Nat.reduceBEq, Int32.reduceLT, Int32.reduceLE, Int32.reduceAdd, Int32.reduceSub, i32_10, i32_01, not_true_eq_false, not_false_eq_true, Classical.not_not, nor_self, Nat.lt_add_one, nI_1, nI_pred, rf_n, i32_m0, i32_m1, reduceIte]
  exact go
end RNM
section RNL
variable {D tx : Nat} {σ : aM} {Q : aR → aM → Prop} {S0 : nmT} {R : List rcT} {x1 : Int32}
theorem L174n (S : Sh σ) (e27 : gI σ 4 0 27 = nI tx) (e64 : gI σ 64 0 tx = nI R.length) (rows : ∀ s r, R[s]? = some r → gI σ 65 0 (10 * tx + s) = nI r.1 ∧ r.1 ≤ 7 ∧ gI σ 67 0 (10 * tx + s) = -1 ∧ (r.1 = 6 → gL σ 68 0 (10 * tx + s) = r.2.1)) (hl : R.length ≤ 10) (h12 : tx < 12) (h0 : S0.2 ≤ 10 * tx) (hq : ∀ σ1 (a2 a3 : Option aV), rN σ σ1 tx R S0 R.length → WP (D + 2) 174 187 [some (vr (some (4, 0))), some (vi x1), a2, a3] [] σ1 Q) : ∀ k i σ1 (a2 : Option aV), i + k = R.length → rN σ σ1 tx R S0 i → WP (D + 2) 174 133 [some (vr (some (4, 0))), some (vi x1), a2, some (vi (nI (10 * tx + i)))] [] σ1 Q := by
  have t31 : tx < 2147483648 := by omega
  have et : (10 : Int32) * nI tx = nI (10 * tx) := by rw [show (10 : Int32) = nI 10 from rfl, pk_mul]
  have S0' := S
  intro k
  induction k with
  | zero =>
    intro i σ1 a2 hi H
    have e : i = R.length := by omega
    subst e
    obtain ⟨n1, n2, n3, n4, n5, n6, n7⟩ := id H
    have S := Sh_22 n1 S0'
    have c1 : ¬ nI (10 * tx + R.length) < nI (10 * tx + R.length) := nI_nlt (Nat.le_refl _) (by omega)
    have f27 : gI σ1 4 0 27 = nI tx := (n5 4 0 27 (by decide) (Or.inr (by decide))).trans e27
    have f64 : gI σ1 64 0 tx = nI R.length := (n5 64 0 tx (by decide) (Or.inl (by decide))).trans e64
    have hz := hq σ1 a2 (some (vi (nI (10 * tx + R.length)))) H
    rw [S174_133]
    simp only [S174_134, S174_136, S174_137, S174_140, S174_141, S174_142, S174_145, S174_146, S174_149, S174_150, S174_151, S174_154, S174_155, S174_158, S174_159, S174_160, S174_162, S174_165, S174_166, S174_169, S174_170, S174_171, S174_172, S174_175, S174_176, S174_177, S174_180, S174_181, gL_sI, gR_sI, gN_sI, gC_sI, gB_sI, gI_sL, gR_sL, gN_sL, gC_sL, gB_sL, gI_sR, gL_sR, gN_sR, gC_sR, gB_sR, gL_sIr, gR_sIr, gN_sIr, gC_sIr, gB_sIr, gI_sLr, gR_sLr, gN_sLr, gC_sLr, gB_sLr, gI_sRr, gL_sRr, gN_sRr, gC_sRr, gB_sRr, gI_sN, gL_sN, gR_sN, gC_sN, gB_sN, gI_sC, gL_sC, gR_sC, gN_sC, gB_sC, gI_sB, gL_sB, gR_sB, gN_sB, gC_sB, gB_sB, gB_am_mk, gI_am_ml, gL_am_ml, gR_am_ml, gB_am_ml, gI_am_add, gL_am_add, gC_am_add, gB_am_add, gI_am_ins, gL_am_ins, gC_am_ins, gB_am_ins, gI_am_rem, gL_am_rem, gC_am_rem, gB_am_rem, gI_am_thr, gL_am_thr, gR_am_thr, gN_am_thr, gB_am_thr, mI_sI_k, mI_sI_j, mI_sI_b, mI_sI_s, mI_sI_i, mI_sI_c, mL_sL_k, mL_sL_j, mL_sL_b, mL_sL_s, mL_sL_i, mL_sL_c, mR_sR_k, mR_sR_j, mR_sR_b, mR_sR_s, mR_sR_i, mR_sR_c, mI_sIr_k, mI_sIr_s, mI_sIr_i, mL_sLr_k, mL_sLr_s, mL_sLr_i, mR_sRr_k, mR_sRr_s, mR_sRr_i, mN_sN_k, mN_sN_i, mN_am_add_k, mN_am_add_s, mR_am_add_k, mN_am_ins_k, mN_am_ins_s, mR_am_ins_k, mN_am_rem_k, mN_am_rem_s, mR_am_rem_k, mR_am_add_s, mR_am_ins_s, mR_am_rem_s, mI_am_mk_k, mI_am_mk_s, mI_am_mk_i, mL_am_mk_k, mL_am_mk_s, mL_am_mk_i, mR_am_mk_k, mR_am_mk_s, mR_am_mk_i, mN_am_mk_k, mN_am_mk_i, mC_am_mk_k, mC_am_mk_s, mN_am_ml_k, mN_am_ml_i, mC_am_ml_k, mC_am_ml_s, mC_sC_k, mC_am_thr_k, sC_3 S, sC_4 S, sR_4_28 S, sC_62 S, sN_62 S, sR_4_29 S, sC_63 S, sN_63 S, sR_4_30 S, sC_64 S, sN_64 S, sR_4_31 S, sC_65 S, sN_65 S, sR_4_33 S, sC_67 S, sN_67 S, sR_4_34 S, sC_68 S, sN_68 S, k0, k1, k2, k3, k4, k5, k6, k7, k8, k9, k10, k11, k12, k13, k14, k15, k16, k17, k18, k19, k20, k21, k22, k23, k24, k25, k26, k27, k28, k29, k30, k31, k32, k33, k34, k35, k36, k37, k38, k39, k40, k41, k42, k43, k44, k45, k46, k47, k48, k49, k50, k51, k52, k53, k54, k55, k56, k57, k58, k59, k60, k61, k62, k63, k64, k65, k66, k67, k68, k69, k70, k71, k72, k73, k74, k75, k76, k77, k78, k79, k80, k81, k82, k83, k84, k85, k86, k87, k88, k89, k90, k91, k92, k93, k94, k95, k96, k97, k98, k99, k100, f27, f64, et, ini_iff t31, nI_clamp t31, h12, nI_add, c1, true_and, and_true, and_self, if_true, if_false, ite_true, ite_false, Nat.lt_irrefl, List.length_nil, List.length_cons, Nat.reduceAdd, Nat.reduceLeDiff, Nat.reduceLT, Nat.reduceEqDiff, Nat.zero_lt_one, not_true, not_false_iff, bI_0, bI_1, ne_eq, reduceCtorEq, false_and, and_false, or_true, true_or, or_false, false_or, Nat.lt_one_iff, eq_self, Nat.zero_le, am_ko_v, am_ko_0, am_kil, Nat.reduceBEq, Int32.reduceLT, Int32.reduceLE, Int32.reduceAdd, Int32.reduceSub, i32_10, i32_01, not_true_eq_false, not_false_eq_true, Classical.not_not, nor_self, Nat.lt_add_one, nI_1, nI_pred, rf_n, i32_m0, i32_m1, reduceIte]
    exact hz
  | succ k ih =>
    intro i σ1 a2 hi H
    obtain ⟨n1, n2, n3, n4, n5, n6, n7⟩ := id H
    have S := Sh_22 n1 S0'
    have iR : i < R.length := by omega
    have c1 : nI (10 * tx + i) < nI (10 * tx + R.length) := nI_lt (by omega) (by omega)
    have f27 : gI σ1 4 0 27 = nI tx := (n5 4 0 27 (by decide) (Or.inr (by decide))).trans e27
    have f64 : gI σ1 64 0 tx = nI R.length := (n5 64 0 tx (by decide) (Or.inl (by decide))).trans e64
    have s31 : 10 * tx + i < 2147483648 := by omega
    have s120 : 10 * tx + i < 120 := by omega
    obtain ⟨r, hr⟩ : ∃ r, R[i]? = some r := ⟨R[i], List.getElem?_eq_getElem iR⟩
    obtain ⟨r1, r2, r3, r4⟩ := rows i r hr
    have f65 : gI σ1 65 0 (10 * tx + i) = nI r.1 := (n5 65 0 _ (by decide) (Or.inl (by decide))).trans r1
    have hle := nmS_le (R := R) (S0 := S0) i
    rw [S174_133]
    by_cases c6 : r.1 = 6
    · have f68 : gL σ1 68 0 (10 * tx + i) = r.2.1 := (n2 68 0 _ (by decide)).trans (r4 c6)
      have eS : nmS R S0 (i + 1) = nmU (nmS R S0 i) r.2.1 := by
        show (match R[i]? with
          | some r => if r.1 = 6 then nmU (nmS R S0 i) r.2.1 else nmS R S0 i
          | none => nmS R S0 i) = _
        rw [hr]
        exact if_pos c6
      have eX : nmX R S0 i = nI (nmK (nmS R S0 i) r.2.1) := by
        unfold nmX
        rw [hr]
        exact if_pos c6
      have H2 : rN σ (sI (sI (sL σ1 75 0 (nmK (nmS R S0 i) r.2.1) r.2.1) 4 0 42 (nI (nmU (nmS R S0 i) r.2.1).2)) 67 0 (10 * tx + i) (nI (nmK (nmS R S0 i) r.2.1))) tx R S0 (i + 1) := by
        refine ⟨n1, fun K a j hK => (mL_sL_k hK).trans (n2 K a j hK), fun j => ?_, ?_, fun K a j hK hj => ?_, fun j hj => ?_, fun s hs => ?_⟩
        · rw [eS]
          show gL (sL σ1 75 0 (nmK (nmS R S0 i) r.2.1) r.2.1) 75 0 j = (if j = nmK (nmS R S0 i) r.2.1 then r.2.1 else (nmS R S0 i).1 j)
          rw [gL_sL]
          by_cases e : j = nmK (nmS R S0 i) r.2.1
          · rw [if_pos ⟨rfl, rfl, e⟩, if_pos e]
          · rw [if_neg (fun q => e q.2.2), if_neg e]; exact n3 j
        · rw [mI_sI_k (by decide), eS]; exact mI_sI_s
        · rw [mI_sI_k hK]
          rcases hj with hj | hj
          · exact (mI_sI_k hj).trans (n5 K a j hK (Or.inl hj))
          · refine Eq.trans ?_ (n5 K a j hK (Or.inr hj))
            exact if_neg (fun q => hj q.2.2)
        · rw [mI_sI_j (show j ≠ 10 * tx + i by omega), mI_sI_k (by decide)]
          exact n6 j (by omega)
        · by_cases e : s = i
          · subst e
            rw [mI_sI_s, eX]
          · rw [mI_sI_j (show 10 * tx + s ≠ 10 * tx + i by omega), mI_sI_k (by decide)]
            exact n7 s (by omega)
      have hz := fun a2 => ih (i + 1) _ a2 (by omega) H2
      have e66 : nI r.1 = 6 := by rw [c6]; rfl
      have C := fun (D : Nat) (Q : aR → aM → Prop) (q : Q (some (some (vi (nI (nmK (nmS R S0 i) r.2.1))))) (sI (sL σ1 75 0 (nmK (nmS R S0 i) r.2.1) r.2.1) 4 0 42 (nI (nmU (nmS R S0 i) r.2.1).2))) => C175 (d := D) (w := r.2.1) (Q := Q) S n4 (by omega) n3 q
      rw [e66] at f65
      simp only [S174_134, S174_136, S174_137, S174_140, S174_141, S174_142, S174_145, S174_146, S174_149, S174_150, S174_151, S174_154, S174_155, S174_158, S174_159, S174_160, S174_162, S174_165, S174_166, S174_169, S174_170, S174_171, S174_172, S174_175, S174_176, S174_177, gL_sI, gR_sI, gN_sI, gC_sI, gB_sI, gI_sL, gR_sL, gN_sL, gC_sL, gB_sL, gI_sR, gL_sR, gN_sR, gC_sR, gB_sR, gL_sIr, gR_sIr, gN_sIr, gC_sIr, gB_sIr, gI_sLr, gR_sLr, gN_sLr, gC_sLr, gB_sLr, gI_sRr, gL_sRr, gN_sRr, gC_sRr, gB_sRr, gI_sN, gL_sN, gR_sN, gC_sN, gB_sN, gI_sC, gL_sC, gR_sC, gN_sC, gB_sC, gI_sB, gL_sB, gR_sB, gN_sB, gC_sB, gB_sB, gB_am_mk, gI_am_ml, gL_am_ml, gR_am_ml, gB_am_ml, gI_am_add, gL_am_add, gC_am_add, gB_am_add, gI_am_ins, gL_am_ins, gC_am_ins, gB_am_ins, gI_am_rem, gL_am_rem, gC_am_rem, gB_am_rem, gI_am_thr, gL_am_thr, gR_am_thr, gN_am_thr, gB_am_thr, mI_sI_k, mI_sI_j, mI_sI_b, mI_sI_s, mI_sI_i, mI_sI_c, mL_sL_k, mL_sL_j, mL_sL_b, mL_sL_s, mL_sL_i, mL_sL_c, mR_sR_k, mR_sR_j, mR_sR_b, mR_sR_s, mR_sR_i, mR_sR_c, mI_sIr_k, mI_sIr_s, mI_sIr_i, mL_sLr_k, mL_sLr_s, mL_sLr_i, mR_sRr_k, mR_sRr_s, mR_sRr_i, mN_sN_k, mN_sN_i, mN_am_add_k, mN_am_add_s, mR_am_add_k, mN_am_ins_k, mN_am_ins_s, mR_am_ins_k, mN_am_rem_k, mN_am_rem_s, mR_am_rem_k, mR_am_add_s, mR_am_ins_s, mR_am_rem_s, mI_am_mk_k, mI_am_mk_s, mI_am_mk_i, mL_am_mk_k, mL_am_mk_s, mL_am_mk_i, mR_am_mk_k, mR_am_mk_s, mR_am_mk_i, mN_am_mk_k, mN_am_mk_i, mC_am_mk_k, mC_am_mk_s, mN_am_ml_k, mN_am_ml_i, mC_am_ml_k, mC_am_ml_s, mC_sC_k, mC_am_thr_k, sC_3 S, sC_4 S, sR_4_28 S, sC_62 S, sN_62 S, sR_4_29 S, sC_63 S, sN_63 S, sR_4_30 S, sC_64 S, sN_64 S, sR_4_31 S, sC_65 S, sN_65 S, sR_4_33 S, sC_67 S, sN_67 S, sR_4_34 S, sC_68 S, sN_68 S, k0, k1, k2, k3, k4, k5, k6, k7, k8, k9, k10, k11, k12, k13, k14, k15, k16, k17, k18, k19, k20, k21, k22, k23, k24, k25, k26, k27, k28, k29, k30, k31, k32, k33, k34, k35, k36, k37, k38, k39, k40, k41, k42, k43, k44, k45, k46, k47, k48, k49, k50, k51, k52, k53, k54, k55, k56, k57, k58, k59, k60, k61, k62, k63, k64, k65, k66, k67, k68, k69, k70, k71, k72, k73, k74, k75, k76, k77, k78, k79, k80, k81, k82, k83, k84, k85, k86, k87, k88, k89, k90, k91, k92, k93, k94, k95, k96, k97, k98, k99, k100, f27, f64, et, ini_iff t31, nI_clamp t31, h12, nI_add, c1, f65, ini_iff s31, nI_clamp s31, s120, f68, true_and, and_true, and_self, if_true, if_false, ite_true, ite_false, Nat.lt_irrefl, List.length_nil, List.length_cons, Nat.reduceAdd, Nat.reduceLeDiff, Nat.reduceLT, Nat.reduceEqDiff, Nat.zero_lt_one, not_true, not_false_iff, bI_0, bI_1, ne_eq, reduceCtorEq, false_and, and_false, or_true, true_or, or_false, false_or, Nat.lt_one_iff, eq_self, Nat.zero_le, am_ko_v, am_ko_0, am_kil, Nat.reduceBEq, Int32.reduceLT, Int32.reduceLE, Int32.reduceAdd, Int32.reduceSub, i32_10, i32_01, not_true_eq_false, not_false_eq_true, Classical.not_not, nor_self, Nat.lt_add_one, nI_1, nI_pred, rf_n, i32_m0, i32_m1, reduceIte]
      refine C _ _ ?_
      rw [am_ko_v]
      simp only [S174_180, S174_181, S174_184, gL_sI, gR_sI, gN_sI, gC_sI, gB_sI, gI_sL, gR_sL, gN_sL, gC_sL, gB_sL, gI_sR, gL_sR, gN_sR, gC_sR, gB_sR, gL_sIr, gR_sIr, gN_sIr, gC_sIr, gB_sIr, gI_sLr, gR_sLr, gN_sLr, gC_sLr, gB_sLr, gI_sRr, gL_sRr, gN_sRr, gC_sRr, gB_sRr, gI_sN, gL_sN, gR_sN, gC_sN, gB_sN, gI_sC, gL_sC, gR_sC, gN_sC, gB_sC, gI_sB, gL_sB, gR_sB, gN_sB, gC_sB, gB_sB, gB_am_mk, gI_am_ml, gL_am_ml, gR_am_ml, gB_am_ml, gI_am_add, gL_am_add, gC_am_add, gB_am_add, gI_am_ins, gL_am_ins, gC_am_ins, gB_am_ins, gI_am_rem, gL_am_rem, gC_am_rem, gB_am_rem, gI_am_thr, gL_am_thr, gR_am_thr, gN_am_thr, gB_am_thr, mI_sI_k, mI_sI_j, mI_sI_b, mI_sI_s, mI_sI_i, mI_sI_c, mL_sL_k, mL_sL_j, mL_sL_b, mL_sL_s, mL_sL_i, mL_sL_c, mR_sR_k, mR_sR_j, mR_sR_b, mR_sR_s, mR_sR_i, mR_sR_c, mI_sIr_k, mI_sIr_s, mI_sIr_i, mL_sLr_k, mL_sLr_s, mL_sLr_i, mR_sRr_k, mR_sRr_s, mR_sRr_i, mN_sN_k, mN_sN_i, mN_am_add_k, mN_am_add_s, mR_am_add_k, mN_am_ins_k, mN_am_ins_s, mR_am_ins_k, mN_am_rem_k, mN_am_rem_s, mR_am_rem_k, mR_am_add_s, mR_am_ins_s, mR_am_rem_s, mI_am_mk_k, mI_am_mk_s, mI_am_mk_i, mL_am_mk_k, mL_am_mk_s, mL_am_mk_i, mR_am_mk_k, mR_am_mk_s, mR_am_mk_i, mN_am_mk_k, mN_am_mk_i, mC_am_mk_k, mC_am_mk_s, mN_am_ml_k, mN_am_ml_i, mC_am_ml_k, mC_am_ml_s, mC_sC_k, mC_am_thr_k, sC_3 S, sC_4 S, sR_4_28 S, sC_62 S, sN_62 S, sR_4_29 S, sC_63 S, sN_63 S, sR_4_30 S, sC_64 S, sN_64 S, sR_4_31 S, sC_65 S, sN_65 S, sR_4_33 S, sC_67 S, sN_67 S, sR_4_34 S, sC_68 S, sN_68 S, k0, k1, k2, k3, k4, k5, k6, k7, k8, k9, k10, k11, k12, k13, k14, k15, k16, k17, k18, k19, k20, k21, k22, k23, k24, k25, k26, k27, k28, k29, k30, k31, k32, k33, k34, k35, k36, k37, k38, k39, k40, k41, k42, k43, k44, k45, k46, k47, k48, k49, k50, k51, k52, k53, k54, k55, k56, k57, k58, k59, k60, k61, k62, k63, k64, k65, k66, k67, k68, k69, k70, k71, k72, k73, k74, k75, k76, k77, k78, k79, k80, k81, k82, k83, k84, k85, k86, k87, k88, k89, k90, k91, k92, k93, k94, k95, k96, k97, k98, k99, k100, ini_iff s31, nI_clamp s31, s120, nI_add, true_and, and_true, and_self, if_true, if_false, ite_true, ite_false, Nat.lt_irrefl, List.length_nil, List.length_cons, Nat.reduceAdd, Nat.reduceLeDiff, Nat.reduceLT, Nat.reduceEqDiff, Nat.zero_lt_one, not_true, not_false_iff, bI_0, bI_1, ne_eq, reduceCtorEq, false_and, and_false, or_true, true_or, or_false, false_or, Nat.lt_one_iff, eq_self, Nat.zero_le, am_ko_v, am_ko_0, am_kil, Nat.reduceBEq, Int32.reduceLT, Int32.reduceLE, Int32.reduceAdd, Int32.reduceSub, i32_10, i32_01, not_true_eq_false, not_false_eq_true, Classical.not_not, nor_self, Nat.lt_add_one, nI_1, nI_pred, rf_n, i32_m0, i32_m1, reduceIte]
      exact hz _
    · have e66 : ¬ nI r.1 = 6 := fun e => c6 ((nI_eq (b := 6) (by omega) (by omega)).mp e)
      have eS : nmS R S0 (i + 1) = nmS R S0 i := by
        show (match R[i]? with
          | some r => if r.1 = 6 then nmU (nmS R S0 i) r.2.1 else nmS R S0 i
          | none => nmS R S0 i) = _
        rw [hr]
        exact if_neg c6
      have eX : nmX R S0 i = -1 := by
        unfold nmX
        rw [hr]
        exact if_neg c6
      have H2 : rN σ σ1 tx R S0 (i + 1) := by
        refine ⟨n1, n2, fun j => by rw [eS]; exact n3 j, by rw [eS]; exact n4, n5, fun j hj => n6 j (by omega), fun s hs => ?_⟩
        by_cases e : s = i
        · subst e
          rw [eX, n6 _ (Or.inr (Nat.le_refl _)), r3]
        · exact n7 s (by omega)
      have hz := fun a2 => ih (i + 1) σ1 a2 (by omega) H2
      simp only [S174_134, S174_136, S174_137, S174_140, S174_141, S174_142, S174_145, S174_146, S174_149, S174_150, S174_151, S174_154, S174_155, S174_158, S174_159, S174_160, S174_162, S174_165, S174_166, S174_169, S174_170, S174_171, S174_172, S174_175, S174_176, S174_177, S174_180, S174_181, S174_184, gL_sI, gR_sI, gN_sI, gC_sI, gB_sI, gI_sL, gR_sL, gN_sL, gC_sL, gB_sL, gI_sR, gL_sR, gN_sR, gC_sR, gB_sR, gL_sIr, gR_sIr, gN_sIr, gC_sIr, gB_sIr, gI_sLr, gR_sLr, gN_sLr, gC_sLr, gB_sLr, gI_sRr, gL_sRr, gN_sRr, gC_sRr, gB_sRr, gI_sN, gL_sN, gR_sN, gC_sN, gB_sN, gI_sC, gL_sC, gR_sC, gN_sC, gB_sC, gI_sB, gL_sB, gR_sB, gN_sB, gC_sB, gB_sB, gB_am_mk, gI_am_ml, gL_am_ml, gR_am_ml, gB_am_ml, gI_am_add, gL_am_add, gC_am_add, gB_am_add, gI_am_ins, gL_am_ins, gC_am_ins, gB_am_ins, gI_am_rem, gL_am_rem, gC_am_rem, gB_am_rem, gI_am_thr, gL_am_thr, gR_am_thr, gN_am_thr, gB_am_thr, mI_sI_k, mI_sI_j, mI_sI_b, mI_sI_s, mI_sI_i, mI_sI_c, mL_sL_k, mL_sL_j, mL_sL_b, mL_sL_s, mL_sL_i, mL_sL_c, mR_sR_k, mR_sR_j, mR_sR_b, mR_sR_s, mR_sR_i, mR_sR_c, mI_sIr_k, mI_sIr_s, mI_sIr_i, mL_sLr_k, mL_sLr_s, mL_sLr_i, mR_sRr_k, mR_sRr_s, mR_sRr_i, mN_sN_k, mN_sN_i, mN_am_add_k, mN_am_add_s, mR_am_add_k, mN_am_ins_k, mN_am_ins_s, mR_am_ins_k, mN_am_rem_k, mN_am_rem_s, mR_am_rem_k, mR_am_add_s, mR_am_ins_s, mR_am_rem_s, mI_am_mk_k, mI_am_mk_s, mI_am_mk_i, mL_am_mk_k, mL_am_mk_s, mL_am_mk_i, mR_am_mk_k, mR_am_mk_s, mR_am_mk_i, mN_am_mk_k, mN_am_mk_i, mC_am_mk_k, mC_am_mk_s, mN_am_ml_k, mN_am_ml_i, mC_am_ml_k, mC_am_ml_s, mC_sC_k, mC_am_thr_k, sC_3 S, sC_4 S, sR_4_28 S, sC_62 S, sN_62 S, sR_4_29 S, sC_63 S, sN_63 S, sR_4_30 S, sC_64 S, sN_64 S, sR_4_31 S, sC_65 S, sN_65 S, sR_4_33 S, sC_67 S, sN_67 S, sR_4_34 S, sC_68 S, sN_68 S, k0, k1, k2, k3, k4, k5, k6, k7, k8, k9, k10, k11, k12, k13, k14, k15, k16, k17, k18, k19, k20, k21, k22, k23, k24, k25, k26, k27, k28, k29, k30, k31, k32, k33, k34, k35, k36, k37, k38, k39, k40, k41, k42, k43, k44, k45, k46, k47, k48, k49, k50, k51, k52, k53, k54, k55, k56, k57, k58, k59, k60, k61, k62, k63, k64, k65, k66, k67, k68, k69, k70, k71, k72, k73, k74, k75, k76, k77, k78, k79, k80, k81, k82, k83, k84, k85, k86, k87, k88, k89, k90, k91, k92, k93, k94, k95, k96, k97, k98, k99, k100, f27, f64, et, ini_iff t31, nI_clamp t31, h12, nI_add, c1, f65, e66, ini_iff s31, nI_clamp s31, s120, true_and, and_true, and_self, if_true, if_false, ite_true, ite_false, Nat.lt_irrefl, List.length_nil, List.length_cons, Nat.reduceAdd, Nat.reduceLeDiff, Nat.reduceLT, Nat.reduceEqDiff, Nat.zero_lt_one, not_true, not_false_iff, bI_0, bI_1, ne_eq, reduceCtorEq, false_and, and_false, or_true, true_or, or_false, false_or, Nat.lt_one_iff, eq_self, Nat.zero_le, am_ko_v, am_ko_0, am_kil, Nat.reduceBEq, Int32.reduceLT, Int32.reduceLE, Int32.reduceAdd, Int32.reduceSub, i32_10, i32_01, not_true_eq_false, not_false_eq_true, Classical.not_not, nor_self, Nat.lt_add_one, nI_1, nI_pred, rf_n, i32_m0, i32_m1, reduceIte]
      exact hz _
end RNL
/-- what the reference's text leaves where all is read -/
def rfF (σ : aM) (T : tkT) (U : ukT) (tx : Nat) (a : Int32) (t1 n1 : Nat) (g1 h1 : Nat → Int32) (σ2 : aM) : aM := sI (sI (rfM (sI σ2 4 0 45 0) T U t1 0 n1 g1 h1 0 (-1)) 62 0 tx (gI σ 4 0 1)) 63 0 tx a
section RTT
variable {σ : aM} {tx L : Nat} {B : Nat → Int32} {Q : aR → aM → Prop} {S0 : nmT}
theorem C174 {D : Nat} {a : Int32} (S : Sh σ) (ha : 0 ≤ a ∧ a ≤ 9999) (hL : gI σ 4 0 45 = nI L) (h3 : L ≤ 300) (hB : ∀ j, j < L → gI σ 76 0 j &&& 255 = B j) (hB2 : ∀ j, 0 ≤ B j ∧ B j < 256) (e27 : gI σ 4 0 27 = nI tx) (h12 : tx < 12) (hD : 49 ≤ D) (h42 : gI σ 4 0 42 = nI S0.2) (h75 : ∀ j, gL σ 75 0 j = S0.1 j) (h0 : S0.2 ≤ 10 * tx) (q : match txtP (toksF B L) (uksF B L) 11 0 0 with
  | .inl (k, p) => ∀ σ2 fr ov va le op tk n1 g1 h1, rfR (sI (sI σ 4 0 0 0) 64 0 tx 0) σ2 tx → agF (320 * tx) (gI σ 73 0) g1 → agF (320 * tx) (gI σ 74 0) h1 → Q (some (some (vi (-1 - k)))) (rfX (sI σ2 4 0 45 0) fr ov va le op tk n1 g1 h1 k (nI p))
  | .inr l => ∀ σ2 t1 n1 g1 h1 σ3, n1 ≤ 300 → rfT (sI (sI σ 4 0 0 0) 64 0 tx 0) σ2 tx g1 h1 n1 l → rN (rfF σ (toksF B L) (uksF B L) tx a t1 n1 g1 h1 σ2) σ3 tx l S0 l.length → Q (some (some (vi (nI tx)))) (sI σ3 4 0 27 (nI (tx + 1)))) : WP D 174 0 [some (vr (some (4, 0))), some (vi a), none, none] [] σ Q := by
  have t31 : tx < 2147483648 := by omega
  obtain ⟨D, rfl⟩ : ∃ D1, D = D1 + 2 := ⟨D - 2, by omega⟩
  refine C174r S ha hL h3 hB hB2 e27 h12 hD ?_
  have ho := @txtP_ok (toksF B L) (uksF B L) (tkOK_B hB2 h3) 11 0 0
  revert q ho
  cases txtP (toksF B L) (uksF B L) 11 0 0 with
  | inl e =>
    obtain ⟨k, p⟩ := e
    intro q ho
    exact q
  | inr l =>
    intro q ho σ2 t1 n1 g1 h1 a2 hn H
    obtain ⟨hl, hall⟩ := ho l (by decide) rfl
    obtain ⟨F, t2, t3, t4, t5⟩ := id H
    have E : rfB (sI (sI σ 4 0 0 0) 64 0 tx 0) B L tx := ⟨⟨S, (mI_sI_k (by decide)).trans ((mI_sI_j (by decide)).trans hL), h3, fun j hj => by rw [mI_sI_k (by decide), mI_sI_k (by decide)]; exact hB j hj, hB2⟩, (mI_sI_k (by decide)).trans ((mI_sI_j (by decide)).trans e27), h12⟩
    have E2 := rfR_B E F
    have S2 : Sh σ2 := E2.1.1
    have f1 : gI σ2 4 0 1 = gI σ 4 0 1 := (F.1 4 (by omega) 0 1).trans ((mI_sI_k (by decide)).trans (mI_sI_j (by decide)))
    have f42 : gI σ2 4 0 42 = nI S0.2 := (F.1 4 (by omega) 0 42).trans ((mI_sI_k (by decide)).trans ((mI_sI_j (by decide)).trans h42))
    have f27 : gI σ2 4 0 27 = nI tx := E2.2.1
    have f75 : ∀ j, gL σ2 75 0 j = S0.1 j := fun j => (F.2.1 75 (by decide) 0 j).trans (h75 j)
    -- the memory where names are numbered
    have eI : ∀ K i j, K ≠ 4 → K ≠ 73 → K ≠ 74 → K ≠ 62 → K ≠ 63 → gI (rfF σ (toksF B L) (uksF B L) tx a t1 n1 g1 h1 σ2) K i j = gI σ2 K i j := fun K i j h4 h73 h74 h62 h63 => by
      unfold rfF
      rw [mI_sI_k h63, mI_sI_k h62, rm_a h4 h73 h74, mI_sI_k h4]
    have e4 : ∀ j, j ≠ 48 → j ≠ 49 → j ≠ 50 → j ≠ 52 → j ≠ 53 → j ≠ 41 → j ≠ 47 → j ≠ 46 → j ≠ 45 → gI (rfF σ (toksF B L) (uksF B L) tx a t1 n1 g1 h1 σ2) 4 0 j = gI σ2 4 0 j := fun j a1 a2 a3 a4 a5 a6 a7 a8 a9 => by
      unfold rfF
      rw [mI_sI_k (by decide), mI_sI_k (by decide)]
      unfold rfM
      rw [rx_4 a1 a2 a3 a4 a5 a6 a7 a8, mI_sI_j a9]
    have eL : ∀ K i j, K ≠ 4 → gL (rfF σ (toksF B L) (uksF B L) tx a t1 n1 g1 h1 σ2) K i j = gL σ2 K i j := fun K i j h4 => by
      unfold rfF
      exact rm_l (σ := sI σ2 4 0 45 0) (T := toksF B L) (U := uksF B L) (t := t1) (op := 0) (n := n1) (g := g1) (h := h1) (k := 0) (p := -1) h4
    have S3 : Sh (rfF σ (toksF B L) (uksF B L) tx a t1 n1 g1 h1 σ2) := S2
    have q2 := q σ2 t1 n1 g1 h1
    have N0 : rN (rfF σ (toksF B L) (uksF B L) tx a t1 n1 g1 h1 σ2) (rfF σ (toksF B L) (uksF B L) tx a t1 n1 g1 h1 σ2) tx l S0 0 := ⟨rfl, fun _ _ _ _ => rfl, fun j => (eL 75 0 j (by decide)).trans (f75 j), (e4 42 (by decide) (by decide) (by decide) (by decide) (by decide) (by decide) (by decide) (by decide) (by decide)).trans f42, fun _ _ _ _ _ => rfl, fun _ _ => rfl, fun s hs => absurd hs (Nat.not_lt_zero _)⟩
    have et : (10 : Int32) * nI tx = nI (10 * tx) := by rw [show (10 : Int32) = nI 10 from rfl, pk_mul]
    have g27 := (e4 27 (by decide) (by decide) (by decide) (by decide) (by decide) (by decide) (by decide) (by decide) (by decide)).trans f27
    have go := fun (a2 : Option aV) => L174n (D := D) (Q := Q) (x1 := a) S3 g27 ((eI 64 0 tx (by decide) (by decide) (by decide) (by decide) (by decide)).trans t4) (fun s r hr => by
      obtain ⟨b1, b2, b3, b4, -⟩ := t5 s r hr
      obtain ⟨x, y, hx⟩ := hall r (List.mem_of_getElem? hr)
      exact ⟨(eI 65 0 _ (by decide) (by decide) (by decide) (by decide) (by decide)).trans b1, hx.2.2.2.2.1, (eI 67 0 _ (by decide) (by decide) (by decide) (by decide) (by decide)).trans b3, fun e => (eL 68 0 _ (by decide)).trans (b4 e)⟩) (by omega) h12 h0 (fun σ3 a2 a3 H3 => by
      have n5 := H3.2.2.2.2.1
      have S := Sh_22 H3.1 S3
      have h27 : gI σ3 4 0 27 = nI tx := (n5 4 0 27 (by decide) (Or.inr (by decide))).trans g27
      have hz := q2 σ3 hn H H3
      have e3 : nI (tx + 1) - 1 = nI tx := nI_pred _
      simp only [S174_187, S174_188, S174_188q, S174_189, S174_192, S174_193, S174_194, S174_197, S174_198, S174_201, S174_202, S174_203, gL_sI, gR_sI, gN_sI, gC_sI, gB_sI, gI_sL, gR_sL, gN_sL, gC_sL, gB_sL, gI_sR, gL_sR, gN_sR, gC_sR, gB_sR, gL_sIr, gR_sIr, gN_sIr, gC_sIr, gB_sIr, gI_sLr, gR_sLr, gN_sLr, gC_sLr, gB_sLr, gI_sRr, gL_sRr, gN_sRr, gC_sRr, gB_sRr, gI_sN, gL_sN, gR_sN, gC_sN, gB_sN, gI_sC, gL_sC, gR_sC, gN_sC, gB_sC, gI_sB, gL_sB, gR_sB, gN_sB, gC_sB, gB_sB, gB_am_mk, gI_am_ml, gL_am_ml, gR_am_ml, gB_am_ml, gI_am_add, gL_am_add, gC_am_add, gB_am_add, gI_am_ins, gL_am_ins, gC_am_ins, gB_am_ins, gI_am_rem, gL_am_rem, gC_am_rem, gB_am_rem, gI_am_thr, gL_am_thr, gR_am_thr, gN_am_thr, gB_am_thr, mI_sI_k, mI_sI_j, mI_sI_b, mI_sI_s, mI_sI_i, mI_sI_c, mL_sL_k, mL_sL_j, mL_sL_b, mL_sL_s, mL_sL_i, mL_sL_c, mR_sR_k, mR_sR_j, mR_sR_b, mR_sR_s, mR_sR_i, mR_sR_c, mI_sIr_k, mI_sIr_s, mI_sIr_i, mL_sLr_k, mL_sLr_s, mL_sLr_i, mR_sRr_k, mR_sRr_s, mR_sRr_i, mN_sN_k, mN_sN_i, mN_am_add_k, mN_am_add_s, mR_am_add_k, mN_am_ins_k, mN_am_ins_s, mR_am_ins_k, mN_am_rem_k, mN_am_rem_s, mR_am_rem_k, mR_am_add_s, mR_am_ins_s, mR_am_rem_s, mI_am_mk_k, mI_am_mk_s, mI_am_mk_i, mL_am_mk_k, mL_am_mk_s, mL_am_mk_i, mR_am_mk_k, mR_am_mk_s, mR_am_mk_i, mN_am_mk_k, mN_am_mk_i, mC_am_mk_k, mC_am_mk_s, mN_am_ml_k, mN_am_ml_i, mC_am_ml_k, mC_am_ml_s, mC_sC_k, mC_am_thr_k, sC_3 S, sC_4 S, sR_4_28 S, sC_62 S, sN_62 S, sR_4_29 S, sC_63 S, sN_63 S, sR_4_30 S, sC_64 S, sN_64 S, sR_4_31 S, sC_65 S, sN_65 S, sR_4_33 S, sC_67 S, sN_67 S, sR_4_34 S, sC_68 S, sN_68 S, k0, k1, k2, k3, k4, k5, k6, k7, k8, k9, k10, k11, k12, k13, k14, k15, k16, k17, k18, k19, k20, k21, k22, k23, k24, k25, k26, k27, k28, k29, k30, k31, k32, k33, k34, k35, k36, k37, k38, k39, k40, k41, k42, k43, k44, k45, k46, k47, k48, k49, k50, k51, k52, k53, k54, k55, k56, k57, k58, k59, k60, k61, k62, k63, k64, k65, k66, k67, k68, k69, k70, k71, k72, k73, k74, k75, k76, k77, k78, k79, k80, k81, k82, k83, k84, k85, k86, k87, k88, k89, k90, k91, k92, k93, k94, k95, k96, k97, k98, k99, k100, h27, nI_add, e3, true_and, and_true, and_self, if_true, if_false, ite_true, ite_false, Nat.lt_irrefl, List.length_nil, List.length_cons, Nat.reduceAdd, Nat.reduceLeDiff, Nat.reduceLT, Nat.reduceEqDiff, Nat.zero_lt_one, not_true, not_false_iff, bI_0, bI_1, ne_eq, reduceCtorEq, false_and, and_false, or_true, true_or, or_false, false_or, Nat.lt_one_iff, eq_self, Nat.zero_le, am_ko_v, am_ko_0, am_kil, Nat.reduceBEq, Int32.reduceLT, Int32.reduceLE, Int32.reduceAdd, Int32.reduceSub, i32_10, i32_01, not_true_eq_false, not_false_eq_true, Classical.not_not, nor_self, Nat.lt_add_one, nI_1, nI_pred, rf_n, i32_m0, i32_m1, reduceIte]
      exact hz) l.length 0 _ a2 (by omega) N0
    unfold rfF at go
    have r27 : gI (rfM (sI σ2 4 0 45 0) (toksF B L) (uksF B L) t1 0 n1 g1 h1 0 (-1)) 4 0 27 = nI tx := f27
    have r1 : gI (rfM (sI σ2 4 0 45 0) (toksF B L) (uksF B L) t1 0 n1 g1 h1 0 (-1)) 4 0 1 = gI σ 4 0 1 := f1
    have S := S2
    simp only [S174_102, S174_103, S174_106, S174_107, S174_110, S174_111, S174_114, S174_115, S174_116, S174_119, S174_120, S174_123, S174_124, S174_125, S174_127, S174_128, S174_131, S174_132, gL_sI, gR_sI, gN_sI, gC_sI, gB_sI, gI_sL, gR_sL, gN_sL, gC_sL, gB_sL, gI_sR, gL_sR, gN_sR, gC_sR, gB_sR, gL_sIr, gR_sIr, gN_sIr, gC_sIr, gB_sIr, gI_sLr, gR_sLr, gN_sLr, gC_sLr, gB_sLr, gI_sRr, gL_sRr, gN_sRr, gC_sRr, gB_sRr, gI_sN, gL_sN, gR_sN, gC_sN, gB_sN, gI_sC, gL_sC, gR_sC, gN_sC, gB_sC, gI_sB, gL_sB, gR_sB, gN_sB, gC_sB, gB_sB, gB_am_mk, gI_am_ml, gL_am_ml, gR_am_ml, gB_am_ml, gI_am_add, gL_am_add, gC_am_add, gB_am_add, gI_am_ins, gL_am_ins, gC_am_ins, gB_am_ins, gI_am_rem, gL_am_rem, gC_am_rem, gB_am_rem, gI_am_thr, gL_am_thr, gR_am_thr, gN_am_thr, gB_am_thr, mI_sI_k, mI_sI_j, mI_sI_b, mI_sI_s, mI_sI_i, mI_sI_c, mL_sL_k, mL_sL_j, mL_sL_b, mL_sL_s, mL_sL_i, mL_sL_c, mR_sR_k, mR_sR_j, mR_sR_b, mR_sR_s, mR_sR_i, mR_sR_c, mI_sIr_k, mI_sIr_s, mI_sIr_i, mL_sLr_k, mL_sLr_s, mL_sLr_i, mR_sRr_k, mR_sRr_s, mR_sRr_i, mN_sN_k, mN_sN_i, mN_am_add_k, mN_am_add_s, mR_am_add_k, mN_am_ins_k, mN_am_ins_s, mR_am_ins_k, mN_am_rem_k, mN_am_rem_s, mR_am_rem_k, mR_am_add_s, mR_am_ins_s, mR_am_rem_s, mI_am_mk_k, mI_am_mk_s, mI_am_mk_i, mL_am_mk_k, mL_am_mk_s, mL_am_mk_i, mR_am_mk_k, mR_am_mk_s, mR_am_mk_i, mN_am_mk_k, mN_am_mk_i, mC_am_mk_k, mC_am_mk_s, mN_am_ml_k, mN_am_ml_i, mC_am_ml_k, mC_am_ml_s, mC_sC_k, mC_am_thr_k, sC_3 S, sC_4 S, sR_4_28 S, sC_62 S, sN_62 S, sR_4_29 S, sC_63 S, sN_63 S, sR_4_30 S, sC_64 S, sN_64 S, sR_4_31 S, sC_65 S, sN_65 S, sR_4_33 S, sC_67 S, sN_67 S, sR_4_34 S, sC_68 S, sN_68 S, k0, k1, k2, k3, k4, k5, k6, k7, k8, k9, k10, k11, k12, k13, k14, k15, k16, k17, k18, k19, k20, k21, k22, k23, k24, k25, k26, k27, k28, k29, k30, k31, k32, k33, k34, k35, k36, k37, k38, k39, k40, k41, k42, k43, k44, k45, k46, k47, k48, k49, k50, k51, k52, k53, k54, k55, k56, k57, k58, k59, k60, k61, k62, k63, k64, k65, k66, k67, k68, k69, k70, k71, k72, k73, k74, k75, k76, k77, k78, k79, k80, k81, k82, k83, k84, k85, k86, k87, k88, k89, k90, k91, k92, k93, k94, k95, k96, k97, k98, k99, k100, rm_R, rm_C, rm_N, r27, r1, et, ini_iff t31, nI_clamp t31, h12, true_and, and_true, and_self, if_true, if_false, ite_true, ite_false, Nat.lt_irrefl, List.length_nil, List.length_cons, Nat.reduceAdd, Nat.reduceLeDiff, Nat.reduceLT, Nat.reduceEqDiff, Nat.zero_lt_one, not_true, not_false_iff, bI_0, bI_1, ne_eq, reduceCtorEq, false_and, and_false, or_true, true_or, or_false, false_or, Nat.lt_one_iff, eq_self, Nat.zero_le, am_ko_v, am_ko_0, am_kil, Nat.reduceBEq, Int32.reduceLT, Int32.reduceLE, Int32.reduceAdd, Int32.reduceSub, i32_10, i32_01, not_true_eq_false, not_false_eq_true, Classical.not_not, nor_self, Nat.lt_add_one, nI_1, nI_pred, rf_n, i32_m0, i32_m1, reduceIte]
    exact go _
end RTT
