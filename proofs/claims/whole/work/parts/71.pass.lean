/-- the class's memory with other passedFor of all PERSONS -/
def psM (σ : aM) (f : Nat → Int32) : aM := (fun a b c => if a = 34 ∧ c = 19 then f b else σ.1 a b c, σ.2)
def upP (f : Nat → Int32) (j : Nat) (v : Int32) : Nat → Int32 := fun b => if b = j then v else f b
section PSM
variable {σ : aM} {f : Nat → Int32} {v : Int32} {a b c j : Nat}
theorem psM_s : sI (psM σ f) 34 j 19 v = psM σ (upP f j v) := by
  unfold psM sI am_u3 upP
  refine Prod.ext ?_ rfl
  funext a b c
  dsimp only
  by_cases h : a = 34 ∧ c = 19
  · by_cases hj : b = j
    · rw [if_pos ⟨h.1, hj, h.2⟩, if_pos h, if_pos hj]
    · rw [if_neg (fun q => hj q.2.1), if_pos h, if_pos h, if_neg hj]
  · rw [if_neg (fun q => h ⟨q.1, q.2.2⟩), if_neg h, if_neg h]
theorem psM_0 : psM σ (fun b => gI σ 34 b 19) = σ := by
  unfold psM gI
  refine Prod.ext ?_ rfl
  funext a b c
  dsimp only
  by_cases h : a = 34 ∧ c = 19
  · rw [if_pos h, h.1, h.2]
  · rw [if_neg h]
theorem psM_Ik (h : a ≠ 34) : gI (psM σ f) a b c = gI σ a b c := if_neg (fun q => h q.1)
theorem psM_Ic (h : c ≠ 19) : gI (psM σ f) 34 b c = gI σ 34 b c := if_neg (fun q => h q.2)
theorem psM_I : gI (psM σ f) 34 b 19 = f b := by
  show (if 34 = 34 ∧ 19 = 19 then f b else gI σ 34 b 19) = _
  exact if_pos ⟨rfl, rfl⟩
theorem psM_L : gL (psM σ f) a b c = gL σ a b c := rfl
theorem psM_R : gR (psM σ f) a b c = gR σ a b c := rfl
theorem psM_N : gN (psM σ f) a b = gN σ a b := rfl
theorem psM_C : gC (psM σ f) a = gC σ a := rfl
theorem psM_B : gB (psM σ f) = gB σ := rfl
end PSM
/-- who was PASSED OVER, behind the first i of THE QUEUE -/
def pasF (σ : aM) (h : Nat) (f0 : Nat → Int32) : Nat → Nat → Int32
  | 0 => f0
  | i + 1 => upP (pasF σ h f0 i) (gI σ 87 0 i).toNatClampNeg (if 2 * gI σ 58 0 h < gI σ 41 0 (gI σ 87 0 i).toNatClampNeg then 1 else 2)
section PASS
variable {d n : Nat} {σ : aM} {Q : aR → aM → Prop}
theorem L104a {pl : Int32} {h : Nat} (I : Inv n σ) : ∀ k i (a4 : Option aV), i + k = gN σ 21 0 → WP (d + 1) 104 36 [some (vr (some (3, 0))), some (vr (some (35, h))), some (vi pl), some (vi 0), a4] [] (psM σ (fun b => if b < gN σ 21 0 then 0 else gI σ 34 b 19)) Q → WP (d + 1) 104 2 [some (vr (some (3, 0))), some (vr (some (35, h))), some (vi pl), some (vi (nI i)), a4] [] (psM σ (fun b => if b < i then 0 else gI σ 34 b 19)) Q := by
  (obtain ⟨S, bP, bM, bH, bQ, bD, bT, bX, bO, bW, bG, bS, bF, bU⟩ := id I); (obtain ⟨s3, s4, s29, s30, s28, sC, sN, s33⟩ := id S); (obtain ⟨p_c, p_60, p_n, p_r, p_0, p_1, p_2, p_3, p_4, p_5, p_6, p_7, p_8, p_9, p_10, p_11, p_13, p_19, p_12, p_17, p_16, p_14, p_z, p_hd, p_ho, p_lh, p_pay, p_wp, p_sc, p_ml⟩ := id bP)
  intro k
  induction k with
  | zero =>
    intro i a4 hi hq
    have c1 : ¬ nI i < nI (gN σ 21 0) := nI_nlt (by omega) (by omega)
    obtain rfl : i = gN σ 21 0 := by omega
    rw [S104_2]
    simp only [S104_0, S104_1, S104_3, S104_4, S104_7, S104_10, S104_13, S104_14, S104_17, S104_18, S104_21n, S104_21, S104_24, S104_25, S104_28, S104_31, S104_34, S104_35, gL_sI, gR_sI, gN_sI, gC_sI, gB_sI, gI_sL, gR_sL, gN_sL, gC_sL, gB_sL, gI_sR, gL_sR, gN_sR, gC_sR, gB_sR, gL_sIr, gR_sIr, gN_sIr, gC_sIr, gB_sIr, gI_sLr, gR_sLr, gN_sLr, gC_sLr, gB_sLr, gI_sRr, gL_sRr, gN_sRr, gC_sRr, gB_sRr, gI_sN, gL_sN, gR_sN, gC_sN, gB_sN, gI_sC, gL_sC, gR_sC, gN_sC, gB_sC, gI_sB, gL_sB, gR_sB, gN_sB, gC_sB, gB_sB, gB_am_mk, gI_am_ml, gL_am_ml, gR_am_ml, gB_am_ml, gI_am_add, gL_am_add, gC_am_add, gB_am_add, gI_am_ins, gL_am_ins, gC_am_ins, gB_am_ins, gI_am_rem, gL_am_rem, gC_am_rem, gB_am_rem, gI_am_thr, gL_am_thr, gR_am_thr, gN_am_thr, gB_am_thr, mI_sI_k, mI_sI_j, mI_sI_b, mI_sI_s, mI_sI_i, mI_sI_c, mL_sL_k, mL_sL_j, mL_sL_b, mL_sL_s, mL_sL_i, mL_sL_c, mR_sR_k, mR_sR_j, mR_sR_b, mR_sR_s, mR_sR_i, mR_sR_c, mI_sIr_k, mI_sIr_s, mI_sIr_i, mL_sLr_k, mL_sLr_s, mL_sLr_i, mR_sRr_k, mR_sRr_s, mR_sRr_i, mN_sN_k, mN_sN_i, mN_am_add_k, mN_am_add_s, mR_am_add_k, mN_am_ins_k, mN_am_ins_s, mR_am_ins_k, mN_am_rem_k, mN_am_rem_s, mR_am_rem_k, mR_am_add_s, mR_am_ins_s, mR_am_rem_s, mI_am_mk_k, mI_am_mk_s, mI_am_mk_i, mL_am_mk_k, mL_am_mk_s, mL_am_mk_i, mR_am_mk_k, mR_am_mk_s, mR_am_mk_i, mN_am_mk_k, mN_am_mk_i, mC_am_mk_k, mC_am_mk_s, mN_am_ml_k, mN_am_ml_i, mC_am_ml_k, mC_am_ml_s, mC_sC_k, mC_am_thr_k, sC_3 S, sC_4 S, sR_3_0 S, sC_21 S, sR_3_2 S, sC_23 S, k0, k1, k2, k3, k4, k5, k6, k7, k8, k9, k10, k11, k12, k13, k14, k15, k16, k17, k18, k19, k20, k21, k22, k23, k24, k25, k26, k27, k28, k29, k30, k31, k32, k33, k34, k35, k36, k37, k38, k39, k40, k41, k42, k43, k44, k45, k46, k47, k48, k49, k50, k51, k52, k53, k54, k55, k56, k57, k58, k59, k60, k61, k62, k63, k64, k65, k66, k67, k68, k69, k70, k71, k72, k73, k74, k75, k76, k77, k78, k79, k80, k81, k82, k83, k84, k85, k86, k87, k88, k89, k90, k91, k92, k93, k94, k95, k96, k97, k98, k99, k100, c1, psM_R, psM_N, psM_C, true_and, and_true, and_self, if_true, if_false, ite_true, ite_false, Nat.lt_irrefl, List.length_nil, List.length_cons, Nat.reduceAdd, Nat.reduceLeDiff, Nat.reduceLT, Nat.reduceEqDiff, Nat.zero_lt_one, not_true, not_false_iff, bI_0, bI_1, ne_eq, reduceCtorEq, false_and, and_false, or_true, true_or, or_false, false_or, Nat.lt_one_iff, eq_self, Nat.zero_le, am_ko_v, am_ko_0, am_kil, Nat.reduceBEq, Int32.reduceLT, Int32.reduceLE, Int32.reduceAdd, Int32.reduceSub, i32_10, i32_01, not_true_eq_false, not_false_eq_true, Classical.not_not, nor_self, Nat.lt_add_one, nI_1, nI_pred, rf_n, i32_m0, i32_m1, reduceIte]
    exact hq
  | succ k ih =>
    intro i a4 hi hq
    have c1 : nI i < nI (gN σ 21 0) := nI_lt (by omega) (by omega)
    have i31 : i < 2147483648 := by omega
    have iP : i < gN σ 21 0 := by omega
    have := ih (i + 1) a4 (by omega) hq
    have e : upP (fun b => if b < i then 0 else gI σ 34 b 19) i 0 = fun b => if b < i + 1 then 0 else gI σ 34 b 19 := by
      funext b
      show (if b = i then (0 : Int32) else if b < i then 0 else gI σ 34 b 19) = if b < i + 1 then 0 else gI σ 34 b 19
      by_cases c : b = i
      · rw [if_pos c, if_pos (by omega)]
      · rw [if_neg c]
        by_cases c2 : b < i
        · rw [if_pos c2, if_pos (by omega)]
        · rw [if_neg c2, if_neg (by omega)]
    rw [S104_2]
    simp only [S104_0, S104_1, S104_3, S104_4, S104_7, S104_10, S104_13, S104_14, S104_17, S104_18, S104_21n, S104_21, S104_24, S104_25, S104_28, S104_31, S104_34, S104_35, gL_sI, gR_sI, gN_sI, gC_sI, gB_sI, gI_sL, gR_sL, gN_sL, gC_sL, gB_sL, gI_sR, gL_sR, gN_sR, gC_sR, gB_sR, gL_sIr, gR_sIr, gN_sIr, gC_sIr, gB_sIr, gI_sLr, gR_sLr, gN_sLr, gC_sLr, gB_sLr, gI_sRr, gL_sRr, gN_sRr, gC_sRr, gB_sRr, gI_sN, gL_sN, gR_sN, gC_sN, gB_sN, gI_sC, gL_sC, gR_sC, gN_sC, gB_sC, gI_sB, gL_sB, gR_sB, gN_sB, gC_sB, gB_sB, gB_am_mk, gI_am_ml, gL_am_ml, gR_am_ml, gB_am_ml, gI_am_add, gL_am_add, gC_am_add, gB_am_add, gI_am_ins, gL_am_ins, gC_am_ins, gB_am_ins, gI_am_rem, gL_am_rem, gC_am_rem, gB_am_rem, gI_am_thr, gL_am_thr, gR_am_thr, gN_am_thr, gB_am_thr, mI_sI_k, mI_sI_j, mI_sI_b, mI_sI_s, mI_sI_i, mI_sI_c, mL_sL_k, mL_sL_j, mL_sL_b, mL_sL_s, mL_sL_i, mL_sL_c, mR_sR_k, mR_sR_j, mR_sR_b, mR_sR_s, mR_sR_i, mR_sR_c, mI_sIr_k, mI_sIr_s, mI_sIr_i, mL_sLr_k, mL_sLr_s, mL_sLr_i, mR_sRr_k, mR_sRr_s, mR_sRr_i, mN_sN_k, mN_sN_i, mN_am_add_k, mN_am_add_s, mR_am_add_k, mN_am_ins_k, mN_am_ins_s, mR_am_ins_k, mN_am_rem_k, mN_am_rem_s, mR_am_rem_k, mR_am_add_s, mR_am_ins_s, mR_am_rem_s, mI_am_mk_k, mI_am_mk_s, mI_am_mk_i, mL_am_mk_k, mL_am_mk_s, mL_am_mk_i, mR_am_mk_k, mR_am_mk_s, mR_am_mk_i, mN_am_mk_k, mN_am_mk_i, mC_am_mk_k, mC_am_mk_s, mN_am_ml_k, mN_am_ml_i, mC_am_ml_k, mC_am_ml_s, mC_sC_k, mC_am_thr_k, sC_3 S, sC_4 S, sR_3_0 S, sC_21 S, sR_3_2 S, sC_23 S, k0, k1, k2, k3, k4, k5, k6, k7, k8, k9, k10, k11, k12, k13, k14, k15, k16, k17, k18, k19, k20, k21, k22, k23, k24, k25, k26, k27, k28, k29, k30, k31, k32, k33, k34, k35, k36, k37, k38, k39, k40, k41, k42, k43, k44, k45, k46, k47, k48, k49, k50, k51, k52, k53, k54, k55, k56, k57, k58, k59, k60, k61, k62, k63, k64, k65, k66, k67, k68, k69, k70, k71, k72, k73, k74, k75, k76, k77, k78, k79, k80, k81, k82, k83, k84, k85, k86, k87, k88, k89, k90, k91, k92, k93, k94, k95, k96, k97, k98, k99, k100, c1, psM_R, psM_N, psM_C, p_r, p_c, iP, ini_iff i31, nI_clamp i31, psM_s, e, true_and, and_true, and_self, if_true, if_false, ite_true, ite_false, Nat.lt_irrefl, List.length_nil, List.length_cons, Nat.reduceAdd, Nat.reduceLeDiff, Nat.reduceLT, Nat.reduceEqDiff, Nat.zero_lt_one, not_true, not_false_iff, bI_0, bI_1, ne_eq, reduceCtorEq, false_and, and_false, or_true, true_or, or_false, false_or, Nat.lt_one_iff, eq_self, Nat.zero_le, am_ko_v, am_ko_0, am_kil, Nat.reduceBEq, Int32.reduceLT, Int32.reduceLE, Int32.reduceAdd, Int32.reduceSub, i32_10, i32_01, not_true_eq_false, not_false_eq_true, Classical.not_not, nor_self, Nat.lt_add_one, nI_1, nI_pred, rf_n, i32_m0, i32_m1, reduceIte]
    exact this
theorem L104b {h j : Nat} {f0 : Nat → Int32} (I : Inv n σ) (hh : h < gN σ 22 0) (hj : j ≤ gN σ 23 0) : ∀ k i (a4 : Option aV), i + k = j → Q (some none) (psM σ (pasF σ h f0 j)) → WP (d + 1) 104 36 [some (vr (some (3, 0))), some (vr (some (35, h))), some (vi (nI j)), some (vi (nI i)), a4] [] (psM σ (pasF σ h f0 i)) Q := by
  (obtain ⟨S, bP, bM, bH, bQ, bD, bT, bX, bO, bW, bG, bS, bF, bU⟩ := id I); (obtain ⟨s3, s4, s29, s30, s28, sC, sN, s33⟩ := id S); (obtain ⟨p_c, p_60, p_n, p_r, p_0, p_1, p_2, p_3, p_4, p_5, p_6, p_7, p_8, p_9, p_10, p_11, p_13, p_19, p_12, p_17, p_16, p_14, p_z, p_hd, p_ho, p_lh, p_pay, p_wp, p_sc, p_ml⟩ := id bP); (obtain ⟨q_n, q_e, q_d⟩ := id bQ); (obtain ⟨h_c, h_30, h_n, h_r, h_0, h_1, h_2, h_3, h_4, h_5, h_6, h_60, h_b, h_z, h_v, h_ho, h_st, h_rm⟩ := id bH)
  have ql := q_le bQ p_60
  intro k
  induction k with
  | zero =>
    intro i a4 hi hq
    have c1 : ¬ nI i < nI j := nI_nlt (by omega) (by omega)
    obtain rfl : i = j := by omega
    rw [S104_36]
    simp only [S104_0, S104_1, S104_3, S104_4, S104_7, S104_10, S104_13, S104_14, S104_17, S104_18, S104_21n, S104_21, S104_24, S104_25, S104_28, S104_31, S104_34, S104_35, S104_37, S104_38, S104_41, S104_42, S104_43, S104_46, S104_49, S104_52, S104_53, S104_56, S104_57, S104_60n, S104_60, S104_63, S104_65, S104_67, S104_68, S104_70, S104_73, S104_76, S104_77, S104_80, S104_81, S104_84, S104_87, S104_90, gL_sI, gR_sI, gN_sI, gC_sI, gB_sI, gI_sL, gR_sL, gN_sL, gC_sL, gB_sL, gI_sR, gL_sR, gN_sR, gC_sR, gB_sR, gL_sIr, gR_sIr, gN_sIr, gC_sIr, gB_sIr, gI_sLr, gR_sLr, gN_sLr, gC_sLr, gB_sLr, gI_sRr, gL_sRr, gN_sRr, gC_sRr, gB_sRr, gI_sN, gL_sN, gR_sN, gC_sN, gB_sN, gI_sC, gL_sC, gR_sC, gN_sC, gB_sC, gI_sB, gL_sB, gR_sB, gN_sB, gC_sB, gB_sB, gB_am_mk, gI_am_ml, gL_am_ml, gR_am_ml, gB_am_ml, gI_am_add, gL_am_add, gC_am_add, gB_am_add, gI_am_ins, gL_am_ins, gC_am_ins, gB_am_ins, gI_am_rem, gL_am_rem, gC_am_rem, gB_am_rem, gI_am_thr, gL_am_thr, gR_am_thr, gN_am_thr, gB_am_thr, mI_sI_k, mI_sI_j, mI_sI_b, mI_sI_s, mI_sI_i, mI_sI_c, mL_sL_k, mL_sL_j, mL_sL_b, mL_sL_s, mL_sL_i, mL_sL_c, mR_sR_k, mR_sR_j, mR_sR_b, mR_sR_s, mR_sR_i, mR_sR_c, mI_sIr_k, mI_sIr_s, mI_sIr_i, mL_sLr_k, mL_sLr_s, mL_sLr_i, mR_sRr_k, mR_sRr_s, mR_sRr_i, mN_sN_k, mN_sN_i, mN_am_add_k, mN_am_add_s, mR_am_add_k, mN_am_ins_k, mN_am_ins_s, mR_am_ins_k, mN_am_rem_k, mN_am_rem_s, mR_am_rem_k, mR_am_add_s, mR_am_ins_s, mR_am_rem_s, mI_am_mk_k, mI_am_mk_s, mI_am_mk_i, mL_am_mk_k, mL_am_mk_s, mL_am_mk_i, mR_am_mk_k, mR_am_mk_s, mR_am_mk_i, mN_am_mk_k, mN_am_mk_i, mC_am_mk_k, mC_am_mk_s, mN_am_ml_k, mN_am_ml_i, mC_am_ml_k, mC_am_ml_s, mC_sC_k, mC_am_thr_k, sC_3 S, sC_4 S, sR_3_0 S, sC_21 S, sR_3_2 S, sC_23 S, k0, k1, k2, k3, k4, k5, k6, k7, k8, k9, k10, k11, k12, k13, k14, k15, k16, k17, k18, k19, k20, k21, k22, k23, k24, k25, k26, k27, k28, k29, k30, k31, k32, k33, k34, k35, k36, k37, k38, k39, k40, k41, k42, k43, k44, k45, k46, k47, k48, k49, k50, k51, k52, k53, k54, k55, k56, k57, k58, k59, k60, k61, k62, k63, k64, k65, k66, k67, k68, k69, k70, k71, k72, k73, k74, k75, k76, k77, k78, k79, k80, k81, k82, k83, k84, k85, k86, k87, k88, k89, k90, k91, k92, k93, k94, k95, k96, k97, k98, k99, k100, c1, true_and, and_true, and_self, if_true, if_false, ite_true, ite_false, Nat.lt_irrefl, List.length_nil, List.length_cons, Nat.reduceAdd, Nat.reduceLeDiff, Nat.reduceLT, Nat.reduceEqDiff, Nat.zero_lt_one, not_true, not_false_iff, bI_0, bI_1, ne_eq, reduceCtorEq, false_and, and_false, or_true, true_or, or_false, false_or, Nat.lt_one_iff, eq_self, Nat.zero_le, am_ko_v, am_ko_0, am_kil, Nat.reduceBEq, Int32.reduceLT, Int32.reduceLE, Int32.reduceAdd, Int32.reduceSub, i32_10, i32_01, not_true_eq_false, not_false_eq_true, Classical.not_not, nor_self, Nat.lt_add_one, nI_1, nI_pred, rf_n, i32_m0, i32_m1, reduceIte]
    exact hq
  | succ k ih =>
    intro i a4 hi hq
    have c1 : nI i < nI j := nI_lt (by omega) (by omega)
    have c2 : nI i < nI (gN σ 23 0) := nI_lt (by omega) (by omega)
    have i31 : i < 2147483648 := by omega
    have iQ : i < gN σ 23 0 := by omega
    obtain ⟨p, g1, g2, g3, g4⟩ := q_e i iQ
    have pc : (gI σ 87 0 i).toNatClampNeg = p := by rw [g2]; exact nI_clamp (by omega)
    have := fun a4 => ih (i + 1) a4 (by omega) hq
    unfold pasF at this
    rw [pc] at this
    rw [S104_36]
    by_cases c : 2 * gI σ 58 0 h < gI σ 41 0 p
    · rw [if_pos c] at this
      simp only [S104_0, S104_1, S104_3, S104_4, S104_7, S104_10, S104_13, S104_14, S104_17, S104_18, S104_21n, S104_21, S104_24, S104_25, S104_28, S104_31, S104_34, S104_35, S104_37, S104_38, S104_41, S104_42, S104_43, S104_46, S104_49, S104_52, S104_53, S104_56, S104_57, S104_60n, S104_60, S104_63, S104_65, S104_67, S104_68, S104_70, S104_73, S104_76, S104_77, S104_80, S104_81, S104_84, S104_87, S104_90, S7_0, S7_1, S7_4, S7_5, S7_6, S7_9, S7_10, S7_13, S7_14, S7_17, S7_18, gL_sI, gR_sI, gN_sI, gC_sI, gB_sI, gI_sL, gR_sL, gN_sL, gC_sL, gB_sL, gI_sR, gL_sR, gN_sR, gC_sR, gB_sR, gL_sIr, gR_sIr, gN_sIr, gC_sIr, gB_sIr, gI_sLr, gR_sLr, gN_sLr, gC_sLr, gB_sLr, gI_sRr, gL_sRr, gN_sRr, gC_sRr, gB_sRr, gI_sN, gL_sN, gR_sN, gC_sN, gB_sN, gI_sC, gL_sC, gR_sC, gN_sC, gB_sC, gI_sB, gL_sB, gR_sB, gN_sB, gC_sB, gB_sB, gB_am_mk, gI_am_ml, gL_am_ml, gR_am_ml, gB_am_ml, gI_am_add, gL_am_add, gC_am_add, gB_am_add, gI_am_ins, gL_am_ins, gC_am_ins, gB_am_ins, gI_am_rem, gL_am_rem, gC_am_rem, gB_am_rem, gI_am_thr, gL_am_thr, gR_am_thr, gN_am_thr, gB_am_thr, mI_sI_k, mI_sI_j, mI_sI_b, mI_sI_s, mI_sI_i, mI_sI_c, mL_sL_k, mL_sL_j, mL_sL_b, mL_sL_s, mL_sL_i, mL_sL_c, mR_sR_k, mR_sR_j, mR_sR_b, mR_sR_s, mR_sR_i, mR_sR_c, mI_sIr_k, mI_sIr_s, mI_sIr_i, mL_sLr_k, mL_sLr_s, mL_sLr_i, mR_sRr_k, mR_sRr_s, mR_sRr_i, mN_sN_k, mN_sN_i, mN_am_add_k, mN_am_add_s, mR_am_add_k, mN_am_ins_k, mN_am_ins_s, mR_am_ins_k, mN_am_rem_k, mN_am_rem_s, mR_am_rem_k, mR_am_add_s, mR_am_ins_s, mR_am_rem_s, mI_am_mk_k, mI_am_mk_s, mI_am_mk_i, mL_am_mk_k, mL_am_mk_s, mL_am_mk_i, mR_am_mk_k, mR_am_mk_s, mR_am_mk_i, mN_am_mk_k, mN_am_mk_i, mC_am_mk_k, mC_am_mk_s, mN_am_ml_k, mN_am_ml_i, mC_am_ml_k, mC_am_ml_s, mC_sC_k, mC_am_thr_k, sC_3 S, sC_4 S, sR_3_0 S, sC_21 S, sR_3_2 S, sC_23 S, k0, k1, k2, k3, k4, k5, k6, k7, k8, k9, k10, k11, k12, k13, k14, k15, k16, k17, k18, k19, k20, k21, k22, k23, k24, k25, k26, k27, k28, k29, k30, k31, k32, k33, k34, k35, k36, k37, k38, k39, k40, k41, k42, k43, k44, k45, k46, k47, k48, k49, k50, k51, k52, k53, k54, k55, k56, k57, k58, k59, k60, k61, k62, k63, k64, k65, k66, k67, k68, k69, k70, k71, k72, k73, k74, k75, k76, k77, k78, k79, k80, k81, k82, k83, k84, k85, k86, k87, k88, k89, k90, k91, k92, k93, k94, k95, k96, k97, k98, k99, k100, c1, c2, psM_R, psM_N, psM_C, psM_Ic, psM_Ik, p_c, g1, g3, iQ, h_c, hh, p_1, h_1, c, ini_iff i31, nI_clamp i31, psM_s, true_and, and_true, and_self, if_true, if_false, ite_true, ite_false, Nat.lt_irrefl, List.length_nil, List.length_cons, Nat.reduceAdd, Nat.reduceLeDiff, Nat.reduceLT, Nat.reduceEqDiff, Nat.zero_lt_one, not_true, not_false_iff, bI_0, bI_1, ne_eq, reduceCtorEq, false_and, and_false, or_true, true_or, or_false, false_or, Nat.lt_one_iff, eq_self, Nat.zero_le, am_ko_v, am_ko_0, am_kil, Nat.reduceBEq, Int32.reduceLT, Int32.reduceLE, Int32.reduceAdd, Int32.reduceSub, i32_10, i32_01, not_true_eq_false, not_false_eq_true, Classical.not_not, nor_self, Nat.lt_add_one, nI_1, nI_pred, rf_n, i32_m0, i32_m1, reduceIte]
      exact this _
    · rw [if_neg c] at this
      simp only [S104_0, S104_1, S104_3, S104_4, S104_7, S104_10, S104_13, S104_14, S104_17, S104_18, S104_21n, S104_21, S104_24, S104_25, S104_28, S104_31, S104_34, S104_35, S104_37, S104_38, S104_41, S104_42, S104_43, S104_46, S104_49, S104_52, S104_53, S104_56, S104_57, S104_60n, S104_60, S104_63, S104_65, S104_67, S104_68, S104_70, S104_73, S104_76, S104_77, S104_80, S104_81, S104_84, S104_87, S104_90, S7_0, S7_1, S7_4, S7_5, S7_6, S7_9, S7_10, S7_13, S7_14, S7_17, S7_18, gL_sI, gR_sI, gN_sI, gC_sI, gB_sI, gI_sL, gR_sL, gN_sL, gC_sL, gB_sL, gI_sR, gL_sR, gN_sR, gC_sR, gB_sR, gL_sIr, gR_sIr, gN_sIr, gC_sIr, gB_sIr, gI_sLr, gR_sLr, gN_sLr, gC_sLr, gB_sLr, gI_sRr, gL_sRr, gN_sRr, gC_sRr, gB_sRr, gI_sN, gL_sN, gR_sN, gC_sN, gB_sN, gI_sC, gL_sC, gR_sC, gN_sC, gB_sC, gI_sB, gL_sB, gR_sB, gN_sB, gC_sB, gB_sB, gB_am_mk, gI_am_ml, gL_am_ml, gR_am_ml, gB_am_ml, gI_am_add, gL_am_add, gC_am_add, gB_am_add, gI_am_ins, gL_am_ins, gC_am_ins, gB_am_ins, gI_am_rem, gL_am_rem, gC_am_rem, gB_am_rem, gI_am_thr, gL_am_thr, gR_am_thr, gN_am_thr, gB_am_thr, mI_sI_k, mI_sI_j, mI_sI_b, mI_sI_s, mI_sI_i, mI_sI_c, mL_sL_k, mL_sL_j, mL_sL_b, mL_sL_s, mL_sL_i, mL_sL_c, mR_sR_k, mR_sR_j, mR_sR_b, mR_sR_s, mR_sR_i, mR_sR_c, mI_sIr_k, mI_sIr_s, mI_sIr_i, mL_sLr_k, mL_sLr_s, mL_sLr_i, mR_sRr_k, mR_sRr_s, mR_sRr_i, mN_sN_k, mN_sN_i, mN_am_add_k, mN_am_add_s, mR_am_add_k, mN_am_ins_k, mN_am_ins_s, mR_am_ins_k, mN_am_rem_k, mN_am_rem_s, mR_am_rem_k, mR_am_add_s, mR_am_ins_s, mR_am_rem_s, mI_am_mk_k, mI_am_mk_s, mI_am_mk_i, mL_am_mk_k, mL_am_mk_s, mL_am_mk_i, mR_am_mk_k, mR_am_mk_s, mR_am_mk_i, mN_am_mk_k, mN_am_mk_i, mC_am_mk_k, mC_am_mk_s, mN_am_ml_k, mN_am_ml_i, mC_am_ml_k, mC_am_ml_s, mC_sC_k, mC_am_thr_k, sC_3 S, sC_4 S, sR_3_0 S, sC_21 S, sR_3_2 S, sC_23 S, k0, k1, k2, k3, k4, k5, k6, k7, k8, k9, k10, k11, k12, k13, k14, k15, k16, k17, k18, k19, k20, k21, k22, k23, k24, k25, k26, k27, k28, k29, k30, k31, k32, k33, k34, k35, k36, k37, k38, k39, k40, k41, k42, k43, k44, k45, k46, k47, k48, k49, k50, k51, k52, k53, k54, k55, k56, k57, k58, k59, k60, k61, k62, k63, k64, k65, k66, k67, k68, k69, k70, k71, k72, k73, k74, k75, k76, k77, k78, k79, k80, k81, k82, k83, k84, k85, k86, k87, k88, k89, k90, k91, k92, k93, k94, k95, k96, k97, k98, k99, k100, c1, c2, psM_R, psM_N, psM_C, psM_Ic, psM_Ik, p_c, g1, g3, iQ, h_c, hh, p_1, h_1, c, ini_iff i31, nI_clamp i31, psM_s, true_and, and_true, and_self, if_true, if_false, ite_true, ite_false, Nat.lt_irrefl, List.length_nil, List.length_cons, Nat.reduceAdd, Nat.reduceLeDiff, Nat.reduceLT, Nat.reduceEqDiff, Nat.zero_lt_one, not_true, not_false_iff, bI_0, bI_1, ne_eq, reduceCtorEq, false_and, and_false, or_true, true_or, or_false, false_or, Nat.lt_one_iff, eq_self, Nat.zero_le, am_ko_v, am_ko_0, am_kil, Nat.reduceBEq, Int32.reduceLT, Int32.reduceLE, Int32.reduceAdd, Int32.reduceSub, i32_10, i32_01, not_true_eq_false, not_false_eq_true, Classical.not_not, nor_self, Nat.lt_add_one, nI_1, nI_pred, rf_n, i32_m0, i32_m1, reduceIte]
      exact this _
theorem C104 {h j : Nat} (I : Inv n σ) (hh : h < gN σ 22 0) (hj : j ≤ gN σ 23 0) (hq : Q (some none) (psM σ (pasF σ h (fun b => if b < gN σ 21 0 then 0 else gI σ 34 b 19) j))) : WP (d + 1) 104 0 [some (vr (some (3, 0))), some (vr (some (35, h))), some (vi (nI j)), none, none] [] σ Q := by
  have B := L104b (d := d) (Q := Q) (f0 := fun b => if b < gN σ 21 0 then 0 else gI σ 34 b 19) I hh hj j 0 none (by omega) hq
  have A := L104a (d := d) (Q := Q) (pl := nI j) (h := h) I (gN σ 21 0) 0 none (by omega) (by rw [nI_0] at B; exact B)
  have e : (fun b => if b < 0 then 0 else gI σ 34 b 19) = fun b => gI σ 34 b 19 := by
    funext b; rw [if_neg (by omega)]
  rw [e, psM_0, nI_0] at A
  simp only [S104_0, S104_1, am_kil]
  exact A
end PASS
