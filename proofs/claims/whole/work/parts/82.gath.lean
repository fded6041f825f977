def wkM (σ : aM) (f : Nat → Int32) : aM := (fun a b c => if a = 34 ∧ c = 18 then f b else σ.1 a b c, σ.2)
section WKM
variable {σ : aM} {f : Nat → Int32} {v : Int32} {a b c j : Nat}
theorem wkM_s : sI (wkM σ f) 34 j 18 v = wkM σ (upP f j v) := by
  unfold wkM sI am_u3 upP
  refine Prod.ext ?_ rfl
  funext a b c
  dsimp only
  by_cases h : a = 34 ∧ c = 18
  · by_cases hj : b = j
    · rw [if_pos ⟨h.1, hj, h.2⟩, if_pos h, if_pos hj]
    · rw [if_neg (fun q => hj q.2.1), if_pos h, if_pos h, if_neg hj]
  · rw [if_neg (fun q => h ⟨q.1, q.2.2⟩), if_neg h, if_neg h]
theorem wkM_0 : wkM σ (fun b => gI σ 34 b 18) = σ := by
  unfold wkM gI
  refine Prod.ext ?_ rfl
  funext a b c
  dsimp only
  by_cases h : a = 34 ∧ c = 18
  · rw [if_pos h, h.1, h.2]
  · rw [if_neg h]
theorem wkM_Ik (h : a ≠ 34) : gI (wkM σ f) a b c = gI σ a b c := if_neg (fun q => h q.1)
theorem wkM_Ic (h : c ≠ 18) : gI (wkM σ f) 34 b c = gI σ 34 b c := if_neg (fun q => h q.2)
theorem wkM_I : gI (wkM σ f) 34 b 18 = f b := by
  show (if 34 = 34 ∧ 18 = 18 then f b else gI σ 34 b 18) = _
  exact if_pos ⟨rfl, rfl⟩
theorem wkM_L : gL (wkM σ f) a b c = gL σ a b c := rfl
theorem wkM_R : gR (wkM σ f) a b c = gR σ a b c := rfl
theorem wkM_N : gN (wkM σ f) a b = gN σ a b := rfl
theorem wkM_C : gC (wkM σ f) a = gC σ a := rfl
theorem wkM_B : gB (wkM σ f) = gB σ := rfl
end WKM

section AGW
variable {f g h : Nat → Bool} {σ τ : aM} {F : Nat → Int32}
theorem Ag.wkM (hK : f 34 = false) (a : Ag f σ τ) : Ag f σ (wkM τ F) := a.of hK fun K' hne => ⟨fun x y => wkM_Ik hne, fun _ _ => rfl, fun _ _ => rfl, fun _ => rfl, rfl⟩
theorem Ar.wkM (a : Ar f g h σ τ) : Ar f g h σ (wkM τ F) := a
end AGW
def hwF (σ : aM) (w k : Nat) : Nat → Int32 := fun b => if b < gN σ 21 0 then hrF σ b w k else gI σ 34 b 18
section GATH
variable {d n : Nat} {σ : aM} {Q : aR → aM → Prop}
theorem L91a {w : Int32} (S : Sh σ) (bP : BP σ) : ∀ k i (a3 : Option aV), i + k = gN σ 21 0 → WP d 91 36 [some (vr (some (3, 0))), some (vi w), some (vi 0), a3] [] (wkM σ (fun b => if b < gN σ 21 0 then 0 else gI σ 34 b 18)) Q → WP d 91 2 [some (vr (some (3, 0))), some (vi w), some (vi (nI i)), a3] [] (wkM σ (fun b => if b < i then 0 else gI σ 34 b 18)) Q := by
  (obtain ⟨p_c, p_60, p_n, p_r, p_0, p_1, p_2, p_3, p_4, p_5, p_6, p_7, p_8, p_9, p_10, p_11, p_13, p_19, p_12, p_17, p_16, p_14, p_z, p_hd, p_ho, p_lh, p_pay, p_wp, p_sc, p_ml⟩ := id bP)
  intro k
  induction k with
  | zero =>
    intro i a3 hi hq
    have c1 : ¬ nI i < nI (gN σ 21 0) := nI_nlt (by omega) (by omega)
    obtain rfl : i = gN σ 21 0 := by omega
    rw [S91_2]
    simp only [S91_0, S91_1, S91_3, S91_4, S91_7, S91_10, S91_13, S91_14, S91_17, S91_18, S91_21n, S91_21, S91_24, S91_25, S91_28, S91_31, S91_34, S91_35, gL_sI, gR_sI, gN_sI, gC_sI, gB_sI, gI_sL, gR_sL, gN_sL, gC_sL, gB_sL, gI_sR, gL_sR, gN_sR, gC_sR, gB_sR, gL_sIr, gR_sIr, gN_sIr, gC_sIr, gB_sIr, gI_sLr, gR_sLr, gN_sLr, gC_sLr, gB_sLr, gI_sRr, gL_sRr, gN_sRr, gC_sRr, gB_sRr, gI_sN, gL_sN, gR_sN, gC_sN, gB_sN, gI_sC, gL_sC, gR_sC, gN_sC, gB_sC, gI_sB, gL_sB, gR_sB, gN_sB, gC_sB, gB_sB, gB_am_mk, gI_am_ml, gL_am_ml, gR_am_ml, gB_am_ml, gI_am_add, gL_am_add, gC_am_add, gB_am_add, gI_am_ins, gL_am_ins, gC_am_ins, gB_am_ins, gI_am_rem, gL_am_rem, gC_am_rem, gB_am_rem, gI_am_thr, gL_am_thr, gR_am_thr, gN_am_thr, gB_am_thr, mI_sI_k, mI_sI_j, mI_sI_b, mI_sI_s, mI_sI_i, mI_sI_c, mL_sL_k, mL_sL_j, mL_sL_b, mL_sL_s, mL_sL_i, mL_sL_c, mR_sR_k, mR_sR_j, mR_sR_b, mR_sR_s, mR_sR_i, mR_sR_c, mI_sIr_k, mI_sIr_s, mI_sIr_i, mL_sLr_k, mL_sLr_s, mL_sLr_i, mR_sRr_k, mR_sRr_s, mR_sRr_i, mN_sN_k, mN_sN_i, mN_am_add_k, mN_am_add_s, mR_am_add_k, mN_am_ins_k, mN_am_ins_s, mR_am_ins_k, mN_am_rem_k, mN_am_rem_s, mR_am_rem_k, mR_am_add_s, mR_am_ins_s, mR_am_rem_s, mI_am_mk_k, mI_am_mk_s, mI_am_mk_i, mL_am_mk_k, mL_am_mk_s, mL_am_mk_i, mR_am_mk_k, mR_am_mk_s, mR_am_mk_i, mN_am_mk_k, mN_am_mk_i, mC_am_mk_k, mC_am_mk_s, mN_am_ml_k, mN_am_ml_i, mC_am_ml_k, mC_am_ml_s, mC_sC_k, mC_am_thr_k, sC_3 S, sC_4 S, sR_3_0 S, sC_21 S, sR_3_3 S, sC_24 S, k0, k1, k2, k3, k4, k5, k6, k7, k8, k9, k10, k11, k12, k13, k14, k15, k16, k17, k18, k19, k20, k21, k22, k23, k24, k25, k26, k27, k28, k29, k30, k31, k32, k33, k34, k35, k36, k37, k38, k39, k40, k41, k42, k43, k44, k45, k46, k47, k48, k49, k50, k51, k52, k53, k54, k55, k56, k57, k58, k59, k60, k61, k62, k63, k64, k65, k66, k67, k68, k69, k70, k71, k72, k73, k74, k75, k76, k77, k78, k79, k80, k81, k82, k83, k84, k85, k86, k87, k88, k89, k90, k91, k92, k93, k94, k95, k96, k97, k98, k99, k100, c1, wkM_R, wkM_N, wkM_C, true_and, and_true, and_self, if_true, if_false, ite_true, ite_false, Nat.lt_irrefl, List.length_nil, List.length_cons, Nat.reduceAdd, Nat.reduceLeDiff, Nat.reduceLT, Nat.reduceEqDiff, Nat.zero_lt_one, not_true, not_false_iff, bI_0, bI_1, ne_eq, reduceCtorEq, false_and, and_false, or_true, true_or, or_false, false_or, Nat.lt_one_iff, eq_self, Nat.zero_le, am_ko_v, am_ko_0, am_kil, Nat.reduceBEq, Int32.reduceLT, Int32.reduceLE, Int32.reduceAdd, Int32.reduceSub, i32_10, i32_01, not_true_eq_false, not_false_eq_true, Classical.not_not, nor_self, Nat.lt_add_one, nI_1, nI_pred, rf_n, i32_m0, i32_m1, reduceIte]
    exact hq
  | succ k ih =>
    intro i a3 hi hq
    have c1 : nI i < nI (gN σ 21 0) := nI_lt (by omega) (by omega)
    have i31 : i < 2147483648 := by omega
    have iP : i < gN σ 21 0 := by omega
    have := ih (i + 1) a3 (by omega) hq
    have e : upP (fun b => if b < i then 0 else gI σ 34 b 18) i 0 = fun b => if b < i + 1 then 0 else gI σ 34 b 18 := by
      funext b
      show (if b = i then (0 : Int32) else if b < i then 0 else gI σ 34 b 18) = if b < i + 1 then 0 else gI σ 34 b 18
      by_cases c : b = i
      · rw [if_pos c, if_pos (by omega)]
      · rw [if_neg c]
        by_cases c2 : b < i
        · rw [if_pos c2, if_pos (by omega)]
        · rw [if_neg c2, if_neg (by omega)]
    rw [S91_2]
    simp only [S91_0, S91_1, S91_3, S91_4, S91_7, S91_10, S91_13, S91_14, S91_17, S91_18, S91_21n, S91_21, S91_24, S91_25, S91_28, S91_31, S91_34, S91_35, gL_sI, gR_sI, gN_sI, gC_sI, gB_sI, gI_sL, gR_sL, gN_sL, gC_sL, gB_sL, gI_sR, gL_sR, gN_sR, gC_sR, gB_sR, gL_sIr, gR_sIr, gN_sIr, gC_sIr, gB_sIr, gI_sLr, gR_sLr, gN_sLr, gC_sLr, gB_sLr, gI_sRr, gL_sRr, gN_sRr, gC_sRr, gB_sRr, gI_sN, gL_sN, gR_sN, gC_sN, gB_sN, gI_sC, gL_sC, gR_sC, gN_sC, gB_sC, gI_sB, gL_sB, gR_sB, gN_sB, gC_sB, gB_sB, gB_am_mk, gI_am_ml, gL_am_ml, gR_am_ml, gB_am_ml, gI_am_add, gL_am_add, gC_am_add, gB_am_add, gI_am_ins, gL_am_ins, gC_am_ins, gB_am_ins, gI_am_rem, gL_am_rem, gC_am_rem, gB_am_rem, gI_am_thr, gL_am_thr, gR_am_thr, gN_am_thr, gB_am_thr, mI_sI_k, mI_sI_j, mI_sI_b, mI_sI_s, mI_sI_i, mI_sI_c, mL_sL_k, mL_sL_j, mL_sL_b, mL_sL_s, mL_sL_i, mL_sL_c, mR_sR_k, mR_sR_j, mR_sR_b, mR_sR_s, mR_sR_i, mR_sR_c, mI_sIr_k, mI_sIr_s, mI_sIr_i, mL_sLr_k, mL_sLr_s, mL_sLr_i, mR_sRr_k, mR_sRr_s, mR_sRr_i, mN_sN_k, mN_sN_i, mN_am_add_k, mN_am_add_s, mR_am_add_k, mN_am_ins_k, mN_am_ins_s, mR_am_ins_k, mN_am_rem_k, mN_am_rem_s, mR_am_rem_k, mR_am_add_s, mR_am_ins_s, mR_am_rem_s, mI_am_mk_k, mI_am_mk_s, mI_am_mk_i, mL_am_mk_k, mL_am_mk_s, mL_am_mk_i, mR_am_mk_k, mR_am_mk_s, mR_am_mk_i, mN_am_mk_k, mN_am_mk_i, mC_am_mk_k, mC_am_mk_s, mN_am_ml_k, mN_am_ml_i, mC_am_ml_k, mC_am_ml_s, mC_sC_k, mC_am_thr_k, sC_3 S, sC_4 S, sR_3_0 S, sC_21 S, sR_3_3 S, sC_24 S, k0, k1, k2, k3, k4, k5, k6, k7, k8, k9, k10, k11, k12, k13, k14, k15, k16, k17, k18, k19, k20, k21, k22, k23, k24, k25, k26, k27, k28, k29, k30, k31, k32, k33, k34, k35, k36, k37, k38, k39, k40, k41, k42, k43, k44, k45, k46, k47, k48, k49, k50, k51, k52, k53, k54, k55, k56, k57, k58, k59, k60, k61, k62, k63, k64, k65, k66, k67, k68, k69, k70, k71, k72, k73, k74, k75, k76, k77, k78, k79, k80, k81, k82, k83, k84, k85, k86, k87, k88, k89, k90, k91, k92, k93, k94, k95, k96, k97, k98, k99, k100, c1, wkM_R, wkM_N, wkM_C, p_r, p_c, iP, ini_iff i31, nI_clamp i31, wkM_s, e, true_and, and_true, and_self, if_true, if_false, ite_true, ite_false, Nat.lt_irrefl, List.length_nil, List.length_cons, Nat.reduceAdd, Nat.reduceLeDiff, Nat.reduceLT, Nat.reduceEqDiff, Nat.zero_lt_one, not_true, not_false_iff, bI_0, bI_1, ne_eq, reduceCtorEq, false_and, and_false, or_true, true_or, or_false, false_or, Nat.lt_one_iff, eq_self, Nat.zero_le, am_ko_v, am_ko_0, am_kil, Nat.reduceBEq, Int32.reduceLT, Int32.reduceLE, Int32.reduceAdd, Int32.reduceSub, i32_10, i32_01, not_true_eq_false, not_false_eq_true, Classical.not_not, nor_self, Nat.lt_add_one, nI_1, nI_pred, rf_n, i32_m0, i32_m1, reduceIte]
    exact this
theorem L91b {w : Nat} (hw : w < 2147483648) (S : Sh σ) (bP : BP σ) (bO : BO σ) : ∀ k i (a3 : Option aV), i + k = gN σ 24 0 → Q (some none) (wkM σ (hwF σ w (gN σ 24 0))) → WP d 91 36 [some (vr (some (3, 0))), some (vi (nI w)), some (vi (nI i)), a3] [] (wkM σ (hwF σ w i)) Q := by
  (obtain ⟨p_c, p_60, p_n, p_r, p_0, p_1, p_2, p_3, p_4, p_5, p_6, p_7, p_8, p_9, p_10, p_11, p_13, p_19, p_12, p_17, p_16, p_14, p_z, p_hd, p_ho, p_lh, p_pay, p_wp, p_sc, p_ml⟩ := id bP); (obtain ⟨o_c, o_400, o_n, o_r, o_0, o_1, o_2, o_p, o_h⟩ := id bO)
  intro k
  induction k with
  | zero =>
    intro i a3 hi hq
    have c1 : ¬ nI i < nI (gN σ 24 0) := nI_nlt (by omega) (by omega)
    obtain rfl : i = gN σ 24 0 := by omega
    rw [S91_36]
    simp only [S91_0, S91_1, S91_3, S91_4, S91_7, S91_10, S91_13, S91_14, S91_17, S91_18, S91_21n, S91_21, S91_24, S91_25, S91_28, S91_31, S91_34, S91_35, S91_37, S91_38, S91_41, S91_44, S91_47, S91_48, S91_51, S91_52, S91_55n, S91_55, S91_58, S91_59, S91_60, S91_63, S91_64, S91_67, S91_68, S91_71, S91_72, S91_75, S91_78, S91_81, S91_84, gL_sI, gR_sI, gN_sI, gC_sI, gB_sI, gI_sL, gR_sL, gN_sL, gC_sL, gB_sL, gI_sR, gL_sR, gN_sR, gC_sR, gB_sR, gL_sIr, gR_sIr, gN_sIr, gC_sIr, gB_sIr, gI_sLr, gR_sLr, gN_sLr, gC_sLr, gB_sLr, gI_sRr, gL_sRr, gN_sRr, gC_sRr, gB_sRr, gI_sN, gL_sN, gR_sN, gC_sN, gB_sN, gI_sC, gL_sC, gR_sC, gN_sC, gB_sC, gI_sB, gL_sB, gR_sB, gN_sB, gC_sB, gB_sB, gB_am_mk, gI_am_ml, gL_am_ml, gR_am_ml, gB_am_ml, gI_am_add, gL_am_add, gC_am_add, gB_am_add, gI_am_ins, gL_am_ins, gC_am_ins, gB_am_ins, gI_am_rem, gL_am_rem, gC_am_rem, gB_am_rem, gI_am_thr, gL_am_thr, gR_am_thr, gN_am_thr, gB_am_thr, mI_sI_k, mI_sI_j, mI_sI_b, mI_sI_s, mI_sI_i, mI_sI_c, mL_sL_k, mL_sL_j, mL_sL_b, mL_sL_s, mL_sL_i, mL_sL_c, mR_sR_k, mR_sR_j, mR_sR_b, mR_sR_s, mR_sR_i, mR_sR_c, mI_sIr_k, mI_sIr_s, mI_sIr_i, mL_sLr_k, mL_sLr_s, mL_sLr_i, mR_sRr_k, mR_sRr_s, mR_sRr_i, mN_sN_k, mN_sN_i, mN_am_add_k, mN_am_add_s, mR_am_add_k, mN_am_ins_k, mN_am_ins_s, mR_am_ins_k, mN_am_rem_k, mN_am_rem_s, mR_am_rem_k, mR_am_add_s, mR_am_ins_s, mR_am_rem_s, mI_am_mk_k, mI_am_mk_s, mI_am_mk_i, mL_am_mk_k, mL_am_mk_s, mL_am_mk_i, mR_am_mk_k, mR_am_mk_s, mR_am_mk_i, mN_am_mk_k, mN_am_mk_i, mC_am_mk_k, mC_am_mk_s, mN_am_ml_k, mN_am_ml_i, mC_am_ml_k, mC_am_ml_s, mC_sC_k, mC_am_thr_k, sC_3 S, sC_4 S, sR_3_0 S, sC_21 S, sR_3_3 S, sC_24 S, k0, k1, k2, k3, k4, k5, k6, k7, k8, k9, k10, k11, k12, k13, k14, k15, k16, k17, k18, k19, k20, k21, k22, k23, k24, k25, k26, k27, k28, k29, k30, k31, k32, k33, k34, k35, k36, k37, k38, k39, k40, k41, k42, k43, k44, k45, k46, k47, k48, k49, k50, k51, k52, k53, k54, k55, k56, k57, k58, k59, k60, k61, k62, k63, k64, k65, k66, k67, k68, k69, k70, k71, k72, k73, k74, k75, k76, k77, k78, k79, k80, k81, k82, k83, k84, k85, k86, k87, k88, k89, k90, k91, k92, k93, k94, k95, k96, k97, k98, k99, k100, c1, wkM_R, wkM_N, wkM_C, true_and, and_true, and_self, if_true, if_false, ite_true, ite_false, Nat.lt_irrefl, List.length_nil, List.length_cons, Nat.reduceAdd, Nat.reduceLeDiff, Nat.reduceLT, Nat.reduceEqDiff, Nat.zero_lt_one, not_true, not_false_iff, bI_0, bI_1, ne_eq, reduceCtorEq, false_and, and_false, or_true, true_or, or_false, false_or, Nat.lt_one_iff, eq_self, Nat.zero_le, am_ko_v, am_ko_0, am_kil, Nat.reduceBEq, Int32.reduceLT, Int32.reduceLE, Int32.reduceAdd, Int32.reduceSub, i32_10, i32_01, not_true_eq_false, not_false_eq_true, Classical.not_not, nor_self, Nat.lt_add_one, nI_1, nI_pred, rf_n, i32_m0, i32_m1, reduceIte]
    exact hq
  | succ k ih =>
    intro i a3 hi hq
    have c1 : nI i < nI (gN σ 24 0) := nI_lt (by omega) (by omega)
    have i31 : i < 2147483648 := by omega
    have iT : i < gN σ 24 0 := by omega
    obtain ⟨q, hq1, hq2⟩ := o_p i iT
    have q31 : q < 2147483648 := by omega
    have := ih (i + 1) (some (vr (some (37, i)))) (by omega) hq
    rw [S91_36]
    by_cases c : gI σ 81 0 i = nI w
    · have e : upP (hwF σ w i) q (gI σ 82 0 i) = hwF σ w (i + 1) := by
        funext b
        show (if b = q then gI σ 82 0 i else if b < gN σ 21 0 then hrF σ b w i else gI σ 34 b 18) = if b < gN σ 21 0 then (if gI σ 80 0 i = nI b ∧ gI σ 81 0 i = nI w then gI σ 82 0 i else hrF σ b w i) else gI σ 34 b 18
        by_cases cb : b = q
        · subst cb; rw [if_pos rfl, if_pos hq1, if_pos ⟨hq2, c⟩]
        · rw [if_neg cb]
          by_cases c2 : b < gN σ 21 0
          · rw [if_pos c2, if_pos c2, if_neg (fun h => cb ((nI_eq (by omega) q31).mp (h.1.symm.trans hq2)))]
          · rw [if_neg c2, if_neg c2]
      simp only [S91_0, S91_1, S91_3, S91_4, S91_7, S91_10, S91_13, S91_14, S91_17, S91_18, S91_21n, S91_21, S91_24, S91_25, S91_28, S91_31, S91_34, S91_35, S91_37, S91_38, S91_41, S91_44, S91_47, S91_48, S91_51, S91_52, S91_55n, S91_55, S91_58, S91_59, S91_60, S91_63, S91_64, S91_67, S91_68, S91_71, S91_72, S91_75, S91_78, S91_81, S91_84, gL_sI, gR_sI, gN_sI, gC_sI, gB_sI, gI_sL, gR_sL, gN_sL, gC_sL, gB_sL, gI_sR, gL_sR, gN_sR, gC_sR, gB_sR, gL_sIr, gR_sIr, gN_sIr, gC_sIr, gB_sIr, gI_sLr, gR_sLr, gN_sLr, gC_sLr, gB_sLr, gI_sRr, gL_sRr, gN_sRr, gC_sRr, gB_sRr, gI_sN, gL_sN, gR_sN, gC_sN, gB_sN, gI_sC, gL_sC, gR_sC, gN_sC, gB_sC, gI_sB, gL_sB, gR_sB, gN_sB, gC_sB, gB_sB, gB_am_mk, gI_am_ml, gL_am_ml, gR_am_ml, gB_am_ml, gI_am_add, gL_am_add, gC_am_add, gB_am_add, gI_am_ins, gL_am_ins, gC_am_ins, gB_am_ins, gI_am_rem, gL_am_rem, gC_am_rem, gB_am_rem, gI_am_thr, gL_am_thr, gR_am_thr, gN_am_thr, gB_am_thr, mI_sI_k, mI_sI_j, mI_sI_b, mI_sI_s, mI_sI_i, mI_sI_c, mL_sL_k, mL_sL_j, mL_sL_b, mL_sL_s, mL_sL_i, mL_sL_c, mR_sR_k, mR_sR_j, mR_sR_b, mR_sR_s, mR_sR_i, mR_sR_c, mI_sIr_k, mI_sIr_s, mI_sIr_i, mL_sLr_k, mL_sLr_s, mL_sLr_i, mR_sRr_k, mR_sRr_s, mR_sRr_i, mN_sN_k, mN_sN_i, mN_am_add_k, mN_am_add_s, mR_am_add_k, mN_am_ins_k, mN_am_ins_s, mR_am_ins_k, mN_am_rem_k, mN_am_rem_s, mR_am_rem_k, mR_am_add_s, mR_am_ins_s, mR_am_rem_s, mI_am_mk_k, mI_am_mk_s, mI_am_mk_i, mL_am_mk_k, mL_am_mk_s, mL_am_mk_i, mR_am_mk_k, mR_am_mk_s, mR_am_mk_i, mN_am_mk_k, mN_am_mk_i, mC_am_mk_k, mC_am_mk_s, mN_am_ml_k, mN_am_ml_i, mC_am_ml_k, mC_am_ml_s, mC_sC_k, mC_am_thr_k, sC_3 S, sC_4 S, sR_3_0 S, sC_21 S, sR_3_3 S, sC_24 S, k0, k1, k2, k3, k4, k5, k6, k7, k8, k9, k10, k11, k12, k13, k14, k15, k16, k17, k18, k19, k20, k21, k22, k23, k24, k25, k26, k27, k28, k29, k30, k31, k32, k33, k34, k35, k36, k37, k38, k39, k40, k41, k42, k43, k44, k45, k46, k47, k48, k49, k50, k51, k52, k53, k54, k55, k56, k57, k58, k59, k60, k61, k62, k63, k64, k65, k66, k67, k68, k69, k70, k71, k72, k73, k74, k75, k76, k77, k78, k79, k80, k81, k82, k83, k84, k85, k86, k87, k88, k89, k90, k91, k92, k93, k94, k95, k96, k97, k98, k99, k100, c1, wkM_R, wkM_N, wkM_C, wkM_Ik, o_r, o_c, o_0, o_1, o_2, iT, ini_iff i31, nI_clamp i31, hq2, rf_k q31, p_c, hq1, c, wkM_s, e, true_and, and_true, and_self, if_true, if_false, ite_true, ite_false, Nat.lt_irrefl, List.length_nil, List.length_cons, Nat.reduceAdd, Nat.reduceLeDiff, Nat.reduceLT, Nat.reduceEqDiff, Nat.zero_lt_one, not_true, not_false_iff, bI_0, bI_1, ne_eq, reduceCtorEq, false_and, and_false, or_true, true_or, or_false, false_or, Nat.lt_one_iff, eq_self, Nat.zero_le, am_ko_v, am_ko_0, am_kil, Nat.reduceBEq, Int32.reduceLT, Int32.reduceLE, Int32.reduceAdd, Int32.reduceSub, i32_10, i32_01, not_true_eq_false, not_false_eq_true, Classical.not_not, nor_self, Nat.lt_add_one, nI_1, nI_pred, rf_n, i32_m0, i32_m1, reduceIte]
      exact this
    · have e : hwF σ w (i + 1) = hwF σ w i := by
        funext b
        show (if b < gN σ 21 0 then (if gI σ 80 0 i = nI b ∧ gI σ 81 0 i = nI w then gI σ 82 0 i else hrF σ b w i) else gI σ 34 b 18) = if b < gN σ 21 0 then hrF σ b w i else gI σ 34 b 18
        by_cases c2 : b < gN σ 21 0
        · rw [if_pos c2, if_pos c2, if_neg (fun h => c h.2)]
        · rw [if_neg c2, if_neg c2]
      rw [e] at this
      simp only [S91_0, S91_1, S91_3, S91_4, S91_7, S91_10, S91_13, S91_14, S91_17, S91_18, S91_21n, S91_21, S91_24, S91_25, S91_28, S91_31, S91_34, S91_35, S91_37, S91_38, S91_41, S91_44, S91_47, S91_48, S91_51, S91_52, S91_55n, S91_55, S91_58, S91_59, S91_60, S91_63, S91_64, S91_67, S91_68, S91_71, S91_72, S91_75, S91_78, S91_81, S91_84, gL_sI, gR_sI, gN_sI, gC_sI, gB_sI, gI_sL, gR_sL, gN_sL, gC_sL, gB_sL, gI_sR, gL_sR, gN_sR, gC_sR, gB_sR, gL_sIr, gR_sIr, gN_sIr, gC_sIr, gB_sIr, gI_sLr, gR_sLr, gN_sLr, gC_sLr, gB_sLr, gI_sRr, gL_sRr, gN_sRr, gC_sRr, gB_sRr, gI_sN, gL_sN, gR_sN, gC_sN, gB_sN, gI_sC, gL_sC, gR_sC, gN_sC, gB_sC, gI_sB, gL_sB, gR_sB, gN_sB, gC_sB, gB_sB, gB_am_mk, gI_am_ml, gL_am_ml, gR_am_ml, gB_am_ml, gI_am_add, gL_am_add, gC_am_add, gB_am_add, gI_am_ins, gL_am_ins, gC_am_ins, gB_am_ins, gI_am_rem, gL_am_rem, gC_am_rem, gB_am_rem, gI_am_thr, gL_am_thr, gR_am_thr, gN_am_thr, gB_am_thr, mI_sI_k, mI_sI_j, mI_sI_b, mI_sI_s, mI_sI_i, mI_sI_c, mL_sL_k, mL_sL_j, mL_sL_b, mL_sL_s, mL_sL_i, mL_sL_c, mR_sR_k, mR_sR_j, mR_sR_b, mR_sR_s, mR_sR_i, mR_sR_c, mI_sIr_k, mI_sIr_s, mI_sIr_i, mL_sLr_k, mL_sLr_s, mL_sLr_i, mR_sRr_k, mR_sRr_s, mR_sRr_i, mN_sN_k, mN_sN_i, mN_am_add_k, mN_am_add_s, mR_am_add_k, mN_am_ins_k, mN_am_ins_s, mR_am_ins_k, mN_am_rem_k, mN_am_rem_s, mR_am_rem_k, mR_am_add_s, mR_am_ins_s, mR_am_rem_s, mI_am_mk_k, mI_am_mk_s, mI_am_mk_i, mL_am_mk_k, mL_am_mk_s, mL_am_mk_i, mR_am_mk_k, mR_am_mk_s, mR_am_mk_i, mN_am_mk_k, mN_am_mk_i, mC_am_mk_k, mC_am_mk_s, mN_am_ml_k, mN_am_ml_i, mC_am_ml_k, mC_am_ml_s, mC_sC_k, mC_am_thr_k, sC_3 S, sC_4 S, sR_3_0 S, sC_21 S, sR_3_3 S, sC_24 S, k0, k1, k2, k3, k4, k5, k6, k7, k8, k9, k10, k11, k12, k13, k14, k15, k16, k17, k18, k19, k20, k21, k22, k23, k24, k25, k26, k27, k28, k29, k30, k31, k32, k33, k34, k35, k36, k37, k38, k39, k40, k41, k42, k43, k44, k45, k46, k47, k48, k49, k50, k51, k52, k53, k54, k55, k56, k57, k58, k59, k60, k61, k62, k63, k64, k65, k66, k67, k68, k69, k70, k71, k72, k73, k74, k75, k76, k77, k78, k79, k80, k81, k82, k83, k84, k85, k86, k87, k88, k89, k90, k91, k92, k93, k94, k95, k96, k97, k98, k99, k100, c1, wkM_R, wkM_N, wkM_C, wkM_Ik, o_r, o_c, o_0, o_1, o_2, iT, ini_iff i31, nI_clamp i31, c, true_and, and_true, and_self, if_true, if_false, ite_true, ite_false, Nat.lt_irrefl, List.length_nil, List.length_cons, Nat.reduceAdd, Nat.reduceLeDiff, Nat.reduceLT, Nat.reduceEqDiff, Nat.zero_lt_one, not_true, not_false_iff, bI_0, bI_1, ne_eq, reduceCtorEq, false_and, and_false, or_true, true_or, or_false, false_or, Nat.lt_one_iff, eq_self, Nat.zero_le, am_ko_v, am_ko_0, am_kil, Nat.reduceBEq, Int32.reduceLT, Int32.reduceLE, Int32.reduceAdd, Int32.reduceSub, i32_10, i32_01, not_true_eq_false, not_false_eq_true, Classical.not_not, nor_self, Nat.lt_add_one, nI_1, nI_pred, rf_n, i32_m0, i32_m1, reduceIte]
      exact this
theorem C91 {w : Nat} (hw : w < 2147483648) (S : Sh σ) (bP : BP σ) (bO : BO σ) (hq : Q (some none) (wkM σ (hwF σ w (gN σ 24 0)))) : WP d 91 0 [some (vr (some (3, 0))), some (vi (nI w)), none, none] [] σ Q := by
  have e1 : hwF σ w 0 = fun b => if b < gN σ 21 0 then 0 else gI σ 34 b 18 := rfl
  have B := L91b (d := d) (Q := Q) hw S bP bO (gN σ 24 0) 0 none (by omega) hq
  rw [e1, nI_0] at B
  have A := L91a (d := d) (Q := Q) (w := nI w) S bP (gN σ 21 0) 0 none (by omega) B
  have e : (fun b => if b < 0 then 0 else gI σ 34 b 18) = fun b => gI σ 34 b 18 := by
    funext b; rw [if_neg (by omega)]
  rw [e, wkM_0, nI_0] at A
  simp only [S91_0, S91_1, am_kil]
  exact A
end GATH
