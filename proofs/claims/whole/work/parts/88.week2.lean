def tdM (σ : aM) : aM := sI (sI σ 3 0 12 (gI σ 3 0 12 + 1)) 4 0 1 (gI σ 4 0 1 + 1)
section WEEK2
variable {d n : Nat} {σ : aM} {Q : aR → aM → Prop}
theorem J_end {W t : Nat} (hJ : J n (gN σ 21 0) σ) (hW : gN σ 25 0 = W) (ht : t ≤ 9998) (htt : gI σ 4 0 1 = nI t) (h6 : t % 7 = 6) : Inv n (tdM (am_add σ 25 0 (some (38, W)))) := by
  obtain ⟨S, bP, jM, bH, bQ, bD, bT, bX, bO, jW, bG, bS, bF, jU, jK⟩ := id hJ
  obtain ⟨v_c, v_m, v_r, v_k, v_1, v_0, ⟨v_i1, v_i2⟩, v_e, v_7, v_6, v_z⟩ := id jW
  obtain ⟨j_p, j_d, j_f, j_a, j_c, j_b, j_h, j_n⟩ := id jM
  obtain ⟨d_t, d_b, d_h, t', ht', htt', htw⟩ := id bD
  have P60 : gN σ 21 0 ≤ 60 := bP.2.1
  have : t' = t := (nI_eq (by omega) (by omega)).mp (htt'.symm.trans htt)
  subst this
  have eN : ∀ K i, K ≠ 25 → gN (tdM (am_add σ 25 0 (some (38, W)))) K i = gN σ K i := fun K i h => by
    unfold tdM; simp only [gN_sI, mN_am_add_k h]
  have eN25 : gN (tdM (am_add σ 25 0 (some (38, W)))) 25 0 = W + 1 := by
    unfold tdM; simp only [gL_sI, gR_sI, gN_sI, gC_sI, gB_sI, gI_am_add, gL_am_add, gC_am_add, gB_am_add, mI_sI_k, mI_sI_j, mI_sI_b, mI_sI_s, mI_sI_i, mI_sI_c, mN_am_add_k, mN_am_add_s, mR_am_add_k, mR_am_add_s, true_and, and_true, false_and, and_false, and_self, if_true, if_false, reduceIte, Nat.reduceEqDiff, eq_self, ne_eq, not_true_eq_false, not_false_eq_true, rf_n, nI_1, nI_pred, reduceCtorEq, Nat.lt_irrefl, true_or, or_true, hW]
  have eI : ∀ K i j, K ≠ 3 → K ≠ 4 → gI (tdM (am_add σ 25 0 (some (38, W)))) K i j = gI σ K i j := fun K i j h3 h4 => by
    unfold tdM; simp only [mI_sI_k h3, mI_sI_k h4, gI_am_add]
  have eI4 : ∀ c, c ≠ 1 → gI (tdM (am_add σ 25 0 (some (38, W)))) 4 0 c = gI σ 4 0 c := fun c h => by
    unfold tdM; rw [mI_sI_j h, mI_sI_k (by decide), gI_am_add]
  have eI3 : ∀ c, c ≠ 12 → gI (tdM (am_add σ 25 0 (some (38, W)))) 3 0 c = gI σ 3 0 c := fun c h => by
    unfold tdM; rw [mI_sI_k (by decide), mI_sI_j h, gI_am_add]
  have e41 : gI (tdM (am_add σ 25 0 (some (38, W)))) 4 0 1 = gI σ 4 0 1 + 1 := rfl
  have e312 : gI (tdM (am_add σ 25 0 (some (38, W)))) 3 0 12 = gI σ 3 0 12 + 1 := rfl
  have eR : ∀ K i j, K ≠ 25 → gR (tdM (am_add σ 25 0 (some (38, W)))) K i j = gR σ K i j := fun K i j h => by
    unfold tdM; simp only [gR_sI, mR_am_add_k h]
  have eR25 : ∀ j, gR (tdM (am_add σ 25 0 (some (38, W)))) 25 0 j = some (38, j) := fun j => by
    unfold tdM
    by_cases c : j = W
    · subst c; simp only [gL_sI, gR_sI, gN_sI, gC_sI, gB_sI, gI_am_add, gL_am_add, gC_am_add, gB_am_add, mI_sI_k, mI_sI_j, mI_sI_b, mI_sI_s, mI_sI_i, mI_sI_c, mN_am_add_k, mN_am_add_s, mR_am_add_k, mR_am_add_s, true_and, and_true, false_and, and_false, and_self, if_true, if_false, reduceIte, Nat.reduceEqDiff, eq_self, ne_eq, not_true_eq_false, not_false_eq_true, rf_n, nI_1, nI_pred, reduceCtorEq, Nat.lt_irrefl, true_or, or_true, hW]
    · simp only [gL_sI, gR_sI, gN_sI, gC_sI, gB_sI, gI_am_add, gL_am_add, gC_am_add, gB_am_add, mI_sI_k, mI_sI_j, mI_sI_b, mI_sI_s, mI_sI_i, mI_sI_c, mN_am_add_k, mN_am_add_s, mR_am_add_k, mR_am_add_s, true_and, and_true, false_and, and_false, and_self, if_true, if_false, reduceIte, Nat.reduceEqDiff, eq_self, ne_eq, not_true_eq_false, not_false_eq_true, rf_n, nI_1, nI_pred, reduceCtorEq, Nat.lt_irrefl, true_or, or_true, hW, c, v_r]
  have eC : ∀ K, gC (tdM (am_add σ 25 0 (some (38, W)))) K = gC σ K := fun K => rfl
  have eB : gB (tdM (am_add σ 25 0 (some (38, W)))) = ((gB σ).1 + 1, (gB σ).2 + (gN σ 25 0 + gN σ 25 0 / 2 + 10)) := rfl
  have ag : ∀ f : Nat → Bool, f 25 = false → f 3 = false → f 4 = false → Ag f σ (tdM (am_add σ 25 0 (some (38, W)))) := fun f h25 h3 h4 => Ag.sI h4 (Ag.sI h3 (Ag.add h25 Ag.rf))
  have d' : ∀ c, c + 2 ≠ 1 := fun c => by omega
  have r83 : ∀ j, gI (tdM (am_add σ 25 0 (some (38, W)))) 83 0 j = gI σ 83 0 j := fun j => eI 83 0 j (by decide) (by decide)
  refine ⟨Sh_fr S (Ar.sI (Ar.sI (Ar.add rfl rfl Ar.rf))) (eC 33) (fun j _ => eR 30 0 j (by decide)), BP_fr bP (ag _ rfl rfl rfl) (eI4 _ (by decide)) (Nat.le_of_eq (eN 22 0 (by decide)).symm), ?_, BH_fr bH (ag _ rfl rfl rfl) (eI4 _ (by decide)) (Nat.le_of_eq (eN 21 0 (by decide)).symm), BQ_fr bQ (ag _ rfl rfl rfl) (eI4 _ (by decide)) (Nat.le_of_eq (eN 21 0 (by decide)).symm), ?_, BT_fr bT (ag _ rfl rfl rfl) (eI 29 0 _ (by decide) (by decide)) (eI 29 0 _ (by decide) (by decide)) (eI4 _ (by decide)) (eI4 _ (by decide)), BX_fr bX (ag _ rfl rfl rfl) (eI 30 0 _ (by decide) (by decide)) (eI4 _ (by decide)) (eI4 _ (by decide)), BO_fr bO (ag _ rfl rfl rfl) (eI4 _ (by decide)) (Nat.le_of_eq (eN 21 0 (by decide)).symm), ?_, BG_fr bG (ag _ rfl rfl rfl), BS_fr bS (ag _ rfl rfl rfl) (eI4 _ (by decide)) (Nat.le_of_eq (eN 21 0 (by decide)).symm), BF_fr bF (ag _ rfl rfl rfl) (eI4 _ (by decide)), ?_⟩
  · refine ⟨fun j hj => ?_, fun j hj => ?_, fun j hj => ?_, fun j hj => ?_, fun j hj => ?_, ?_, ?_, j_n⟩
    · rw [eN 21 0 (by decide)] at hj
      rw [eI 43 0 j (by decide) (by decide), eI 44 0 j (by decide) (by decide), eN25]
      obtain ⟨a, c, e1, e2, e3⟩ := j_p j hj
      rw [if_pos hj] at e3
      exact ⟨a, c, e1, e2, by omega⟩
    · rw [eN 21 0 (by decide)] at hj
      rw [eI 45 0 j (by decide) (by decide)]; exact j_d j hj
    · rw [eN 21 0 (by decide)] at hj
      rw [eI 46 0 j (by decide) (by decide)]; exact j_f j hj
    · rw [eN 21 0 (by decide)] at hj
      rw [eI 47 0 j (by decide) (by decide), eN25]
      obtain ⟨a, e1, e2⟩ := j_a j hj
      rw [if_pos hj] at e2
      exact ⟨a, e1, by omega⟩
    · rw [eN 21 0 (by decide)] at hj
      rw [eI 48 0 j (by decide) (by decide)]; exact j_c j hj
    · rw [eI4 26 (by decide), eN25]
      obtain ⟨a, e1, e2⟩ := j_b
      exact ⟨a, e1, by omega⟩
    · rw [eI4 25 (by decide)]; exact j_h
  · refine ⟨by rw [e312, e41, d_t], by rw [eI3 13 (by decide), eI4 26 (by decide)]; exact d_b, by rw [eI3 14 (by decide), eI4 25 (by decide)]; exact d_h, t' + 1, by omega, by rw [e41, htt]; exact nI_add t' 1, by rw [eN25]; omega⟩
  · refine ⟨?_, ?_, ?_, ?_, ?_, ?_, ?_⟩
    · rw [eC, eN25, v_c, hW]
    · rw [eN25]; omega
    · exact eR25
    · rw [eC, eN25, v_k, hW]
    · intro w hw
      rw [eN25] at hw
      rw [eR 38 w 1 (by decide)]
      exact v_1 w (by omega)
    · intro w hw
      rw [eN25] at hw
      rw [eN 21 0 (by decide), eN 22 0 (by decide), eI 38 w 0 (by decide) (by decide), eN 20 w (by decide)]
      by_cases c : w = W
      · subst c
        rw [hW] at v_i1 v_i2 v_e v_7 v_6
        refine ⟨gN σ 21 0, Nat.le_refl _, v_i1, v_i2, fun p c' h1 h2 => ?_, fun p h1 => ?_, fun p h1 => ?_⟩
        · rw [eI 20 w _ (by decide) (by decide), r83]; exact v_e p c' h1 h2
        · rw [r83]; exact v_7 p h1
        · rw [r83]; exact v_6 p h1
      · obtain ⟨q, q1, q2, q3, q4, q5, q6⟩ := v_0 w (by omega)
        refine ⟨q, q1, q2, q3, fun p c' h1 h2 => ?_, fun p h1 => ?_, fun p h1 => ?_⟩
        · rw [eI 20 w _ (by decide) (by decide), r83]; exact q4 p c' h1 h2
        · rw [r83]; exact q5 p h1
        · rw [r83]; exact q6 p h1
    · intro w p h1 h2 h3
      rw [eN25] at h1
      rw [r83]; exact v_z w p (by omega) h2 h3
  · unfold JU at jU
    unfold BU
    rw [eB, eN25]
    dsimp only
    omega
theorem csZ_N {τ : aM} {p w T K i : Nat} {r m : Int32} {h : Bool} : gN (csZ τ p w T r m h) K i = gN τ K i := by
  simp only [csZ, csM, cwM, gN_sI]
theorem clM_I4 {p w T c : Nat} (h1 : c ≠ 26) (h2 : c ≠ 63) (h3 : c ≠ 64) : gI (clM p w T σ) 4 0 c = gI σ 4 0 c := by
  simp only [clM, clZ, clY, clX, mI_sI_k (show (4 : Nat) ≠ 83 by decide), mI_sI_k (show (4 : Nat) ≠ 43 by decide), mI_sI_k (show (4 : Nat) ≠ 44 by decide), mI_sI_k (show (4 : Nat) ≠ 45 by decide), mI_sI_k (show (4 : Nat) ≠ 46 by decide), mI_sI_k (show (4 : Nat) ≠ 47 by decide), mI_sI_j h1, mI_sI_j h2, mI_sI_j h3]
theorem L90 {W T t : Nat} (ht : t ≤ 9998) (h6 : t % 7 = 6) : ∀ k i (μ : aM), J n i μ → zkM zC μ → gN μ 25 0 = W → gN μ 24 0 = T → gI μ 4 0 1 = nI t → i + k = gN μ 21 0 → WP (d + 7) 90 28 [some (vr (some (3, 0))), some (vr (some (38, W))), some (vi (nI i))] [] μ (fun v s => v = some none ∧ ∃ μ', s = mxC μ' μ ∧ Inv n (tdM μ') ∧ μ' = mxC μ' (clL W T i k μ) ∧ zkM zC μ') := by
  intro k
  induction k with
  | zero =>
    intro i μ hJ hz hW hT htt hi
    obtain ⟨S, bP, jM, bH, bQ, bD, bT, bX, bO, jW, bG, bS, bF, jU, jK⟩ := id hJ
    obtain ⟨s3, s4, s29, s30, s28, sC, sN, s33⟩ := id S
    have P60 : gN μ 21 0 ≤ 60 := bP.2.1
    obtain rfl : i = gN μ 21 0 := by omega
    have c1 : ¬ nI (gN μ 21 0) < nI (gN μ 21 0) := Int32.lt_irrefl
    have wm := jW.2.1
    have jn := jM.2.2.2.2.2.2.2
    have q1 : (gB μ).1 + 1 ≤ 601024 ∧ (gB μ).2 + (W + W / 2 + 10) ≤ 7293034 := by
      unfold JU at jU
      omega
    have q2 : W ≤ 40000 := by omega
    rw [S90_28]
    simp only [am_ok, S90_0, S90_1, S90_2, S90_5, S90_8, S90_11, S90_14, S90_14q, S90_15, S90_16, S90_19, S90_22, S90_25, S90_26, S90_27, S90_29, S90_30, S90_33, S90_36, S90_39, S90_40, S90_41, S90_44, S90_45, S90_48n, S90_48, S90_51, S90_52, S90_55, S90_58, S90_61, S90_62, S90_65, S90_66, S90_69, S90_69q, S90_70, gL_sI, gR_sI, gN_sI, gC_sI, gB_sI, gI_sL, gR_sL, gN_sL, gC_sL, gB_sL, gI_sR, gL_sR, gN_sR, gC_sR, gB_sR, gL_sIr, gR_sIr, gN_sIr, gC_sIr, gB_sIr, gI_sLr, gR_sLr, gN_sLr, gC_sLr, gB_sLr, gI_sRr, gL_sRr, gN_sRr, gC_sRr, gB_sRr, gI_sN, gL_sN, gR_sN, gC_sN, gB_sN, gI_sC, gL_sC, gR_sC, gN_sC, gB_sC, gI_sB, gL_sB, gR_sB, gN_sB, gC_sB, gB_sB, gB_am_mk, gI_am_ml, gL_am_ml, gR_am_ml, gB_am_ml, gI_am_add, gL_am_add, gC_am_add, gB_am_add, gI_am_ins, gL_am_ins, gC_am_ins, gB_am_ins, gI_am_rem, gL_am_rem, gC_am_rem, gB_am_rem, gI_am_thr, gL_am_thr, gR_am_thr, gN_am_thr, gB_am_thr, mI_sI_k, mI_sI_j, mI_sI_b, mI_sI_s, mI_sI_i, mI_sI_c, mL_sL_k, mL_sL_j, mL_sL_b, mL_sL_s, mL_sL_i, mL_sL_c, mR_sR_k, mR_sR_j, mR_sR_b, mR_sR_s, mR_sR_i, mR_sR_c, mI_sIr_k, mI_sIr_s, mI_sIr_i, mL_sLr_k, mL_sLr_s, mL_sLr_i, mR_sRr_k, mR_sRr_s, mR_sRr_i, mN_sN_k, mN_sN_i, mN_am_add_k, mN_am_add_s, mR_am_add_k, mN_am_ins_k, mN_am_ins_s, mR_am_ins_k, mN_am_rem_k, mN_am_rem_s, mR_am_rem_k, mR_am_add_s, mR_am_ins_s, mR_am_rem_s, mI_am_mk_k, mI_am_mk_s, mI_am_mk_i, mL_am_mk_k, mL_am_mk_s, mL_am_mk_i, mR_am_mk_k, mR_am_mk_s, mR_am_mk_i, mN_am_mk_k, mN_am_mk_i, mC_am_mk_k, mC_am_mk_s, mN_am_ml_k, mN_am_ml_i, mC_am_ml_k, mC_am_ml_s, mC_sC_k, mC_am_thr_k, sC_3 S, sC_4 S, sR_3_0 S, sC_21 S, sR_3_4 S, sC_25 S, k0, k1, k2, k3, k4, k5, k6, k7, k8, k9, k10, k11, k12, k13, k14, k15, k16, k17, k18, k19, k20, k21, k22, k23, k24, k25, k26, k27, k28, k29, k30, k31, k32, k33, k34, k35, k36, k37, k38, k39, k40, k41, k42, k43, k44, k45, k46, k47, k48, k49, k50, k51, k52, k53, k54, k55, k56, k57, k58, k59, k60, k61, k62, k63, k64, k65, k66, k67, k68, k69, k70, k71, k72, k73, k74, k75, k76, k77, k78, k79, k80, k81, k82, k83, k84, k85, k86, k87, k88, k89, k90, k91, k92, k93, k94, k95, k96, k97, k98, k99, k100, c1, hW, q1, q2, true_and, and_true, and_self, if_true, if_false, ite_true, ite_false, Nat.lt_irrefl, List.length_nil, List.length_cons, Nat.reduceAdd, Nat.reduceLeDiff, Nat.reduceLT, Nat.reduceEqDiff, Nat.zero_lt_one, not_true, not_false_iff, bI_0, bI_1, ne_eq, reduceCtorEq, false_and, and_false, or_true, true_or, or_false, false_or, Nat.lt_one_iff, eq_self, Nat.zero_le, am_ko_v, am_ko_0, am_kil, Nat.reduceBEq, Int32.reduceLT, Int32.reduceLE, Int32.reduceAdd, Int32.reduceSub, i32_10, i32_01, not_true_eq_false, not_false_eq_true, Classical.not_not, nor_self, Nat.lt_add_one, nI_1, nI_pred, rf_n, i32_m0, i32_m1, reduceIte]
    have e : am_add μ 25 0 (some (38, W)) = mxC (am_add μ 25 0 (some (38, W))) μ := mxC_id.symm.trans (mxC_ag (Ag.add rfl Ag.rf))
    exact ⟨am_add μ 25 0 (some (38, W)), e, J_end hJ hW ht htt h6, e, zk_add (zkq_s (Or.inl rfl)) hz⟩
  | succ k ih =>
    intro i μ hJ hz hW hT htt hi
    obtain ⟨S, bP, jM, bH, bQ, bD, bT, bX, bO, jW, bG, bS, bF, jU, jK⟩ := id hJ
    obtain ⟨s3, s4, s29, s30, s28, sC, sN, s33⟩ := id S
    (obtain ⟨p_c, p_60, p_n, p_r, p_0, p_1, p_2, p_3, p_4, p_5, p_6, p_7, p_8, p_9, p_10, p_11, p_13, p_19, p_12, p_17, p_16, p_14, p_z, p_hd, p_ho, p_lh, p_pay, p_wp, p_sc, p_ml⟩ := id bP)
    have c1 : nI i < nI (gN μ 21 0) := nI_lt (by omega) (by omega)
    have i31 : i < 2147483648 := by omega
    have iP : i < gN μ 21 0 := by omega
    rw [S90_28]
    simp only [S90_29, S90_30, S90_33, S90_36, S90_39, S90_40, S90_41, S90_44, S90_45, S90_48n, S90_48, S90_51, S90_52, gL_sI, gR_sI, gN_sI, gC_sI, gB_sI, gI_sL, gR_sL, gN_sL, gC_sL, gB_sL, gI_sR, gL_sR, gN_sR, gC_sR, gB_sR, gL_sIr, gR_sIr, gN_sIr, gC_sIr, gB_sIr, gI_sLr, gR_sLr, gN_sLr, gC_sLr, gB_sLr, gI_sRr, gL_sRr, gN_sRr, gC_sRr, gB_sRr, gI_sN, gL_sN, gR_sN, gC_sN, gB_sN, gI_sC, gL_sC, gR_sC, gN_sC, gB_sC, gI_sB, gL_sB, gR_sB, gN_sB, gC_sB, gB_sB, gB_am_mk, gI_am_ml, gL_am_ml, gR_am_ml, gB_am_ml, gI_am_add, gL_am_add, gC_am_add, gB_am_add, gI_am_ins, gL_am_ins, gC_am_ins, gB_am_ins, gI_am_rem, gL_am_rem, gC_am_rem, gB_am_rem, gI_am_thr, gL_am_thr, gR_am_thr, gN_am_thr, gB_am_thr, mI_sI_k, mI_sI_j, mI_sI_b, mI_sI_s, mI_sI_i, mI_sI_c, mL_sL_k, mL_sL_j, mL_sL_b, mL_sL_s, mL_sL_i, mL_sL_c, mR_sR_k, mR_sR_j, mR_sR_b, mR_sR_s, mR_sR_i, mR_sR_c, mI_sIr_k, mI_sIr_s, mI_sIr_i, mL_sLr_k, mL_sLr_s, mL_sLr_i, mR_sRr_k, mR_sRr_s, mR_sRr_i, mN_sN_k, mN_sN_i, mN_am_add_k, mN_am_add_s, mR_am_add_k, mN_am_ins_k, mN_am_ins_s, mR_am_ins_k, mN_am_rem_k, mN_am_rem_s, mR_am_rem_k, mR_am_add_s, mR_am_ins_s, mR_am_rem_s, mI_am_mk_k, mI_am_mk_s, mI_am_mk_i, mL_am_mk_k, mL_am_mk_s, mL_am_mk_i, mR_am_mk_k, mR_am_mk_s, mR_am_mk_i, mN_am_mk_k, mN_am_mk_i, mC_am_mk_k, mC_am_mk_s, mN_am_ml_k, mN_am_ml_i, mC_am_ml_k, mC_am_ml_s, mC_sC_k, mC_am_thr_k, sC_3 S, sC_4 S, sR_3_0 S, sC_21 S, sR_3_4 S, sC_25 S, k0, k1, k2, k3, k4, k5, k6, k7, k8, k9, k10, k11, k12, k13, k14, k15, k16, k17, k18, k19, k20, k21, k22, k23, k24, k25, k26, k27, k28, k29, k30, k31, k32, k33, k34, k35, k36, k37, k38, k39, k40, k41, k42, k43, k44, k45, k46, k47, k48, k49, k50, k51, k52, k53, k54, k55, k56, k57, k58, k59, k60, k61, k62, k63, k64, k65, k66, k67, k68, k69, k70, k71, k72, k73, k74, k75, k76, k77, k78, k79, k80, k81, k82, k83, k84, k85, k86, k87, k88, k89, k90, k91, k92, k93, k94, k95, k96, k97, k98, k99, k100, c1, ini_iff i31, nI_clamp i31, iP, p_r, p_c, true_and, and_true, and_self, if_true, if_false, ite_true, ite_false, Nat.lt_irrefl, List.length_nil, List.length_cons, Nat.reduceAdd, Nat.reduceLeDiff, Nat.reduceLT, Nat.reduceEqDiff, Nat.zero_lt_one, not_true, not_false_iff, bI_0, bI_1, ne_eq, reduceCtorEq, false_and, and_false, or_true, true_or, or_false, false_or, Nat.lt_one_iff, eq_self, Nat.zero_le, am_ko_v, am_ko_0, am_kil, Nat.reduceBEq, Int32.reduceLT, Int32.reduceLE, Int32.reduceAdd, Int32.reduceSub, i32_10, i32_01, not_true_eq_false, not_false_eq_true, Classical.not_not, nor_self, Nat.lt_add_one, nI_1, nI_pred, rf_n, i32_m0, i32_m1, reduceIte]
    have A := C92 (d := d) (n := n) (p := i) (Q := fun r s => r = some none ∧ ∃ τ, SE μ τ ∧ s = csZ τ i W T (renF μ i) (ruT μ 1 i) (decide (hasF μ i))) hJ iP (fun τ hse => ⟨rfl, τ, hse, by rw [hW, hT]⟩)
    rw [hW] at A
    have B := ownC (mid := 92) rfl (zkL_r (Or.inl rfl) (zkL_r (Or.inl rfl) (zkL_r (Or.inl rfl) (zkL_0 (zkL_0 (zkL_0 (zkL_0 (zkL_0 (zkL_0 zkL_n))))))))) zkS_n hz A
    refine B.mono ?_
    rintro r s ⟨⟨rfl, τ, hse, rfl⟩, hown, hz2, -⟩
    have JT := hJ.se hse
    have tN : ∀ K j, gN τ K j = gN μ K j := hse.2.2.2.2.2.2.1
    have hf : hasF τ i ↔ hasF μ i := hse.re.has
    have G := J_go JT (by rw [tN]; exact iP)
    rw [tN, tN, hW, hT, hse.re.ren, hse.re.ru, decide_eq_decide.mpr hf] at G
    generalize hcv : csZ τ i W T (renF μ i) (ruT μ 1 i) (decide (hasF μ i)) = cv at hown hz2 G ⊢
    have cN : ∀ K j, gN cv K j = gN μ K j := fun K j => by rw [← hcv, csZ_N, tN]
    have c41 : gI cv 4 0 1 = nI t := by
      rw [← hcv, csZ_RE.2.1 1 (by decide) (by decide), hse.2.1 1 (by decide) (by decide)]; exact htt
    have zr : zkM zC (clM i W T cv) := by rw [clM_own]; exact zkM_C hz2
    have IH := ih (i + 1) (clM i W T cv) G zr (by rw [clM_N, cN]; exact hW) (by rw [clM_N, cN]; exact hT) (by rw [clM_I4 (by decide) (by decide) (by decide)]; exact c41) (by rw [clM_N, cN]; omega)
    have TT := teleC (mid := 90) (σ := cv) rfl (zkL_r (Or.inl rfl) (zkL_r (Or.inl rfl) (zkL_i zkL_n))) zkS_n zr (by
      conv => rhs; rw [clM_own]
      rw [mxC_l, mxC_id]) IH
    simp only [S90_55, S90_58, gL_sI, gR_sI, gN_sI, gC_sI, gB_sI, gI_sL, gR_sL, gN_sL, gC_sL, gB_sL, gI_sR, gL_sR, gN_sR, gC_sR, gB_sR, gL_sIr, gR_sIr, gN_sIr, gC_sIr, gB_sIr, gI_sLr, gR_sLr, gN_sLr, gC_sLr, gB_sLr, gI_sRr, gL_sRr, gN_sRr, gC_sRr, gB_sRr, gI_sN, gL_sN, gR_sN, gC_sN, gB_sN, gI_sC, gL_sC, gR_sC, gN_sC, gB_sC, gI_sB, gL_sB, gR_sB, gN_sB, gC_sB, gB_sB, gB_am_mk, gI_am_ml, gL_am_ml, gR_am_ml, gB_am_ml, gI_am_add, gL_am_add, gC_am_add, gB_am_add, gI_am_ins, gL_am_ins, gC_am_ins, gB_am_ins, gI_am_rem, gL_am_rem, gC_am_rem, gB_am_rem, gI_am_thr, gL_am_thr, gR_am_thr, gN_am_thr, gB_am_thr, mI_sI_k, mI_sI_j, mI_sI_b, mI_sI_s, mI_sI_i, mI_sI_c, mL_sL_k, mL_sL_j, mL_sL_b, mL_sL_s, mL_sL_i, mL_sL_c, mR_sR_k, mR_sR_j, mR_sR_b, mR_sR_s, mR_sR_i, mR_sR_c, mI_sIr_k, mI_sIr_s, mI_sIr_i, mL_sLr_k, mL_sLr_s, mL_sLr_i, mR_sRr_k, mR_sRr_s, mR_sRr_i, mN_sN_k, mN_sN_i, mN_am_add_k, mN_am_add_s, mR_am_add_k, mN_am_ins_k, mN_am_ins_s, mR_am_ins_k, mN_am_rem_k, mN_am_rem_s, mR_am_rem_k, mR_am_add_s, mR_am_ins_s, mR_am_rem_s, mI_am_mk_k, mI_am_mk_s, mI_am_mk_i, mL_am_mk_k, mL_am_mk_s, mL_am_mk_i, mR_am_mk_k, mR_am_mk_s, mR_am_mk_i, mN_am_mk_k, mN_am_mk_i, mC_am_mk_k, mC_am_mk_s, mN_am_ml_k, mN_am_ml_i, mC_am_ml_k, mC_am_ml_s, mC_sC_k, mC_am_thr_k, sC_3 S, sC_4 S, sR_3_0 S, sC_21 S, sR_3_4 S, sC_25 S, k0, k1, k2, k3, k4, k5, k6, k7, k8, k9, k10, k11, k12, k13, k14, k15, k16, k17, k18, k19, k20, k21, k22, k23, k24, k25, k26, k27, k28, k29, k30, k31, k32, k33, k34, k35, k36, k37, k38, k39, k40, k41, k42, k43, k44, k45, k46, k47, k48, k49, k50, k51, k52, k53, k54, k55, k56, k57, k58, k59, k60, k61, k62, k63, k64, k65, k66, k67, k68, k69, k70, k71, k72, k73, k74, k75, k76, k77, k78, k79, k80, k81, k82, k83, k84, k85, k86, k87, k88, k89, k90, k91, k92, k93, k94, k95, k96, k97, k98, k99, k100, true_and, and_true, and_self, if_true, if_false, ite_true, ite_false, Nat.lt_irrefl, List.length_nil, List.length_cons, Nat.reduceAdd, Nat.reduceLeDiff, Nat.reduceLT, Nat.reduceEqDiff, Nat.zero_lt_one, not_true, not_false_iff, bI_0, bI_1, ne_eq, reduceCtorEq, false_and, and_false, or_true, true_or, or_false, false_or, Nat.lt_one_iff, eq_self, Nat.zero_le, am_ko_v, am_ko_0, am_kil, Nat.reduceBEq, Int32.reduceLT, Int32.reduceLE, Int32.reduceAdd, Int32.reduceSub, i32_10, i32_01, not_true_eq_false, not_false_eq_true, Classical.not_not, nor_self, Nat.lt_add_one, nI_1, nI_pred, rf_n, i32_m0, i32_m1, reduceIte]
    refine TT.mono ?_
    rintro v s ⟨s0, ⟨h1, μ', h2, h3, h4, h5⟩, h6, h7, h8⟩
    refine ⟨h1, μ', ?_, h3, ?_, h5⟩
    · rw [h6, h2, mxC_l, hown, mxC_r]
    · show μ' = mxC μ' (clL W T (i + 1) k (clM i W T μ))
      conv => lhs; rw [h4]
      conv => lhs; rw [hown]
      rw [clM_mx (cN 7 0), clL_mx ((cN 7 0).trans clM_N.symm), mxC_r]
theorem C90 {W T t : Nat} (I : Inv n σ) (hz : zkM zC σ) (ht : t ≤ 9998) (h6 : t % 7 = 6) (htt : gI σ 4 0 1 = nI t) (hW : gN σ 25 0 = W) (hT : gN σ 24 0 = T) : WP (d + 7) 90 0 [some (vr (some (3, 0))), none, none] [] σ (fun v s => v = some none ∧ ∃ μ', s = mxC μ' σ ∧ Inv n (tdM μ') ∧ μ' = mxC μ' (clL W T 0 (gN σ 21 0) σ) ∧ zkM zC μ') := by
  have I0 := I
  (obtain ⟨S, bP, bM, bH, bQ, bD, bT, bX, bO, bW, bG, bS, bF, bU⟩ := id I); (obtain ⟨s3, s4, s29, s30, s28, sC, sN, s33⟩ := id S); (obtain ⟨p_c, p_60, p_n, p_r, p_0, p_1, p_2, p_3, p_4, p_5, p_6, p_7, p_8, p_9, p_10, p_11, p_13, p_19, p_12, p_17, p_16, p_14, p_z, p_hd, p_ho, p_lh, p_pay, p_wp, p_sc, p_ml⟩ := id bP); (obtain ⟨w_c, w_m, w_r, w_k, w_1, w_0, w_z⟩ := id bW); (obtain ⟨d_t, d_b, d_h, d_m⟩ := id bD); (obtain ⟨u_1, u_2⟩ := id bU); (obtain ⟨m_p, m_d, m_f, m_a, m_c, m_b, m_h, m_n⟩ := id bM)
  obtain ⟨t', ht', htt', htw⟩ := d_m
  have : t' = t := (nI_eq (by omega) (by omega)).mp (htt'.symm.trans htt)
  subst this
  have w31 : W < 2147483648 := by omega
  have w38 : gC σ 38 = W := w_c.trans hW
  have w20 : gC σ 20 = W := w_k.trans hW
  have q0 : (gB σ).1 + 1 ≤ 601024 ∧ (gB σ).2 + 2 ≤ 7293034 := by omega
  have q1 : (gB σ).1 + 1 + 1 ≤ 601024 ∧ (gB σ).2 + 2 + 7 * gN σ 21 0 ≤ 7293034 := by omega
  simp only [S90_0, S90_1, S90_2, S90_5, S90_8, gL_sI, gR_sI, gN_sI, gC_sI, gB_sI, gI_sL, gR_sL, gN_sL, gC_sL, gB_sL, gI_sR, gL_sR, gN_sR, gC_sR, gB_sR, gL_sIr, gR_sIr, gN_sIr, gC_sIr, gB_sIr, gI_sLr, gR_sLr, gN_sLr, gC_sLr, gB_sLr, gI_sRr, gL_sRr, gN_sRr, gC_sRr, gB_sRr, gI_sN, gL_sN, gR_sN, gC_sN, gB_sN, gI_sC, gL_sC, gR_sC, gN_sC, gB_sC, gI_sB, gL_sB, gR_sB, gN_sB, gC_sB, gB_sB, gB_am_mk, gI_am_ml, gL_am_ml, gR_am_ml, gB_am_ml, gI_am_add, gL_am_add, gC_am_add, gB_am_add, gI_am_ins, gL_am_ins, gC_am_ins, gB_am_ins, gI_am_rem, gL_am_rem, gC_am_rem, gB_am_rem, gI_am_thr, gL_am_thr, gR_am_thr, gN_am_thr, gB_am_thr, mI_sI_k, mI_sI_j, mI_sI_b, mI_sI_s, mI_sI_i, mI_sI_c, mL_sL_k, mL_sL_j, mL_sL_b, mL_sL_s, mL_sL_i, mL_sL_c, mR_sR_k, mR_sR_j, mR_sR_b, mR_sR_s, mR_sR_i, mR_sR_c, mI_sIr_k, mI_sIr_s, mI_sIr_i, mL_sLr_k, mL_sLr_s, mL_sLr_i, mR_sRr_k, mR_sRr_s, mR_sRr_i, mN_sN_k, mN_sN_i, mN_am_add_k, mN_am_add_s, mR_am_add_k, mN_am_ins_k, mN_am_ins_s, mR_am_ins_k, mN_am_rem_k, mN_am_rem_s, mR_am_rem_k, mR_am_add_s, mR_am_ins_s, mR_am_rem_s, mI_am_mk_k, mI_am_mk_s, mI_am_mk_i, mL_am_mk_k, mL_am_mk_s, mL_am_mk_i, mR_am_mk_k, mR_am_mk_s, mR_am_mk_i, mN_am_mk_k, mN_am_mk_i, mC_am_mk_k, mC_am_mk_s, mN_am_ml_k, mN_am_ml_i, mC_am_ml_k, mC_am_ml_s, mC_sC_k, mC_am_thr_k, sC_3 S, sC_4 S, sR_3_0 S, sC_21 S, sR_3_4 S, sC_25 S, k0, k1, k2, k3, k4, k5, k6, k7, k8, k9, k10, k11, k12, k13, k14, k15, k16, k17, k18, k19, k20, k21, k22, k23, k24, k25, k26, k27, k28, k29, k30, k31, k32, k33, k34, k35, k36, k37, k38, k39, k40, k41, k42, k43, k44, k45, k46, k47, k48, k49, k50, k51, k52, k53, k54, k55, k56, k57, k58, k59, k60, k61, k62, k63, k64, k65, k66, k67, k68, k69, k70, k71, k72, k73, k74, k75, k76, k77, k78, k79, k80, k81, k82, k83, k84, k85, k86, k87, k88, k89, k90, k91, k92, k93, k94, k95, k96, k97, k98, k99, k100, hW, true_and, and_true, and_self, if_true, if_false, ite_true, ite_false, Nat.lt_irrefl, List.length_nil, List.length_cons, Nat.reduceAdd, Nat.reduceLeDiff, Nat.reduceLT, Nat.reduceEqDiff, Nat.zero_lt_one, not_true, not_false_iff, bI_0, bI_1, ne_eq, reduceCtorEq, false_and, and_false, or_true, true_or, or_false, false_or, Nat.lt_one_iff, eq_self, Nat.zero_le, am_ko_v, am_ko_0, am_kil, Nat.reduceBEq, Int32.reduceLT, Int32.reduceLE, Int32.reduceAdd, Int32.reduceSub, i32_10, i32_01, not_true_eq_false, not_false_eq_true, Classical.not_not, nor_self, Nat.lt_add_one, nI_1, nI_pred, rf_n, i32_m0, i32_m1, reduceIte]
  refine C91 w31 S bP bO ?_
  rw [hT]
  have S1 : Sh (am_mk (wkM σ (hwF σ W T)) 38 0 2) := Sh_fr S (Ar.mk rfl rfl rfl (Ar.wkM Ar.rf)) (by simp only [mC_am_mk_k (show (33 : Nat) ≠ 38 by decide), wkM_C]) (fun j _ => by simp only [mR_am_mk_k (show (30 : Nat) ≠ 38 by decide), wkM_R])
  simp only [am_ok, S90_11, S90_14, S90_14q, S90_15, S90_16, S90_19, S90_22, gL_sI, gR_sI, gN_sI, gC_sI, gB_sI, gI_sL, gR_sL, gN_sL, gC_sL, gB_sL, gI_sR, gL_sR, gN_sR, gC_sR, gB_sR, gL_sIr, gR_sIr, gN_sIr, gC_sIr, gB_sIr, gI_sLr, gR_sLr, gN_sLr, gC_sLr, gB_sLr, gI_sRr, gL_sRr, gN_sRr, gC_sRr, gB_sRr, gI_sN, gL_sN, gR_sN, gC_sN, gB_sN, gI_sC, gL_sC, gR_sC, gN_sC, gB_sC, gI_sB, gL_sB, gR_sB, gN_sB, gC_sB, gB_sB, gB_am_mk, gI_am_ml, gL_am_ml, gR_am_ml, gB_am_ml, gI_am_add, gL_am_add, gC_am_add, gB_am_add, gI_am_ins, gL_am_ins, gC_am_ins, gB_am_ins, gI_am_rem, gL_am_rem, gC_am_rem, gB_am_rem, gI_am_thr, gL_am_thr, gR_am_thr, gN_am_thr, gB_am_thr, mI_sI_k, mI_sI_j, mI_sI_b, mI_sI_s, mI_sI_i, mI_sI_c, mL_sL_k, mL_sL_j, mL_sL_b, mL_sL_s, mL_sL_i, mL_sL_c, mR_sR_k, mR_sR_j, mR_sR_b, mR_sR_s, mR_sR_i, mR_sR_c, mI_sIr_k, mI_sIr_s, mI_sIr_i, mL_sLr_k, mL_sLr_s, mL_sLr_i, mR_sRr_k, mR_sRr_s, mR_sRr_i, mN_sN_k, mN_sN_i, mN_am_add_k, mN_am_add_s, mR_am_add_k, mN_am_ins_k, mN_am_ins_s, mR_am_ins_k, mN_am_rem_k, mN_am_rem_s, mR_am_rem_k, mR_am_add_s, mR_am_ins_s, mR_am_rem_s, mI_am_mk_k, mI_am_mk_s, mI_am_mk_i, mL_am_mk_k, mL_am_mk_s, mL_am_mk_i, mR_am_mk_k, mR_am_mk_s, mR_am_mk_i, mN_am_mk_k, mN_am_mk_i, mC_am_mk_k, mC_am_mk_s, mN_am_ml_k, mN_am_ml_i, mC_am_ml_k, mC_am_ml_s, mC_sC_k, mC_am_thr_k, sC_3 S, sC_4 S, sR_3_0 S, sC_21 S, sR_3_4 S, sC_25 S, k0, k1, k2, k3, k4, k5, k6, k7, k8, k9, k10, k11, k12, k13, k14, k15, k16, k17, k18, k19, k20, k21, k22, k23, k24, k25, k26, k27, k28, k29, k30, k31, k32, k33, k34, k35, k36, k37, k38, k39, k40, k41, k42, k43, k44, k45, k46, k47, k48, k49, k50, k51, k52, k53, k54, k55, k56, k57, k58, k59, k60, k61, k62, k63, k64, k65, k66, k67, k68, k69, k70, k71, k72, k73, k74, k75, k76, k77, k78, k79, k80, k81, k82, k83, k84, k85, k86, k87, k88, k89, k90, k91, k92, k93, k94, k95, k96, k97, k98, k99, k100, wkM_R, wkM_N, wkM_C, wkM_B, q0, w38, true_and, and_true, and_self, if_true, if_false, ite_true, ite_false, Nat.lt_irrefl, List.length_nil, List.length_cons, Nat.reduceAdd, Nat.reduceLeDiff, Nat.reduceLT, Nat.reduceEqDiff, Nat.zero_lt_one, not_true, not_false_iff, bI_0, bI_1, ne_eq, reduceCtorEq, false_and, and_false, or_true, true_or, or_false, false_or, Nat.lt_one_iff, eq_self, Nat.zero_le, am_ko_v, am_ko_0, am_kil, Nat.reduceBEq, Int32.reduceLT, Int32.reduceLE, Int32.reduceAdd, Int32.reduceSub, i32_10, i32_01, not_true_eq_false, not_false_eq_true, Classical.not_not, nor_self, Nat.lt_add_one, nI_1, nI_pred, rf_n, i32_m0, i32_m1, reduceIte]
  refine C68 (σ := am_mk (wkM σ (hwF σ W T)) 38 0 2) S1 (by simp only [gB_am_mk, mI_am_mk_k, mI_am_mk_s, mI_am_mk_i, mL_am_mk_k, mL_am_mk_s, mL_am_mk_i, mR_am_mk_k, mR_am_mk_s, mR_am_mk_i, mN_am_mk_k, mN_am_mk_i, mC_am_mk_k, mC_am_mk_s, true_and, and_true, false_and, and_false, and_self, if_true, if_false, reduceIte, Nat.reduceEqDiff, eq_self, ne_eq, not_true_eq_false, not_false_eq_true, rf_n, nI_1, nI_pred, reduceCtorEq, Nat.lt_irrefl, true_or, or_true, wkM_C, w38]; omega) (by simp only [gB_am_mk, mI_am_mk_k, mI_am_mk_s, mI_am_mk_i, mL_am_mk_k, mL_am_mk_s, mL_am_mk_i, mR_am_mk_k, mR_am_mk_s, mR_am_mk_i, mN_am_mk_k, mN_am_mk_i, mC_am_mk_k, mC_am_mk_s, true_and, and_true, false_and, and_false, and_self, if_true, if_false, reduceIte, Nat.reduceEqDiff, eq_self, ne_eq, not_true_eq_false, not_false_eq_true, rf_n, nI_1, nI_pred, reduceCtorEq, Nat.lt_irrefl, true_or, or_true, wkM_C, w20]) p_60 q1 ?_
  have hν : sR (am_mk (sI (am_mk (wkM σ (hwF σ W T)) 38 0 2) 38 W 0 (nI (gN σ 21 0))) 20 (7 * gN σ 21 0) (7 * gN σ 21 0)) 38 W 1 (some (20, W)) = wnM (wkM σ (hwF σ W T)) W (gN σ 21 0) := rfl
  rw [hν]
  have JS := J_start I0 hW (by omega)
  rw [hT] at JS
  have agR : Ag zR σ (wnM (wkM σ (hwF σ W T)) W (gN σ 21 0)) := Ag.sR rfl (Ag.mk rfl (Ag.sI rfl (Ag.mk rfl (Ag.wkM rfl Ag.rf))))
  have eN : ∀ K i, K ≠ 38 → K ≠ 20 → gN (wnM (wkM σ (hwF σ W T)) W (gN σ 21 0)) K i = gN σ K i := fun K i h1 h2 => by
    unfold wnM; simp only [gN_sR, mN_am_mk_k h2, gN_sI, mN_am_mk_k h1, wkM_N]
  have e41 : gI (wnM (wkM σ (hwF σ W T)) W (gN σ 21 0)) 4 0 1 = gI σ 4 0 1 := (agR 4 rfl).1 0 1
  have zν : zkM zC (wnM (wkM σ (hwF σ W T)) W (gN σ 21 0)) := by
    unfold wnM
    refine zk_sR (zkq_s (Or.inl rfl)) (zk_mk (zk_sI (zk_mk ?_)))
    intro K i j hK
    rw [wkM_R]; exact hz K i j hK
  generalize wnM (wkM σ (hwF σ W T)) W (gN σ 21 0) = ν at JS agR eN e41 zν
  have A := L90 (d := d) (W := W) (T := T) ht h6 (gN σ 21 0) 0 ν JS zν ((eN 25 0 (by decide) (by decide)).trans hW) ((eN 24 0 (by decide) (by decide)).trans hT) (e41.trans htt) (by rw [eN 21 0 (by decide) (by decide)]; omega)
  rw [nI_0] at A
  simp only [S90_25, S90_26, S90_27, gL_sI, gR_sI, gN_sI, gC_sI, gB_sI, gI_sL, gR_sL, gN_sL, gC_sL, gB_sL, gI_sR, gL_sR, gN_sR, gC_sR, gB_sR, gL_sIr, gR_sIr, gN_sIr, gC_sIr, gB_sIr, gI_sLr, gR_sLr, gN_sLr, gC_sLr, gB_sLr, gI_sRr, gL_sRr, gN_sRr, gC_sRr, gB_sRr, gI_sN, gL_sN, gR_sN, gC_sN, gB_sN, gI_sC, gL_sC, gR_sC, gN_sC, gB_sC, gI_sB, gL_sB, gR_sB, gN_sB, gC_sB, gB_sB, gB_am_mk, gI_am_ml, gL_am_ml, gR_am_ml, gB_am_ml, gI_am_add, gL_am_add, gC_am_add, gB_am_add, gI_am_ins, gL_am_ins, gC_am_ins, gB_am_ins, gI_am_rem, gL_am_rem, gC_am_rem, gB_am_rem, gI_am_thr, gL_am_thr, gR_am_thr, gN_am_thr, gB_am_thr, mI_sI_k, mI_sI_j, mI_sI_b, mI_sI_s, mI_sI_i, mI_sI_c, mL_sL_k, mL_sL_j, mL_sL_b, mL_sL_s, mL_sL_i, mL_sL_c, mR_sR_k, mR_sR_j, mR_sR_b, mR_sR_s, mR_sR_i, mR_sR_c, mI_sIr_k, mI_sIr_s, mI_sIr_i, mL_sLr_k, mL_sLr_s, mL_sLr_i, mR_sRr_k, mR_sRr_s, mR_sRr_i, mN_sN_k, mN_sN_i, mN_am_add_k, mN_am_add_s, mR_am_add_k, mN_am_ins_k, mN_am_ins_s, mR_am_ins_k, mN_am_rem_k, mN_am_rem_s, mR_am_rem_k, mR_am_add_s, mR_am_ins_s, mR_am_rem_s, mI_am_mk_k, mI_am_mk_s, mI_am_mk_i, mL_am_mk_k, mL_am_mk_s, mL_am_mk_i, mR_am_mk_k, mR_am_mk_s, mR_am_mk_i, mN_am_mk_k, mN_am_mk_i, mC_am_mk_k, mC_am_mk_s, mN_am_ml_k, mN_am_ml_i, mC_am_ml_k, mC_am_ml_s, mC_sC_k, mC_am_thr_k, sC_3 S, sC_4 S, sR_3_0 S, sC_21 S, sR_3_4 S, sC_25 S, k0, k1, k2, k3, k4, k5, k6, k7, k8, k9, k10, k11, k12, k13, k14, k15, k16, k17, k18, k19, k20, k21, k22, k23, k24, k25, k26, k27, k28, k29, k30, k31, k32, k33, k34, k35, k36, k37, k38, k39, k40, k41, k42, k43, k44, k45, k46, k47, k48, k49, k50, k51, k52, k53, k54, k55, k56, k57, k58, k59, k60, k61, k62, k63, k64, k65, k66, k67, k68, k69, k70, k71, k72, k73, k74, k75, k76, k77, k78, k79, k80, k81, k82, k83, k84, k85, k86, k87, k88, k89, k90, k91, k92, k93, k94, k95, k96, k97, k98, k99, k100, true_and, and_true, and_self, if_true, if_false, ite_true, ite_false, Nat.lt_irrefl, List.length_nil, List.length_cons, Nat.reduceAdd, Nat.reduceLeDiff, Nat.reduceLT, Nat.reduceEqDiff, Nat.zero_lt_one, not_true, not_false_iff, bI_0, bI_1, ne_eq, reduceCtorEq, false_and, and_false, or_true, true_or, or_false, false_or, Nat.lt_one_iff, eq_self, Nat.zero_le, am_ko_v, am_ko_0, am_kil, Nat.reduceBEq, Int32.reduceLT, Int32.reduceLE, Int32.reduceAdd, Int32.reduceSub, i32_10, i32_01, not_true_eq_false, not_false_eq_true, Classical.not_not, nor_self, Nat.lt_add_one, nI_1, nI_pred, rf_n, i32_m0, i32_m1, reduceIte]
  refine A.mono ?_
  rintro v s ⟨h1, μ', h2, h3, h4, h5⟩
  refine ⟨h1, μ', ?_, h3, ?_, h5⟩
  · rw [h2]; exact mxC_ag agR
  · have eν : ν = mxC ν σ := mxC_id.symm.trans (mxC_ag agR)
    conv => lhs; rw [h4]
    conv => lhs; rw [eν]
    rw [clL_mx (eN 7 0 (by decide) (by decide)), mxC_r]
end WEEK2
