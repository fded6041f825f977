/-! the class: a new TEXT, names numbered, the TEXT taken -/
def ntM (σ : aM) (a : Int32) (tx : Nat) : aM := sI (sI (sI (sI (sR (sR (am_ml (am_mk σ 36 0 6) 12) 36 (gC σ 36) 3 (some (12, gC σ 12))) 36 (gC σ 36) 4 none) 36 (gC σ 36) 5 0) 36 (gC σ 36) 0 (nI tx)) 36 (gC σ 36) 1 a) 36 (gC σ 36) 2 (gI σ 3 0 12)
section NTM
variable {σ : aM} {a : Int32} {tx K i j : Nat}
theorem nt_I (h : K ≠ 36 ∨ i ≠ gC σ 36) : gI (ntM σ a tx) K i j = gI σ K i j := by
  have e : ∀ {c : Nat}, ¬ (K = 36 ∧ i = gC σ 36 ∧ j = c) := fun q => h.elim (fun e => e q.1) (fun e => e q.2.1)
  unfold ntM
  rw [gI_sI, if_neg e, gI_sI, if_neg e, gI_sI, if_neg e, gI_sI, if_neg e]
  show gI (am_mk σ 36 0 6) K i j = _
  rw [gI_am_mk, if_neg (fun q => h.elim (fun e => e q.1) (fun e => e q.2))]
theorem nt_L (h : K ≠ 36 ∨ i ≠ gC σ 36) : gL (ntM σ a tx) K i j = gL σ K i j := by
  show gL (am_mk σ 36 0 6) K i j = _
  rw [gL_am_mk, if_neg (fun q => h.elim (fun e => e q.1) (fun e => e q.2))]
theorem nt_R (h : K ≠ 36 ∨ i ≠ gC σ 36) : gR (ntM σ a tx) K i j = gR σ K i j := by
  have e : ∀ {c : Nat}, ¬ (K = 36 ∧ i = gC σ 36 ∧ j = c) := fun q => h.elim (fun e => e q.1) (fun e => e q.2.1)
  show gR (sR (sR (am_ml (am_mk σ 36 0 6) 12) 36 (gC σ 36) 3 (some (12, gC σ 12))) 36 (gC σ 36) 4 none) K i j = _
  rw [gR_sR, if_neg e, gR_sR, if_neg e]
  show gR (am_mk σ 36 0 6) K i j = _
  rw [gR_am_mk, if_neg (fun q => h.elim (fun e => e q.1) (fun e => e q.2))]
theorem nt_R3 : gR (ntM σ a tx) 36 (gC σ 36) 3 = some (12, gC σ 12) := by
  show gR (sR (sR (am_ml (am_mk σ 36 0 6) 12) 36 (gC σ 36) 3 (some (12, gC σ 12))) 36 (gC σ 36) 4 none) 36 (gC σ 36) 3 = _
  rw [gR_sR, if_neg (fun q => absurd q.2.2 (by decide)), gR_sR, if_pos ⟨rfl, rfl, rfl⟩]
theorem nt_N (h : K ≠ 36) (h2 : K ≠ 12 ∨ i ≠ gC σ 12) : gN (ntM σ a tx) K i = gN σ K i := by
  show gN (am_ml (am_mk σ 36 0 6) 12) K i = _
  have e : gC (am_mk σ 36 0 6) 12 = gC σ 12 := mC_am_mk_k (by decide)
  rw [gN_am_ml, e, if_neg (fun q => h2.elim (fun e => e q.1) (fun e => e q.2)), gN_am_mk, if_neg (fun q => h q.1)]
theorem nt_N12 : gN (ntM σ a tx) 12 (gC σ 12) = 0 := by
  show gN (am_ml (am_mk σ 36 0 6) 12) 12 (gC σ 12) = 0
  have e : gC (am_mk σ 36 0 6) 12 = gC σ 12 := mC_am_mk_k (by decide)
  rw [gN_am_ml, e, if_pos ⟨rfl, rfl⟩]
theorem nt_C (h : K ≠ 36) (h2 : K ≠ 12) : gC (ntM σ a tx) K = gC σ K := by
  show gC (am_ml (am_mk σ 36 0 6) 12) K = _
  rw [gC_am_ml, if_neg h2, gC_am_mk, if_neg h]
theorem nt_C36 : gC (ntM σ a tx) 36 = gC σ 36 + 1 := by
  show gC (am_ml (am_mk σ 36 0 6) 12) 36 = _
  rw [gC_am_ml, if_neg (by decide), gC_am_mk, if_pos rfl]
theorem nt_C12 : gC (ntM σ a tx) 12 = gC σ 12 + 1 := by
  show gC (am_ml (am_mk σ 36 0 6) 12) 12 = _
  rw [gC_am_ml, if_pos rfl, gC_am_mk, if_neg (by decide)]
theorem nt_B : gB (ntM σ a tx) = ((gB σ).1 + 2, (gB σ).2 + 9) := rfl
theorem nt_5 : gI (ntM σ a tx) 36 (gC σ 36) 5 = 0 := by
  unfold ntM
  rw [mI_sI_j (by decide), mI_sI_j (by decide), mI_sI_j (by decide), mI_sI_s]
theorem nt_0 : gI (ntM σ a tx) 36 (gC σ 36) 0 = nI tx := by
  unfold ntM
  rw [mI_sI_j (by decide), mI_sI_j (by decide), mI_sI_s]
theorem nt_1 : gI (ntM σ a tx) 36 (gC σ 36) 1 = a := by
  unfold ntM
  rw [mI_sI_j (by decide), mI_sI_s]
theorem nt_2 : gI (ntM σ a tx) 36 (gC σ 36) 2 = gI σ 3 0 12 := by
  unfold ntM
  rw [mI_sI_s]
theorem Sh_nt (S : Sh σ) : Sh (ntM σ a tx) := by
  obtain ⟨s3, s4, s29, s30, s28, sC, sN, s33⟩ := S
  have n36 : ∀ K, shC K = true → K ≠ 36 := fun K hK e => by rw [e] at hK; exact absurd hK (by decide)
  have n12 : ∀ K, shC K = true → K ≠ 12 := fun K hK e => by rw [e] at hK; exact absurd hK (by decide)
  have m36 : ∀ K, shS K = true → K ≠ 36 := fun K hK e => by rw [e] at hK; exact absurd hK (by decide)
  have m12 : ∀ K, shS K = true → K ≠ 12 := fun K hK e => by rw [e] at hK; exact absurd hK (by decide)
  exact ⟨fun j => (nt_R (Or.inl (by decide))).trans (s3 j), fun j => (nt_R (Or.inl (by decide))).trans (s4 j), fun j => (nt_R (Or.inl (by decide))).trans (s29 j), fun j hj => (nt_R (Or.inl (by decide))).trans (s30 j hj), fun j => (nt_R (Or.inl (by decide))).trans (s28 j), fun K hK => (nt_C (n36 K hK) (n12 K hK)).trans (sC K hK), fun K hK => (nt_N (m36 K hK) (Or.inl (m12 K hK))).trans (sN K hK), (nt_C (by decide) (by decide)).trans s33⟩
end NTM
def clN (σ σ1 : aM) (u0 : Nat) (R : List rcT) (S0 : nmT) (i : Nat) : Prop := σ1.2.2 = σ.2.2 ∧ (∀ K a j, K ≠ 9 → gL σ1 K a j = gL σ K a j) ∧ (∀ j, gL σ1 9 0 j = (nmS R S0 i).1 j) ∧ gI σ1 30 0 3 = nI (nmS R S0 i).2 ∧ (∀ K a j, (K ≠ 19 ∨ j ≠ 3 ∨ a < u0 ∨ u0 + i ≤ a) → (K ≠ 30 ∨ j ≠ 3) → gI σ1 K a j = gI σ K a j) ∧ ∀ s, s < i → gI σ1 19 (u0 + s) 3 = nmX R S0 s
section CNM
variable {d n m : Nat} {σ : aM} {Q : aR → aM → Prop} {S0 : nmT} {w : Int64}
theorem L12 (S : Sh σ) (h42 : gI σ 30 0 3 = nI m) (hm : m < 120) {f : Nat → Int64} (h75 : ∀ j, gL σ 9 0 j = f j) : ∀ k i, i + k = m → (if nmF1 f w k i < m then Q (some (some (vi (nI (nmF1 f w k i))))) σ else WP d 12 38 [some (vr (some (30, 0))), some (vl w), none, some (vi (nI m))] [] σ Q) → WP d 12 2 [some (vr (some (30, 0))), some (vl w), none, some (vi (nI i))] [] σ Q := by
  intro k
  induction k with
  | zero =>
    intro i hi q
    have e : i = m := by omega
    subst e
    have c1 : ¬ nI i < nI i := nI_nlt (Nat.le_refl i) (by omega)
    rw [if_neg (by unfold nmF1; omega)] at q
    rw [S12_2]
    simp only [S12_3, S12_4, S12_7, S12_10, S12_11, S12_12, S12_15, S12_16, S12_19, S12_20, S12_23, S12_24, S12_25, S12_26, S12_27, S12_30, S12_31, S12_32, S12_35, gL_sI, gR_sI, gN_sI, gC_sI, gB_sI, gI_sL, gR_sL, gN_sL, gC_sL, gB_sL, gI_sR, gL_sR, gN_sR, gC_sR, gB_sR, gL_sIr, gR_sIr, gN_sIr, gC_sIr, gB_sIr, gI_sLr, gR_sLr, gN_sLr, gC_sLr, gB_sLr, gI_sRr, gL_sRr, gN_sRr, gC_sRr, gB_sRr, gI_sN, gL_sN, gR_sN, gC_sN, gB_sN, gI_sC, gL_sC, gR_sC, gN_sC, gB_sC, gI_sB, gL_sB, gR_sB, gN_sB, gC_sB, gB_sB, gB_am_mk, gI_am_ml, gL_am_ml, gR_am_ml, gB_am_ml, gI_am_add, gL_am_add, gC_am_add, gB_am_add, gI_am_ins, gL_am_ins, gC_am_ins, gB_am_ins, gI_am_rem, gL_am_rem, gC_am_rem, gB_am_rem, gI_am_thr, gL_am_thr, gR_am_thr, gN_am_thr, gB_am_thr, mI_sI_k, mI_sI_j, mI_sI_b, mI_sI_s, mI_sI_i, mI_sI_c, mL_sL_k, mL_sL_j, mL_sL_b, mL_sL_s, mL_sL_i, mL_sL_c, mR_sR_k, mR_sR_j, mR_sR_b, mR_sR_s, mR_sR_i, mR_sR_c, mI_sIr_k, mI_sIr_s, mI_sIr_i, mL_sLr_k, mL_sLr_s, mL_sLr_i, mR_sRr_k, mR_sRr_s, mR_sRr_i, mN_sN_k, mN_sN_i, mN_am_add_k, mN_am_add_s, mR_am_add_k, mN_am_ins_k, mN_am_ins_s, mR_am_ins_k, mN_am_rem_k, mN_am_rem_s, mR_am_rem_k, mR_am_add_s, mR_am_ins_s, mR_am_rem_s, mI_am_mk_k, mI_am_mk_s, mI_am_mk_i, mL_am_mk_k, mL_am_mk_s, mL_am_mk_i, mR_am_mk_k, mR_am_mk_s, mR_am_mk_i, mN_am_mk_k, mN_am_mk_i, mC_am_mk_k, mC_am_mk_s, mN_am_ml_k, mN_am_ml_i, mC_am_ml_k, mC_am_ml_s, mC_sC_k, mC_am_thr_k, sC_3 S, sC_4 S, sC_30 S, sR_30_2 S, sC_9 S, sN_9 S, k0, k1, k2, k3, k4, k5, k6, k7, k8, k9, k10, k11, k12, k13, k14, k15, k16, k17, k18, k19, k20, k21, k22, k23, k24, k25, k26, k27, k28, k29, k30, k31, k32, k33, k34, k35, k36, k37, k38, k39, k40, k41, k42, k43, k44, k45, k46, k47, k48, k49, k50, k51, k52, k53, k54, k55, k56, k57, k58, k59, k60, k61, k62, k63, k64, k65, k66, k67, k68, k69, k70, k71, k72, k73, k74, k75, k76, k77, k78, k79, k80, k81, k82, k83, k84, k85, k86, k87, k88, k89, k90, k91, k92, k93, k94, k95, k96, k97, k98, k99, k100, h42, c1, true_and, and_true, and_self, if_true, if_false, ite_true, ite_false, Nat.lt_irrefl, List.length_nil, List.length_cons, Nat.reduceAdd, Nat.reduceLeDiff, Nat.reduceLT, Nat.reduceEqDiff, Nat.zero_lt_one, not_true, not_false_iff, bI_0, bI_1, ne_eq, reduceCtorEq, false_and, and_false, or_true, true_or, or_false, false_or, Nat.lt_one_iff, eq_self, Nat.zero_le, am_ko_v, am_ko_0, am_kil, Nat.reduceBEq, Int32.reduceLT, Int32.reduceLE, Int32.reduceAdd, Int32.reduceSub, i32_10, i32_01, not_true_eq_false, not_false_eq_true, Classical.not_not, nor_self, Nat.lt_add_one, nI_1, nI_pred, rf_n, i32_m0, i32_m1, reduceIte]
    exact q
  | succ k ih =>
    intro i hi q
    have c1 : nI i < nI m := nI_lt (by omega) (by omega)
    have c2 : nI i < nI 120 := nI_lt (by omega) (by omega)
    have i31 : i < 2147483648 := by omega
    have i120 : i < 120 := by omega
    unfold nmF1 at q
    rw [S12_2]
    by_cases c : f i = w
    · rw [if_pos c, if_pos (by omega)] at q
      have cc : lg_cmp (f i) w = 0 := lgc_eq.mpr c
      simp only [S12_3, S12_4, S12_7, S12_10, S12_11, S12_12, S12_15, S12_16, S12_19, S12_20, S12_23, S12_24, S12_25, S12_26, S12_27, S12_30, S12_31, S12_32, S12_35, gL_sI, gR_sI, gN_sI, gC_sI, gB_sI, gI_sL, gR_sL, gN_sL, gC_sL, gB_sL, gI_sR, gL_sR, gN_sR, gC_sR, gB_sR, gL_sIr, gR_sIr, gN_sIr, gC_sIr, gB_sIr, gI_sLr, gR_sLr, gN_sLr, gC_sLr, gB_sLr, gI_sRr, gL_sRr, gN_sRr, gC_sRr, gB_sRr, gI_sN, gL_sN, gR_sN, gC_sN, gB_sN, gI_sC, gL_sC, gR_sC, gN_sC, gB_sC, gI_sB, gL_sB, gR_sB, gN_sB, gC_sB, gB_sB, gB_am_mk, gI_am_ml, gL_am_ml, gR_am_ml, gB_am_ml, gI_am_add, gL_am_add, gC_am_add, gB_am_add, gI_am_ins, gL_am_ins, gC_am_ins, gB_am_ins, gI_am_rem, gL_am_rem, gC_am_rem, gB_am_rem, gI_am_thr, gL_am_thr, gR_am_thr, gN_am_thr, gB_am_thr, mI_sI_k, mI_sI_j, mI_sI_b, mI_sI_s, mI_sI_i, mI_sI_c, mL_sL_k, mL_sL_j, mL_sL_b, mL_sL_s, mL_sL_i, mL_sL_c, mR_sR_k, mR_sR_j, mR_sR_b, mR_sR_s, mR_sR_i, mR_sR_c, mI_sIr_k, mI_sIr_s, mI_sIr_i, mL_sLr_k, mL_sLr_s, mL_sLr_i, mR_sRr_k, mR_sRr_s, mR_sRr_i, mN_sN_k, mN_sN_i, mN_am_add_k, mN_am_add_s, mR_am_add_k, mN_am_ins_k, mN_am_ins_s, mR_am_ins_k, mN_am_rem_k, mN_am_rem_s, mR_am_rem_k, mR_am_add_s, mR_am_ins_s, mR_am_rem_s, mI_am_mk_k, mI_am_mk_s, mI_am_mk_i, mL_am_mk_k, mL_am_mk_s, mL_am_mk_i, mR_am_mk_k, mR_am_mk_s, mR_am_mk_i, mN_am_mk_k, mN_am_mk_i, mC_am_mk_k, mC_am_mk_s, mN_am_ml_k, mN_am_ml_i, mC_am_ml_k, mC_am_ml_s, mC_sC_k, mC_am_thr_k, sC_3 S, sC_4 S, sC_30 S, sR_30_2 S, sC_9 S, sN_9 S, k0, k1, k2, k3, k4, k5, k6, k7, k8, k9, k10, k11, k12, k13, k14, k15, k16, k17, k18, k19, k20, k21, k22, k23, k24, k25, k26, k27, k28, k29, k30, k31, k32, k33, k34, k35, k36, k37, k38, k39, k40, k41, k42, k43, k44, k45, k46, k47, k48, k49, k50, k51, k52, k53, k54, k55, k56, k57, k58, k59, k60, k61, k62, k63, k64, k65, k66, k67, k68, k69, k70, k71, k72, k73, k74, k75, k76, k77, k78, k79, k80, k81, k82, k83, k84, k85, k86, k87, k88, k89, k90, k91, k92, k93, k94, k95, k96, k97, k98, k99, k100, h42, c1, c2, h75, ini_iff i31, nI_clamp i31, i120, cc, true_and, and_true, and_self, if_true, if_false, ite_true, ite_false, Nat.lt_irrefl, List.length_nil, List.length_cons, Nat.reduceAdd, Nat.reduceLeDiff, Nat.reduceLT, Nat.reduceEqDiff, Nat.zero_lt_one, not_true, not_false_iff, bI_0, bI_1, ne_eq, reduceCtorEq, false_and, and_false, or_true, true_or, or_false, false_or, Nat.lt_one_iff, eq_self, Nat.zero_le, am_ko_v, am_ko_0, am_kil, Nat.reduceBEq, Int32.reduceLT, Int32.reduceLE, Int32.reduceAdd, Int32.reduceSub, i32_10, i32_01, not_true_eq_false, not_false_eq_true, Classical.not_not, nor_self, Nat.lt_add_one, nI_1, nI_pred, rf_n, i32_m0, i32_m1, reduceIte]
      exact q
    · rw [if_neg c] at q
      have cc : ¬ lg_cmp (f i) w = 0 := fun e => c (lgc_eq.mp e)
      simp only [S12_3, S12_4, S12_7, S12_10, S12_11, S12_12, S12_15, S12_16, S12_19, S12_20, S12_23, S12_24, S12_25, S12_26, S12_27, S12_30, S12_31, S12_32, S12_35, gL_sI, gR_sI, gN_sI, gC_sI, gB_sI, gI_sL, gR_sL, gN_sL, gC_sL, gB_sL, gI_sR, gL_sR, gN_sR, gC_sR, gB_sR, gL_sIr, gR_sIr, gN_sIr, gC_sIr, gB_sIr, gI_sLr, gR_sLr, gN_sLr, gC_sLr, gB_sLr, gI_sRr, gL_sRr, gN_sRr, gC_sRr, gB_sRr, gI_sN, gL_sN, gR_sN, gC_sN, gB_sN, gI_sC, gL_sC, gR_sC, gN_sC, gB_sC, gI_sB, gL_sB, gR_sB, gN_sB, gC_sB, gB_sB, gB_am_mk, gI_am_ml, gL_am_ml, gR_am_ml, gB_am_ml, gI_am_add, gL_am_add, gC_am_add, gB_am_add, gI_am_ins, gL_am_ins, gC_am_ins, gB_am_ins, gI_am_rem, gL_am_rem, gC_am_rem, gB_am_rem, gI_am_thr, gL_am_thr, gR_am_thr, gN_am_thr, gB_am_thr, mI_sI_k, mI_sI_j, mI_sI_b, mI_sI_s, mI_sI_i, mI_sI_c, mL_sL_k, mL_sL_j, mL_sL_b, mL_sL_s, mL_sL_i, mL_sL_c, mR_sR_k, mR_sR_j, mR_sR_b, mR_sR_s, mR_sR_i, mR_sR_c, mI_sIr_k, mI_sIr_s, mI_sIr_i, mL_sLr_k, mL_sLr_s, mL_sLr_i, mR_sRr_k, mR_sRr_s, mR_sRr_i, mN_sN_k, mN_sN_i, mN_am_add_k, mN_am_add_s, mR_am_add_k, mN_am_ins_k, mN_am_ins_s, mR_am_ins_k, mN_am_rem_k, mN_am_rem_s, mR_am_rem_k, mR_am_add_s, mR_am_ins_s, mR_am_rem_s, mI_am_mk_k, mI_am_mk_s, mI_am_mk_i, mL_am_mk_k, mL_am_mk_s, mL_am_mk_i, mR_am_mk_k, mR_am_mk_s, mR_am_mk_i, mN_am_mk_k, mN_am_mk_i, mC_am_mk_k, mC_am_mk_s, mN_am_ml_k, mN_am_ml_i, mC_am_ml_k, mC_am_ml_s, mC_sC_k, mC_am_thr_k, sC_3 S, sC_4 S, sC_30 S, sR_30_2 S, sC_9 S, sN_9 S, k0, k1, k2, k3, k4, k5, k6, k7, k8, k9, k10, k11, k12, k13, k14, k15, k16, k17, k18, k19, k20, k21, k22, k23, k24, k25, k26, k27, k28, k29, k30, k31, k32, k33, k34, k35, k36, k37, k38, k39, k40, k41, k42, k43, k44, k45, k46, k47, k48, k49, k50, k51, k52, k53, k54, k55, k56, k57, k58, k59, k60, k61, k62, k63, k64, k65, k66, k67, k68, k69, k70, k71, k72, k73, k74, k75, k76, k77, k78, k79, k80, k81, k82, k83, k84, k85, k86, k87, k88, k89, k90, k91, k92, k93, k94, k95, k96, k97, k98, k99, k100, h42, c1, c2, h75, ini_iff i31, nI_clamp i31, i120, cc, nI_add, true_and, and_true, and_self, if_true, if_false, ite_true, ite_false, Nat.lt_irrefl, List.length_nil, List.length_cons, Nat.reduceAdd, Nat.reduceLeDiff, Nat.reduceLT, Nat.reduceEqDiff, Nat.zero_lt_one, not_true, not_false_iff, bI_0, bI_1, ne_eq, reduceCtorEq, false_and, and_false, or_true, true_or, or_false, false_or, Nat.lt_one_iff, eq_self, Nat.zero_le, am_ko_v, am_ko_0, am_kil, Nat.reduceBEq, Int32.reduceLT, Int32.reduceLE, Int32.reduceAdd, Int32.reduceSub, i32_10, i32_01, not_true_eq_false, not_false_eq_true, Classical.not_not, nor_self, Nat.lt_add_one, nI_1, nI_pred, rf_n, i32_m0, i32_m1, reduceIte]
      exact ih (i + 1) (by omega) q
theorem C12 (S : Sh σ) (h42 : gI σ 30 0 3 = nI S0.2) (hm : S0.2 < 120) (h75 : ∀ j, gL σ 9 0 j = S0.1 j) (q : Q (some (some (vi (nI (nmK S0 w))))) (sI (sL σ 9 0 (nmK S0 w) w) 30 0 3 (nI (nmU S0 w).2))) : WP d 12 0 [some (vr (some (30, 0))), some (vl w), none, none] [] σ Q := by
  have m31 : S0.2 < 2147483648 := by omega
  have c2 : nI S0.2 < nI 120 := nI_lt hm (by omega)
  have go := L12 (d := d) (w := w) (Q := Q) S h42 hm (f := S0.1) h75 S0.2 0 (by omega) (by
    show (if nmK S0 w < S0.2 then _ else _)
    by_cases c : nmK S0 w < S0.2
    · rw [if_pos c]
      have e := nmF1_at (f := S0.1) (w := w) S0.2 0 (by unfold nmK at c; omega)
      have e1 : sL σ 9 0 (nmK S0 w) w = σ := by
        have : gL σ 9 0 (nmK S0 w) = w := (h75 _).trans e
        unfold sL am_u3
        refine Prod.ext rfl (Prod.ext ?_ rfl)
        funext x y z
        dsimp only
        by_cases h : x = 9 ∧ y = 0 ∧ z = nmK S0 w
        · rw [if_pos h, h.1, h.2.1, h.2.2]; exact this.symm
        · rw [if_neg h]
      have e2 : sI σ 30 0 3 (nI (nmU S0 w).2) = σ := by
        rw [nmU_id c]
        unfold sI am_u3
        refine Prod.ext ?_ rfl
        funext x y z
        dsimp only
        by_cases h : x = 30 ∧ y = 0 ∧ z = 3
        · rw [if_pos h, h.1, h.2.1, h.2.2]; exact h42.symm
        · rw [if_neg h]
      rw [e1, e2] at q
      exact q
    · rw [if_neg c]
      obtain ⟨e1, e2⟩ := nmU_new c
      rw [e1, e2] at q
      have e3 : nI (S0.2 + 1) - 1 = nI S0.2 := nI_pred _
      simp only [S12_38, S12_39, S12_42, S12_43, S12_46, S12_47, S12_50, S12_51, S12_52, S12_53, S12_56, S12_57, S12_60, S12_61, S12_62, S12_63, S12_63q, S12_64, S12_67, S12_68, S12_69, S12_72, S12_73, S12_76, S12_77, S12_78, gL_sI, gR_sI, gN_sI, gC_sI, gB_sI, gI_sL, gR_sL, gN_sL, gC_sL, gB_sL, gI_sR, gL_sR, gN_sR, gC_sR, gB_sR, gL_sIr, gR_sIr, gN_sIr, gC_sIr, gB_sIr, gI_sLr, gR_sLr, gN_sLr, gC_sLr, gB_sLr, gI_sRr, gL_sRr, gN_sRr, gC_sRr, gB_sRr, gI_sN, gL_sN, gR_sN, gC_sN, gB_sN, gI_sC, gL_sC, gR_sC, gN_sC, gB_sC, gI_sB, gL_sB, gR_sB, gN_sB, gC_sB, gB_sB, gB_am_mk, gI_am_ml, gL_am_ml, gR_am_ml, gB_am_ml, gI_am_add, gL_am_add, gC_am_add, gB_am_add, gI_am_ins, gL_am_ins, gC_am_ins, gB_am_ins, gI_am_rem, gL_am_rem, gC_am_rem, gB_am_rem, gI_am_thr, gL_am_thr, gR_am_thr, gN_am_thr, gB_am_thr, mI_sI_k, mI_sI_j, mI_sI_b, mI_sI_s, mI_sI_i, mI_sI_c, mL_sL_k, mL_sL_j, mL_sL_b, mL_sL_s, mL_sL_i, mL_sL_c, mR_sR_k, mR_sR_j, mR_sR_b, mR_sR_s, mR_sR_i, mR_sR_c, mI_sIr_k, mI_sIr_s, mI_sIr_i, mL_sLr_k, mL_sLr_s, mL_sLr_i, mR_sRr_k, mR_sRr_s, mR_sRr_i, mN_sN_k, mN_sN_i, mN_am_add_k, mN_am_add_s, mR_am_add_k, mN_am_ins_k, mN_am_ins_s, mR_am_ins_k, mN_am_rem_k, mN_am_rem_s, mR_am_rem_k, mR_am_add_s, mR_am_ins_s, mR_am_rem_s, mI_am_mk_k, mI_am_mk_s, mI_am_mk_i, mL_am_mk_k, mL_am_mk_s, mL_am_mk_i, mR_am_mk_k, mR_am_mk_s, mR_am_mk_i, mN_am_mk_k, mN_am_mk_i, mC_am_mk_k, mC_am_mk_s, mN_am_ml_k, mN_am_ml_i, mC_am_ml_k, mC_am_ml_s, mC_sC_k, mC_am_thr_k, sC_3 S, sC_4 S, sC_30 S, sR_30_2 S, sC_9 S, sN_9 S, k0, k1, k2, k3, k4, k5, k6, k7, k8, k9, k10, k11, k12, k13, k14, k15, k16, k17, k18, k19, k20, k21, k22, k23, k24, k25, k26, k27, k28, k29, k30, k31, k32, k33, k34, k35, k36, k37, k38, k39, k40, k41, k42, k43, k44, k45, k46, k47, k48, k49, k50, k51, k52, k53, k54, k55, k56, k57, k58, k59, k60, k61, k62, k63, k64, k65, k66, k67, k68, k69, k70, k71, k72, k73, k74, k75, k76, k77, k78, k79, k80, k81, k82, k83, k84, k85, k86, k87, k88, k89, k90, k91, k92, k93, k94, k95, k96, k97, k98, k99, k100, h42, c2, ini_iff m31, nI_clamp m31, hm, nI_add, e3, true_and, and_true, and_self, if_true, if_false, ite_true, ite_false, Nat.lt_irrefl, List.length_nil, List.length_cons, Nat.reduceAdd, Nat.reduceLeDiff, Nat.reduceLT, Nat.reduceEqDiff, Nat.zero_lt_one, not_true, not_false_iff, bI_0, bI_1, ne_eq, reduceCtorEq, false_and, and_false, or_true, true_or, or_false, false_or, Nat.lt_one_iff, eq_self, Nat.zero_le, am_ko_v, am_ko_0, am_kil, Nat.reduceBEq, Int32.reduceLT, Int32.reduceLE, Int32.reduceAdd, Int32.reduceSub, i32_10, i32_01, not_true_eq_false, not_false_eq_true, Classical.not_not, nor_self, Nat.lt_add_one, nI_1, nI_pred, rf_n, i32_m0, i32_m1, reduceIte]
      exact q)
  rw [nI_0] at go
  simp only [S12_0, S12_1, gL_sI, gR_sI, gN_sI, gC_sI, gB_sI, gI_sL, gR_sL, gN_sL, gC_sL, gB_sL, gI_sR, gL_sR, gN_sR, gC_sR, gB_sR, gL_sIr, gR_sIr, gN_sIr, gC_sIr, gB_sIr, gI_sLr, gR_sLr, gN_sLr, gC_sLr, gB_sLr, gI_sRr, gL_sRr, gN_sRr, gC_sRr, gB_sRr, gI_sN, gL_sN, gR_sN, gC_sN, gB_sN, gI_sC, gL_sC, gR_sC, gN_sC, gB_sC, gI_sB, gL_sB, gR_sB, gN_sB, gC_sB, gB_sB, gB_am_mk, gI_am_ml, gL_am_ml, gR_am_ml, gB_am_ml, gI_am_add, gL_am_add, gC_am_add, gB_am_add, gI_am_ins, gL_am_ins, gC_am_ins, gB_am_ins, gI_am_rem, gL_am_rem, gC_am_rem, gB_am_rem, gI_am_thr, gL_am_thr, gR_am_thr, gN_am_thr, gB_am_thr, mI_sI_k, mI_sI_j, mI_sI_b, mI_sI_s, mI_sI_i, mI_sI_c, mL_sL_k, mL_sL_j, mL_sL_b, mL_sL_s, mL_sL_i, mL_sL_c, mR_sR_k, mR_sR_j, mR_sR_b, mR_sR_s, mR_sR_i, mR_sR_c, mI_sIr_k, mI_sIr_s, mI_sIr_i, mL_sLr_k, mL_sLr_s, mL_sLr_i, mR_sRr_k, mR_sRr_s, mR_sRr_i, mN_sN_k, mN_sN_i, mN_am_add_k, mN_am_add_s, mR_am_add_k, mN_am_ins_k, mN_am_ins_s, mR_am_ins_k, mN_am_rem_k, mN_am_rem_s, mR_am_rem_k, mR_am_add_s, mR_am_ins_s, mR_am_rem_s, mI_am_mk_k, mI_am_mk_s, mI_am_mk_i, mL_am_mk_k, mL_am_mk_s, mL_am_mk_i, mR_am_mk_k, mR_am_mk_s, mR_am_mk_i, mN_am_mk_k, mN_am_mk_i, mC_am_mk_k, mC_am_mk_s, mN_am_ml_k, mN_am_ml_i, mC_am_ml_k, mC_am_ml_s, mC_sC_k, mC_am_thr_k, sC_3 S, sC_4 S, sC_30 S, sR_30_2 S, sC_9 S, sN_9 S, k0, k1, k2, k3, k4, k5, k6, k7, k8, k9, k10, k11, k12, k13, k14, k15, k16, k17, k18, k19, k20, k21, k22, k23, k24, k25, k26, k27, k28, k29, k30, k31, k32, k33, k34, k35, k36, k37, k38, k39, k40, k41, k42, k43, k44, k45, k46, k47, k48, k49, k50, k51, k52, k53, k54, k55, k56, k57, k58, k59, k60, k61, k62, k63, k64, k65, k66, k67, k68, k69, k70, k71, k72, k73, k74, k75, k76, k77, k78, k79, k80, k81, k82, k83, k84, k85, k86, k87, k88, k89, k90, k91, k92, k93, k94, k95, k96, k97, k98, k99, k100, true_and, and_true, and_self, if_true, if_false, ite_true, ite_false, Nat.lt_irrefl, List.length_nil, List.length_cons, Nat.reduceAdd, Nat.reduceLeDiff, Nat.reduceLT, Nat.reduceEqDiff, Nat.zero_lt_one, not_true, not_false_iff, bI_0, bI_1, ne_eq, reduceCtorEq, false_and, and_false, or_true, true_or, or_false, false_or, Nat.lt_one_iff, eq_self, Nat.zero_le, am_ko_v, am_ko_0, am_kil, Nat.reduceBEq, Int32.reduceLT, Int32.reduceLE, Int32.reduceAdd, Int32.reduceSub, i32_10, i32_01, not_true_eq_false, not_false_eq_true, Classical.not_not, nor_self, Nat.lt_add_one, nI_1, nI_pred, rf_n, i32_m0, i32_m1, reduceIte]
  exact go
end CNM
section TAK
variable {D tx tt u0 : Nat} {σ : aM} {Q : aR → aM → Prop} {S0 : nmT} {R : List rcT}
theorem L11n (S : Sh σ) (htt : tt < gC σ 36) (ht12 : tt < gC σ 12) (hR : gR σ 36 tt 3 = some (12, tt)) (hN : gN σ 12 tt = R.length) (rows : ∀ s r, R[s]? = some r → gR σ 12 tt s = some (19, u0 + s) ∧ u0 + s < gC σ 19 ∧ gI σ 19 (u0 + s) 1 = nI r.1 ∧ r.1 ≤ 7 ∧ gI σ 19 (u0 + s) 3 = -1 ∧ gL σ 19 (u0 + s) 2 = r.2.1) (hl : R.length ≤ 10) (h0 : S0.2 + R.length ≤ 120) (hq : ∀ σ1 (a2 a3 : Option aV), clN σ σ1 u0 R S0 R.length → WP (D + 2) 11 52 [some (vr (some (30, 0))), some (vr (some (36, tt))), a2, a3] [] σ1 Q) : ∀ k i σ1 (a3 : Option aV), i + k = R.length → clN σ σ1 u0 R S0 i → WP (D + 2) 11 2 [some (vr (some (30, 0))), some (vr (some (36, tt))), some (vi (nI i)), a3] [] σ1 Q := by
  have S0' := S
  intro k
  induction k with
  | zero =>
    intro i σ1 a3 hi H
    have e : i = R.length := by omega
    subst e
    obtain ⟨n1, n2, n3, n4, n5, n6⟩ := id H
    have S := Sh_22 n1 S0'
    have c1 : ¬ nI R.length < nI R.length := nI_nlt (Nat.le_refl _) (by omega)
    have g1 : gR σ1 36 tt 3 = some (12, tt) := (gR_22 n1).trans hR
    have g2 : gN σ1 12 tt = R.length := (gN_22 n1).trans hN
    have g3 : tt < gC σ1 36 := by rw [gC_22 n1]; exact htt
    have g4 : tt < gC σ1 12 := by rw [gC_22 n1]; exact ht12
    have hz := hq σ1 (some (vi (nI R.length))) a3 H
    rw [S11_2]
    simp only [S11_3, S11_4, S11_7, S11_10, S11_13, S11_14, S11_17, S11_18, S11_21n, S11_21, S11_24, S11_25, S11_26, S11_29, S11_31, S11_34, S11_35, S11_36, S11_37, S11_40, S11_43, S11_46, S11_49, gL_sI, gR_sI, gN_sI, gC_sI, gB_sI, gI_sL, gR_sL, gN_sL, gC_sL, gB_sL, gI_sR, gL_sR, gN_sR, gC_sR, gB_sR, gL_sIr, gR_sIr, gN_sIr, gC_sIr, gB_sIr, gI_sLr, gR_sLr, gN_sLr, gC_sLr, gB_sLr, gI_sRr, gL_sRr, gN_sRr, gC_sRr, gB_sRr, gI_sN, gL_sN, gR_sN, gC_sN, gB_sN, gI_sC, gL_sC, gR_sC, gN_sC, gB_sC, gI_sB, gL_sB, gR_sB, gN_sB, gC_sB, gB_sB, gB_am_mk, gI_am_ml, gL_am_ml, gR_am_ml, gB_am_ml, gI_am_add, gL_am_add, gC_am_add, gB_am_add, gI_am_ins, gL_am_ins, gC_am_ins, gB_am_ins, gI_am_rem, gL_am_rem, gC_am_rem, gB_am_rem, gI_am_thr, gL_am_thr, gR_am_thr, gN_am_thr, gB_am_thr, mI_sI_k, mI_sI_j, mI_sI_b, mI_sI_s, mI_sI_i, mI_sI_c, mL_sL_k, mL_sL_j, mL_sL_b, mL_sL_s, mL_sL_i, mL_sL_c, mR_sR_k, mR_sR_j, mR_sR_b, mR_sR_s, mR_sR_i, mR_sR_c, mI_sIr_k, mI_sIr_s, mI_sIr_i, mL_sLr_k, mL_sLr_s, mL_sLr_i, mR_sRr_k, mR_sRr_s, mR_sRr_i, mN_sN_k, mN_sN_i, mN_am_add_k, mN_am_add_s, mR_am_add_k, mN_am_ins_k, mN_am_ins_s, mR_am_ins_k, mN_am_rem_k, mN_am_rem_s, mR_am_rem_k, mR_am_add_s, mR_am_ins_s, mR_am_rem_s, mI_am_mk_k, mI_am_mk_s, mI_am_mk_i, mL_am_mk_k, mL_am_mk_s, mL_am_mk_i, mR_am_mk_k, mR_am_mk_s, mR_am_mk_i, mN_am_mk_k, mN_am_mk_i, mC_am_mk_k, mC_am_mk_s, mN_am_ml_k, mN_am_ml_i, mC_am_ml_k, mC_am_ml_s, mC_sC_k, mC_am_thr_k, sC_3 S, sC_4 S, sC_30 S, sR_30_0 S, sC_7 S, sR_30_1 S, sC_8 S, k0, k1, k2, k3, k4, k5, k6, k7, k8, k9, k10, k11, k12, k13, k14, k15, k16, k17, k18, k19, k20, k21, k22, k23, k24, k25, k26, k27, k28, k29, k30, k31, k32, k33, k34, k35, k36, k37, k38, k39, k40, k41, k42, k43, k44, k45, k46, k47, k48, k49, k50, k51, k52, k53, k54, k55, k56, k57, k58, k59, k60, k61, k62, k63, k64, k65, k66, k67, k68, k69, k70, k71, k72, k73, k74, k75, k76, k77, k78, k79, k80, k81, k82, k83, k84, k85, k86, k87, k88, k89, k90, k91, k92, k93, k94, k95, k96, k97, k98, k99, k100, g1, g2, g3, g4, c1, true_and, and_true, and_self, if_true, if_false, ite_true, ite_false, Nat.lt_irrefl, List.length_nil, List.length_cons, Nat.reduceAdd, Nat.reduceLeDiff, Nat.reduceLT, Nat.reduceEqDiff, Nat.zero_lt_one, not_true, not_false_iff, bI_0, bI_1, ne_eq, reduceCtorEq, false_and, and_false, or_true, true_or, or_false, false_or, Nat.lt_one_iff, eq_self, Nat.zero_le, am_ko_v, am_ko_0, am_kil, Nat.reduceBEq, Int32.reduceLT, Int32.reduceLE, Int32.reduceAdd, Int32.reduceSub, i32_10, i32_01, not_true_eq_false, not_false_eq_true, Classical.not_not, nor_self, Nat.lt_add_one, nI_1, nI_pred, rf_n, i32_m0, i32_m1, reduceIte]
    exact hz
  | succ k ih =>
    intro i σ1 a3 hi H
    obtain ⟨n1, n2, n3, n4, n5, n6⟩ := id H
    have S := Sh_22 n1 S0'
    have iR : i < R.length := by omega
    have i31 : i < 2147483648 := by omega
    have c1 : nI i < nI R.length := nI_lt iR (by omega)
    have g1 : gR σ1 36 tt 3 = some (12, tt) := (gR_22 n1).trans hR
    have g2 : gN σ1 12 tt = R.length := (gN_22 n1).trans hN
    have g3 : tt < gC σ1 36 := by rw [gC_22 n1]; exact htt
    have g4 : tt < gC σ1 12 := by rw [gC_22 n1]; exact ht12
    obtain ⟨r, hr⟩ : ∃ r, R[i]? = some r := ⟨R[i], List.getElem?_eq_getElem iR⟩
    obtain ⟨r1, r2, r3, r4, r5, r6⟩ := rows i r hr
    have f1 : gR σ1 12 tt i = some (19, u0 + i) := (gR_22 n1).trans r1
    have f2 : u0 + i < gC σ1 19 := by rw [gC_22 n1]; exact r2
    have f3 : gI σ1 19 (u0 + i) 1 = nI r.1 := (n5 19 _ 1 (Or.inr (Or.inl (by decide))) (Or.inl (by decide))).trans r3
    have f6 : gL σ1 19 (u0 + i) 2 = r.2.1 := (n2 19 _ _ (by decide)).trans r6
    have hle := nmS_le (R := R) (S0 := S0) i
    rw [S11_2]
    by_cases c6 : r.1 = 6
    · have eS : nmS R S0 (i + 1) = nmU (nmS R S0 i) r.2.1 := by
        show (match R[i]? with
          | some r => if r.1 = 6 then nmU (nmS R S0 i) r.2.1 else nmS R S0 i
          | none => nmS R S0 i) = _
        rw [hr]
        exact if_pos c6
      have eX : nmX R S0 i = nI (nmK (nmS R S0 i) r.2.1) := by
        unfold nmX
        rw [hr]
        exact if_pos c6
      have H2 : clN σ (sI (sI (sL σ1 9 0 (nmK (nmS R S0 i) r.2.1) r.2.1) 30 0 3 (nI (nmU (nmS R S0 i) r.2.1).2)) 19 (u0 + i) 3 (nI (nmK (nmS R S0 i) r.2.1))) u0 R S0 (i + 1) := by
        refine ⟨n1, fun K a j hK => (mL_sL_k hK).trans (n2 K a j hK), fun j => ?_, ?_, fun K a j hK hj => ?_, fun s hs => ?_⟩
        · rw [eS]
          show gL (sL σ1 9 0 (nmK (nmS R S0 i) r.2.1) r.2.1) 9 0 j = (if j = nmK (nmS R S0 i) r.2.1 then r.2.1 else (nmS R S0 i).1 j)
          rw [gL_sL]
          by_cases e : j = nmK (nmS R S0 i) r.2.1
          · rw [if_pos ⟨rfl, rfl, e⟩, if_pos e]
          · rw [if_neg (fun q => e q.2.2), if_neg e]; exact n3 j
        · rw [mI_sI_k (by decide), eS]; exact mI_sI_s
        · rw [gI_sI, if_neg (fun q => by rcases hK with h | h | h | h <;> omega), gI_sI, if_neg (fun q => by rcases hj with h | h <;> omega)]
          exact n5 K a j (by omega) hj
        · by_cases e : s = i
          · subst e
            rw [mI_sI_s, eX]
          · rw [mI_sI_b (show u0 + s ≠ u0 + i by omega), mI_sI_k (by decide)]
            exact n6 s (by omega)
      have hz := fun a3 => ih (i + 1) _ a3 (by omega) H2
      have e66 : nI r.1 = 6 := by rw [c6]; rfl
      have C := fun (D : Nat) (Q : aR → aM → Prop) (q : Q (some (some (vi (nI (nmK (nmS R S0 i) r.2.1))))) (sI (sL σ1 9 0 (nmK (nmS R S0 i) r.2.1) r.2.1) 30 0 3 (nI (nmU (nmS R S0 i) r.2.1).2))) => C12 (d := D) (w := r.2.1) (Q := Q) S n4 (by omega) n3 q
      rw [e66] at f3
      simp only [S11_3, S11_4, S11_7, S11_10, S11_13, S11_14, S11_17, S11_18, S11_21n, S11_21, S11_24, S11_25, S11_26, S11_29, S11_31, S11_34, S11_35, S11_36, S11_37, S11_40, gL_sI, gR_sI, gN_sI, gC_sI, gB_sI, gI_sL, gR_sL, gN_sL, gC_sL, gB_sL, gI_sR, gL_sR, gN_sR, gC_sR, gB_sR, gL_sIr, gR_sIr, gN_sIr, gC_sIr, gB_sIr, gI_sLr, gR_sLr, gN_sLr, gC_sLr, gB_sLr, gI_sRr, gL_sRr, gN_sRr, gC_sRr, gB_sRr, gI_sN, gL_sN, gR_sN, gC_sN, gB_sN, gI_sC, gL_sC, gR_sC, gN_sC, gB_sC, gI_sB, gL_sB, gR_sB, gN_sB, gC_sB, gB_sB, gB_am_mk, gI_am_ml, gL_am_ml, gR_am_ml, gB_am_ml, gI_am_add, gL_am_add, gC_am_add, gB_am_add, gI_am_ins, gL_am_ins, gC_am_ins, gB_am_ins, gI_am_rem, gL_am_rem, gC_am_rem, gB_am_rem, gI_am_thr, gL_am_thr, gR_am_thr, gN_am_thr, gB_am_thr, mI_sI_k, mI_sI_j, mI_sI_b, mI_sI_s, mI_sI_i, mI_sI_c, mL_sL_k, mL_sL_j, mL_sL_b, mL_sL_s, mL_sL_i, mL_sL_c, mR_sR_k, mR_sR_j, mR_sR_b, mR_sR_s, mR_sR_i, mR_sR_c, mI_sIr_k, mI_sIr_s, mI_sIr_i, mL_sLr_k, mL_sLr_s, mL_sLr_i, mR_sRr_k, mR_sRr_s, mR_sRr_i, mN_sN_k, mN_sN_i, mN_am_add_k, mN_am_add_s, mR_am_add_k, mN_am_ins_k, mN_am_ins_s, mR_am_ins_k, mN_am_rem_k, mN_am_rem_s, mR_am_rem_k, mR_am_add_s, mR_am_ins_s, mR_am_rem_s, mI_am_mk_k, mI_am_mk_s, mI_am_mk_i, mL_am_mk_k, mL_am_mk_s, mL_am_mk_i, mR_am_mk_k, mR_am_mk_s, mR_am_mk_i, mN_am_mk_k, mN_am_mk_i, mC_am_mk_k, mC_am_mk_s, mN_am_ml_k, mN_am_ml_i, mC_am_ml_k, mC_am_ml_s, mC_sC_k, mC_am_thr_k, sC_3 S, sC_4 S, sC_30 S, sR_30_0 S, sC_7 S, sR_30_1 S, sC_8 S, k0, k1, k2, k3, k4, k5, k6, k7, k8, k9, k10, k11, k12, k13, k14, k15, k16, k17, k18, k19, k20, k21, k22, k23, k24, k25, k26, k27, k28, k29, k30, k31, k32, k33, k34, k35, k36, k37, k38, k39, k40, k41, k42, k43, k44, k45, k46, k47, k48, k49, k50, k51, k52, k53, k54, k55, k56, k57, k58, k59, k60, k61, k62, k63, k64, k65, k66, k67, k68, k69, k70, k71, k72, k73, k74, k75, k76, k77, k78, k79, k80, k81, k82, k83, k84, k85, k86, k87, k88, k89, k90, k91, k92, k93, k94, k95, k96, k97, k98, k99, k100, g1, g2, g3, g4, c1, f1, f2, f3, f6, ini_iff i31, nI_clamp i31, iR, true_and, and_true, and_self, if_true, if_false, ite_true, ite_false, Nat.lt_irrefl, List.length_nil, List.length_cons, Nat.reduceAdd, Nat.reduceLeDiff, Nat.reduceLT, Nat.reduceEqDiff, Nat.zero_lt_one, not_true, not_false_iff, bI_0, bI_1, ne_eq, reduceCtorEq, false_and, and_false, or_true, true_or, or_false, false_or, Nat.lt_one_iff, eq_self, Nat.zero_le, am_ko_v, am_ko_0, am_kil, Nat.reduceBEq, Int32.reduceLT, Int32.reduceLE, Int32.reduceAdd, Int32.reduceSub, i32_10, i32_01, not_true_eq_false, not_false_eq_true, Classical.not_not, nor_self, Nat.lt_add_one, nI_1, nI_pred, rf_n, i32_m0, i32_m1, reduceIte]
      refine C _ _ ?_
      rw [am_ko_v]
      simp only [S11_43, S11_46, S11_49, gL_sI, gR_sI, gN_sI, gC_sI, gB_sI, gI_sL, gR_sL, gN_sL, gC_sL, gB_sL, gI_sR, gL_sR, gN_sR, gC_sR, gB_sR, gL_sIr, gR_sIr, gN_sIr, gC_sIr, gB_sIr, gI_sLr, gR_sLr, gN_sLr, gC_sLr, gB_sLr, gI_sRr, gL_sRr, gN_sRr, gC_sRr, gB_sRr, gI_sN, gL_sN, gR_sN, gC_sN, gB_sN, gI_sC, gL_sC, gR_sC, gN_sC, gB_sC, gI_sB, gL_sB, gR_sB, gN_sB, gC_sB, gB_sB, gB_am_mk, gI_am_ml, gL_am_ml, gR_am_ml, gB_am_ml, gI_am_add, gL_am_add, gC_am_add, gB_am_add, gI_am_ins, gL_am_ins, gC_am_ins, gB_am_ins, gI_am_rem, gL_am_rem, gC_am_rem, gB_am_rem, gI_am_thr, gL_am_thr, gR_am_thr, gN_am_thr, gB_am_thr, mI_sI_k, mI_sI_j, mI_sI_b, mI_sI_s, mI_sI_i, mI_sI_c, mL_sL_k, mL_sL_j, mL_sL_b, mL_sL_s, mL_sL_i, mL_sL_c, mR_sR_k, mR_sR_j, mR_sR_b, mR_sR_s, mR_sR_i, mR_sR_c, mI_sIr_k, mI_sIr_s, mI_sIr_i, mL_sLr_k, mL_sLr_s, mL_sLr_i, mR_sRr_k, mR_sRr_s, mR_sRr_i, mN_sN_k, mN_sN_i, mN_am_add_k, mN_am_add_s, mR_am_add_k, mN_am_ins_k, mN_am_ins_s, mR_am_ins_k, mN_am_rem_k, mN_am_rem_s, mR_am_rem_k, mR_am_add_s, mR_am_ins_s, mR_am_rem_s, mI_am_mk_k, mI_am_mk_s, mI_am_mk_i, mL_am_mk_k, mL_am_mk_s, mL_am_mk_i, mR_am_mk_k, mR_am_mk_s, mR_am_mk_i, mN_am_mk_k, mN_am_mk_i, mC_am_mk_k, mC_am_mk_s, mN_am_ml_k, mN_am_ml_i, mC_am_ml_k, mC_am_ml_s, mC_sC_k, mC_am_thr_k, sC_3 S, sC_4 S, sC_30 S, sR_30_0 S, sC_7 S, sR_30_1 S, sC_8 S, k0, k1, k2, k3, k4, k5, k6, k7, k8, k9, k10, k11, k12, k13, k14, k15, k16, k17, k18, k19, k20, k21, k22, k23, k24, k25, k26, k27, k28, k29, k30, k31, k32, k33, k34, k35, k36, k37, k38, k39, k40, k41, k42, k43, k44, k45, k46, k47, k48, k49, k50, k51, k52, k53, k54, k55, k56, k57, k58, k59, k60, k61, k62, k63, k64, k65, k66, k67, k68, k69, k70, k71, k72, k73, k74, k75, k76, k77, k78, k79, k80, k81, k82, k83, k84, k85, k86, k87, k88, k89, k90, k91, k92, k93, k94, k95, k96, k97, k98, k99, k100, f2, nI_add, true_and, and_true, and_self, if_true, if_false, ite_true, ite_false, Nat.lt_irrefl, List.length_nil, List.length_cons, Nat.reduceAdd, Nat.reduceLeDiff, Nat.reduceLT, Nat.reduceEqDiff, Nat.zero_lt_one, not_true, not_false_iff, bI_0, bI_1, ne_eq, reduceCtorEq, false_and, and_false, or_true, true_or, or_false, false_or, Nat.lt_one_iff, eq_self, Nat.zero_le, am_ko_v, am_ko_0, am_kil, Nat.reduceBEq, Int32.reduceLT, Int32.reduceLE, Int32.reduceAdd, Int32.reduceSub, i32_10, i32_01, not_true_eq_false, not_false_eq_true, Classical.not_not, nor_self, Nat.lt_add_one, nI_1, nI_pred, rf_n, i32_m0, i32_m1, reduceIte]
      exact hz _
    · have e66 : ¬ nI r.1 = 6 := fun e => c6 ((nI_eq (b := 6) (by omega) (by omega)).mp e)
      have eS : nmS R S0 (i + 1) = nmS R S0 i := by
        show (match R[i]? with
          | some r => if r.1 = 6 then nmU (nmS R S0 i) r.2.1 else nmS R S0 i
          | none => nmS R S0 i) = _
        rw [hr]
        exact if_neg c6
      have eX : nmX R S0 i = -1 := by
        unfold nmX
        rw [hr]
        exact if_neg c6
      have H2 : clN σ σ1 u0 R S0 (i + 1) := by
        refine ⟨n1, n2, fun j => by rw [eS]; exact n3 j, by rw [eS]; exact n4, fun K a j h1 h2 => n5 K a j (by omega) h2, fun s hs => ?_⟩
        by_cases e : s = i
        · subst e
          rw [eX, n5 19 _ 3 (Or.inr (Or.inr (Or.inr (Nat.le_refl _)))) (Or.inl (by decide)), r5]
        · exact n6 s (by omega)
      have hz := fun a3 => ih (i + 1) σ1 a3 (by omega) H2
      simp only [S11_3, S11_4, S11_7, S11_10, S11_13, S11_14, S11_17, S11_18, S11_21n, S11_21, S11_24, S11_25, S11_26, S11_29, S11_31, S11_34, S11_35, S11_36, S11_37, S11_40, S11_43, S11_46, S11_49, gL_sI, gR_sI, gN_sI, gC_sI, gB_sI, gI_sL, gR_sL, gN_sL, gC_sL, gB_sL, gI_sR, gL_sR, gN_sR, gC_sR, gB_sR, gL_sIr, gR_sIr, gN_sIr, gC_sIr, gB_sIr, gI_sLr, gR_sLr, gN_sLr, gC_sLr, gB_sLr, gI_sRr, gL_sRr, gN_sRr, gC_sRr, gB_sRr, gI_sN, gL_sN, gR_sN, gC_sN, gB_sN, gI_sC, gL_sC, gR_sC, gN_sC, gB_sC, gI_sB, gL_sB, gR_sB, gN_sB, gC_sB, gB_sB, gB_am_mk, gI_am_ml, gL_am_ml, gR_am_ml, gB_am_ml, gI_am_add, gL_am_add, gC_am_add, gB_am_add, gI_am_ins, gL_am_ins, gC_am_ins, gB_am_ins, gI_am_rem, gL_am_rem, gC_am_rem, gB_am_rem, gI_am_thr, gL_am_thr, gR_am_thr, gN_am_thr, gB_am_thr, mI_sI_k, mI_sI_j, mI_sI_b, mI_sI_s, mI_sI_i, mI_sI_c, mL_sL_k, mL_sL_j, mL_sL_b, mL_sL_s, mL_sL_i, mL_sL_c, mR_sR_k, mR_sR_j, mR_sR_b, mR_sR_s, mR_sR_i, mR_sR_c, mI_sIr_k, mI_sIr_s, mI_sIr_i, mL_sLr_k, mL_sLr_s, mL_sLr_i, mR_sRr_k, mR_sRr_s, mR_sRr_i, mN_sN_k, mN_sN_i, mN_am_add_k, mN_am_add_s, mR_am_add_k, mN_am_ins_k, mN_am_ins_s, mR_am_ins_k, mN_am_rem_k, mN_am_rem_s, mR_am_rem_k, mR_am_add_s, mR_am_ins_s, mR_am_rem_s, mI_am_mk_k, mI_am_mk_s, mI_am_mk_i, mL_am_mk_k, mL_am_mk_s, mL_am_mk_i, mR_am_mk_k, mR_am_mk_s, mR_am_mk_i, mN_am_mk_k, mN_am_mk_i, mC_am_mk_k, mC_am_mk_s, mN_am_ml_k, mN_am_ml_i, mC_am_ml_k, mC_am_ml_s, mC_sC_k, mC_am_thr_k, sC_3 S, sC_4 S, sC_30 S, sR_30_0 S, sC_7 S, sR_30_1 S, sC_8 S, k0, k1, k2, k3, k4, k5, k6, k7, k8, k9, k10, k11, k12, k13, k14, k15, k16, k17, k18, k19, k20, k21, k22, k23, k24, k25, k26, k27, k28, k29, k30, k31, k32, k33, k34, k35, k36, k37, k38, k39, k40, k41, k42, k43, k44, k45, k46, k47, k48, k49, k50, k51, k52, k53, k54, k55, k56, k57, k58, k59, k60, k61, k62, k63, k64, k65, k66, k67, k68, k69, k70, k71, k72, k73, k74, k75, k76, k77, k78, k79, k80, k81, k82, k83, k84, k85, k86, k87, k88, k89, k90, k91, k92, k93, k94, k95, k96, k97, k98, k99, k100, g1, g2, g3, g4, c1, f1, f2, f3, e66, ini_iff i31, nI_clamp i31, iR, nI_add, true_and, and_true, and_self, if_true, if_false, ite_true, ite_false, Nat.lt_irrefl, List.length_nil, List.length_cons, Nat.reduceAdd, Nat.reduceLeDiff, Nat.reduceLT, Nat.reduceEqDiff, Nat.zero_lt_one, not_true, not_false_iff, bI_0, bI_1, ne_eq, reduceCtorEq, false_and, and_false, or_true, true_or, or_false, false_or, Nat.lt_one_iff, eq_self, Nat.zero_le, am_ko_v, am_ko_0, am_kil, Nat.reduceBEq, Int32.reduceLT, Int32.reduceLE, Int32.reduceAdd, Int32.reduceSub, i32_10, i32_01, not_true_eq_false, not_false_eq_true, Classical.not_not, nor_self, Nat.lt_add_one, nI_1, nI_pred, rf_n, i32_m0, i32_m1, reduceIte]
      exact hz _
/-- the place among the TEXTS in order -/
theorem L11p {a3 : Option aV} {a : Int32} {F : Nat → Int32} {tF : Nat → Nat} (S : Sh σ) (htt : tt < gC σ 36) (e8 : gN σ 8 0 = tx) (h12 : tx < 12) (ha : gI σ 36 tt 1 = a) (ho : ∀ j, j < tx → gR σ 8 0 j = some (36, tF j) ∧ tF j < gC σ 36 ∧ gI σ 36 (tF j) 1 = F j) (hq : ∀ p, p ≤ tx → (∀ j, p ≤ j → j < tx → a < F j) → (p = 0 ∨ ¬ a < F (p - 1)) → WP D 11 93 [some (vr (some (30, 0))), some (vr (some (36, tt))), some (vi (nI p)), a3] [] σ Q) : ∀ p, p ≤ tx → (∀ j, p ≤ j → j < tx → a < F j) → WP D 11 60 [some (vr (some (30, 0))), some (vr (some (36, tt))), some (vi (nI p)), a3] [] σ Q := by
  intro p
  induction p with
  | zero =>
    intro hp hj
    have hz := hq 0 hp hj (Or.inl rfl)
    rw [nI_0] at hz
    rw [S11_60]
    simp only [S11_61, S11_64, S11_65, S11_68, S11_69, S11_70, S11_71, S11_74n, S11_74, S11_77, S11_80, S11_81, S11_84, S11_87, S11_90, gL_sI, gR_sI, gN_sI, gC_sI, gB_sI, gI_sL, gR_sL, gN_sL, gC_sL, gB_sL, gI_sR, gL_sR, gN_sR, gC_sR, gB_sR, gL_sIr, gR_sIr, gN_sIr, gC_sIr, gB_sIr, gI_sLr, gR_sLr, gN_sLr, gC_sLr, gB_sLr, gI_sRr, gL_sRr, gN_sRr, gC_sRr, gB_sRr, gI_sN, gL_sN, gR_sN, gC_sN, gB_sN, gI_sC, gL_sC, gR_sC, gN_sC, gB_sC, gI_sB, gL_sB, gR_sB, gN_sB, gC_sB, gB_sB, gB_am_mk, gI_am_ml, gL_am_ml, gR_am_ml, gB_am_ml, gI_am_add, gL_am_add, gC_am_add, gB_am_add, gI_am_ins, gL_am_ins, gC_am_ins, gB_am_ins, gI_am_rem, gL_am_rem, gC_am_rem, gB_am_rem, gI_am_thr, gL_am_thr, gR_am_thr, gN_am_thr, gB_am_thr, mI_sI_k, mI_sI_j, mI_sI_b, mI_sI_s, mI_sI_i, mI_sI_c, mL_sL_k, mL_sL_j, mL_sL_b, mL_sL_s, mL_sL_i, mL_sL_c, mR_sR_k, mR_sR_j, mR_sR_b, mR_sR_s, mR_sR_i, mR_sR_c, mI_sIr_k, mI_sIr_s, mI_sIr_i, mL_sLr_k, mL_sLr_s, mL_sLr_i, mR_sRr_k, mR_sRr_s, mR_sRr_i, mN_sN_k, mN_sN_i, mN_am_add_k, mN_am_add_s, mR_am_add_k, mN_am_ins_k, mN_am_ins_s, mR_am_ins_k, mN_am_rem_k, mN_am_rem_s, mR_am_rem_k, mR_am_add_s, mR_am_ins_s, mR_am_rem_s, mI_am_mk_k, mI_am_mk_s, mI_am_mk_i, mL_am_mk_k, mL_am_mk_s, mL_am_mk_i, mR_am_mk_k, mR_am_mk_s, mR_am_mk_i, mN_am_mk_k, mN_am_mk_i, mC_am_mk_k, mC_am_mk_s, mN_am_ml_k, mN_am_ml_i, mC_am_ml_k, mC_am_ml_s, mC_sC_k, mC_am_thr_k, sC_3 S, sC_4 S, sC_30 S, sR_30_0 S, sC_7 S, sR_30_1 S, sC_8 S, k0, k1, k2, k3, k4, k5, k6, k7, k8, k9, k10, k11, k12, k13, k14, k15, k16, k17, k18, k19, k20, k21, k22, k23, k24, k25, k26, k27, k28, k29, k30, k31, k32, k33, k34, k35, k36, k37, k38, k39, k40, k41, k42, k43, k44, k45, k46, k47, k48, k49, k50, k51, k52, k53, k54, k55, k56, k57, k58, k59, k60, k61, k62, k63, k64, k65, k66, k67, k68, k69, k70, k71, k72, k73, k74, k75, k76, k77, k78, k79, k80, k81, k82, k83, k84, k85, k86, k87, k88, k89, k90, k91, k92, k93, k94, k95, k96, k97, k98, k99, k100, nI_0, true_and, and_true, and_self, if_true, if_false, ite_true, ite_false, Nat.lt_irrefl, List.length_nil, List.length_cons, Nat.reduceAdd, Nat.reduceLeDiff, Nat.reduceLT, Nat.reduceEqDiff, Nat.zero_lt_one, not_true, not_false_iff, bI_0, bI_1, ne_eq, reduceCtorEq, false_and, and_false, or_true, true_or, or_false, false_or, Nat.lt_one_iff, eq_self, Nat.zero_le, am_ko_v, am_ko_0, am_kil, Nat.reduceBEq, Int32.reduceLT, Int32.reduceLE, Int32.reduceAdd, Int32.reduceSub, i32_10, i32_01, not_true_eq_false, not_false_eq_true, Classical.not_not, nor_self, Nat.lt_add_one, nI_1, nI_pred, rf_n, i32_m0, i32_m1, reduceIte]
    exact hz
  | succ p ih =>
    intro hp hj
    have c1 : 0 < nI (p + 1) := by have := nI_lt (Nat.succ_pos p) (show p + 1 < 2 ^ 31 by omega); rwa [nI_0] at this
    have em : nI (p + 1) + (-1) = nI p := by rw [← nI_pred p, Int32.sub_eq_add_neg]
    have p31 : p < 2147483648 := by omega
    have ptx : p < tx := by omega
    obtain ⟨o1, o2, o3⟩ := ho p ptx
    rw [S11_60]
    by_cases c2 : a < F p
    · have hz := ih (by omega) (fun j h1 h2 => by
        by_cases e : j = p
        · rw [e]; exact c2
        · exact hj j (by omega) h2)
      simp only [S11_61, S11_64, S11_65, S11_68, S11_69, S11_70, S11_71, S11_74n, S11_74, S11_77, S11_80, S11_81, S11_84, S11_87, S11_90, gL_sI, gR_sI, gN_sI, gC_sI, gB_sI, gI_sL, gR_sL, gN_sL, gC_sL, gB_sL, gI_sR, gL_sR, gN_sR, gC_sR, gB_sR, gL_sIr, gR_sIr, gN_sIr, gC_sIr, gB_sIr, gI_sLr, gR_sLr, gN_sLr, gC_sLr, gB_sLr, gI_sRr, gL_sRr, gN_sRr, gC_sRr, gB_sRr, gI_sN, gL_sN, gR_sN, gC_sN, gB_sN, gI_sC, gL_sC, gR_sC, gN_sC, gB_sC, gI_sB, gL_sB, gR_sB, gN_sB, gC_sB, gB_sB, gB_am_mk, gI_am_ml, gL_am_ml, gR_am_ml, gB_am_ml, gI_am_add, gL_am_add, gC_am_add, gB_am_add, gI_am_ins, gL_am_ins, gC_am_ins, gB_am_ins, gI_am_rem, gL_am_rem, gC_am_rem, gB_am_rem, gI_am_thr, gL_am_thr, gR_am_thr, gN_am_thr, gB_am_thr, mI_sI_k, mI_sI_j, mI_sI_b, mI_sI_s, mI_sI_i, mI_sI_c, mL_sL_k, mL_sL_j, mL_sL_b, mL_sL_s, mL_sL_i, mL_sL_c, mR_sR_k, mR_sR_j, mR_sR_b, mR_sR_s, mR_sR_i, mR_sR_c, mI_sIr_k, mI_sIr_s, mI_sIr_i, mL_sLr_k, mL_sLr_s, mL_sLr_i, mR_sRr_k, mR_sRr_s, mR_sRr_i, mN_sN_k, mN_sN_i, mN_am_add_k, mN_am_add_s, mR_am_add_k, mN_am_ins_k, mN_am_ins_s, mR_am_ins_k, mN_am_rem_k, mN_am_rem_s, mR_am_rem_k, mR_am_add_s, mR_am_ins_s, mR_am_rem_s, mI_am_mk_k, mI_am_mk_s, mI_am_mk_i, mL_am_mk_k, mL_am_mk_s, mL_am_mk_i, mR_am_mk_k, mR_am_mk_s, mR_am_mk_i, mN_am_mk_k, mN_am_mk_i, mC_am_mk_k, mC_am_mk_s, mN_am_ml_k, mN_am_ml_i, mC_am_ml_k, mC_am_ml_s, mC_sC_k, mC_am_thr_k, sC_3 S, sC_4 S, sC_30 S, sR_30_0 S, sC_7 S, sR_30_1 S, sC_8 S, k0, k1, k2, k3, k4, k5, k6, k7, k8, k9, k10, k11, k12, k13, k14, k15, k16, k17, k18, k19, k20, k21, k22, k23, k24, k25, k26, k27, k28, k29, k30, k31, k32, k33, k34, k35, k36, k37, k38, k39, k40, k41, k42, k43, k44, k45, k46, k47, k48, k49, k50, k51, k52, k53, k54, k55, k56, k57, k58, k59, k60, k61, k62, k63, k64, k65, k66, k67, k68, k69, k70, k71, k72, k73, k74, k75, k76, k77, k78, k79, k80, k81, k82, k83, k84, k85, k86, k87, k88, k89, k90, k91, k92, k93, k94, k95, k96, k97, k98, k99, k100, c1, nI_pred, e8, ini_iff p31, nI_clamp p31, ptx, o1, o2, o3, ha, htt, c2, em, true_and, and_true, and_self, if_true, if_false, ite_true, ite_false, Nat.lt_irrefl, List.length_nil, List.length_cons, Nat.reduceAdd, Nat.reduceLeDiff, Nat.reduceLT, Nat.reduceEqDiff, Nat.zero_lt_one, not_true, not_false_iff, bI_0, bI_1, ne_eq, reduceCtorEq, false_and, and_false, or_true, true_or, or_false, false_or, Nat.lt_one_iff, eq_self, Nat.zero_le, am_ko_v, am_ko_0, am_kil, Nat.reduceBEq, Int32.reduceLT, Int32.reduceLE, Int32.reduceAdd, Int32.reduceSub, i32_10, i32_01, not_true_eq_false, not_false_eq_true, Classical.not_not, nor_self, Nat.lt_add_one, nI_1, nI_pred, rf_n, i32_m0, i32_m1, reduceIte]
      exact hz
    · have hz := hq (p + 1) hp hj (Or.inr (by rw [show p + 1 - 1 = p by omega]; exact c2))
      simp only [S11_61, S11_64, S11_65, S11_68, S11_69, S11_70, S11_71, S11_74n, S11_74, S11_77, S11_80, S11_81, S11_84, S11_87, S11_90, gL_sI, gR_sI, gN_sI, gC_sI, gB_sI, gI_sL, gR_sL, gN_sL, gC_sL, gB_sL, gI_sR, gL_sR, gN_sR, gC_sR, gB_sR, gL_sIr, gR_sIr, gN_sIr, gC_sIr, gB_sIr, gI_sLr, gR_sLr, gN_sLr, gC_sLr, gB_sLr, gI_sRr, gL_sRr, gN_sRr, gC_sRr, gB_sRr, gI_sN, gL_sN, gR_sN, gC_sN, gB_sN, gI_sC, gL_sC, gR_sC, gN_sC, gB_sC, gI_sB, gL_sB, gR_sB, gN_sB, gC_sB, gB_sB, gB_am_mk, gI_am_ml, gL_am_ml, gR_am_ml, gB_am_ml, gI_am_add, gL_am_add, gC_am_add, gB_am_add, gI_am_ins, gL_am_ins, gC_am_ins, gB_am_ins, gI_am_rem, gL_am_rem, gC_am_rem, gB_am_rem, gI_am_thr, gL_am_thr, gR_am_thr, gN_am_thr, gB_am_thr, mI_sI_k, mI_sI_j, mI_sI_b, mI_sI_s, mI_sI_i, mI_sI_c, mL_sL_k, mL_sL_j, mL_sL_b, mL_sL_s, mL_sL_i, mL_sL_c, mR_sR_k, mR_sR_j, mR_sR_b, mR_sR_s, mR_sR_i, mR_sR_c, mI_sIr_k, mI_sIr_s, mI_sIr_i, mL_sLr_k, mL_sLr_s, mL_sLr_i, mR_sRr_k, mR_sRr_s, mR_sRr_i, mN_sN_k, mN_sN_i, mN_am_add_k, mN_am_add_s, mR_am_add_k, mN_am_ins_k, mN_am_ins_s, mR_am_ins_k, mN_am_rem_k, mN_am_rem_s, mR_am_rem_k, mR_am_add_s, mR_am_ins_s, mR_am_rem_s, mI_am_mk_k, mI_am_mk_s, mI_am_mk_i, mL_am_mk_k, mL_am_mk_s, mL_am_mk_i, mR_am_mk_k, mR_am_mk_s, mR_am_mk_i, mN_am_mk_k, mN_am_mk_i, mC_am_mk_k, mC_am_mk_s, mN_am_ml_k, mN_am_ml_i, mC_am_ml_k, mC_am_ml_s, mC_sC_k, mC_am_thr_k, sC_3 S, sC_4 S, sC_30 S, sR_30_0 S, sC_7 S, sR_30_1 S, sC_8 S, k0, k1, k2, k3, k4, k5, k6, k7, k8, k9, k10, k11, k12, k13, k14, k15, k16, k17, k18, k19, k20, k21, k22, k23, k24, k25, k26, k27, k28, k29, k30, k31, k32, k33, k34, k35, k36, k37, k38, k39, k40, k41, k42, k43, k44, k45, k46, k47, k48, k49, k50, k51, k52, k53, k54, k55, k56, k57, k58, k59, k60, k61, k62, k63, k64, k65, k66, k67, k68, k69, k70, k71, k72, k73, k74, k75, k76, k77, k78, k79, k80, k81, k82, k83, k84, k85, k86, k87, k88, k89, k90, k91, k92, k93, k94, k95, k96, k97, k98, k99, k100, c1, nI_pred, e8, ini_iff p31, nI_clamp p31, ptx, o1, o2, o3, ha, htt, c2, true_and, and_true, and_self, if_true, if_false, ite_true, ite_false, Nat.lt_irrefl, List.length_nil, List.length_cons, Nat.reduceAdd, Nat.reduceLeDiff, Nat.reduceLT, Nat.reduceEqDiff, Nat.zero_lt_one, not_true, not_false_iff, bI_0, bI_1, ne_eq, reduceCtorEq, false_and, and_false, or_true, true_or, or_false, false_or, Nat.lt_one_iff, eq_self, Nat.zero_le, am_ko_v, am_ko_0, am_kil, Nat.reduceBEq, Int32.reduceLT, Int32.reduceLE, Int32.reduceAdd, Int32.reduceSub, i32_10, i32_01, not_true_eq_false, not_false_eq_true, Classical.not_not, nor_self, Nat.lt_add_one, nI_1, nI_pred, rf_n, i32_m0, i32_m1, reduceIte]
      exact hz
end TAK
