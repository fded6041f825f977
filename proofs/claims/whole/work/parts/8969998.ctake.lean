section TK2
variable {D tx tt u0 : Nat} {σ : aM} {Q : aR → aM → Prop} {S0 : nmT} {R : List rcT}
theorem C11 {a : Int32} {F : Nat → Int32} {tF : Nat → Nat} (S : Sh σ) (htt : tt < gC σ 36) (ht12 : tt < gC σ 12) (hR : gR σ 36 tt 3 = some (12, tt)) (hN : gN σ 12 tt = R.length) (rows : ∀ s r, R[s]? = some r → gR σ 12 tt s = some (19, u0 + s) ∧ u0 + s < gC σ 19 ∧ gI σ 19 (u0 + s) 1 = nI r.1 ∧ r.1 ≤ 7 ∧ gI σ 19 (u0 + s) 3 = -1 ∧ gL σ 19 (u0 + s) 2 = r.2.1) (hl : R.length ≤ 10) (h0 : S0.2 + R.length ≤ 120) (h42 : gI σ 30 0 3 = nI S0.2) (h9 : ∀ j, gL σ 9 0 j = S0.1 j) (e8 : gN σ 8 0 = tx) (e7 : gN σ 7 0 = tx) (h12 : tx < 12) (ha : gI σ 36 tt 1 = a) (ho : ∀ j, j < tx → gR σ 8 0 j = some (36, tF j) ∧ tF j < gC σ 36 ∧ gI σ 36 (tF j) 1 = F j) (room : (gB σ).1 + 2 ≤ 601024 ∧ (gB σ).2 + 60 ≤ 7293034) (q : ∀ σ1 p, clN σ σ1 u0 R S0 R.length → p ≤ tx → (∀ j, p ≤ j → j < tx → a < F j) → (p = 0 ∨ ¬ a < F (p - 1)) → Q (some none) (am_add (am_ins σ1 8 0 p (some (36, tt))) 7 0 (some (36, tt)))) : WP (D + 2) 11 0 [some (vr (some (30, 0))), some (vr (some (36, tt))), none, none] [] σ Q := by
  have S0' := S
  have H0 : clN σ σ u0 R S0 0 := ⟨rfl, fun _ _ _ _ => rfl, h9, h42, fun _ _ _ _ _ => rfl, fun s hs => absurd hs (Nat.not_lt_zero _)⟩
  have go := L11n (D := D) (Q := Q) S htt ht12 hR hN rows hl h0 (fun σ1 a2 a3 H => by
    obtain ⟨n1, n2, n3, n4, n5, n6⟩ := id H
    have S := Sh_22 n1 S0'
    have f8 : gN σ1 8 0 = tx := (gN_22 n1).trans e8
    have f7 : gN σ1 7 0 = tx := (gN_22 n1).trans e7
    have g3 : tt < gC σ1 36 := by rw [gC_22 n1]; exact htt
    have fa : gI σ1 36 tt 1 = a := (n5 36 _ _ (Or.inl (by decide)) (Or.inl (by decide))).trans ha
    have fB := gB_22 n1
    have go2 := L11p (D := D + 2) (Q := Q) (tx := tx) (a := a) (F := F) (tF := tF) (a3 := a3) S g3 f8 h12 fa (fun j hj => by
      obtain ⟨o1, o2, o3⟩ := ho j hj
      exact ⟨(gR_22 n1).trans o1, by rw [gC_22 n1]; exact o2, (n5 36 _ _ (Or.inl (by decide)) (Or.inl (by decide))).trans o3⟩) (fun p hp h1 h2 => by
      have p31 : p < 2147483648 := by omega
      have p1 : p < tx + 1 := by omega
      have x40 : tx ≤ 40000 := by omega
      have r1 : (gB σ).1 + 1 ≤ 601024 ∧ (gB σ).2 + (tx + tx / 2 + 10) ≤ 7293034 := by omega
      have r2 : (gB σ).1 + 1 + 1 ≤ 601024 ∧ (gB σ).2 + (tx + tx / 2 + 10) + (tx + tx / 2 + 10) ≤ 7293034 := by omega
      have hz := q σ1 p H hp h1 h2
      simp only [am_ok, S11_93, S11_94, S11_97, S11_98, S11_99, S11_102, S11_103, S11_106, S11_107, S11_110, S11_110q, S11_111, gL_sI, gR_sI, gN_sI, gC_sI, gB_sI, gI_sL, gR_sL, gN_sL, gC_sL, gB_sL, gI_sR, gL_sR, gN_sR, gC_sR, gB_sR, gL_sIr, gR_sIr, gN_sIr, gC_sIr, gB_sIr, gI_sLr, gR_sLr, gN_sLr, gC_sLr, gB_sLr, gI_sRr, gL_sRr, gN_sRr, gC_sRr, gB_sRr, gI_sN, gL_sN, gR_sN, gC_sN, gB_sN, gI_sC, gL_sC, gR_sC, gN_sC, gB_sC, gI_sB, gL_sB, gR_sB, gN_sB, gC_sB, gB_sB, gB_am_mk, gI_am_ml, gL_am_ml, gR_am_ml, gB_am_ml, gI_am_add, gL_am_add, gC_am_add, gB_am_add, gI_am_ins, gL_am_ins, gC_am_ins, gB_am_ins, gI_am_rem, gL_am_rem, gC_am_rem, gB_am_rem, gI_am_thr, gL_am_thr, gR_am_thr, gN_am_thr, gB_am_thr, mI_sI_k, mI_sI_j, mI_sI_b, mI_sI_s, mI_sI_i, mI_sI_c, mL_sL_k, mL_sL_j, mL_sL_b, mL_sL_s, mL_sL_i, mL_sL_c, mR_sR_k, mR_sR_j, mR_sR_b, mR_sR_s, mR_sR_i, mR_sR_c, mI_sIr_k, mI_sIr_s, mI_sIr_i, mL_sLr_k, mL_sLr_s, mL_sLr_i, mR_sRr_k, mR_sRr_s, mR_sRr_i, mN_sN_k, mN_sN_i, mN_am_add_k, mN_am_add_s, mR_am_add_k, mN_am_ins_k, mN_am_ins_s, mR_am_ins_k, mN_am_rem_k, mN_am_rem_s, mR_am_rem_k, mR_am_add_s, mR_am_ins_s, mR_am_rem_s, mI_am_mk_k, mI_am_mk_s, mI_am_mk_i, mL_am_mk_k, mL_am_mk_s, mL_am_mk_i, mR_am_mk_k, mR_am_mk_s, mR_am_mk_i, mN_am_mk_k, mN_am_mk_i, mC_am_mk_k, mC_am_mk_s, mN_am_ml_k, mN_am_ml_i, mC_am_ml_k, mC_am_ml_s, mC_sC_k, mC_am_thr_k, sC_3 S, sC_4 S, sC_30 S, sR_30_0 S, sC_7 S, sR_30_1 S, sC_8 S, k0, k1, k2, k3, k4, k5, k6, k7, k8, k9, k10, k11, k12, k13, k14, k15, k16, k17, k18, k19, k20, k21, k22, k23, k24, k25, k26, k27, k28, k29, k30, k31, k32, k33, k34, k35, k36, k37, k38, k39, k40, k41, k42, k43, k44, k45, k46, k47, k48, k49, k50, k51, k52, k53, k54, k55, k56, k57, k58, k59, k60, k61, k62, k63, k64, k65, k66, k67, k68, k69, k70, k71, k72, k73, k74, k75, k76, k77, k78, k79, k80, k81, k82, k83, k84, k85, k86, k87, k88, k89, k90, k91, k92, k93, k94, k95, k96, k97, k98, k99, k100, f8, f7, g3, fB, ini_iff p31, nI_clamp p31, p1, x40, r1, r2, true_and, and_true, and_self, if_true, if_false, ite_true, ite_false, Nat.lt_irrefl, List.length_nil, List.length_cons, Nat.reduceAdd, Nat.reduceLeDiff, Nat.reduceLT, Nat.reduceEqDiff, Nat.zero_lt_one, not_true, not_false_iff, bI_0, bI_1, ne_eq, reduceCtorEq, false_and, and_false, or_true, true_or, or_false, false_or, Nat.lt_one_iff, eq_self, Nat.zero_le, am_ko_v, am_ko_0, am_kil, Nat.reduceBEq, Int32.reduceLT, Int32.reduceLE, Int32.reduceAdd, Int32.reduceSub, i32_10, i32_01, not_true_eq_false, not_false_eq_true, Classical.not_not, nor_self, Nat.lt_add_one, nI_1, nI_pred, rf_n, i32_m0, i32_m1, reduceIte]
      exact hz) tx (Nat.le_refl _) (fun j h1 h2 => absurd h1 (by omega))
    simp only [S11_52, S11_53, S11_56, S11_59, gL_sI, gR_sI, gN_sI, gC_sI, gB_sI, gI_sL, gR_sL, gN_sL, gC_sL, gB_sL, gI_sR, gL_sR, gN_sR, gC_sR, gB_sR, gL_sIr, gR_sIr, gN_sIr, gC_sIr, gB_sIr, gI_sLr, gR_sLr, gN_sLr, gC_sLr, gB_sLr, gI_sRr, gL_sRr, gN_sRr, gC_sRr, gB_sRr, gI_sN, gL_sN, gR_sN, gC_sN, gB_sN, gI_sC, gL_sC, gR_sC, gN_sC, gB_sC, gI_sB, gL_sB, gR_sB, gN_sB, gC_sB, gB_sB, gB_am_mk, gI_am_ml, gL_am_ml, gR_am_ml, gB_am_ml, gI_am_add, gL_am_add, gC_am_add, gB_am_add, gI_am_ins, gL_am_ins, gC_am_ins, gB_am_ins, gI_am_rem, gL_am_rem, gC_am_rem, gB_am_rem, gI_am_thr, gL_am_thr, gR_am_thr, gN_am_thr, gB_am_thr, mI_sI_k, mI_sI_j, mI_sI_b, mI_sI_s, mI_sI_i, mI_sI_c, mL_sL_k, mL_sL_j, mL_sL_b, mL_sL_s, mL_sL_i, mL_sL_c, mR_sR_k, mR_sR_j, mR_sR_b, mR_sR_s, mR_sR_i, mR_sR_c, mI_sIr_k, mI_sIr_s, mI_sIr_i, mL_sLr_k, mL_sLr_s, mL_sLr_i, mR_sRr_k, mR_sRr_s, mR_sRr_i, mN_sN_k, mN_sN_i, mN_am_add_k, mN_am_add_s, mR_am_add_k, mN_am_ins_k, mN_am_ins_s, mR_am_ins_k, mN_am_rem_k, mN_am_rem_s, mR_am_rem_k, mR_am_add_s, mR_am_ins_s, mR_am_rem_s, mI_am_mk_k, mI_am_mk_s, mI_am_mk_i, mL_am_mk_k, mL_am_mk_s, mL_am_mk_i, mR_am_mk_k, mR_am_mk_s, mR_am_mk_i, mN_am_mk_k, mN_am_mk_i, mC_am_mk_k, mC_am_mk_s, mN_am_ml_k, mN_am_ml_i, mC_am_ml_k, mC_am_ml_s, mC_sC_k, mC_am_thr_k, sC_3 S, sC_4 S, sC_30 S, sR_30_0 S, sC_7 S, sR_30_1 S, sC_8 S, k0, k1, k2, k3, k4, k5, k6, k7, k8, k9, k10, k11, k12, k13, k14, k15, k16, k17, k18, k19, k20, k21, k22, k23, k24, k25, k26, k27, k28, k29, k30, k31, k32, k33, k34, k35, k36, k37, k38, k39, k40, k41, k42, k43, k44, k45, k46, k47, k48, k49, k50, k51, k52, k53, k54, k55, k56, k57, k58, k59, k60, k61, k62, k63, k64, k65, k66, k67, k68, k69, k70, k71, k72, k73, k74, k75, k76, k77, k78, k79, k80, k81, k82, k83, k84, k85, k86, k87, k88, k89, k90, k91, k92, k93, k94, k95, k96, k97, k98, k99, k100, f8, true_and, and_true, and_self, if_true, if_false, ite_true, ite_false, Nat.lt_irrefl, List.length_nil, List.length_cons, Nat.reduceAdd, Nat.reduceLeDiff, Nat.reduceLT, Nat.reduceEqDiff, Nat.zero_lt_one, not_true, not_false_iff, bI_0, bI_1, ne_eq, reduceCtorEq, false_and, and_false, or_true, true_or, or_false, false_or, Nat.lt_one_iff, eq_self, Nat.zero_le, am_ko_v, am_ko_0, am_kil, Nat.reduceBEq, Int32.reduceLT, Int32.reduceLE, Int32.reduceAdd, Int32.reduceSub, i32_10, i32_01, not_true_eq_false, not_false_eq_true, Classical.not_not, nor_self, Nat.lt_add_one, nI_1, nI_pred, rf_n, i32_m0, i32_m1, reduceIte]
    exact go2) R.length 0 σ none (by omega) H0
  rw [nI_0] at go
  simp only [S11_0, S11_1, gL_sI, gR_sI, gN_sI, gC_sI, gB_sI, gI_sL, gR_sL, gN_sL, gC_sL, gB_sL, gI_sR, gL_sR, gN_sR, gC_sR, gB_sR, gL_sIr, gR_sIr, gN_sIr, gC_sIr, gB_sIr, gI_sLr, gR_sLr, gN_sLr, gC_sLr, gB_sLr, gI_sRr, gL_sRr, gN_sRr, gC_sRr, gB_sRr, gI_sN, gL_sN, gR_sN, gC_sN, gB_sN, gI_sC, gL_sC, gR_sC, gN_sC, gB_sC, gI_sB, gL_sB, gR_sB, gN_sB, gC_sB, gB_sB, gB_am_mk, gI_am_ml, gL_am_ml, gR_am_ml, gB_am_ml, gI_am_add, gL_am_add, gC_am_add, gB_am_add, gI_am_ins, gL_am_ins, gC_am_ins, gB_am_ins, gI_am_rem, gL_am_rem, gC_am_rem, gB_am_rem, gI_am_thr, gL_am_thr, gR_am_thr, gN_am_thr, gB_am_thr, mI_sI_k, mI_sI_j, mI_sI_b, mI_sI_s, mI_sI_i, mI_sI_c, mL_sL_k, mL_sL_j, mL_sL_b, mL_sL_s, mL_sL_i, mL_sL_c, mR_sR_k, mR_sR_j, mR_sR_b, mR_sR_s, mR_sR_i, mR_sR_c, mI_sIr_k, mI_sIr_s, mI_sIr_i, mL_sLr_k, mL_sLr_s, mL_sLr_i, mR_sRr_k, mR_sRr_s, mR_sRr_i, mN_sN_k, mN_sN_i, mN_am_add_k, mN_am_add_s, mR_am_add_k, mN_am_ins_k, mN_am_ins_s, mR_am_ins_k, mN_am_rem_k, mN_am_rem_s, mR_am_rem_k, mR_am_add_s, mR_am_ins_s, mR_am_rem_s, mI_am_mk_k, mI_am_mk_s, mI_am_mk_i, mL_am_mk_k, mL_am_mk_s, mL_am_mk_i, mR_am_mk_k, mR_am_mk_s, mR_am_mk_i, mN_am_mk_k, mN_am_mk_i, mC_am_mk_k, mC_am_mk_s, mN_am_ml_k, mN_am_ml_i, mC_am_ml_k, mC_am_ml_s, mC_sC_k, mC_am_thr_k, sC_3 S, sC_4 S, sC_30 S, sR_30_0 S, sC_7 S, sR_30_1 S, sC_8 S, k0, k1, k2, k3, k4, k5, k6, k7, k8, k9, k10, k11, k12, k13, k14, k15, k16, k17, k18, k19, k20, k21, k22, k23, k24, k25, k26, k27, k28, k29, k30, k31, k32, k33, k34, k35, k36, k37, k38, k39, k40, k41, k42, k43, k44, k45, k46, k47, k48, k49, k50, k51, k52, k53, k54, k55, k56, k57, k58, k59, k60, k61, k62, k63, k64, k65, k66, k67, k68, k69, k70, k71, k72, k73, k74, k75, k76, k77, k78, k79, k80, k81, k82, k83, k84, k85, k86, k87, k88, k89, k90, k91, k92, k93, k94, k95, k96, k97, k98, k99, k100, true_and, and_true, and_self, if_true, if_false, ite_true, ite_false, Nat.lt_irrefl, List.length_nil, List.length_cons, Nat.reduceAdd, Nat.reduceLeDiff, Nat.reduceLT, Nat.reduceEqDiff, Nat.zero_lt_one, not_true, not_false_iff, bI_0, bI_1, ne_eq, reduceCtorEq, false_and, and_false, or_true, true_or, or_false, false_or, Nat.lt_one_iff, eq_self, Nat.zero_le, am_ko_v, am_ko_0, am_kil, Nat.reduceBEq, Int32.reduceLT, Int32.reduceLE, Int32.reduceAdd, Int32.reduceSub, i32_10, i32_01, not_true_eq_false, not_false_eq_true, Classical.not_not, nor_self, Nat.lt_add_one, nI_1, nI_pred, rf_n, i32_m0, i32_m1, reduceIte]
  exact go
end TK2
section FIM
variable {σ : aM} {T : tkT} {t n tt K i j : Nat} {g : Nat → Int32}
theorem fi_I (h1 : K ≠ 14) (h2 : K ≠ 18) (h3 : K ≠ 29) : gI (fiM σ T t n g tt) K i j = gI σ K i j := by
  show gI (sIr (am_mk (rdM (sI σ 29 0 1 0) T t n g 0 (-1)) 18 n n) 18 (gC σ 18) g) K i j = _
  rw [mI_sIr_k h2, mI_am_mk_k h2, rd_k h3 h1, mI_sI_k h3]
theorem fi_29 (h1 : j ≠ 1) (h2 : j ≠ 2) (h3 : j ≠ 3) (h5 : j ≠ 5) (h10 : j ≠ 10) (h11 : j ≠ 11) (h12 : j ≠ 12) (h13 : j ≠ 13) : gI (fiM σ T t n g tt) 29 0 j = gI σ 29 0 j := by
  show gI (sIr (am_mk (rdM (sI σ 29 0 1 0) T t n g 0 (-1)) 18 n n) 18 (gC σ 18) g) 29 0 j = _
  rw [mI_sIr_k (by decide), mI_am_mk_k (by decide)]
  unfold rdM
  rw [mI_sI_j h3, mI_sI_j h2, mI_sI_j h13, mI_sI_j h12, mI_sI_j h11, mI_sI_j h10, mI_sI_j h5, mI_sIr_k (by decide), mI_sI_j h1]
theorem fi_1 : gI (fiM σ T t n g tt) 29 0 1 = 0 := by
  show gI (sIr (am_mk (rdM (sI σ 29 0 1 0) T t n g 0 (-1)) 18 n n) 18 (gC σ 18) g) 29 0 1 = _
  rw [mI_sIr_k (by decide), mI_am_mk_k (by decide)]
  rfl
theorem fi_3 : gI (fiM σ T t n g tt) 29 0 3 = -1 := by
  show gI (sIr (am_mk (rdM (sI σ 29 0 1 0) T t n g 0 (-1)) 18 n n) 18 (gC σ 18) g) 29 0 3 = _
  rw [mI_sIr_k (by decide), mI_am_mk_k (by decide)]
  rfl
theorem fi_18 (h : i ≠ gC σ 18) : gI (fiM σ T t n g tt) 18 i j = gI σ 18 i j := by
  show gI (sIr (am_mk (rdM (sI σ 29 0 1 0) T t n g 0 (-1)) 18 n n) 18 (gC σ 18) g) 18 i j = _
  rw [gI_sIr, if_neg (fun q => h q.2), gI_am_mk, if_neg (fun q => h q.2), rd_k (by decide) (by decide), mI_sI_k (by decide)]
theorem fi_18n : gI (fiM σ T t n g tt) 18 (gC σ 18) j = g j := by
  show gI (sIr (am_mk (rdM (sI σ 29 0 1 0) T t n g 0 (-1)) 18 n n) 18 (gC σ 18) g) 18 (gC σ 18) j = _
  exact mI_sIr_s
theorem fi_L (h : K ≠ 18) : gL (fiM σ T t n g tt) K i j = gL σ K i j := by
  show gL (am_mk (rdM (sI σ 29 0 1 0) T t n g 0 (-1)) 18 n n) K i j = _
  rw [gL_am_mk, if_neg (fun q => h q.1)]
  rfl
theorem fi_R (h : K ≠ 18) (h2 : K ≠ 36 ∨ i ≠ tt ∨ j ≠ 4) : gR (fiM σ T t n g tt) K i j = gR σ K i j := by
  show gR (sR (sIr (am_mk (rdM (sI σ 29 0 1 0) T t n g 0 (-1)) 18 n n) 18 (gC σ 18) g) 36 tt 4 (some (18, gC σ 18))) K i j = _
  rw [gR_sR, if_neg (fun q => by rcases h2 with h | h | h <;> omega)]
  show gR (am_mk (rdM (sI σ 29 0 1 0) T t n g 0 (-1)) 18 n n) K i j = _
  rw [gR_am_mk, if_neg (fun q => h q.1)]
  rfl
theorem fi_R4 : gR (fiM σ T t n g tt) 36 tt 4 = some (18, gC σ 18) := by
  show gR (sR (sIr (am_mk (rdM (sI σ 29 0 1 0) T t n g 0 (-1)) 18 n n) 18 (gC σ 18) g) 36 tt 4 (some (18, gC σ 18))) 36 tt 4 = _
  rw [gR_sR, if_pos ⟨rfl, rfl, rfl⟩]
theorem fi_N (h : K ≠ 18 ∨ i ≠ gC σ 18) : gN (fiM σ T t n g tt) K i = gN σ K i := by
  show gN (am_mk (rdM (sI σ 29 0 1 0) T t n g 0 (-1)) 18 n n) K i = _
  rw [gN_am_mk, if_neg (fun q => h.elim (fun e => e q.1) (fun e => e q.2))]
  rfl
theorem fi_N18 : gN (fiM σ T t n g tt) 18 (gC σ 18) = n := by
  show gN (am_mk (rdM (sI σ 29 0 1 0) T t n g 0 (-1)) 18 n n) 18 (gC σ 18) = _
  rw [gN_am_mk]
  exact if_pos ⟨rfl, rfl⟩
theorem fi_C (h : K ≠ 18) : gC (fiM σ T t n g tt) K = gC σ K := by
  show gC (am_mk (rdM (sI σ 29 0 1 0) T t n g 0 (-1)) 18 n n) K = _
  rw [gC_am_mk, if_neg h]
  rfl
theorem fi_C18 : gC (fiM σ T t n g tt) 18 = gC σ 18 + 1 := by
  show gC (am_mk (rdM (sI σ 29 0 1 0) T t n g 0 (-1)) 18 n n) 18 = _
  rw [gC_am_mk, if_pos rfl]
  rfl
theorem fi_B : gB (fiM σ T t n g tt) = ((gB σ).1 + 1, (gB σ).2 + n) := rfl
theorem Sh_fi (S : Sh σ) : Sh (fiM σ T t n g tt) := by
  obtain ⟨s3, s4, s29, s30, s28, sC, sN, s33⟩ := S
  have n18 : ∀ K, shC K = true → K ≠ 18 := fun K hK e => by rw [e] at hK; exact absurd hK (by decide)
  have m18 : ∀ K, shS K = true → K ≠ 18 := fun K hK e => by rw [e] at hK; exact absurd hK (by decide)
  exact ⟨fun j => (fi_R (by decide) (Or.inl (by decide))).trans (s3 j), fun j => (fi_R (by decide) (Or.inl (by decide))).trans (s4 j), fun j => (fi_R (by decide) (Or.inl (by decide))).trans (s29 j), fun j hj => (fi_R (by decide) (Or.inl (by decide))).trans (s30 j hj), fun j => (fi_R (by decide) (Or.inl (by decide))).trans (s28 j), fun K hK => (fi_C (n18 K hK)).trans (sC K hK), fun K hK => (fi_N (Or.inl (m18 K hK))).trans (sN K hK), (fi_C (by decide)).trans s33⟩
end FIM
theorem by_255 (x : Int32) : 0 ≤ x &&& 255 ∧ x &&& 255 < 256 := by
  have e : toN (x &&& 255) = toN x % 256 := by
    rw [toN_and, show toN 255 = 2 ^ 8 - 1 by decide, Nat.and_two_pow_sub_one_eq_mod]
  have h := toN_nn (a := x &&& 255) (by omega)
  rw [h]
  exact ⟨nI_pos' (by omega), nI_lt (b := 256) (by omega) (by omega)⟩
/-- the place of each TEXT's cell -/
def tcF (σ : aM) (i : Nat) : Nat := match gR σ 7 0 i with
  | some q => q.2
  | none => 0
theorem tc_is {σ : aM} {i : Nat} (h : TextOK σ i) : tcF σ i < gC σ 36 ∧ gR σ 7 0 i = some (36, tcF σ i) ∧ gI σ 36 (tcF σ i) 1 = gI σ 63 0 i := by
  obtain ⟨t, c, h1, h2, h3, h4, -⟩ := h
  have e : tcF σ i = t := by unfold tcF; rw [h2]
  rw [e]
  exact ⟨h1, h2, h4⟩
section C79S
variable {d L m : Nat} {σ : aM} {Q : aR → aM → Prop} {a : Int32}
theorem C79 (S : Sh σ) (bX : BX σ) (bT : BT σ) (room : (gB σ).1 ≤ 59000 ∧ (gB σ).2 ≤ 6630000) (ha : 0 ≤ a ∧ a ≤ 9999) (h12 : gN σ 7 0 < 12) (hL : gI σ 4 0 45 = nI L) (h3 : L ≤ 300) (hm : gI σ 4 0 42 = nI m) (hm2 : m ≤ 10 * gN σ 7 0)
    (qf : ∀ k p, txtP (toksF (gI σ 13 0) L) (uksF (gI σ 13 0) L) 11 0 0 = .inl (k, p) → ∀ c f g h σ2 t1 n1 g1, frC (spM (ntM σ a (gN σ 7 0)) c f g h) σ2 (gC σ 36) → (gB σ2).1 ≤ (gB σ).1 + 30 → (gB σ2).2 ≤ (gB σ).2 + 500 → Q (some (some (vi (-1 - k)))) (rdM (sI σ2 29 0 1 0) (toksF (gI σ 13 0) L) t1 n1 g1 k (nI p)))
    (qs : ∀ l, txtP (toksF (gI σ 13 0) L) (uksF (gI σ 13 0) L) 11 0 0 = .inr l → ∀ c f g h σ2 t1 n1 g1 σ1 p, n1 ≤ 300 → clT (spM (ntM σ a (gN σ 7 0)) c f g h) σ2 (gC σ 36) g1 n1 l → clN (fiM σ2 (toksF (gI σ 13 0) L) t1 n1 g1 (gC σ 36)) σ1 (gC σ 19) l (gL σ 75 0, m) l.length → p ≤ gN σ 7 0 → (∀ j, p ≤ j → j < gN σ 7 0 → a < gI σ 63 0 ((ordL (gI σ 63 0) (gN σ 7 0)).getD j 0)) → (p = 0 ∨ ¬ a < gI σ 63 0 ((ordL (gI σ 63 0) (gN σ 7 0)).getD (p - 1) 0)) → Q (some (some (vi (nI (gN σ 7 0))))) (am_add (am_ins σ1 8 0 p (some (36, gC σ 36))) 7 0 (some (36, gC σ 36)))) : WP (d + 60) 79 0 [some (vr (some (3, 0))), some (vi a), none] [] σ Q := by
  obtain ⟨x12, x27, x3, x42, x9, x8, xC, x18, xo, xt⟩ := id bX
  obtain ⟨t1', t2', t13, t3'⟩ := id bT
  generalize htx : gN σ 7 0 = tx at *
  have SS := S
  have c12 : nI tx < 12 := nI_lt (b := 12) h12 (by decide)
  have hB : ∀ j, 0 ≤ gI σ 13 0 j ∧ gI σ 13 0 j < 256 := fun j => by rw [t13 j]; exact by_255 _
  have eB : gI (ntM σ a tx) 13 0 = gI σ 13 0 := funext fun j => nt_I (Or.inl (by decide))
  have eL : gI (ntM σ a tx) 29 0 1 = nI L := (nt_I (Or.inl (by decide))).trans (t1'.trans hL)
  have SN := Sh_nt (a := a) (tx := tx) S
  have C := fun (D : Nat) (Q : aR → aM → Prop) => C43 (D := D) (Q := Q) (σ := ntM σ a tx) (L := L) (tt := gC σ 36) SN (by rw [eB]; exact hB) eL h3 (by rw [nt_C36]; omega) (by rw [nt_C12, xC]; omega) (by rw [nt_R3, xC]) (by rw [← xC]; exact nt_N12) nt_5 (by rw [nt_B]; omega)
  rw [eB] at C
  have r1 : (gB σ).1 + 1 ≤ 601024 ∧ (gB σ).2 + 6 ≤ 7293034 := by omega
  have r2 : (gB σ).1 + 1 + 1 ≤ 601024 ∧ (gB σ).2 + 6 + 3 ≤ 7293034 := by omega
  have i36 : gC σ 36 < gC σ 36 + 1 := Nat.lt_succ_self _
  have ho := @txtP_ok (toksF (gI σ 13 0) L) (uksF (gI σ 13 0) L) (tkOK_B hB h3) 11 0 0
  have go : WP (d + 59) 43 0 [some (vr (some (29, 0))), some (vr (some (36, gC σ 36))), none] [] (ntM σ a tx) (am_ko (d + 59 + 1) 79 52 55 [some (vr (some (3, 0))), some (vi a), some (vr (some (36, gC σ 36)))] [] Q) := by
    refine C (d + 19) _ ?_
    revert qf qs ho
    cases hx : txtP (toksF (gI σ 13 0) L) (uksF (gI σ 13 0) L) 11 0 0 with
    | inl e =>
      obtain ⟨k, p⟩ := e
      intro qf qs ho c f g h σ2 t1 n1 g1 F b1 b2
      rw [nt_B] at b1 b2
      have hz := qf k p rfl c f g h σ2 t1 n1 g1 F (by omega) (by omega)
      have S := frC_Sh (Sh_sp SN) F
      rw [am_ko_v]
      simp only [S79_55, S79_58, S79_59, S79_60, S79_63, S79_66, S79_67, gL_sI, gR_sI, gN_sI, gC_sI, gB_sI, gI_sL, gR_sL, gN_sL, gC_sL, gB_sL, gI_sR, gL_sR, gN_sR, gC_sR, gB_sR, gL_sIr, gR_sIr, gN_sIr, gC_sIr, gB_sIr, gI_sLr, gR_sLr, gN_sLr, gC_sLr, gB_sLr, gI_sRr, gL_sRr, gN_sRr, gC_sRr, gB_sRr, gI_sN, gL_sN, gR_sN, gC_sN, gB_sN, gI_sC, gL_sC, gR_sC, gN_sC, gB_sC, gI_sB, gL_sB, gR_sB, gN_sB, gC_sB, gB_sB, gB_am_mk, gI_am_ml, gL_am_ml, gR_am_ml, gB_am_ml, gI_am_add, gL_am_add, gC_am_add, gB_am_add, gI_am_ins, gL_am_ins, gC_am_ins, gB_am_ins, gI_am_rem, gL_am_rem, gC_am_rem, gB_am_rem, gI_am_thr, gL_am_thr, gR_am_thr, gN_am_thr, gB_am_thr, mI_sI_k, mI_sI_j, mI_sI_b, mI_sI_s, mI_sI_i, mI_sI_c, mL_sL_k, mL_sL_j, mL_sL_b, mL_sL_s, mL_sL_i, mL_sL_c, mR_sR_k, mR_sR_j, mR_sR_b, mR_sR_s, mR_sR_i, mR_sR_c, mI_sIr_k, mI_sIr_s, mI_sIr_i, mL_sLr_k, mL_sLr_s, mL_sLr_i, mR_sRr_k, mR_sRr_s, mR_sRr_i, mN_sN_k, mN_sN_i, mN_am_add_k, mN_am_add_s, mR_am_add_k, mN_am_ins_k, mN_am_ins_s, mR_am_ins_k, mN_am_rem_k, mN_am_rem_s, mR_am_rem_k, mR_am_add_s, mR_am_ins_s, mR_am_rem_s, mI_am_mk_k, mI_am_mk_s, mI_am_mk_i, mL_am_mk_k, mL_am_mk_s, mL_am_mk_i, mR_am_mk_k, mR_am_mk_s, mR_am_mk_i, mN_am_mk_k, mN_am_mk_i, mC_am_mk_k, mC_am_mk_s, mN_am_ml_k, mN_am_ml_i, mC_am_ml_k, mC_am_ml_s, mC_sC_k, mC_am_thr_k, sC_3 S, sC_4 S, sC_29 S, sC_30 S, sR_3_8 S, sR_3_9 S, sR_30_0 S, sC_7 S, k0, k1, k2, k3, k4, k5, k6, k7, k8, k9, k10, k11, k12, k13, k14, k15, k16, k17, k18, k19, k20, k21, k22, k23, k24, k25, k26, k27, k28, k29, k30, k31, k32, k33, k34, k35, k36, k37, k38, k39, k40, k41, k42, k43, k44, k45, k46, k47, k48, k49, k50, k51, k52, k53, k54, k55, k56, k57, k58, k59, k60, k61, k62, k63, k64, k65, k66, k67, k68, k69, k70, k71, k72, k73, k74, k75, k76, k77, k78, k79, k80, k81, k82, k83, k84, k85, k86, k87, k88, k89, k90, k91, k92, k93, k94, k95, k96, k97, k98, k99, k100, rd_R, rd_C, rd_2, true_and, and_true, and_self, if_true, if_false, ite_true, ite_false, Nat.lt_irrefl, List.length_nil, List.length_cons, Nat.reduceAdd, Nat.reduceLeDiff, Nat.reduceLT, Nat.reduceEqDiff, Nat.zero_lt_one, not_true, not_false_iff, bI_0, bI_1, ne_eq, reduceCtorEq, false_and, and_false, or_true, true_or, or_false, false_or, Nat.lt_one_iff, eq_self, Nat.zero_le, am_ko_v, am_ko_0, am_kil, Nat.reduceBEq, Int32.reduceLT, Int32.reduceLE, Int32.reduceAdd, Int32.reduceSub, i32_10, i32_01, not_true_eq_false, not_false_eq_true, Classical.not_not, nor_self, Nat.lt_add_one, nI_1, nI_pred, rf_n, i32_m0, i32_m1, reduceIte]
      exact hz
    | inr l =>
      intro qf qs ho c f g h σ2 t1 n1 g1 hn H
      obtain ⟨hl, hall⟩ := ho l (by decide) rfl
      have F := H.1
      obtain ⟨F1, F2, F3, F4, F5, F6, F7, F8, F9⟩ := id F
      obtain ⟨-, H1, H2, ⟨H3, H4⟩, H5, H6, H7⟩ := id H
      have S2 := frC_Sh (Sh_sp SN) F
      have SF := Sh_fi (T := toksF (gI σ 13 0) L) (t := t1) (n := n1) (g := g1) (tt := gC σ 36) S2
      have H1 : gC σ2 19 = gC σ 19 + l.length := H1.trans (by rw [show gC (spM (ntM σ a tx) c f g h) 19 = gC σ 19 from nt_C (a := a) (tx := tx) (by decide) (by decide)])
      have H3 : (gB σ2).1 ≤ (gB σ).1 + 2 + 2 * l.length := H3
      have H4 : (gB σ2).2 ≤ (gB σ).2 + 9 + 40 * l.length := H4
      have g36 : gC σ2 36 = gC σ 36 + 1 := F3.trans (nt_C36 (a := a) (tx := tx))
      have g12 : gC σ2 12 = gC σ 36 + 1 := F2.trans ((nt_C12 (a := a) (tx := tx)).trans (by rw [xC]))
      have g19 : gC (spM (ntM σ a tx) c f g h) 19 = gC σ 19 := nt_C (a := a) (tx := tx) (by decide) (by decide)
      have kI : ∀ K i j, K ≠ 12 → K ≠ 15 → K ≠ 16 → K ≠ 17 → K ≠ 19 → K ≠ 29 → K ≠ 36 → gI σ2 K i j = gI σ K i j := fun K i j a1 a2 a3 a4 a5 a6 a7 => by
        rw [(F1 K a1 a5 a7).1 i j]
        unfold spM
        rw [mI_sI_k a6, mI_sIr_k a4, mI_sIr_k a3, mI_sIr_k a2]
        exact nt_I (a := a) (tx := tx) (Or.inl a7)
      have kL : ∀ K i j, K ≠ 12 → K ≠ 19 → K ≠ 36 → gL σ2 K i j = gL σ K i j := fun K i j a1 a5 a7 => ((F1 K a1 a5 a7).2.1 i j).trans (nt_L (a := a) (tx := tx) (Or.inl a7))
      have kR : ∀ K i j, K ≠ 12 → K ≠ 19 → K ≠ 36 → gR σ2 K i j = gR σ K i j := fun K i j a1 a5 a7 => ((F1 K a1 a5 a7).2.2.1 i j).trans (nt_R (a := a) (tx := tx) (Or.inl a7))
      have kN : ∀ K i, K ≠ 12 → K ≠ 19 → K ≠ 36 → gN σ2 K i = gN σ K i := fun K i a1 a5 a7 => ((F1 K a1 a5 a7).2.2.2.1 i).trans (nt_N (a := a) (tx := tx) a7 (Or.inl a1))
      have k36 : ∀ i j, (i ≠ gC σ 36 ∨ j ≠ 5) → gI σ2 36 i j = gI (ntM σ a tx) 36 i j := fun i j hij => (F8 i j hij).trans (by
        unfold spM
        rw [mI_sI_k (by decide), mI_sIr_k (by decide), mI_sIr_k (by decide), mI_sIr_k (by decide)])
      have k36' : ∀ i j, i ≠ gC σ 36 → gI σ2 36 i j = gI σ 36 i j := fun i j hij => (k36 i j (Or.inl hij)).trans (nt_I (a := a) (tx := tx) (Or.inr hij))
      have kf : ∀ i j, gI (fiM σ2 (toksF (gI σ 13 0) L) t1 n1 g1 (gC σ 36)) 36 i j = gI σ2 36 i j := fun i j => fi_I (by decide) (by decide) (by decide)
      rw [am_ko_v]
      have hz := qs l rfl c f g h σ2 t1 n1 g1
      have S := SF
      have c36 : gC σ 36 < gC (fiM σ2 (toksF (gI σ 13 0) L) t1 n1 g1 (gC σ 36)) 36 := by rw [fi_C (by decide), g36]; omega
      simp only [S79_55, S79_58, S79_59, S79_60, S79_63, S79_66, S79_67, S79_68, S79_69, S79_72, S79_73, gL_sI, gR_sI, gN_sI, gC_sI, gB_sI, gI_sL, gR_sL, gN_sL, gC_sL, gB_sL, gI_sR, gL_sR, gN_sR, gC_sR, gB_sR, gL_sIr, gR_sIr, gN_sIr, gC_sIr, gB_sIr, gI_sLr, gR_sLr, gN_sLr, gC_sLr, gB_sLr, gI_sRr, gL_sRr, gN_sRr, gC_sRr, gB_sRr, gI_sN, gL_sN, gR_sN, gC_sN, gB_sN, gI_sC, gL_sC, gR_sC, gN_sC, gB_sC, gI_sB, gL_sB, gR_sB, gN_sB, gC_sB, gB_sB, gB_am_mk, gI_am_ml, gL_am_ml, gR_am_ml, gB_am_ml, gI_am_add, gL_am_add, gC_am_add, gB_am_add, gI_am_ins, gL_am_ins, gC_am_ins, gB_am_ins, gI_am_rem, gL_am_rem, gC_am_rem, gB_am_rem, gI_am_thr, gL_am_thr, gR_am_thr, gN_am_thr, gB_am_thr, mI_sI_k, mI_sI_j, mI_sI_b, mI_sI_s, mI_sI_i, mI_sI_c, mL_sL_k, mL_sL_j, mL_sL_b, mL_sL_s, mL_sL_i, mL_sL_c, mR_sR_k, mR_sR_j, mR_sR_b, mR_sR_s, mR_sR_i, mR_sR_c, mI_sIr_k, mI_sIr_s, mI_sIr_i, mL_sLr_k, mL_sLr_s, mL_sLr_i, mR_sRr_k, mR_sRr_s, mR_sRr_i, mN_sN_k, mN_sN_i, mN_am_add_k, mN_am_add_s, mR_am_add_k, mN_am_ins_k, mN_am_ins_s, mR_am_ins_k, mN_am_rem_k, mN_am_rem_s, mR_am_rem_k, mR_am_add_s, mR_am_ins_s, mR_am_rem_s, mI_am_mk_k, mI_am_mk_s, mI_am_mk_i, mL_am_mk_k, mL_am_mk_s, mL_am_mk_i, mR_am_mk_k, mR_am_mk_s, mR_am_mk_i, mN_am_mk_k, mN_am_mk_i, mC_am_mk_k, mC_am_mk_s, mN_am_ml_k, mN_am_ml_i, mC_am_ml_k, mC_am_ml_s, mC_sC_k, mC_am_thr_k, sC_3 S, sC_4 S, sC_29 S, sC_30 S, sR_3_8 S, sR_3_9 S, sR_30_0 S, sC_7 S, k0, k1, k2, k3, k4, k5, k6, k7, k8, k9, k10, k11, k12, k13, k14, k15, k16, k17, k18, k19, k20, k21, k22, k23, k24, k25, k26, k27, k28, k29, k30, k31, k32, k33, k34, k35, k36, k37, k38, k39, k40, k41, k42, k43, k44, k45, k46, k47, k48, k49, k50, k51, k52, k53, k54, k55, k56, k57, k58, k59, k60, k61, k62, k63, k64, k65, k66, k67, k68, k69, k70, k71, k72, k73, k74, k75, k76, k77, k78, k79, k80, k81, k82, k83, k84, k85, k86, k87, k88, k89, k90, k91, k92, k93, k94, k95, k96, k97, k98, k99, k100, true_and, and_true, and_self, if_true, if_false, ite_true, ite_false, Nat.lt_irrefl, List.length_nil, List.length_cons, Nat.reduceAdd, Nat.reduceLeDiff, Nat.reduceLT, Nat.reduceEqDiff, Nat.zero_lt_one, not_true, not_false_iff, bI_0, bI_1, ne_eq, reduceCtorEq, false_and, and_false, or_true, true_or, or_false, false_or, Nat.lt_one_iff, eq_self, Nat.zero_le, am_ko_v, am_ko_0, am_kil, Nat.reduceBEq, Int32.reduceLT, Int32.reduceLE, Int32.reduceAdd, Int32.reduceSub, i32_10, i32_01, not_true_eq_false, not_false_eq_true, Classical.not_not, nor_self, Nat.lt_add_one, nI_1, nI_pred, rf_n, i32_m0, i32_m1, reduceIte]
      refine C11 (D := d + 57) (tx := tx) (u0 := gC σ 19) (S0 := (gL σ 75 0, m)) (R := l) (a := a) (F := fun j => gI σ 63 0 ((ordL (gI σ 63 0) tx).getD j 0)) (tF := fun j => tcF σ ((ordL (gI σ 63 0) tx).getD j 0)) SF c36 (by rw [fi_C (by decide), g12]; omega) ((fi_R (by decide) (Or.inr (Or.inr (by decide)))).trans ((F9 _ _).trans ((nt_R3 (a := a) (tx := tx)).trans (by rw [xC])))) ((fi_N (Or.inl (by decide))).trans H2) (fun s r hr => ?_) (by omega) (by show m + l.length ≤ 120; omega) ?_ (fun j => ?_) ?_ ?_ h12 ?_ (fun j hj => ?_) (by rw [fi_B]; omega) (fun σ1 p H9 hp h1 h2 => ?_)
      · obtain ⟨b1, b2, b3, b4, b5, -⟩ := H5 s r hr
        obtain ⟨x, y, hxy⟩ := hall r (List.mem_of_getElem? hr)
        have hs : s < l.length := (List.getElem?_eq_some_iff.mp hr).1
        rw [g19] at b1 b2 b3 b4 b5
        exact ⟨(fi_R (by decide) (Or.inl (by decide))).trans b1, by rw [fi_C (by decide), H1]; omega, (fi_I (by decide) (by decide) (by decide)).trans b3, hxy.2.2.2.2.1, (fi_I (by decide) (by decide) (by decide)).trans b5, (fi_L (by decide)).trans b4⟩
      · rw [fi_I (by decide) (by decide) (by decide), kI 30 _ _ (by decide) (by decide) (by decide) (by decide) (by decide) (by decide) (by decide), x3]
        exact hm
      · rw [fi_L (by decide), kL 9 _ _ (by decide) (by decide) (by decide)]
        exact x9 j
      · rw [fi_N (Or.inl (by decide)), kN 8 _ (by decide) (by decide) (by decide), x8]
      · rw [fi_N (Or.inl (by decide)), kN 7 _ (by decide) (by decide) (by decide), htx]
      · rw [kf, k36 _ _ (Or.inr (by decide))]
        exact nt_1
      · have hlt : (ordL (gI σ 63 0) tx).getD j 0 < tx := ordL_mem _ _ (by
          rw [List.getD_eq_getElem?_getD, List.getElem?_eq_getElem (by rw [ordL_len]; exact hj)]
          exact List.getElem_mem _)
        obtain ⟨y1, y2, y3⟩ := tc_is (xt _ hlt)
        refine ⟨?_, ?_, ?_⟩
        · rw [fi_R (by decide) (Or.inl (by decide)), kR 8 _ _ (by decide) (by decide) (by decide), xo j hj]
          exact y2
        · rw [fi_C (by decide), g36]
          exact Nat.lt_succ_of_lt y1
        · rw [kf, k36' _ _ (by omega)]
          exact y3
      · have hz := hz σ1 p hn H H9 hp h1 h2
        obtain ⟨n1', n2', n3', n4', n5', n6'⟩ := id H9
        have e0 : gI (am_add (am_ins σ1 8 0 p (some (36, gC σ 36))) 7 0 (some (36, gC σ 36))) 36 (gC σ 36) 0 = nI tx := by
          show gI σ1 36 (gC σ 36) 0 = nI tx
          rw [n5' 36 _ _ (Or.inl (by decide)) (Or.inl (by decide)), kf, k36 _ _ (Or.inr (by decide))]
          exact nt_0
        have c36' : gC σ 36 < gC (am_add (am_ins σ1 8 0 p (some (36, gC σ 36))) 7 0 (some (36, gC σ 36))) 36 := by
          show gC σ 36 < gC σ1 36
          rw [gC_22 n1', fi_C (by decide), g36]; omega
        simp only [S79_76, S79_77, S79_80, e0, c36', true_and, and_true, and_self, if_true, if_false, ite_true, ite_false, Nat.lt_irrefl, List.length_nil, List.length_cons, Nat.reduceAdd, Nat.reduceLeDiff, Nat.reduceLT, Nat.reduceEqDiff, Nat.zero_lt_one, not_true, not_false_iff, bI_0, bI_1, ne_eq, reduceCtorEq, false_and, and_false, or_true, true_or, or_false, false_or, Nat.lt_one_iff, eq_self, Nat.zero_le, am_ko_v, am_ko_0, am_kil, Nat.reduceBEq, Int32.reduceLT, Int32.reduceLE, Int32.reduceAdd, Int32.reduceSub, i32_10, i32_01, not_true_eq_false, not_false_eq_true, Classical.not_not, nor_self, Nat.lt_add_one, nI_1, nI_pred, rf_n, i32_m0, i32_m1, reduceIte]
        exact hz
  simp only [am_ok, S79_0, S79_1, S79_4, S79_7, S79_8, S79_11, S79_14, S79_17, S79_19, S79_22, S79_23, S79_24, S79_27, S79_27q, S79_28, S79_29, S79_32, S79_35, S79_38, S79_39, S79_40, S79_43, S79_46, S79_47, S79_48, S79_51, S79_52, S36_0, S36_1, S36_4, S36_5, S36_8, S36_8q, S36_12, S36_15, S36_16, S36_17, S36_20, S36_21, S36_22, S36_25, S36_26, S36_27, S36_30, S36_31, S36_32, S36_35, S36_36, S36_37, S36_40, gL_sI, gR_sI, gN_sI, gC_sI, gB_sI, gI_sL, gR_sL, gN_sL, gC_sL, gB_sL, gI_sR, gL_sR, gN_sR, gC_sR, gB_sR, gL_sIr, gR_sIr, gN_sIr, gC_sIr, gB_sIr, gI_sLr, gR_sLr, gN_sLr, gC_sLr, gB_sLr, gI_sRr, gL_sRr, gN_sRr, gC_sRr, gB_sRr, gI_sN, gL_sN, gR_sN, gC_sN, gB_sN, gI_sC, gL_sC, gR_sC, gN_sC, gB_sC, gI_sB, gL_sB, gR_sB, gN_sB, gC_sB, gB_sB, gB_am_mk, gI_am_ml, gL_am_ml, gR_am_ml, gB_am_ml, gI_am_add, gL_am_add, gC_am_add, gB_am_add, gI_am_ins, gL_am_ins, gC_am_ins, gB_am_ins, gI_am_rem, gL_am_rem, gC_am_rem, gB_am_rem, gI_am_thr, gL_am_thr, gR_am_thr, gN_am_thr, gB_am_thr, mI_sI_k, mI_sI_j, mI_sI_b, mI_sI_s, mI_sI_i, mI_sI_c, mL_sL_k, mL_sL_j, mL_sL_b, mL_sL_s, mL_sL_i, mL_sL_c, mR_sR_k, mR_sR_j, mR_sR_b, mR_sR_s, mR_sR_i, mR_sR_c, mI_sIr_k, mI_sIr_s, mI_sIr_i, mL_sLr_k, mL_sLr_s, mL_sLr_i, mR_sRr_k, mR_sRr_s, mR_sRr_i, mN_sN_k, mN_sN_i, mN_am_add_k, mN_am_add_s, mR_am_add_k, mN_am_ins_k, mN_am_ins_s, mR_am_ins_k, mN_am_rem_k, mN_am_rem_s, mR_am_rem_k, mR_am_add_s, mR_am_ins_s, mR_am_rem_s, mI_am_mk_k, mI_am_mk_s, mI_am_mk_i, mL_am_mk_k, mL_am_mk_s, mL_am_mk_i, mR_am_mk_k, mR_am_mk_s, mR_am_mk_i, mN_am_mk_k, mN_am_mk_i, mC_am_mk_k, mC_am_mk_s, mN_am_ml_k, mN_am_ml_i, mC_am_ml_k, mC_am_ml_s, mC_sC_k, mC_am_thr_k, sC_3 S, sC_4 S, sC_29 S, sC_30 S, sR_3_8 S, sR_3_9 S, sR_30_0 S, sC_7 S, k0, k1, k2, k3, k4, k5, k6, k7, k8, k9, k10, k11, k12, k13, k14, k15, k16, k17, k18, k19, k20, k21, k22, k23, k24, k25, k26, k27, k28, k29, k30, k31, k32, k33, k34, k35, k36, k37, k38, k39, k40, k41, k42, k43, k44, k45, k46, k47, k48, k49, k50, k51, k52, k53, k54, k55, k56, k57, k58, k59, k60, k61, k62, k63, k64, k65, k66, k67, k68, k69, k70, k71, k72, k73, k74, k75, k76, k77, k78, k79, k80, k81, k82, k83, k84, k85, k86, k87, k88, k89, k90, k91, k92, k93, k94, k95, k96, k97, k98, k99, k100, C135, ha, htx, c12, r1, r2, i36, true_and, and_true, and_self, if_true, if_false, ite_true, ite_false, Nat.lt_irrefl, List.length_nil, List.length_cons, Nat.reduceAdd, Nat.reduceLeDiff, Nat.reduceLT, Nat.reduceEqDiff, Nat.zero_lt_one, not_true, not_false_iff, bI_0, bI_1, ne_eq, reduceCtorEq, false_and, and_false, or_true, true_or, or_false, false_or, Nat.lt_one_iff, eq_self, Nat.zero_le, am_ko_v, am_ko_0, am_kil, Nat.reduceBEq, Int32.reduceLT, Int32.reduceLE, Int32.reduceAdd, Int32.reduceSub, i32_10, i32_01, not_true_eq_false, not_false_eq_true, Classical.not_not, nor_self, Nat.lt_add_one, nI_1, nI_pred, rf_n, i32_m0, i32_m1, reduceIte]
  exact go
end C79S
