section RWH
variable {σ σ1 σ2 : aM} {t n n0 tx si k D L : Nat} {B : Nat → Int32} {g h g0 h0 : Nat → Int32} {Q : aR → aM → Prop} {R : List rcT} {le : Int64} {m : Int32} {c1 : List Int32} {rv : Option cdT}
/-- from the condition on -/
theorem R172e (E : rfB σ B L tx) (H : rfT σ σ1 tx g0 h0 n0 R) (A : stA σ σ1 σ2 tx (10 * tx + R.length)) (h10 : R.length < 10) (hk : k < 7) (hD : 44 ≤ D) (e65 : gI σ2 65 0 (10 * tx + R.length) = nI k) (e66 : gI σ2 66 0 (10 * tx + R.length) = m) (e67 : gI σ2 67 0 (10 * tx + R.length) = -1) (e68 : k = 6 → gL σ2 68 0 (10 * tx + R.length) = le) (e69 : sgQ (gI σ2 69 0 (10 * tx + R.length)) (gI σ2 70 0 (10 * tx + R.length)) g h (320 * tx) n rv) (e71 : gI σ2 71 0 (10 * tx + R.length) = -1) (hg : ∀ j, j < 320 * tx + n0 → g j = g0 j) (hh : ∀ j, j < 320 * tx + n0 → h j = h0 j) (hn0 : n0 ≤ n) (hn : n ≤ t) (ht : t ≤ 300) (q : tPost σ (toksF B L) (uksF B L) tx R (endP (toksF B L) (uksF B L) k le m c1 rv t) Q) : WP D 172 115 [some (vr (some (4, 0))), some (vi (nI k)), some (vi (nI (10 * tx + R.length)))] [] (rfM σ2 (toksF B L) (uksF B L) t 0 n g h 0 (-1)) Q := by
  have E2 := rfR_B E A.1
  have hB := E.1.2.2.2.2
  have h3 := E.1.2.2.1
  have h12 := E.2.2
  have s3 : 10 * tx ≤ 10 * tx + R.length := by omega
  have ag : agF (320 * tx) (gI σ 73 0) g := fun j hj => (hg j (by omega)).trans (H.2.1 j hj)
  have ah : agF (320 * tx) (gI σ 74 0) h := fun j hj => (hh j (by omega)).trans (H.2.2.1 j hj)
  refine L172e E2 (i := R.length) (le := le) (m := m) (c1 := c1) (rv := rv) hk (by omega) ht hn hD (A.2.2.2.trans H.2.2.2.1) ?_
  have ho := @endP_ok (toksF B L) (uksF B L) (tkOK_B hB h3) k t
  revert q ho
  cases hx : endP (toksF B L) (uksF B L) k le m c1 rv t with
  | inl e =>
    obtain ⟨kk, p⟩ := e
    intro q ho σ4 fr ov va le1 op1 tk n1 g1 h1 hσ eg eh
    refine q σ4 fr ov va le1 op1 tk n1 g1 h1 ?_ (agF_tr ag eg) (agF_tr ah eh)
    rcases hσ with rfl | rfl | ⟨y, rfl⟩
    · exact A.1
    · exact rfR_s A.1 (by decide) (by decide) s3
    · exact rfR_s (rfR_s A.1 (by decide) (by decide) s3) (by decide) (by decide) s3
  | inr e =>
    obtain ⟨t1, r⟩ := e
    intro q ho
    obtain ⟨c2, qq, rfl, o1, o2, o3, o4, o5⟩ := ho ht hx
    have al : ∀ j, j < 320 * tx + n → wcF g (320 * tx + n) ((qq.getD []).map Prod.fst) j = g j := fun j hj => wc_lo hj
    have ar : ∀ j, j < 320 * tx + n → wcF h (320 * tx + n) ((qq.getD []).map Prod.snd) j = h j := fun j hj => wc_lo hj
    refine q (eM σ2 tx (10 * tx + R.length) R.length n qq) _ _ _ (show n + (qq.getD []).length ≤ t1 by omega) ?_
    have lo := fun {x y : Int32} {q : Option cdT} (z : sgQ x y g h (320 * tx) n q) => sgQ_lo z al ar (Nat.le_add_right n (qq.getD []).length)
    cases qq with
    | none =>
      exact rfT_add H A (fun j hj => (al j (by omega)).trans (hg j hj)) (fun j hj => (ar j (by omega)).trans (hh j hj)) (by omega) ⟨e65, e66, e67, e68, lo e69, e71⟩
    | some l =>
      have A2 : stA σ σ1 (sI (sI σ2 71 0 (10 * tx + R.length) (nI n)) 72 0 (10 * tx + R.length) (nI (n + l.length))) tx (10 * tx + R.length) := stA_s (stA_s A (by decide) (by decide) s3) (by decide) (by decide) s3
      refine rfT_add H A2 (fun j hj => (al j (by omega)).trans (hg j hj)) (fun j hj => (ar j (by omega)).trans (hh j hj)) (by omega) ⟨?_, ?_, ?_, e68, ?_, ⟨n, n + l.length, ?_, mI_sI_s, by omega, Nat.le_refl _, sgR_wc⟩⟩
      · exact (mI_sI_k (by decide)).trans ((mI_sI_k (by decide)).trans e65)
      · exact (mI_sI_k (by decide)).trans ((mI_sI_k (by decide)).trans e66)
      · exact (mI_sI_k (by decide)).trans ((mI_sI_k (by decide)).trans e67)
      · rw [mI_sI_k (by decide), mI_sI_k (by decide), mI_sI_k (by decide), mI_sI_k (by decide)]
        exact lo e69
      · exact (mI_sI_k (by decide)).trans mI_sI_s
/-- from the body on, kinds that aren't STRIKE -/
theorem R172b (E : rfB σ B L tx) (H : rfT σ σ1 tx g h n R) (A : stA σ σ1 σ2 tx (10 * tx + R.length)) (h10 : R.length < 10) (hk : k < 6) (hD : 46 ≤ D) (e65 : gI σ2 65 0 (10 * tx + R.length) = nI k) (e66 : gI σ2 66 0 (10 * tx + R.length) = if k = 3 then 1 else 0) (e67 : gI σ2 67 0 (10 * tx + R.length) = -1) (e69 : gI σ2 69 0 (10 * tx + R.length) = -1) (e71 : gI σ2 71 0 (10 * tx + R.length) = -1) (hn : n ≤ t) (ht : t ≤ 300) (q : tPost σ (toksF B L) (uksF B L) tx R (restP (toksF B L) (uksF B L) k 0 t) Q) : WP D 173 0 [some (vr (some (4, 0))), some (vi (nI (10 * tx + R.length))), some (vi (nI k)), none] [] (rfM σ2 (toksF B L) (uksF B L) t 0 n g h 0 (-1)) (am_ko (D + 1) 172 107 110 [some (vr (some (4, 0))), some (vi (nI k)), some (vi (nI (10 * tx + R.length)))] [] Q) := by
  have E2 := rfR_B E A.1
  have hB := E.1.2.2.2.2
  have h3 := E.1.2.2.1
  have h12 := E.2.2
  have s3 : 10 * tx ≤ 10 * tx + R.length := by omega
  have s120 : 10 * tx + R.length < 120 := by omega
  have S := (rfE_B E2).1
  have k6 : ¬ k = 6 := by omega
  unfold restP at q
  by_cases cA : k = 0 ∨ k = 4 ∨ k = 5
  · have ev : valP (toksF B L) (uksF B L) k t = sumP (toksF B L) (fun t => (uksF B L t).1) 4 t := by
      unfold valP
      rw [if_neg (by omega), if_neg (by omega), if_neg (by omega), if_neg (by omega)]
    have em : nmF (uksF B L) k t = 0 := by
      unfold nmF
      rw [if_neg (by omega), if_neg (by omega)]
    rw [ev, em] at q
    refine C173A E2 s120 s3 cA hn ht (by omega) ?_
    have hc := sumP_ok (V := fun t => (uksF B L t).1) (tkOK_B hB h3).1 4 t
    revert q hc
    cases sumP (toksF B L) (fun t => (uksF B L t).1) 4 t with
    | inl e =>
      obtain ⟨kk, p⟩ := e
      intro q hc y fr ov va le op tk n1 g1 h1 eg eh
      have hz := q (sI (sI σ2 69 0 (10 * tx + R.length) (nI n)) 70 0 (10 * tx + R.length) y) fr ov va le op tk n1 g1 h1 (rfR_s (rfR_s A.1 (by decide) (by decide) s3) (by decide) (by decide) s3) (agF_tr H.2.1 eg) (agF_tr H.2.2.1 eh)
      simp only [S172_110, S172_113, S172_114, am_ko_v, true_and, and_true, and_self, if_true, if_false, ite_true, ite_false, Nat.lt_irrefl, List.length_nil, List.length_cons, Nat.reduceAdd, Nat.reduceLeDiff, Nat.reduceLT, Nat.reduceEqDiff, Nat.zero_lt_one, not_true, not_false_iff, bI_0, bI_1, ne_eq, reduceCtorEq, false_and, and_false, or_true, true_or, or_false, false_or, Nat.lt_one_iff, eq_self, Nat.zero_le, am_ko_v, am_ko_0, am_kil, Nat.reduceBEq, Int32.reduceLT, Int32.reduceLE, Int32.reduceAdd, Int32.reduceSub, i32_10, i32_01, not_true_eq_false, not_false_eq_true, Classical.not_not, nor_self, Nat.lt_add_one, nI_1, nI_pred, rf_n, i32_m0, i32_m1, reduceIte]
      exact hz
    | inr e =>
      obtain ⟨t1, c, r⟩ := e
      intro q hc
      obtain ⟨o1, o2, o3, o4⟩ := hc _ _ _ rfl
      have er : rvP k r = some r := if_pos cA
      have q : tPost σ (toksF B L) (uksF B L) tx R (endP (toksF B L) (uksF B L) k 0 0 c (rvP k r) t1) Q := q
      rw [er] at q
      have e66' : gI σ2 66 0 (10 * tx + R.length) = 0 := by rw [e66, if_neg (by omega)]
      simp only [S172_110, S172_113, S172_114, am_ko_v, true_and, and_true, and_self, if_true, if_false, ite_true, ite_false, Nat.lt_irrefl, List.length_nil, List.length_cons, Nat.reduceAdd, Nat.reduceLeDiff, Nat.reduceLT, Nat.reduceEqDiff, Nat.zero_lt_one, not_true, not_false_iff, bI_0, bI_1, ne_eq, reduceCtorEq, false_and, and_false, or_true, true_or, or_false, false_or, Nat.lt_one_iff, eq_self, Nat.zero_le, am_ko_v, am_ko_0, am_kil, Nat.reduceBEq, Int32.reduceLT, Int32.reduceLE, Int32.reduceAdd, Int32.reduceSub, i32_10, i32_01, not_true_eq_false, not_false_eq_true, Classical.not_not, nor_self, Nat.lt_add_one, nI_1, nI_pred, rf_n, i32_m0, i32_m1, reduceIte]
      refine R172e (rv := some r) (n0 := n) (g0 := g) (h0 := h) E H (stA_s (stA_s A (by decide) (by decide) s3) (by decide) (by decide) s3) h10 (by omega) (by omega) ((mI_sI_k (by decide)).trans ((mI_sI_k (by decide)).trans e65)) ((mI_sI_k (by decide)).trans ((mI_sI_k (by decide)).trans e66')) ((mI_sI_k (by decide)).trans ((mI_sI_k (by decide)).trans e67)) (fun e => absurd e k6) ⟨n, n + r.length, (mI_sI_k (by decide)).trans mI_sI_s, mI_sI_s, by omega, Nat.le_refl _, sgR_wc⟩ ((mI_sI_k (by decide)).trans ((mI_sI_k (by decide)).trans e71)) (fun j hj => wc_lo hj) (fun j hj => wc_lo hj) (by omega) (by omega) o2 q
  · have er : ∀ r, rvP k r = none := fun r => if_neg cA
    by_cases c3 : k = 3
    · subst c3
      have ev : valP (toksF B L) (uksF B L) 3 t = .inr (t, [], []) := rfl
      rw [ev] at q
      have q : tPost σ (toksF B L) (uksF B L) tx R (endP (toksF B L) (uksF B L) 3 0 1 [] (rvP 3 []) t) Q := q
      rw [er] at q
      simp only [S173_0, S173_1, S173_4, S173_5, S173_6, S173_9, S173_10, S173_11, S173_14, S173_15, S173_18, S173_19, S173_20, S173_23, S173_24, S173_25, S173_28, S173_29, S173_30, S173_33, S173_34, S173_35, S173_38, S173_39, S173_40, S173_41, S173_42, S173_43, S173_46, S173_47, gL_sI, gR_sI, gN_sI, gC_sI, gB_sI, gI_sL, gR_sL, gN_sL, gC_sL, gB_sL, gI_sR, gL_sR, gN_sR, gC_sR, gB_sR, gL_sIr, gR_sIr, gN_sIr, gC_sIr, gB_sIr, gI_sLr, gR_sLr, gN_sLr, gC_sLr, gB_sLr, gI_sRr, gL_sRr, gN_sRr, gC_sRr, gB_sRr, gI_sN, gL_sN, gR_sN, gC_sN, gB_sN, gI_sC, gL_sC, gR_sC, gN_sC, gB_sC, gI_sB, gL_sB, gR_sB, gN_sB, gC_sB, gB_sB, gB_am_mk, gI_am_ml, gL_am_ml, gR_am_ml, gB_am_ml, gI_am_add, gL_am_add, gC_am_add, gB_am_add, gI_am_ins, gL_am_ins, gC_am_ins, gB_am_ins, gI_am_rem, gL_am_rem, gC_am_rem, gB_am_rem, gI_am_thr, gL_am_thr, gR_am_thr, gN_am_thr, gB_am_thr, mI_sI_k, mI_sI_j, mI_sI_b, mI_sI_s, mI_sI_i, mI_sI_c, mL_sL_k, mL_sL_j, mL_sL_b, mL_sL_s, mL_sL_i, mL_sL_c, mR_sR_k, mR_sR_j, mR_sR_b, mR_sR_s, mR_sR_i, mR_sR_c, mI_sIr_k, mI_sIr_s, mI_sIr_i, mL_sLr_k, mL_sLr_s, mL_sLr_i, mR_sRr_k, mR_sRr_s, mR_sRr_i, mN_sN_k, mN_sN_i, mN_am_add_k, mN_am_add_s, mR_am_add_k, mN_am_ins_k, mN_am_ins_s, mR_am_ins_k, mN_am_rem_k, mN_am_rem_s, mR_am_rem_k, mR_am_add_s, mR_am_ins_s, mR_am_rem_s, mI_am_mk_k, mI_am_mk_s, mI_am_mk_i, mL_am_mk_k, mL_am_mk_s, mL_am_mk_i, mR_am_mk_k, mR_am_mk_s, mR_am_mk_i, mN_am_mk_k, mN_am_mk_i, mC_am_mk_k, mC_am_mk_s, mN_am_ml_k, mN_am_ml_i, mC_am_ml_k, mC_am_ml_s, mC_sC_k, mC_am_thr_k, sC_3 S, sC_4 S, sR_4_32 S, sC_66 S, sN_66 S, sR_4_34 S, sC_68 S, sN_68 S, sR_4_35 S, sC_69 S, sN_69 S, sR_4_36 S, sC_70 S, sN_70 S, k0, k1, k2, k3, k4, k5, k6, k7, k8, k9, k10, k11, k12, k13, k14, k15, k16, k17, k18, k19, k20, k21, k22, k23, k24, k25, k26, k27, k28, k29, k30, k31, k32, k33, k34, k35, k36, k37, k38, k39, k40, k41, k42, k43, k44, k45, k46, k47, k48, k49, k50, k51, k52, k53, k54, k55, k56, k57, k58, k59, k60, k61, k62, k63, k64, k65, k66, k67, k68, k69, k70, k71, k72, k73, k74, k75, k76, k77, k78, k79, k80, k81, k82, k83, k84, k85, k86, k87, k88, k89, k90, k91, k92, k93, k94, k95, k96, k97, k98, k99, k100, show (nI 3 = 0) = False by decide, show (nI 3 = 4) = False by decide, show (nI 3 = 5) = False by decide, show (nI 3 = 3) = True from eq_true rfl, true_and, and_true, and_self, if_true, if_false, ite_true, ite_false, Nat.lt_irrefl, List.length_nil, List.length_cons, Nat.reduceAdd, Nat.reduceLeDiff, Nat.reduceLT, Nat.reduceEqDiff, Nat.zero_lt_one, not_true, not_false_iff, bI_0, bI_1, ne_eq, reduceCtorEq, false_and, and_false, or_true, true_or, or_false, false_or, Nat.lt_one_iff, eq_self, Nat.zero_le, am_ko_v, am_ko_0, am_kil, Nat.reduceBEq, Int32.reduceLT, Int32.reduceLE, Int32.reduceAdd, Int32.reduceSub, i32_10, i32_01, not_true_eq_false, not_false_eq_true, Classical.not_not, nor_self, Nat.lt_add_one, nI_1, nI_pred, rf_n, i32_m0, i32_m1, reduceIte]
      simp only [S172_110, S172_113, S172_114, am_ko_v, true_and, and_true, and_self, if_true, if_false, ite_true, ite_false, Nat.lt_irrefl, List.length_nil, List.length_cons, Nat.reduceAdd, Nat.reduceLeDiff, Nat.reduceLT, Nat.reduceEqDiff, Nat.zero_lt_one, not_true, not_false_iff, bI_0, bI_1, ne_eq, reduceCtorEq, false_and, and_false, or_true, true_or, or_false, false_or, Nat.lt_one_iff, eq_self, Nat.zero_le, am_ko_v, am_ko_0, am_kil, Nat.reduceBEq, Int32.reduceLT, Int32.reduceLE, Int32.reduceAdd, Int32.reduceSub, i32_10, i32_01, not_true_eq_false, not_false_eq_true, Classical.not_not, nor_self, Nat.lt_add_one, nI_1, nI_pred, rf_n, i32_m0, i32_m1, reduceIte]
      exact R172e (rv := none) (n0 := n) (g0 := g) (h0 := h) E H A h10 (by omega) (by omega) e65 e66 e67 (fun e => absurd e k6) e69 e71 (fun j hj => rfl) (fun j hj => rfl) (Nat.le_refl _) hn ht q
    · have c12 : k = 1 ∨ k = 2 ∨ k = 6 := by omega
      obtain ⟨D, rfl⟩ : ∃ D1, D = D1 + 3 := ⟨D - 3, by omega⟩
      have ev : valP (toksF B L) (uksF B L) k t = (if k = 1 then numP (toksF B L) (fun t => (uksF B L t).1) 0 100 t else if k = 2 then numP (toksF B L) (fun t => (uksF B L t).1) 0 99 t else numP (toksF B L) (fun t => (uksF B L t).1) 1 9999 t) := by
        unfold valP
        by_cases d1 : k = 1
        · rw [if_pos d1, if_pos d1]
        · have d2 : k = 2 := by omega
          rw [if_neg d1, if_neg d1, if_pos d2, if_pos d2]
      have em : nmF (uksF B L) k t = (uksF B L t).1 := by
        unfold nmF
        rw [if_neg c3, if_pos c12]
      have eok := @valP_ok (toksF B L) (uksF B L) (tkOK_B hB h3).1 k t
      have enum : ∀ t1 c r, valP (toksF B L) (uksF B L) k t = .inr (t1, c, r) → t1 = t + 1 := fun t1 c r e => by
        rw [ev] at e
        have hnp : ∀ lo hi, numP (toksF B L) (fun t => (uksF B L t).1) lo hi t = .inr (t1, c, r) → t1 = t + 1 := fun lo hi e => by
          unfold numP at e
          split at e
          · cases e
          · split at e
            · cases e; rfl
            · cases e
        split at e
        · exact hnp _ _ e
        · split at e
          · exact hnp _ _ e
          · exact hnp _ _ e
      have kf : ¬ nI k = 0 ∧ ¬ nI k = 4 ∧ ¬ nI k = 5 ∧ ¬ nI k = 3 ∧ ¬ nI k = 7 ∧ ¬ nI k = 6 := by
        rcases (show k = 1 ∨ k = 2 by omega) with rfl | rfl <;> decide
      obtain ⟨f0, f4, f5, f3, f7, f6⟩ := kf
      simp only [S173_0, S173_1, S173_4, S173_5, S173_6, S173_9, S173_10, S173_11, S173_14, S173_15, S173_18, S173_19, S173_20, S173_23, S173_24, S173_25, S173_28, S173_29, S173_30, S173_33, S173_34, S173_35, S173_38, S173_39, S173_40, S173_41, S173_42, S173_43, S173_46, S173_47, S173_48, S173_49, S173_51, S173_54, S173_55, S173_58, S173_59, S173_60, S173_62, S173_65, S173_66, S173_67, S173_70, S173_71, S173_72, S173_73, S173_76, S173_77, S173_78, S173_81, S173_82, S173_83, S173_86, S173_87, S173_88, S173_89, S173_91, S173_94, S173_95, S173_98, S173_99, S173_100, S173_103, S173_104, S173_105, S173_108, S173_109, S173_110, S173_113, S173_114, S173_115, S173_118, S173_119, S173_120, gL_sI, gR_sI, gN_sI, gC_sI, gB_sI, gI_sL, gR_sL, gN_sL, gC_sL, gB_sL, gI_sR, gL_sR, gN_sR, gC_sR, gB_sR, gL_sIr, gR_sIr, gN_sIr, gC_sIr, gB_sIr, gI_sLr, gR_sLr, gN_sLr, gC_sLr, gB_sLr, gI_sRr, gL_sRr, gN_sRr, gC_sRr, gB_sRr, gI_sN, gL_sN, gR_sN, gC_sN, gB_sN, gI_sC, gL_sC, gR_sC, gN_sC, gB_sC, gI_sB, gL_sB, gR_sB, gN_sB, gC_sB, gB_sB, gB_am_mk, gI_am_ml, gL_am_ml, gR_am_ml, gB_am_ml, gI_am_add, gL_am_add, gC_am_add, gB_am_add, gI_am_ins, gL_am_ins, gC_am_ins, gB_am_ins, gI_am_rem, gL_am_rem, gC_am_rem, gB_am_rem, gI_am_thr, gL_am_thr, gR_am_thr, gN_am_thr, gB_am_thr, mI_sI_k, mI_sI_j, mI_sI_b, mI_sI_s, mI_sI_i, mI_sI_c, mL_sL_k, mL_sL_j, mL_sL_b, mL_sL_s, mL_sL_i, mL_sL_c, mR_sR_k, mR_sR_j, mR_sR_b, mR_sR_s, mR_sR_i, mR_sR_c, mI_sIr_k, mI_sIr_s, mI_sIr_i, mL_sLr_k, mL_sLr_s, mL_sLr_i, mR_sRr_k, mR_sRr_s, mR_sRr_i, mN_sN_k, mN_sN_i, mN_am_add_k, mN_am_add_s, mR_am_add_k, mN_am_ins_k, mN_am_ins_s, mR_am_ins_k, mN_am_rem_k, mN_am_rem_s, mR_am_rem_k, mR_am_add_s, mR_am_ins_s, mR_am_rem_s, mI_am_mk_k, mI_am_mk_s, mI_am_mk_i, mL_am_mk_k, mL_am_mk_s, mL_am_mk_i, mR_am_mk_k, mR_am_mk_s, mR_am_mk_i, mN_am_mk_k, mN_am_mk_i, mC_am_mk_k, mC_am_mk_s, mN_am_ml_k, mN_am_ml_i, mC_am_ml_k, mC_am_ml_s, mC_sC_k, mC_am_thr_k, sC_3 S, sC_4 S, sR_4_32 S, sC_66 S, sN_66 S, sR_4_34 S, sC_68 S, sN_68 S, sR_4_35 S, sC_69 S, sN_69 S, sR_4_36 S, sC_70 S, sN_70 S, k0, k1, k2, k3, k4, k5, k6, k7, k8, k9, k10, k11, k12, k13, k14, k15, k16, k17, k18, k19, k20, k21, k22, k23, k24, k25, k26, k27, k28, k29, k30, k31, k32, k33, k34, k35, k36, k37, k38, k39, k40, k41, k42, k43, k44, k45, k46, k47, k48, k49, k50, k51, k52, k53, k54, k55, k56, k57, k58, k59, k60, k61, k62, k63, k64, k65, k66, k67, k68, k69, k70, k71, k72, k73, k74, k75, k76, k77, k78, k79, k80, k81, k82, k83, k84, k85, k86, k87, k88, k89, k90, k91, k92, k93, k94, k95, k96, k97, k98, k99, k100, f0, f4, f5, f3, f7, f6, true_and, and_true, and_self, if_true, if_false, ite_true, ite_false, Nat.lt_irrefl, List.length_nil, List.length_cons, Nat.reduceAdd, Nat.reduceLeDiff, Nat.reduceLT, Nat.reduceEqDiff, Nat.zero_lt_one, not_true, not_false_iff, bI_0, bI_1, ne_eq, reduceCtorEq, false_and, and_false, or_true, true_or, or_false, false_or, Nat.lt_one_iff, eq_self, Nat.zero_le, am_ko_v, am_ko_0, am_kil, Nat.reduceBEq, Int32.reduceLT, Int32.reduceLE, Int32.reduceAdd, Int32.reduceSub, i32_10, i32_01, not_true_eq_false, not_false_eq_true, Classical.not_not, nor_self, Nat.lt_add_one, nI_1, nI_pred, rf_n, i32_m0, i32_m1, reduceIte]
      refine L173n E2 s120 s3 c12 ht ?_
      rw [← ev]
      rw [em] at q
      revert q eok enum
      cases valP (toksF B L) (uksF B L) k t with
      | inl e =>
        obtain ⟨kk, p⟩ := e
        intro q eok enum
        simp only [S172_110, S172_113, S172_114, am_ko_v, true_and, and_true, and_self, if_true, if_false, ite_true, ite_false, Nat.lt_irrefl, List.length_nil, List.length_cons, Nat.reduceAdd, Nat.reduceLeDiff, Nat.reduceLT, Nat.reduceEqDiff, Nat.zero_lt_one, not_true, not_false_iff, bI_0, bI_1, ne_eq, reduceCtorEq, false_and, and_false, or_true, true_or, or_false, false_or, Nat.lt_one_iff, eq_self, Nat.zero_le, am_ko_v, am_ko_0, am_kil, Nat.reduceBEq, Int32.reduceLT, Int32.reduceLE, Int32.reduceAdd, Int32.reduceSub, i32_10, i32_01, not_true_eq_false, not_false_eq_true, Classical.not_not, nor_self, Nat.lt_add_one, nI_1, nI_pred, rf_n, i32_m0, i32_m1, reduceIte]
        exact q σ2 _ _ _ _ _ _ _ _ _ A.1 H.2.1 H.2.2.1
      | inr e =>
        obtain ⟨t1, c, r⟩ := e
        intro q eok enum
        have et := enum _ _ _ rfl
        subst et
        have o2 := (eok ht rfl).2.1
        have q : tPost σ (toksF B L) (uksF B L) tx R (endP (toksF B L) (uksF B L) k 0 (uksF B L t).1 c (rvP k r) (t + 1)) Q := q
        rw [er] at q
        simp only [S172_110, S172_113, S172_114, am_ko_v, true_and, and_true, and_self, if_true, if_false, ite_true, ite_false, Nat.lt_irrefl, List.length_nil, List.length_cons, Nat.reduceAdd, Nat.reduceLeDiff, Nat.reduceLT, Nat.reduceEqDiff, Nat.zero_lt_one, not_true, not_false_iff, bI_0, bI_1, ne_eq, reduceCtorEq, false_and, and_false, or_true, true_or, or_false, false_or, Nat.lt_one_iff, eq_self, Nat.zero_le, am_ko_v, am_ko_0, am_kil, Nat.reduceBEq, Int32.reduceLT, Int32.reduceLE, Int32.reduceAdd, Int32.reduceSub, i32_10, i32_01, not_true_eq_false, not_false_eq_true, Classical.not_not, nor_self, Nat.lt_add_one, nI_1, nI_pred, rf_n, i32_m0, i32_m1, reduceIte]
        exact R172e (rv := none) (n0 := n) (g0 := g) (h0 := h) E H (stA_s A (by decide) (by decide) s3) h10 (by omega) (by omega) ((mI_sI_k (by decide)).trans e65) mI_sI_s ((mI_sI_k (by decide)).trans e67) (fun e => absurd e k6) ((mI_sI_k (by decide)).trans e69) ((mI_sI_k (by decide)).trans e71) (fun j hj => rfl) (fun j hj => rfl) (Nat.le_refl _) (by omega) o2 q
end RWH
