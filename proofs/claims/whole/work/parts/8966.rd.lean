/-! THE CLASS'S READER: its memory while it reads, as a function of the TOKEN's number, the code so far, the fault -/
def rdM (σ : aM) (T : tkT) (t n : Nat) (g : Nat → Int32) (k p : Int32) : aM := sI (sI (sI (sI (sI (sI (sI (sIr σ 14 0 g) 29 0 5 (nI n)) 29 0 10 (nI t)) 29 0 11 (T t).1) 29 0 12 (nI (T t).2.1)) 29 0 13 (nI (T t).2.2)) 29 0 2 k) 29 0 3 p
/-- code laid behind code -/
def wcF (g : Nat → Int32) (n : Nat) (c : List Int32) : Nat → Int32 := fun j => if n ≤ j ∧ j < n + c.length then c.getD (j - n) 0 else g j
theorem wr_nil {g : Nat → Int32} {n : Nat} : wcF g n [] = g := by
  funext j
  unfold wcF
  exact if_neg (by simp only [List.length_nil]; omega)
theorem wr_wr {g : Nat → Int32} {n : Nat} {a b : List Int32} : wcF (wcF g n a) (n + a.length) b = wcF g n (a ++ b) := by
  funext j
  unfold wcF
  simp only [List.length_append]
  by_cases c1 : n + a.length ≤ j ∧ j < n + a.length + b.length
  · rw [if_pos c1, if_pos (by omega)]
    rw [List.getD_eq_getElem?_getD, List.getD_eq_getElem?_getD, List.getElem?_append_right (by omega)]
    rw [show j - n - a.length = j - (n + a.length) by omega]
  · rw [if_neg c1]
    by_cases c2 : n ≤ j ∧ j < n + a.length
    · rw [if_pos c2, if_pos (by omega)]
      rw [List.getD_eq_getElem?_getD, List.getD_eq_getElem?_getD, List.getElem?_append_left (by omega)]
    · rw [if_neg c2, if_neg (by omega)]
theorem wr_one {g : Nat → Int32} {n : Nat} {v : Int32} : (fun j => if j = n then v else g j) = wcF g n [v] := by
  funext j
  unfold wcF
  by_cases c : j = n
  · subst c
    rw [if_pos rfl, if_pos (by simp only [List.length_cons, List.length_nil]; omega), Nat.sub_self]; rfl
  · rw [if_neg c, if_neg (by simp only [List.length_cons, List.length_nil]; omega)]
section RD
variable {σ : aM} {T : tkT} {t n t1 n1 a b c : Nat} {g : Nat → Int32} {k p k1 p1 v : Int32}
theorem rd_10 : gI (rdM σ T t n g k p) 29 0 10 = nI t := rfl
theorem rd_11 : gI (rdM σ T t n g k p) 29 0 11 = (T t).1 := rfl
theorem rd_12 : gI (rdM σ T t n g k p) 29 0 12 = nI (T t).2.1 := rfl
theorem rd_13 : gI (rdM σ T t n g k p) 29 0 13 = nI (T t).2.2 := rfl
theorem rd_5 : gI (rdM σ T t n g k p) 29 0 5 = nI n := rfl
theorem rd_2 : gI (rdM σ T t n g k p) 29 0 2 = k := rfl
theorem rd_3 : gI (rdM σ T t n g k p) 29 0 3 = p := rfl
theorem rd_1 : gI (rdM σ T t n g k p) 29 0 1 = gI σ 29 0 1 := rfl
theorem rd_9 : gI (rdM σ T t n g k p) 29 0 9 = gI σ 29 0 9 := rfl
theorem rd_14 {j : Nat} : gI (rdM σ T t n g k p) 14 0 j = g j := rfl
theorem rd_k (h : a ≠ 29) (h2 : a ≠ 14) : gI (rdM σ T t n g k p) a b c = gI σ a b c := by
  show (if _ then _ else if _ then _ else if _ then _ else if _ then _ else if _ then _ else if _ then _ else if _ then _ else if _ then _ else _) = _
  rw [if_neg (fun q => h q.1), if_neg (fun q => h q.1), if_neg (fun q => h q.1), if_neg (fun q => h q.1), if_neg (fun q => h q.1), if_neg (fun q => h q.1), if_neg (fun q => h q.1), if_neg (fun q => h2 q.1)]
  rfl
theorem rd_R : gR (rdM σ T t n g k p) a b c = gR σ a b c := rfl
theorem rd_L : gL (rdM σ T t n g k p) a b c = gL σ a b c := rfl
theorem rd_N : gN (rdM σ T t n g k p) a b = gN σ a b := rfl
theorem rd_C : gC (rdM σ T t n g k p) a = gC σ a := rfl
theorem rd_B : gB (rdM σ T t n g k p) = gB σ := rfl
theorem rdM_nx : sI (sI (sI (sI (rdM σ T t n g k p) 29 0 10 (nI t1)) 29 0 11 (T t1).1) 29 0 12 (nI (T t1).2.1)) 29 0 13 (nI (T t1).2.2) = rdM σ T t1 n g k p := by
  unfold rdM sI sIr am_u3
  refine Prod.ext ?_ rfl
  funext a b c
  dsimp only
  by_cases ha : a = 29
  · subst ha
    by_cases hb : b = 0
    · subst hb
      by_cases c0 : c = 10
      · subst c0; simp
      by_cases c1 : c = 11
      · subst c1; simp
      by_cases c2 : c = 12
      · subst c2; simp
      by_cases c3 : c = 13
      · subst c3; simp
      simp [c0, c1, c2, c3]
    · simp [hb]
  · simp [ha]
theorem rdM_fl : sI (sI (rdM σ T t n g k p) 29 0 2 k1) 29 0 3 p1 = rdM σ T t n g k1 p1 := by
  unfold rdM sI sIr am_u3
  refine Prod.ext ?_ rfl
  funext a b c
  dsimp only
  by_cases ha : a = 29
  · subst ha
    by_cases hb : b = 0
    · subst hb
      by_cases c0 : c = 2
      · subst c0; simp
      by_cases c1 : c = 3
      · subst c1; simp
      simp [c0, c1]
    · simp [hb]
  · simp [ha]
theorem rdM_em : sI (sI (rdM σ T t n g k p) 14 0 n v) 29 0 5 (nI (n + 1)) = rdM σ T t (n + 1) (wcF g n [v]) k p := by
  rw [← wr_one]
  unfold rdM sI sIr am_u3
  refine Prod.ext ?_ rfl
  funext a b c
  dsimp only
  by_cases ha : a = 29
  · subst ha
    by_cases hb : b = 0
    · subst hb
      by_cases c0 : c = 5
      · subst c0; simp
      simp [c0]
    · simp [hb]
  · by_cases h2 : a = 14
    · subst h2
      by_cases hb : b = 0
      · subst hb
        by_cases c0 : c = n
        · subst c0; simp
        simp [c0]
      · simp [hb]
    · simp [ha, h2]
theorem Sh_rd (S : Sh σ) : Sh (rdM σ T t n g k p) := S
end RD
/-- what a part of the reader leaves -/
def cPost (σ : aM) (T : tkT) (n : Nat) (g : Nat → Int32) (x : pR) (Q : aR → aM → Prop) : Prop := match x with
  | .inl (k, p) => ∀ t1 n1 g1, n1 ≤ 300 → Q (some (some (vi 0))) (rdM σ T t1 n1 g1 k (nI p))
  | .inr (t1, c, _) => Q (some (some (vi 1))) (rdM σ T t1 (n + c.length) (wcF g n c) 0 (-1))
theorem cPost_r {σ : aM} {T : tkT} {n t1 : Nat} {g : Nat → Int32} {c : List Int32} {r : cdT} {Q : aR → aM → Prop} (h : Q (some (some (vi 1))) (rdM σ T t1 (n + c.length) (wcF g n c) 0 (-1))) : cPost σ T n g (.inr (t1, c, r)) Q := h
def cOK (σ : aM) (T : tkT) (dd m : Nat) (E : aL) (f : Nat → pR) : Prop := ∀ D Q t n g, dd ≤ D → n ≤ t → t ≤ 300 → cPost σ T n g (f t) Q → WP D m 0 E [] (rdM σ T t n g 0 (-1)) Q
/-- the TOKENS as the class has them -/
def tkC (σ : aM) (T : tkT) : Prop := ∃ N L, N ≤ 301 ∧ L ≤ 300 ∧ gI σ 29 0 9 = nI N ∧ gI σ 29 0 1 = nI L ∧ (∀ t, t < N → gI σ 15 0 t = (T t).1 ∧ gI σ 16 0 t = nI (T t).2.1 ∧ gI σ 17 0 t = nI (T t).2.2) ∧ (∀ t, N ≤ t → T t = (256, L, L)) ∧ ∀ t, (T t).2.1 ≤ (T t).2.2 ∧ (T t).2.2 ≤ L
/-- digits as a number -/
def vaF (B : Nat → Int32) : Nat → Nat → Int32 → Int32
  | _, 0, x => x
  | s, k + 1, x => vaF B (s + 1) k (10 * x + B s - 48)
def vaC (σ : aM) (T : tkT) (V : Nat → Int32) : Prop := ∀ t, (T t).1 = 257 → (T t).2.2 - (T t).2.1 ≤ 4 → V t = vaF (gI σ 13 0) (T t).2.1 ((T t).2.2 - (T t).2.1) 0
section RDC
variable {d : Nat} {σ : aM} {T : tkT} {t n D : Nat} {g : Nat → Int32} {k p : Int32} {Q : aR → aM → Prop}
theorem C50d (S : Sh σ) (E : tkC σ T) (ht : t ≤ 300) : WP d 50 0 [some (vr (some (29, 0))), none] [] (rdM σ T t n g k p) Q ↔ Q (some none) (rdM σ T (t + 1) n g k p) := by
  obtain ⟨N, L, hN, hL, e1, e2, e3, e4, e5⟩ := E
  have ha : gI (rdM σ T t n g k p) 29 0 10 + 1 = nI (t + 1) := by rw [rd_10, nI_1]
  by_cases c : t + 1 < N
  · rw [C50 (Sh_rd S) ha (n := N) (by rw [rd_9, e1]) c hN]
    obtain ⟨a1, a2, a3⟩ := e3 (t + 1) c
    rw [rd_k (by decide) (by decide), rd_k (by decide) (by decide), rd_k (by decide) (by decide), a1, a2, a3, rdM_nx]
  · rw [C50e (Sh_rd S) ha (n := N) (by rw [rd_9, e1]) (by omega) (by omega), rd_1, e2]
    have e := e4 (t + 1) (by omega)
    have e8 := rdM_nx (σ := σ) (T := T) (t := t) (n := n) (g := g) (k := k) (p := p) (t1 := t + 1)
    rw [e] at e8
    rw [e8]
theorem C51d {w : Int32} (S : Sh σ) : WP d 51 0 [some (vr (some (29, 0))), some (vi w)] [] (rdM σ T t n g k p) Q ↔ Q (some (some (vi (bI ((T t).1 = 259 + w))))) (rdM σ T t n g k p) := by
  rw [C51 (Sh_rd S)]
  exact Iff.rfl
theorem C52d {w : Int32} (S : Sh σ) : WP d 52 0 [some (vr (some (29, 0))), some (vi w)] [] (rdM σ T t n g k p) Q ↔ Q (some (some (vi 0))) (rdM σ T t n g w (nI (T t).2.1)) := by
  rw [C52 (Sh_rd S), rd_12, rdM_fl]
theorem C53d {w : Int32} (S : Sh σ) (E : tkC σ T) (ht : t ≤ 300) (hq : if (T t).1 = w then Q (some (some (vi 1))) (rdM σ T (t + 1) n g k p) else Q (some (some (vi 0))) (rdM σ T t n g 1 (nI (T t).2.1))) : WP (d + 1) 53 0 [some (vr (some (29, 0))), some (vi w)] [] (rdM σ T t n g k p) Q := by
  by_cases c : (T t).1 = w
  · rw [if_pos c] at hq
    simp only [S53_0, S53_1, S53_4, S53_5, S53_8, S53_9, S53_10, S53_13, S53_14, S53_15, S53_18, S53_19, gL_sI, gR_sI, gN_sI, gC_sI, gB_sI, gI_sL, gR_sL, gN_sL, gC_sL, gB_sL, gI_sR, gL_sR, gN_sR, gC_sR, gB_sR, gL_sIr, gR_sIr, gN_sIr, gC_sIr, gB_sIr, gI_sLr, gR_sLr, gN_sLr, gC_sLr, gB_sLr, gI_sRr, gL_sRr, gN_sRr, gC_sRr, gB_sRr, gI_sN, gL_sN, gR_sN, gC_sN, gB_sN, gI_sC, gL_sC, gR_sC, gN_sC, gB_sC, gI_sB, gL_sB, gR_sB, gN_sB, gC_sB, gB_sB, gB_am_mk, gI_am_ml, gL_am_ml, gR_am_ml, gB_am_ml, gI_am_add, gL_am_add, gC_am_add, gB_am_add, gI_am_ins, gL_am_ins, gC_am_ins, gB_am_ins, gI_am_rem, gL_am_rem, gC_am_rem, gB_am_rem, gI_am_thr, gL_am_thr, gR_am_thr, gN_am_thr, gB_am_thr, mI_sI_k, mI_sI_j, mI_sI_b, mI_sI_s, mI_sI_i, mI_sI_c, mL_sL_k, mL_sL_j, mL_sL_b, mL_sL_s, mL_sL_i, mL_sL_c, mR_sR_k, mR_sR_j, mR_sR_b, mR_sR_s, mR_sR_i, mR_sR_c, mI_sIr_k, mI_sIr_s, mI_sIr_i, mL_sLr_k, mL_sLr_s, mL_sLr_i, mR_sRr_k, mR_sRr_s, mR_sRr_i, mN_sN_k, mN_sN_i, mN_am_add_k, mN_am_add_s, mR_am_add_k, mN_am_ins_k, mN_am_ins_s, mR_am_ins_k, mN_am_rem_k, mN_am_rem_s, mR_am_rem_k, mR_am_add_s, mR_am_ins_s, mR_am_rem_s, mI_am_mk_k, mI_am_mk_s, mI_am_mk_i, mL_am_mk_k, mL_am_mk_s, mL_am_mk_i, mR_am_mk_k, mR_am_mk_s, mR_am_mk_i, mN_am_mk_k, mN_am_mk_i, mC_am_mk_k, mC_am_mk_s, mN_am_ml_k, mN_am_ml_i, mC_am_ml_k, mC_am_ml_s, mC_sC_k, mC_am_thr_k, sC_3 S, sC_4 S, sC_29 S, k0, k1, k2, k3, k4, k5, k6, k7, k8, k9, k10, k11, k12, k13, k14, k15, k16, k17, k18, k19, k20, k21, k22, k23, k24, k25, k26, k27, k28, k29, k30, k31, k32, k33, k34, k35, k36, k37, k38, k39, k40, k41, k42, k43, k44, k45, k46, k47, k48, k49, k50, k51, k52, k53, k54, k55, k56, k57, k58, k59, k60, k61, k62, k63, k64, k65, k66, k67, k68, k69, k70, k71, k72, k73, k74, k75, k76, k77, k78, k79, k80, k81, k82, k83, k84, k85, k86, k87, k88, k89, k90, k91, k92, k93, k94, k95, k96, k97, k98, k99, k100, rd_11, rd_R, rd_C, c, C50d S E ht, true_and, and_true, and_self, if_true, if_false, ite_true, ite_false, Nat.lt_irrefl, List.length_nil, List.length_cons, Nat.reduceAdd, Nat.reduceLeDiff, Nat.reduceLT, Nat.reduceEqDiff, Nat.zero_lt_one, not_true, not_false_iff, bI_0, bI_1, ne_eq, reduceCtorEq, false_and, and_false, or_true, true_or, or_false, false_or, Nat.lt_one_iff, eq_self, Nat.zero_le, am_ko_v, am_ko_0, am_kil, Nat.reduceBEq, Int32.reduceLT, Int32.reduceLE, Int32.reduceAdd, Int32.reduceSub, i32_10, i32_01, not_true_eq_false, not_false_eq_true, Classical.not_not, nor_self, Nat.lt_add_one, nI_1, nI_pred, rf_n, i32_m0, i32_m1, reduceIte]
    exact hq
  · rw [if_neg c] at hq
    simp only [S53_0, S53_1, S53_4, S53_5, S53_8, S53_9, S53_10, S53_13, S53_14, S53_15, S53_18, S53_19, gL_sI, gR_sI, gN_sI, gC_sI, gB_sI, gI_sL, gR_sL, gN_sL, gC_sL, gB_sL, gI_sR, gL_sR, gN_sR, gC_sR, gB_sR, gL_sIr, gR_sIr, gN_sIr, gC_sIr, gB_sIr, gI_sLr, gR_sLr, gN_sLr, gC_sLr, gB_sLr, gI_sRr, gL_sRr, gN_sRr, gC_sRr, gB_sRr, gI_sN, gL_sN, gR_sN, gC_sN, gB_sN, gI_sC, gL_sC, gR_sC, gN_sC, gB_sC, gI_sB, gL_sB, gR_sB, gN_sB, gC_sB, gB_sB, gB_am_mk, gI_am_ml, gL_am_ml, gR_am_ml, gB_am_ml, gI_am_add, gL_am_add, gC_am_add, gB_am_add, gI_am_ins, gL_am_ins, gC_am_ins, gB_am_ins, gI_am_rem, gL_am_rem, gC_am_rem, gB_am_rem, gI_am_thr, gL_am_thr, gR_am_thr, gN_am_thr, gB_am_thr, mI_sI_k, mI_sI_j, mI_sI_b, mI_sI_s, mI_sI_i, mI_sI_c, mL_sL_k, mL_sL_j, mL_sL_b, mL_sL_s, mL_sL_i, mL_sL_c, mR_sR_k, mR_sR_j, mR_sR_b, mR_sR_s, mR_sR_i, mR_sR_c, mI_sIr_k, mI_sIr_s, mI_sIr_i, mL_sLr_k, mL_sLr_s, mL_sLr_i, mR_sRr_k, mR_sRr_s, mR_sRr_i, mN_sN_k, mN_sN_i, mN_am_add_k, mN_am_add_s, mR_am_add_k, mN_am_ins_k, mN_am_ins_s, mR_am_ins_k, mN_am_rem_k, mN_am_rem_s, mR_am_rem_k, mR_am_add_s, mR_am_ins_s, mR_am_rem_s, mI_am_mk_k, mI_am_mk_s, mI_am_mk_i, mL_am_mk_k, mL_am_mk_s, mL_am_mk_i, mR_am_mk_k, mR_am_mk_s, mR_am_mk_i, mN_am_mk_k, mN_am_mk_i, mC_am_mk_k, mC_am_mk_s, mN_am_ml_k, mN_am_ml_i, mC_am_ml_k, mC_am_ml_s, mC_sC_k, mC_am_thr_k, sC_3 S, sC_4 S, sC_29 S, k0, k1, k2, k3, k4, k5, k6, k7, k8, k9, k10, k11, k12, k13, k14, k15, k16, k17, k18, k19, k20, k21, k22, k23, k24, k25, k26, k27, k28, k29, k30, k31, k32, k33, k34, k35, k36, k37, k38, k39, k40, k41, k42, k43, k44, k45, k46, k47, k48, k49, k50, k51, k52, k53, k54, k55, k56, k57, k58, k59, k60, k61, k62, k63, k64, k65, k66, k67, k68, k69, k70, k71, k72, k73, k74, k75, k76, k77, k78, k79, k80, k81, k82, k83, k84, k85, k86, k87, k88, k89, k90, k91, k92, k93, k94, k95, k96, k97, k98, k99, k100, rd_11, rd_R, rd_C, c, C52d S, true_and, and_true, and_self, if_true, if_false, ite_true, ite_false, Nat.lt_irrefl, List.length_nil, List.length_cons, Nat.reduceAdd, Nat.reduceLeDiff, Nat.reduceLT, Nat.reduceEqDiff, Nat.zero_lt_one, not_true, not_false_iff, bI_0, bI_1, ne_eq, reduceCtorEq, false_and, and_false, or_true, true_or, or_false, false_or, Nat.lt_one_iff, eq_self, Nat.zero_le, am_ko_v, am_ko_0, am_kil, Nat.reduceBEq, Int32.reduceLT, Int32.reduceLE, Int32.reduceAdd, Int32.reduceSub, i32_10, i32_01, not_true_eq_false, not_false_eq_true, Classical.not_not, nor_self, Nat.lt_add_one, nI_1, nI_pred, rf_n, i32_m0, i32_m1, reduceIte]
    exact hq
theorem C54d {v : Int32} (S : Sh σ) (h : n < 300) : WP (d + 1) 54 0 [some (vr (some (29, 0))), some (vi v)] [] (rdM σ T t n g k p) Q ↔ Q (some none) (rdM σ T t (n + 1) (wcF g n [v]) k p) := by
  rw [C54 (Sh_rd S) (L := n) rd_5 h, rdM_em]
theorem C54x {v : Int32} (S : Sh σ) (h : n ≤ 300) (hq : ∀ n1 g1, n1 ≤ 300 → Q (some none) (rdM σ T t n1 g1 k p)) : WP (d + 1) 54 0 [some (vr (some (29, 0))), some (vi v)] [] (rdM σ T t n g k p) Q := by
  by_cases c : n < 300
  · rw [C54d S c]
    exact hq _ _ (by omega)
  · have e : n = 300 := by omega
    subst e
    have b0 : ¬ nI 300 < 0 := by decide
    have b1 : ¬ nI 300 < nI 300 := by decide
    simp only [S54_0, S54_1, S54_4, S54_7, S54_8, S54_11, S54_12, S54_15, S54_16, S54_19, S54_20, S54_23, S54_24, S54_27, S54_28, S54_29, S54_30, S54_30q, S54_31, S54_34, S54_35, S54_36, S54_39, gL_sI, gR_sI, gN_sI, gC_sI, gB_sI, gI_sL, gR_sL, gN_sL, gC_sL, gB_sL, gI_sR, gL_sR, gN_sR, gC_sR, gB_sR, gL_sIr, gR_sIr, gN_sIr, gC_sIr, gB_sIr, gI_sLr, gR_sLr, gN_sLr, gC_sLr, gB_sLr, gI_sRr, gL_sRr, gN_sRr, gC_sRr, gB_sRr, gI_sN, gL_sN, gR_sN, gC_sN, gB_sN, gI_sC, gL_sC, gR_sC, gN_sC, gB_sC, gI_sB, gL_sB, gR_sB, gN_sB, gC_sB, gB_sB, gB_am_mk, gI_am_ml, gL_am_ml, gR_am_ml, gB_am_ml, gI_am_add, gL_am_add, gC_am_add, gB_am_add, gI_am_ins, gL_am_ins, gC_am_ins, gB_am_ins, gI_am_rem, gL_am_rem, gC_am_rem, gB_am_rem, gI_am_thr, gL_am_thr, gR_am_thr, gN_am_thr, gB_am_thr, mI_sI_k, mI_sI_j, mI_sI_b, mI_sI_s, mI_sI_i, mI_sI_c, mL_sL_k, mL_sL_j, mL_sL_b, mL_sL_s, mL_sL_i, mL_sL_c, mR_sR_k, mR_sR_j, mR_sR_b, mR_sR_s, mR_sR_i, mR_sR_c, mI_sIr_k, mI_sIr_s, mI_sIr_i, mL_sLr_k, mL_sLr_s, mL_sLr_i, mR_sRr_k, mR_sRr_s, mR_sRr_i, mN_sN_k, mN_sN_i, mN_am_add_k, mN_am_add_s, mR_am_add_k, mN_am_ins_k, mN_am_ins_s, mR_am_ins_k, mN_am_rem_k, mN_am_rem_s, mR_am_rem_k, mR_am_add_s, mR_am_ins_s, mR_am_rem_s, mI_am_mk_k, mI_am_mk_s, mI_am_mk_i, mL_am_mk_k, mL_am_mk_s, mL_am_mk_i, mR_am_mk_k, mR_am_mk_s, mR_am_mk_i, mN_am_mk_k, mN_am_mk_i, mC_am_mk_k, mC_am_mk_s, mN_am_ml_k, mN_am_ml_i, mC_am_ml_k, mC_am_ml_s, mC_sC_k, mC_am_thr_k, sC_3 S, sC_4 S, sC_29 S, sR_29_4 S, sC_14 S, sN_14 S, k0, k1, k2, k3, k4, k5, k6, k7, k8, k9, k10, k11, k12, k13, k14, k15, k16, k17, k18, k19, k20, k21, k22, k23, k24, k25, k26, k27, k28, k29, k30, k31, k32, k33, k34, k35, k36, k37, k38, k39, k40, k41, k42, k43, k44, k45, k46, k47, k48, k49, k50, k51, k52, k53, k54, k55, k56, k57, k58, k59, k60, k61, k62, k63, k64, k65, k66, k67, k68, k69, k70, k71, k72, k73, k74, k75, k76, k77, k78, k79, k80, k81, k82, k83, k84, k85, k86, k87, k88, k89, k90, k91, k92, k93, k94, k95, k96, k97, k98, k99, k100, rd_5, rd_R, rd_N, rd_C, b0, b1, true_and, and_true, and_self, if_true, if_false, ite_true, ite_false, Nat.lt_irrefl, List.length_nil, List.length_cons, Nat.reduceAdd, Nat.reduceLeDiff, Nat.reduceLT, Nat.reduceEqDiff, Nat.zero_lt_one, not_true, not_false_iff, bI_0, bI_1, ne_eq, reduceCtorEq, false_and, and_false, or_true, true_or, or_false, false_or, Nat.lt_one_iff, eq_self, Nat.zero_le, am_ko_v, am_ko_0, am_kil, Nat.reduceBEq, Int32.reduceLT, Int32.reduceLE, Int32.reduceAdd, Int32.reduceSub, i32_10, i32_01, not_true_eq_false, not_false_eq_true, Classical.not_not, nor_self, Nat.lt_add_one, nI_1, nI_pred, rf_n, i32_m0, i32_m1, reduceIte]
    exact hq _ _ (by omega)
theorem cPost_b {x : Int32} {c1 : List Int32} {y : pR} {R : List Int32 → cdT → cdT} (h : cPost σ T n g (pB y fun t2 c2 r2 => .inr (t2, c1 ++ x :: c2, R c2 r2)) Q) : cPost σ T (n + c1.length + 1) (wcF (wcF g n c1) (n + c1.length) [x]) y Q := by
  rcases y with ⟨k, p⟩ | ⟨t2, c2, r2⟩
  · exact h
  · have h : Q (some (some (vi 1))) (rdM σ T t2 (n + (c1 ++ x :: c2).length) (wcF g n (c1 ++ x :: c2)) 0 (-1)) := h
    show Q (some (some (vi 1))) (rdM σ T t2 (n + c1.length + 1 + c2.length) (wcF (wcF (wcF g n c1) (n + c1.length) [x]) (n + c1.length + 1) c2) 0 (-1))
    rw [wr_wr, show n + c1.length + 1 = n + (c1 ++ [x]).length by simp only [List.length_append, List.length_cons, List.length_nil]; omega, wr_wr]
    rw [show c1 ++ [x] ++ c2 = c1 ++ x :: c2 by simp only [List.append_assoc, List.cons_append, List.nil_append]]
    rw [show n + (c1 ++ [x]).length + c2.length = n + (c1 ++ x :: c2).length by simp only [List.length_append, List.length_cons, List.length_nil]; omega]
    exact h
theorem cPost_a {c1 : List Int32} {y : pR} {R : List Int32 → cdT → cdT} (h : cPost σ T n g (pB y fun t2 c2 r2 => .inr (t2, c1 ++ c2, R c2 r2)) Q) : cPost σ T (n + c1.length) (wcF g n c1) y Q := by
  rcases y with ⟨k, p⟩ | ⟨t2, c2, r2⟩
  · exact h
  · have h : Q (some (some (vi 1))) (rdM σ T t2 (n + (c1 ++ c2).length) (wcF g n (c1 ++ c2)) 0 (-1)) := h
    show Q (some (some (vi 1))) (rdM σ T t2 (n + c1.length + c2.length) (wcF (wcF g n c1) (n + c1.length) c2) 0 (-1))
    rw [wr_wr, show n + c1.length + c2.length = n + (c1 ++ c2).length by simp only [List.length_append]; omega]
    exact h
theorem loopP_n {op : Int32 → Option (Int32 × Int32)} {f : Nat → pR} (h : op (T t).1 = none) : loopP T op f (n + 1) t = .inr (t, [], []) := by
  show (match op (T t).1 with
    | none => _
    | some (x, y) => _) = _
  rw [h]
theorem loopP_s {op : Int32 → Option (Int32 × Int32)} {f : Nat → pR} {x y : Int32} (h : op (T t).1 = some (x, y)) : loopP T op f (n + 1) t = pB (f (t + 1)) fun t1 c1 r1 => pB (loopP T op f n t1) fun t2 c2 r2 => .inr (t2, c1 ++ x :: c2, r1 ++ (y, 0) :: r2) := by
  show (match op (T t).1 with
    | none => _
    | some (x, y) => _) = _
  rw [h]
theorem cPost_0 (h : cPost σ T n g (.inr (t, [], [])) Q) : Q (some (some (vi 1))) (rdM σ T t n g 0 (-1)) := by
  have h : Q (some (some (vi 1))) (rdM σ T t (n + 0) (wcF g n []) 0 (-1)) := h
  rw [wr_nil] at h
  exact h
end RDC
