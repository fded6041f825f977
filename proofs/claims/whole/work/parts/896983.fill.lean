/-! faults are told by 1 to 4 -/
def prF (x : pR) : Prop := ∀ k p, x = .inl (k, p) → 0 < k
section PRF
variable {T : tkT} {U : ukT} {V : Nat → Int32}
theorem pB_f {x : pR} {f : Nat → List Int32 → cdT → pR} (h : prF x) (h2 : ∀ t c r, prF (f t c r)) : prF (pB x f) := by
  rcases x with e | ⟨t, c, r⟩
  · exact h
  · exact h2 t c r
theorem inr_f {y : Nat × List Int32 × cdT} : prF (.inr y) := fun k p h => by cases h
theorem inl_f {k : Int32} {p : Nat} (h : 0 < k) : prF (.inl (k, p)) := fun k p e => by cases e; exact h
theorem numP_f {lo hi : Int32} {t : Nat} : prF (numP T V lo hi t) := by
  unfold numP
  by_cases h1 : (T t).1 ≠ 257 ∨ 4 < (T t).2.2 - (T t).2.1
  · rw [if_pos h1]; exact inl_f (by decide)
  · rw [if_neg h1]
    by_cases h2 : lo ≤ V t ∧ V t ≤ hi
    · rw [if_pos h2]; exact inr_f
    · rw [if_neg h2]; exact inl_f (by decide)
theorem loopP_f {op : Int32 → Option (Int32 × Int32)} {f : Nat → pR} (hf : ∀ t, prF (f t)) : ∀ n t, prF (loopP T op f n t)
  | 0, t => inr_f
  | n + 1, t => by
    unfold loopP
    cases ho : op (T t).1 with
    | none => exact inr_f
    | some q => exact pB_f (hf _) (fun t1 c r => pB_f (loopP_f hf n t1) (fun _ _ _ => inr_f))
theorem chnP_f {op : Int32 → Option (Int32 × Int32)} {f : Nat → pR} (hf : ∀ t, prF (f t)) (t : Nat) : prF (chnP T op f t) := pB_f (hf t) (fun t1 c r => pB_f (loopP_f hf _ t1) (fun _ _ _ => inr_f))
theorem brP_f {sub : Option (Nat → pR)} {s : Int32} (hf : ∀ f, sub = some f → ∀ t, prF (f t)) (t : Nat) : prF (brP T sub s t) := by
  unfold brP
  cases sub with
  | none => exact inl_f (by decide)
  | some f =>
    refine pB_f (hf f rfl (t + 1)) (fun t1 c r => ?_)
    by_cases h2 : (T t1).1 = s
    · rw [if_pos h2]; exact inr_f
    · rw [if_neg h2]; exact inl_f (by decide)
theorem facP_f {sub : Option (Nat → pR)} (hf : ∀ f, sub = some f → ∀ t, prF (f t)) (t : Nat) : prF (facP T V sub t) := by
  unfold facP
  by_cases h1 : 258 ≤ (T t).1
  · rw [if_pos h1]
    by_cases h2 : (T t).1 < 271
    · rw [if_pos h2]; exact inl_f (by decide)
    · rw [if_neg h2]; exact inr_f
  · rw [if_neg h1]
    by_cases h3 : (T t).1 = 40
    · rw [if_pos h3]; exact brP_f hf t
    · rw [if_neg h3]; exact numP_f
theorem sumW_f {sub : Option (Nat → pR)} (hf : ∀ f, sub = some f → ∀ t, prF (f t)) (t : Nat) : prF (sumW T V sub t) := chnP_f (chnP_f (facP_f hf)) t
theorem sumP_f : ∀ k t, prF (sumP T V k t)
  | 0, t => sumW_f (fun f h => by cases h) t
  | k + 1, t => sumW_f (fun f h => by cases h; exact sumP_f k) t
theorem cmpP_f {sm : Nat → pR} (hf : ∀ t, prF (sm t)) (t : Nat) : prF (cmpP T sm t) := by
  refine pB_f (hf t) (fun t1 c r => ?_)
  cases ho : relO (T t1).1 with
  | none => exact inl_f (by decide)
  | some q => exact pB_f (hf _) (fun _ _ _ => inr_f)
theorem parP_f {sub : Option (Nat → pR)} {sm : Nat → pR} (hf : ∀ f, sub = some f → ∀ t, prF (f t)) (hs : ∀ t, prF (sm t)) (t : Nat) : prF (parP T sub sm t) := by
  refine pB_f ?_ (fun _ _ _ => inr_f)
  by_cases c : (T (t + ntF T 300 t)).1 = 91
  · rw [if_pos c]; exact brP_f hf _
  · rw [if_neg c]; exact cmpP_f hs _
theorem cndP_f : ∀ k t, prF (cndP T V k t)
  | 0, t => chnP_f (chnP_f (parP_f (fun f h => by cases h) (sumP_f 0))) t
  | k + 1, t => chnP_f (chnP_f (parP_f (fun f h => by cases h; exact cndP_f k) (sumP_f (k + 1)))) t
def srFt (x : sP) : Prop := ∀ k p, x = .inl (k, p) → 0 < k
theorem semP_f {t : Nat} {r : rcT} : srFt (semP T t r) := by
  intro k p h
  unfold semP at h
  by_cases c : (T t).1 = 59
  · rw [if_pos c] at h; cases h
  · rw [if_neg c] at h; cases h; decide
theorem restP_f {k t : Nat} {le : Int64} : srFt (restP T U k le t) := by
  intro kk p h
  unfold restP at h
  have hv : prF (valP T U k t) := by
    unfold valP
    by_cases c1 : k = 1
    · rw [if_pos c1]; exact numP_f
    rw [if_neg c1]
    by_cases c1 : k = 2
    · rw [if_pos c1]; exact numP_f
    rw [if_neg c1]
    by_cases c1 : k = 6
    · rw [if_pos c1]; exact numP_f
    rw [if_neg c1]
    by_cases c1 : k = 3
    · rw [if_pos c1]; exact inr_f
    rw [if_neg c1]; exact sumP_f 4 t
  cases hx : valP T U k t with
  | inl e =>
    rw [hx] at h
    cases h
    exact hv _ _ hx
  | inr e =>
    obtain ⟨t1, c1, r1⟩ := e
    rw [hx] at h
    have h : endP T U k le (nmF U k t) c1 (rvP k r1) t1 = .inl (kk, p) := h
    unfold endP at h
    by_cases c : (T t1).1 = 267
    · rw [if_pos c] at h
      cases hy : cndP T (fun t => (U t).1) 4 (t1 + 1) with
      | inl e =>
        rw [hy] at h
        cases h
        exact cndP_f 4 _ _ _ hy
      | inr e =>
        obtain ⟨t2, c2, r2⟩ := e
        rw [hy] at h
        exact semP_f _ _ h
    · rw [if_neg c] at h
      exact semP_f _ _ h
theorem stmP_f {i t : Nat} : srFt (stmP T U i t) := by
  intro kk p h
  unfold stmP at h
  by_cases c1 : ¬ (259 ≤ (T t).1 ∧ (T t).1 ≤ 266)
  · rw [if_pos c1] at h; cases h; decide
  rw [if_neg c1] at h
  by_cases c1 : 10 ≤ i
  · rw [if_pos c1] at h; cases h; decide
  rw [if_neg c1] at h
  by_cases c1 : (T t).1 = 266
  · rw [if_pos c1] at h
    by_cases c2 : 259 ≤ (T (t + 1)).1 ∧ (T (t + 1)).1 ≤ 265
    · rw [if_pos c2] at h; exact semP_f _ _ h
    · rw [if_neg c2] at h; cases h; decide
  rw [if_neg c1] at h
  by_cases c1 : (T t).1 = 265
  · rw [if_pos c1] at h
    by_cases c2 : (T (t + 1)).1 < 258 ∨ 8 < (T (t + 1)).2.2 - (T (t + 1)).2.1
    · rw [if_pos c2] at h; cases h; decide
    · rw [if_neg c2] at h; exact restP_f _ _ h
  · rw [if_neg c1] at h; exact restP_f _ _ h
theorem txtP_f : ∀ m i t k p, txtP T U m i t = .inl (k, p) → 0 < k
  | 0, i, t, k, p, h => by cases h
  | m + 1, i, t, k, p, h => by
    unfold txtP at h
    by_cases c : (T t).1 = 256
    · rw [if_pos c] at h; cases h
    · rw [if_neg c] at h
      cases hx : stmP T U i t with
      | inl e =>
        rw [hx] at h
        cases h
        exact stmP_f _ _ hx
      | inr e =>
        obtain ⟨t1, r⟩ := e
        rw [hx] at h
        dsimp only at h
        cases hy : txtP T U m (i + 1) t1 with
        | inl e =>
          rw [hy] at h
          cases h
          exact txtP_f m _ _ _ _ hy
        | inr l => rw [hy] at h; cases h
/-- all that is said of the STATEMENTS of a TEXT -/
theorem txtP_ok (k4 : tkOK T (fun t => (U t).1)) : ∀ m i t l, i ≤ 10 → txtP T U m i t = .inr l → i + l.length ≤ 10 ∧ ∀ r ∈ l, ∃ t t1, rcOK t t1 r
  | 0, i, t, l, hi, h => by
    cases h
    exact ⟨hi, fun r hr => by cases hr⟩
  | m + 1, i, t, l, hi, h => by
    unfold txtP at h
    by_cases c : (T t).1 = 256
    · rw [if_pos c] at h
      cases h
      exact ⟨hi, fun r hr => by cases hr⟩
    · rw [if_neg c] at h
      cases hx : stmP T U i t with
      | inl e => rw [hx] at h; cases h
      | inr e =>
        obtain ⟨t1, r⟩ := e
        rw [hx] at h
        dsimp only at h
        cases hy : txtP T U m (i + 1) t1 with
        | inl e => rw [hy] at h; cases h
        | inr l1 =>
          rw [hy] at h
          cases h
          obtain ⟨s1, s2⟩ := stmP_ok k4 hx
          obtain ⟨a1, a2⟩ := txtP_ok k4 m (i + 1) t1 l1 (by omega) hy
          refine ⟨by simp only [List.length_cons]; omega, fun r1 hr => ?_⟩
          rcases List.mem_cons.mp hr with e | e
          · exact ⟨t, t1, by rw [e]; exact s1⟩
          · exact a2 r1 e
end PRF
section FIL
variable {σ : aM} {T : tkT} {U : ukT}
/-- the loop over STATEMENTS -/
theorem L43 {tt D : Nat} {Q : aR → aM → Prop} (E : rdE σ T U) (hD : 35 ≤ D) (htt : tt < gC σ 36) (ht12 : tt < gC σ 12) (hR : gR σ 36 tt 3 = some (12, tt)) (room : (gB σ).1 + 24 ≤ 601024 ∧ (gB σ).2 + 480 ≤ 7293034) : ∀ m (R : List rcT) σ1 t n (g : Nat → Int32), R.length ≤ 10 → R.length + m = 11 → clT σ σ1 tt g n R → n ≤ t → t ≤ 300 → (match txtP T U m R.length t with
  | .inl (k, p) => ∀ σ2 t1 n1 g1 a2, frC σ σ2 tt → (gB σ2).1 ≤ (gB σ).1 + 24 → (gB σ2).2 ≤ (gB σ).2 + 480 → WP D 43 66 [some (vr (some (29, 0))), some (vr (some (36, tt))), a2] [] (rdM σ2 T t1 n1 g1 k (nI p)) Q
  | .inr l => ∀ σ2 t1 n1 g1 a2, n1 ≤ 300 → clT σ σ2 tt g1 n1 (R ++ l) → WP D 43 66 [some (vr (some (29, 0))), some (vr (some (36, tt))), a2] [] (rdM σ2 T t1 n1 g1 0 (-1)) Q) → WP D 43 30 [some (vr (some (29, 0))), some (vr (some (36, tt))), some (vi (nI R.length))] [] (rdM σ1 T t n g 0 (-1)) Q := by
  obtain ⟨D, rfl⟩ : ∃ D1, D = D1 + 1 := ⟨D - 1, by omega⟩
  intro m
  induction m with
  | zero => intro R σ1 t n g h10 h11; omega
  | succ m ih =>
    intro R σ1 t n g h10 h11 H hn ht h
    have E1 := frC_E E H.1
    have S := E1.1
    have c1 : ¬ 10 < nI R.length := nI_nlt (a := 10) (by omega) (by omega)
    unfold txtP at h
    rw [S43_30]
    by_cases c : (T t).1 = 256
    · rw [if_pos c] at h
      have h : ∀ σ2 t1 n1 g1 a2, n1 ≤ 300 → clT σ σ2 tt g1 n1 (R ++ []) → WP (D + 1) 43 66 [some (vr (some (29, 0))), some (vr (some (36, tt))), a2] [] (rdM σ2 T t1 n1 g1 0 (-1)) Q := h
      rw [List.append_nil] at h
      simp only [S43_31, S43_33, S43_36, S43_37, S43_40, S43_43, S43_44, S43_47, S43_50, S43_53, S43_54, S43_55, S43_56, S43_59, S43_59q, S43_60, S43_63, gL_sI, gR_sI, gN_sI, gC_sI, gB_sI, gI_sL, gR_sL, gN_sL, gC_sL, gB_sL, gI_sR, gL_sR, gN_sR, gC_sR, gB_sR, gL_sIr, gR_sIr, gN_sIr, gC_sIr, gB_sIr, gI_sLr, gR_sLr, gN_sLr, gC_sLr, gB_sLr, gI_sRr, gL_sRr, gN_sRr, gC_sRr, gB_sRr, gI_sN, gL_sN, gR_sN, gC_sN, gB_sN, gI_sC, gL_sC, gR_sC, gN_sC, gB_sC, gI_sB, gL_sB, gR_sB, gN_sB, gC_sB, gB_sB, gB_am_mk, gI_am_ml, gL_am_ml, gR_am_ml, gB_am_ml, gI_am_add, gL_am_add, gC_am_add, gB_am_add, gI_am_ins, gL_am_ins, gC_am_ins, gB_am_ins, gI_am_rem, gL_am_rem, gC_am_rem, gB_am_rem, gI_am_thr, gL_am_thr, gR_am_thr, gN_am_thr, gB_am_thr, mI_sI_k, mI_sI_j, mI_sI_b, mI_sI_s, mI_sI_i, mI_sI_c, mL_sL_k, mL_sL_j, mL_sL_b, mL_sL_s, mL_sL_i, mL_sL_c, mR_sR_k, mR_sR_j, mR_sR_b, mR_sR_s, mR_sR_i, mR_sR_c, mI_sIr_k, mI_sIr_s, mI_sIr_i, mL_sLr_k, mL_sLr_s, mL_sLr_i, mR_sRr_k, mR_sRr_s, mR_sRr_i, mN_sN_k, mN_sN_i, mN_am_add_k, mN_am_add_s, mR_am_add_k, mN_am_ins_k, mN_am_ins_s, mR_am_ins_k, mN_am_rem_k, mN_am_rem_s, mR_am_rem_k, mR_am_add_s, mR_am_ins_s, mR_am_rem_s, mI_am_mk_k, mI_am_mk_s, mI_am_mk_i, mL_am_mk_k, mL_am_mk_s, mL_am_mk_i, mR_am_mk_k, mR_am_mk_s, mR_am_mk_i, mN_am_mk_k, mN_am_mk_i, mC_am_mk_k, mC_am_mk_s, mN_am_ml_k, mN_am_ml_i, mC_am_ml_k, mC_am_ml_s, mC_sC_k, mC_am_thr_k, sC_3 S, sC_4 S, sC_29 S, sR_29_4 S, sC_14 S, sN_14 S, k0, k1, k2, k3, k4, k5, k6, k7, k8, k9, k10, k11, k12, k13, k14, k15, k16, k17, k18, k19, k20, k21, k22, k23, k24, k25, k26, k27, k28, k29, k30, k31, k32, k33, k34, k35, k36, k37, k38, k39, k40, k41, k42, k43, k44, k45, k46, k47, k48, k49, k50, k51, k52, k53, k54, k55, k56, k57, k58, k59, k60, k61, k62, k63, k64, k65, k66, k67, k68, k69, k70, k71, k72, k73, k74, k75, k76, k77, k78, k79, k80, k81, k82, k83, k84, k85, k86, k87, k88, k89, k90, k91, k92, k93, k94, k95, k96, k97, k98, k99, k100, rd_2, rd_11, rd_R, rd_C, c1, c, true_and, and_true, and_self, if_true, if_false, ite_true, ite_false, Nat.lt_irrefl, List.length_nil, List.length_cons, Nat.reduceAdd, Nat.reduceLeDiff, Nat.reduceLT, Nat.reduceEqDiff, Nat.zero_lt_one, not_true, not_false_iff, bI_0, bI_1, ne_eq, reduceCtorEq, false_and, and_false, or_true, true_or, or_false, false_or, Nat.lt_one_iff, eq_self, Nat.zero_le, am_ko_v, am_ko_0, am_kil, Nat.reduceBEq, Int32.reduceLT, Int32.reduceLE, Int32.reduceAdd, Int32.reduceSub, i32_10, i32_01, not_true_eq_false, not_false_eq_true, Classical.not_not, nor_self, Nat.lt_add_one, nI_1, nI_pred, rf_n, i32_m0, i32_m1, reduceIte]
      exact h _ _ _ _ _ (by omega) H
    · rw [if_neg c] at h
      simp only [S43_31, S43_33, S43_36, S43_37, S43_40, S43_43, S43_44, S43_47, S43_50, S43_53, S43_54, S43_55, S43_56, S43_59, S43_59q, S43_60, S43_63, gL_sI, gR_sI, gN_sI, gC_sI, gB_sI, gI_sL, gR_sL, gN_sL, gC_sL, gB_sL, gI_sR, gL_sR, gN_sR, gC_sR, gB_sR, gL_sIr, gR_sIr, gN_sIr, gC_sIr, gB_sIr, gI_sLr, gR_sLr, gN_sLr, gC_sLr, gB_sLr, gI_sRr, gL_sRr, gN_sRr, gC_sRr, gB_sRr, gI_sN, gL_sN, gR_sN, gC_sN, gB_sN, gI_sC, gL_sC, gR_sC, gN_sC, gB_sC, gI_sB, gL_sB, gR_sB, gN_sB, gC_sB, gB_sB, gB_am_mk, gI_am_ml, gL_am_ml, gR_am_ml, gB_am_ml, gI_am_add, gL_am_add, gC_am_add, gB_am_add, gI_am_ins, gL_am_ins, gC_am_ins, gB_am_ins, gI_am_rem, gL_am_rem, gC_am_rem, gB_am_rem, gI_am_thr, gL_am_thr, gR_am_thr, gN_am_thr, gB_am_thr, mI_sI_k, mI_sI_j, mI_sI_b, mI_sI_s, mI_sI_i, mI_sI_c, mL_sL_k, mL_sL_j, mL_sL_b, mL_sL_s, mL_sL_i, mL_sL_c, mR_sR_k, mR_sR_j, mR_sR_b, mR_sR_s, mR_sR_i, mR_sR_c, mI_sIr_k, mI_sIr_s, mI_sIr_i, mL_sLr_k, mL_sLr_s, mL_sLr_i, mR_sRr_k, mR_sRr_s, mR_sRr_i, mN_sN_k, mN_sN_i, mN_am_add_k, mN_am_add_s, mR_am_add_k, mN_am_ins_k, mN_am_ins_s, mR_am_ins_k, mN_am_rem_k, mN_am_rem_s, mR_am_rem_k, mR_am_add_s, mR_am_ins_s, mR_am_rem_s, mI_am_mk_k, mI_am_mk_s, mI_am_mk_i, mL_am_mk_k, mL_am_mk_s, mL_am_mk_i, mR_am_mk_k, mR_am_mk_s, mR_am_mk_i, mN_am_mk_k, mN_am_mk_i, mC_am_mk_k, mC_am_mk_s, mN_am_ml_k, mN_am_ml_i, mC_am_ml_k, mC_am_ml_s, mC_sC_k, mC_am_thr_k, sC_3 S, sC_4 S, sC_29 S, sR_29_4 S, sC_14 S, sN_14 S, k0, k1, k2, k3, k4, k5, k6, k7, k8, k9, k10, k11, k12, k13, k14, k15, k16, k17, k18, k19, k20, k21, k22, k23, k24, k25, k26, k27, k28, k29, k30, k31, k32, k33, k34, k35, k36, k37, k38, k39, k40, k41, k42, k43, k44, k45, k46, k47, k48, k49, k50, k51, k52, k53, k54, k55, k56, k57, k58, k59, k60, k61, k62, k63, k64, k65, k66, k67, k68, k69, k70, k71, k72, k73, k74, k75, k76, k77, k78, k79, k80, k81, k82, k83, k84, k85, k86, k87, k88, k89, k90, k91, k92, k93, k94, k95, k96, k97, k98, k99, k100, rd_2, rd_11, rd_R, rd_C, c1, c, true_and, and_true, and_self, if_true, if_false, ite_true, ite_false, Nat.lt_irrefl, List.length_nil, List.length_cons, Nat.reduceAdd, Nat.reduceLeDiff, Nat.reduceLT, Nat.reduceEqDiff, Nat.zero_lt_one, not_true, not_false_iff, bI_0, bI_1, ne_eq, reduceCtorEq, false_and, and_false, or_true, true_or, or_false, false_or, Nat.lt_one_iff, eq_self, Nat.zero_le, am_ko_v, am_ko_0, am_kil, Nat.reduceBEq, Int32.reduceLT, Int32.reduceLE, Int32.reduceAdd, Int32.reduceSub, i32_10, i32_01, not_true_eq_false, not_false_eq_true, Classical.not_not, nor_self, Nat.lt_add_one, nI_1, nI_pred, rf_n, i32_m0, i32_m1, reduceIte]
      refine C55 E H h10 (by omega) htt ht12 hR room hn ht ?_
      have hok := @stmP_ok T U E.2.2.1 R.length t
      have hf := @stmP_f T U R.length t
      revert h hok hf
      cases stmP T U R.length t with
      | inl e =>
        obtain ⟨k, p⟩ := e
        intro h hok hf σ2 t1 n1 g1 F b1 b2
        have kp := hf k p rfl
        have k0 : ¬ k = 0 := fun e => by rw [e] at kp; exact absurd kp (by decide)
        have hz := h σ2 t1 n1 g1 (some (vi (nI (R.length + 1)))) F (by omega) (by omega)
        have S2 := (frC_E E F).1
        rw [am_ko_v]
        rw [S43_59, S43_60, S43_63, S43_30]
        by_cases c3 : (10 : Int32) < nI (R.length + 1)
        · simp only [nI_1, am_kil]
          have S := S2
          simp only [S43_31, S43_33, S43_36, S43_37, S43_40, S43_43, S43_44, S43_47, S43_50, S43_53, S43_54, S43_55, S43_56, S43_59, S43_59q, S43_60, S43_63, gL_sI, gR_sI, gN_sI, gC_sI, gB_sI, gI_sL, gR_sL, gN_sL, gC_sL, gB_sL, gI_sR, gL_sR, gN_sR, gC_sR, gB_sR, gL_sIr, gR_sIr, gN_sIr, gC_sIr, gB_sIr, gI_sLr, gR_sLr, gN_sLr, gC_sLr, gB_sLr, gI_sRr, gL_sRr, gN_sRr, gC_sRr, gB_sRr, gI_sN, gL_sN, gR_sN, gC_sN, gB_sN, gI_sC, gL_sC, gR_sC, gN_sC, gB_sC, gI_sB, gL_sB, gR_sB, gN_sB, gC_sB, gB_sB, gB_am_mk, gI_am_ml, gL_am_ml, gR_am_ml, gB_am_ml, gI_am_add, gL_am_add, gC_am_add, gB_am_add, gI_am_ins, gL_am_ins, gC_am_ins, gB_am_ins, gI_am_rem, gL_am_rem, gC_am_rem, gB_am_rem, gI_am_thr, gL_am_thr, gR_am_thr, gN_am_thr, gB_am_thr, mI_sI_k, mI_sI_j, mI_sI_b, mI_sI_s, mI_sI_i, mI_sI_c, mL_sL_k, mL_sL_j, mL_sL_b, mL_sL_s, mL_sL_i, mL_sL_c, mR_sR_k, mR_sR_j, mR_sR_b, mR_sR_s, mR_sR_i, mR_sR_c, mI_sIr_k, mI_sIr_s, mI_sIr_i, mL_sLr_k, mL_sLr_s, mL_sLr_i, mR_sRr_k, mR_sRr_s, mR_sRr_i, mN_sN_k, mN_sN_i, mN_am_add_k, mN_am_add_s, mR_am_add_k, mN_am_ins_k, mN_am_ins_s, mR_am_ins_k, mN_am_rem_k, mN_am_rem_s, mR_am_rem_k, mR_am_add_s, mR_am_ins_s, mR_am_rem_s, mI_am_mk_k, mI_am_mk_s, mI_am_mk_i, mL_am_mk_k, mL_am_mk_s, mL_am_mk_i, mR_am_mk_k, mR_am_mk_s, mR_am_mk_i, mN_am_mk_k, mN_am_mk_i, mC_am_mk_k, mC_am_mk_s, mN_am_ml_k, mN_am_ml_i, mC_am_ml_k, mC_am_ml_s, mC_sC_k, mC_am_thr_k, sC_3 S, sC_4 S, sC_29 S, sR_29_4 S, sC_14 S, sN_14 S, k0, k1, k2, k3, k4, k5, k6, k7, k8, k9, k10, k11, k12, k13, k14, k15, k16, k17, k18, k19, k20, k21, k22, k23, k24, k25, k26, k27, k28, k29, k30, k31, k32, k33, k34, k35, k36, k37, k38, k39, k40, k41, k42, k43, k44, k45, k46, k47, k48, k49, k50, k51, k52, k53, k54, k55, k56, k57, k58, k59, k60, k61, k62, k63, k64, k65, k66, k67, k68, k69, k70, k71, k72, k73, k74, k75, k76, k77, k78, k79, k80, k81, k82, k83, k84, k85, k86, k87, k88, k89, k90, k91, k92, k93, k94, k95, k96, k97, k98, k99, k100, rd_2, rd_11, rd_R, rd_C, c3, true_and, and_true, and_self, if_true, if_false, ite_true, ite_false, Nat.lt_irrefl, List.length_nil, List.length_cons, Nat.reduceAdd, Nat.reduceLeDiff, Nat.reduceLT, Nat.reduceEqDiff, Nat.zero_lt_one, not_true, not_false_iff, bI_0, bI_1, ne_eq, reduceCtorEq, false_and, and_false, or_true, true_or, or_false, false_or, Nat.lt_one_iff, eq_self, Nat.zero_le, am_ko_v, am_ko_0, am_kil, Nat.reduceBEq, Int32.reduceLT, Int32.reduceLE, Int32.reduceAdd, Int32.reduceSub, i32_10, i32_01, not_true_eq_false, not_false_eq_true, Classical.not_not, nor_self, Nat.lt_add_one, nI_1, nI_pred, rf_n, i32_m0, i32_m1, reduceIte]
          exact hz
        · simp only [nI_1, am_kil]
          have S := S2
          simp only [S43_31, S43_33, S43_36, S43_37, S43_40, S43_43, S43_44, S43_47, S43_50, S43_53, S43_54, S43_55, S43_56, S43_59, S43_59q, S43_60, S43_63, gL_sI, gR_sI, gN_sI, gC_sI, gB_sI, gI_sL, gR_sL, gN_sL, gC_sL, gB_sL, gI_sR, gL_sR, gN_sR, gC_sR, gB_sR, gL_sIr, gR_sIr, gN_sIr, gC_sIr, gB_sIr, gI_sLr, gR_sLr, gN_sLr, gC_sLr, gB_sLr, gI_sRr, gL_sRr, gN_sRr, gC_sRr, gB_sRr, gI_sN, gL_sN, gR_sN, gC_sN, gB_sN, gI_sC, gL_sC, gR_sC, gN_sC, gB_sC, gI_sB, gL_sB, gR_sB, gN_sB, gC_sB, gB_sB, gB_am_mk, gI_am_ml, gL_am_ml, gR_am_ml, gB_am_ml, gI_am_add, gL_am_add, gC_am_add, gB_am_add, gI_am_ins, gL_am_ins, gC_am_ins, gB_am_ins, gI_am_rem, gL_am_rem, gC_am_rem, gB_am_rem, gI_am_thr, gL_am_thr, gR_am_thr, gN_am_thr, gB_am_thr, mI_sI_k, mI_sI_j, mI_sI_b, mI_sI_s, mI_sI_i, mI_sI_c, mL_sL_k, mL_sL_j, mL_sL_b, mL_sL_s, mL_sL_i, mL_sL_c, mR_sR_k, mR_sR_j, mR_sR_b, mR_sR_s, mR_sR_i, mR_sR_c, mI_sIr_k, mI_sIr_s, mI_sIr_i, mL_sLr_k, mL_sLr_s, mL_sLr_i, mR_sRr_k, mR_sRr_s, mR_sRr_i, mN_sN_k, mN_sN_i, mN_am_add_k, mN_am_add_s, mR_am_add_k, mN_am_ins_k, mN_am_ins_s, mR_am_ins_k, mN_am_rem_k, mN_am_rem_s, mR_am_rem_k, mR_am_add_s, mR_am_ins_s, mR_am_rem_s, mI_am_mk_k, mI_am_mk_s, mI_am_mk_i, mL_am_mk_k, mL_am_mk_s, mL_am_mk_i, mR_am_mk_k, mR_am_mk_s, mR_am_mk_i, mN_am_mk_k, mN_am_mk_i, mC_am_mk_k, mC_am_mk_s, mN_am_ml_k, mN_am_ml_i, mC_am_ml_k, mC_am_ml_s, mC_sC_k, mC_am_thr_k, sC_3 S, sC_4 S, sC_29 S, sR_29_4 S, sC_14 S, sN_14 S, k0, k1, k2, k3, k4, k5, k6, k7, k8, k9, k10, k11, k12, k13, k14, k15, k16, k17, k18, k19, k20, k21, k22, k23, k24, k25, k26, k27, k28, k29, k30, k31, k32, k33, k34, k35, k36, k37, k38, k39, k40, k41, k42, k43, k44, k45, k46, k47, k48, k49, k50, k51, k52, k53, k54, k55, k56, k57, k58, k59, k60, k61, k62, k63, k64, k65, k66, k67, k68, k69, k70, k71, k72, k73, k74, k75, k76, k77, k78, k79, k80, k81, k82, k83, k84, k85, k86, k87, k88, k89, k90, k91, k92, k93, k94, k95, k96, k97, k98, k99, k100, rd_2, rd_11, rd_R, rd_C, c3, k0, true_and, and_true, and_self, if_true, if_false, ite_true, ite_false, Nat.lt_irrefl, List.length_nil, List.length_cons, Nat.reduceAdd, Nat.reduceLeDiff, Nat.reduceLT, Nat.reduceEqDiff, Nat.zero_lt_one, not_true, not_false_iff, bI_0, bI_1, ne_eq, reduceCtorEq, false_and, and_false, or_true, true_or, or_false, false_or, Nat.lt_one_iff, eq_self, Nat.zero_le, am_ko_v, am_ko_0, am_kil, Nat.reduceBEq, Int32.reduceLT, Int32.reduceLE, Int32.reduceAdd, Int32.reduceSub, i32_10, i32_01, not_true_eq_false, not_false_eq_true, Classical.not_not, nor_self, Nat.lt_add_one, nI_1, nI_pred, rf_n, i32_m0, i32_m1, reduceIte]
          exact hz
      | inr e =>
        obtain ⟨t1, r⟩ := e
        intro h hok hf σ2 n2 g2 h2 H2
        obtain ⟨⟨o1, o2, o3⟩, hlt⟩ := hok rfl
        have hL : (R ++ [r]).length = R.length + 1 := by simp only [List.length_append, List.length_cons, List.length_nil]
        rw [am_ko_v]
        rw [S43_59, S43_60, S43_63]
        simp only [nI_1, am_kil]
        have a := ih (R ++ [r]) σ2 t1 n2 g2 (by omega) (by omega) H2 h2 o2 (by
          rw [hL]
          revert h
          dsimp only
          cases txtP T U m (R.length + 1) t1 with
          | inl e => intro h; exact h
          | inr l =>
            intro h
            have h : ∀ σ2 t1 n1 g1 a2, n1 ≤ 300 → clT σ σ2 tt g1 n1 (R ++ r :: l) → WP (D + 1) 43 66 [some (vr (some (29, 0))), some (vr (some (36, tt))), a2] [] (rdM σ2 T t1 n1 g1 0 (-1)) Q := h
            rw [show R ++ r :: l = R ++ [r] ++ l by simp only [List.append_assoc, List.cons_append, List.nil_append]] at h
            exact h)
        rw [hL] at a
        exact a
end FIL
