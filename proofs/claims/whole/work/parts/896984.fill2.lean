/-! the class's fill, from the bytes on -/
theorem va_dg {B : Nat → Int32} : ∀ k s x, x < 10000 → k ≤ 4 → (x + 1) * 10 ^ k ≤ 10000 → (∀ j, s ≤ j → j < s + k → dgB (B j) = true) → ∃ y, vaF B s k (nI x) = nI y ∧ y + 1 ≤ (x + 1) * 10 ^ k
  | 0, s, x, h1, h2, h3, h4 => ⟨x, rfl, by rw [Nat.pow_zero]; omega⟩
  | k + 1, s, x, h1, h2, h3, h4 => by
    have hd := of_decide_eq_true (h4 s (Nat.le_refl _) (by omega))
    obtain ⟨d, e, hd1, hd2⟩ := val_n (lo := 48) (hi := 57) hd.1 hd.2 (by omega) (by omega)
    have e1 : (10 : Int32) * nI x + B s - 48 = nI (10 * x + (d - 48)) := by
      rw [e, show (10 : Int32) = nI 10 from rfl, pk_mul, nI_add, show (48 : Int32) = nI 48 from rfl, pk_sub (by omega), show 10 * x + d - 48 = 10 * x + (d - 48) by omega]
    have h10 : (x + 1) * 10 ^ (k + 1) = (10 * (x + 1)) * 10 ^ k := by rw [Nat.pow_succ, Nat.mul_comm (10 ^ k) 10, ← Nat.mul_assoc, Nat.mul_comm (x + 1) 10]
    have hle : (10 * x + (d - 48) + 1) * 10 ^ k ≤ (10 * (x + 1)) * 10 ^ k := Nat.mul_le_mul_right _ (by omega)
    have hp : 1 ≤ 10 ^ k := Nat.one_le_pow _ _ (by omega)
    have hx : 10 * x + (d - 48) + 1 ≤ (10 * x + (d - 48) + 1) * 10 ^ k := Nat.le_mul_of_pos_right _ hp
    obtain ⟨y, f1, f2⟩ := va_dg k (s + 1) (10 * x + (d - 48)) (by omega) (by omega) (by omega) (fun j a b => h4 j (by omega) (by omega))
    refine ⟨y, ?_, by omega⟩
    show vaF B (s + 1) k (10 * nI x + B s - 48) = nI y
    rw [e1]; exact f1
section TKU
variable {B : Nat → Int32} {L : Nat}
theorem uks_v (hB : ∀ j, 0 ≤ B j ∧ B j < 256) (t : Nat) : 0 ≤ (uksF B L t).1 ∧ (uksF B L t).1 ≤ 9999 := by
  unfold uksF
  dsimp only
  by_cases c : (toksF B L t).1 = 257
  · rw [if_pos c]
    have e := c
    have hin : ∀ j, (toksF B L t).2.1 ≤ j → j < (toksF B L t).2.2 → dgB (B j) = true := by
      rw [toks_tok] at e ⊢
      rcases tok_cases (B := B) (L := L) (frF B L t) (frF_le t) with ⟨e1, -⟩ | ⟨s, b, e1, e2, h1, h2, h3, h4, h5, k⟩
      · rw [e1] at e; exact absurd (show (256 : Int32) = 257 from e) (by decide)
      · rw [e1, e2]
        rcases k with ⟨k, -⟩ | ⟨-, cb, -⟩ | ⟨k, -⟩
        · rw [k] at e
          have := (knL_in (B := B) 22 0 s b rfl).1
          rw [e] at this
          exact absurd this (by decide)
        · intro j a1 a2
          exact rn_in _ _ j a1 (by rw [← cb]; exact a2)
        · rw [k] at e
          have := (hB s).2
          rw [e] at this
          exact absurd this (by decide)
    have hm : min 4 ((toksF B L t).2.2 - (toksF B L t).2.1) ≤ 4 := Nat.min_le_left _ _
    have hm2 : min 4 ((toksF B L t).2.2 - (toksF B L t).2.1) ≤ (toksF B L t).2.2 - (toksF B L t).2.1 := Nat.min_le_right _ _
    generalize min 4 ((toksF B L t).2.2 - (toksF B L t).2.1) = m at hm hm2
    have hp : 10 ^ m ≤ 10 ^ 4 := Nat.pow_le_pow_right (by omega) hm
    obtain ⟨y, f1, f2⟩ := va_dg (B := B) m (toksF B L t).2.1 0 (by omega) hm (by rw [Nat.zero_add, Nat.one_mul]; exact hp) (fun j a b => hin j a (by omega))
    rw [nI_0] at f1
    rw [f1]
    rw [Nat.zero_add, Nat.one_mul] at f2
    exact ⟨nI_pos' (by omega), nI_le (b := 9999) (by omega) (by omega)⟩
  · rw [if_neg c]; decide
theorem tkOK_B (hB : ∀ j, 0 ≤ B j ∧ B j < 256) (h3 : L ≤ 300) : tkOK (toksF B L) (fun t => (uksF B L t).1) := ⟨fun t h => by have := toks_lt hB h; omega, toks_280 hB, fun t => (uks_v hB t).1⟩
end TKU
section FI2
variable {D : Nat} {σ : aM} {T : tkT} {Q : aR → aM → Prop} {L : Nat}
theorem rd_start {a b c : Int32} (h1 : a = (T 0).1) (h2 : b = nI (T 0).2.1) (h3 : c = nI (T 0).2.2) : sI (sI (sI (sI (sI (sI (sI (sI σ 29 0 2 0) 29 0 3 (-1)) 29 0 5 0) 29 0 10 (-1)) 29 0 10 0) 29 0 11 a) 29 0 12 b) 29 0 13 c = rdM σ T 0 0 (gI σ 14 0) 0 (-1) := by
  subst h1 h2 h3
  unfold rdM sI sIr am_u3
  refine Prod.ext ?_ rfl
  funext a b c
  dsimp only
  by_cases ha : a = 29
  · subst ha
    by_cases hb : b = 0
    · subst hb
      by_cases c0 : c = 2
      · subst c0; simp
      by_cases c1 : c = 3
      · subst c1; simp
      by_cases c2 : c = 5
      · subst c2; simp [nI_0]
      by_cases c3 : c = 10
      · subst c3; simp [nI_0]
      by_cases c4 : c = 11
      · subst c4; simp
      by_cases c5 : c = 12
      · subst c5; simp
      by_cases c6 : c = 13
      · subst c6; simp
      simp [c0, c1, c2, c3, c4, c5, c6]
    · simp [hb]
  · by_cases h2 : a = 14
    · subst h2
      by_cases hb : b = 0
      · subst hb; simp; rfl
      · simp [hb]
    · simp [ha, h2]
theorem C50s (S : Sh σ) (E : tkC σ T) : WP D 50 0 [some (vr (some (29, 0))), none] [] (sI (sI (sI (sI σ 29 0 2 0) 29 0 3 (-1)) 29 0 5 0) 29 0 10 (-1)) Q ↔ Q (some none) (rdM σ T 0 0 (gI σ 14 0) 0 (-1)) := by
  obtain ⟨N, M, hN, hM, e1, e2, e3, e4, e5⟩ := E
  have S1 : Sh (sI (sI (sI (sI σ 29 0 2 0) 29 0 3 (-1)) 29 0 5 0) 29 0 10 (-1)) := S
  have ha : gI (sI (sI (sI (sI σ 29 0 2 0) 29 0 3 (-1)) 29 0 5 0) 29 0 10 (-1)) 29 0 10 + 1 = nI 0 := by
    rw [mI_sI_s]; decide
  by_cases c : 0 < N
  · rw [C50 S1 ha (n := N) e1 c hN]
    obtain ⟨a1, a2, a3⟩ := e3 0 c
    rw [nI_0]
    exact Iff.of_eq (congrArg (Q (some none)) (rd_start (T := T) a1 a2 a3))
  · have c0 : N = 0 := by omega
    have e := e4 0 (by omega)
    rw [C50e S1 ha (n := N) e1 (by omega) (by omega)]
    rw [nI_0, show gI (sI (sI (sI (sI σ 29 0 2 0) 29 0 3 (-1)) 29 0 5 0) 29 0 10 (-1)) 29 0 1 = nI M from e2]
    exact Iff.of_eq (congrArg (Q (some none)) (rd_start (T := T) (by rw [e]) (by rw [e]) (by rw [e])))
theorem rd_s1 {t n : Nat} {g : Nat → Int32} {k p v : Int32} : sI (rdM σ T t n g k p) 29 0 1 v = rdM (sI σ 29 0 1 v) T t n g k p := by
  unfold rdM sI sIr am_u3
  refine Prod.ext ?_ rfl
  funext a b c
  dsimp only
  by_cases c0 : a = 29 ∧ b = 0 ∧ c = 1
  · obtain ⟨rfl, rfl, rfl⟩ := c0; rfl
  · simp only [c0, if_false]
/-- what fill leaves of a TEXT without a fault -/
def fiM (σ : aM) (T : tkT) (t n : Nat) (g : Nat → Int32) (tt : Nat) : aM := sR (sIr (am_mk (rdM (sI σ 29 0 1 0) T t n g 0 (-1)) 18 n n) 18 (gC σ 18) g) 36 tt 4 (some (18, gC σ 18))
theorem C43 {tt : Nat} (S : Sh σ) (hB : ∀ j, 0 ≤ gI σ 13 0 j ∧ gI σ 13 0 j < 256) (hL : gI σ 29 0 1 = nI L) (h3 : L ≤ 300) (htt : tt < gC σ 36) (ht12 : tt < gC σ 12) (hR : gR σ 36 tt 3 = some (12, tt)) (h12 : gN σ 12 tt = 0) (h36 : gI σ 36 tt 5 = 0) (room : (gB σ).1 + 26 ≤ 601024 ∧ (gB σ).2 + 800 ≤ 7293034) (h : match txtP (toksF (gI σ 13 0) L) (uksF (gI σ 13 0) L) 11 0 0 with
  | .inl (k, p) => ∀ c f g h σ2 t1 n1 g1, frC (spM σ c f g h) σ2 tt → (gB σ2).1 ≤ (gB σ).1 + 24 → (gB σ2).2 ≤ (gB σ).2 + 480 → Q (some (some (vi 0))) (rdM (sI σ2 29 0 1 0) (toksF (gI σ 13 0) L) t1 n1 g1 k (nI p))
  | .inr l => ∀ c f g h σ2 t1 n1 g1, n1 ≤ 300 → clT (spM σ c f g h) σ2 tt g1 n1 l → Q (some (some (vi 1))) (fiM σ2 (toksF (gI σ 13 0) L) t1 n1 g1 tt)) : WP (D + 40) 43 0 [some (vr (some (29, 0))), some (vr (some (36, tt))), none] [] σ Q := by
  have hf := @txtP_f (toksF (gI σ 13 0) L) (uksF (gI σ 13 0) L) 11 0 0
  have ho := @txtP_ok (toksF (gI σ 13 0) L) (uksF (gI σ 13 0) L) (tkOK_B hB h3) 11 0 0
  simp only [S43_0, S43_1, gL_sI, gR_sI, gN_sI, gC_sI, gB_sI, gI_sL, gR_sL, gN_sL, gC_sL, gB_sL, gI_sR, gL_sR, gN_sR, gC_sR, gB_sR, gL_sIr, gR_sIr, gN_sIr, gC_sIr, gB_sIr, gI_sLr, gR_sLr, gN_sLr, gC_sLr, gB_sLr, gI_sRr, gL_sRr, gN_sRr, gC_sRr, gB_sRr, gI_sN, gL_sN, gR_sN, gC_sN, gB_sN, gI_sC, gL_sC, gR_sC, gN_sC, gB_sC, gI_sB, gL_sB, gR_sB, gN_sB, gC_sB, gB_sB, gB_am_mk, gI_am_ml, gL_am_ml, gR_am_ml, gB_am_ml, gI_am_add, gL_am_add, gC_am_add, gB_am_add, gI_am_ins, gL_am_ins, gC_am_ins, gB_am_ins, gI_am_rem, gL_am_rem, gC_am_rem, gB_am_rem, gI_am_thr, gL_am_thr, gR_am_thr, gN_am_thr, gB_am_thr, mI_sI_k, mI_sI_j, mI_sI_b, mI_sI_s, mI_sI_i, mI_sI_c, mL_sL_k, mL_sL_j, mL_sL_b, mL_sL_s, mL_sL_i, mL_sL_c, mR_sR_k, mR_sR_j, mR_sR_b, mR_sR_s, mR_sR_i, mR_sR_c, mI_sIr_k, mI_sIr_s, mI_sIr_i, mL_sLr_k, mL_sLr_s, mL_sLr_i, mR_sRr_k, mR_sRr_s, mR_sRr_i, mN_sN_k, mN_sN_i, mN_am_add_k, mN_am_add_s, mR_am_add_k, mN_am_ins_k, mN_am_ins_s, mR_am_ins_k, mN_am_rem_k, mN_am_rem_s, mR_am_rem_k, mR_am_add_s, mR_am_ins_s, mR_am_rem_s, mI_am_mk_k, mI_am_mk_s, mI_am_mk_i, mL_am_mk_k, mL_am_mk_s, mL_am_mk_i, mR_am_mk_k, mR_am_mk_s, mR_am_mk_i, mN_am_mk_k, mN_am_mk_i, mC_am_mk_k, mC_am_mk_s, mN_am_ml_k, mN_am_ml_i, mC_am_ml_k, mC_am_ml_s, mC_sC_k, mC_am_thr_k, sC_3 S, sC_4 S, sC_29 S, sR_29_4 S, sC_14 S, sN_14 S, k0, k1, k2, k3, k4, k5, k6, k7, k8, k9, k10, k11, k12, k13, k14, k15, k16, k17, k18, k19, k20, k21, k22, k23, k24, k25, k26, k27, k28, k29, k30, k31, k32, k33, k34, k35, k36, k37, k38, k39, k40, k41, k42, k43, k44, k45, k46, k47, k48, k49, k50, k51, k52, k53, k54, k55, k56, k57, k58, k59, k60, k61, k62, k63, k64, k65, k66, k67, k68, k69, k70, k71, k72, k73, k74, k75, k76, k77, k78, k79, k80, k81, k82, k83, k84, k85, k86, k87, k88, k89, k90, k91, k92, k93, k94, k95, k96, k97, k98, k99, k100, true_and, and_true, and_self, if_true, if_false, ite_true, ite_false, Nat.lt_irrefl, List.length_nil, List.length_cons, Nat.reduceAdd, Nat.reduceLeDiff, Nat.reduceLT, Nat.reduceEqDiff, Nat.zero_lt_one, not_true, not_false_iff, bI_0, bI_1, ne_eq, reduceCtorEq, false_and, and_false, or_true, true_or, or_false, false_or, Nat.lt_one_iff, eq_self, Nat.zero_le, am_ko_v, am_ko_0, am_kil, Nat.reduceBEq, Int32.reduceLT, Int32.reduceLE, Int32.reduceAdd, Int32.reduceSub, i32_10, i32_01, not_true_eq_false, not_false_eq_true, Classical.not_not, nor_self, Nat.lt_add_one, nI_1, nI_pred, rf_n, i32_m0, i32_m1, reduceIte]
  refine C44 (D := D + 37) S hB hL h3 (fun c f g h1 Ek => ?_)
  have E : rdE (spM σ c f g h1) (toksF (gI σ 13 0) L) (uksF (gI σ 13 0) L) := by
    refine ⟨Sh_sp S, Ek, tkOK_B hB h3, fun t a b => ?_, fun t a b => ?_⟩
    · show (uksF (gI σ 13 0) L t).1 = vaF (gI σ 13 0) _ _ 0
      unfold uksF
      dsimp only
      rw [if_pos a, Nat.min_eq_right b]
    · show (uksF (gI σ 13 0) L t).2 = leF (gI σ 13 0) _ _ 0
      unfold uksF
      dsimp only
      rw [if_pos a, if_neg (by omega)]
  have S2 := E.1
  simp only [S43_0, S43_1, S43_4, S43_5, S43_6, S43_9, S43_10, S43_11, S43_14, S43_15, S43_16, S43_19, S43_20, S43_21, S43_24, S43_25, S43_28, S43_29, gL_sI, gR_sI, gN_sI, gC_sI, gB_sI, gI_sL, gR_sL, gN_sL, gC_sL, gB_sL, gI_sR, gL_sR, gN_sR, gC_sR, gB_sR, gL_sIr, gR_sIr, gN_sIr, gC_sIr, gB_sIr, gI_sLr, gR_sLr, gN_sLr, gC_sLr, gB_sLr, gI_sRr, gL_sRr, gN_sRr, gC_sRr, gB_sRr, gI_sN, gL_sN, gR_sN, gC_sN, gB_sN, gI_sC, gL_sC, gR_sC, gN_sC, gB_sC, gI_sB, gL_sB, gR_sB, gN_sB, gC_sB, gB_sB, gB_am_mk, gI_am_ml, gL_am_ml, gR_am_ml, gB_am_ml, gI_am_add, gL_am_add, gC_am_add, gB_am_add, gI_am_ins, gL_am_ins, gC_am_ins, gB_am_ins, gI_am_rem, gL_am_rem, gC_am_rem, gB_am_rem, gI_am_thr, gL_am_thr, gR_am_thr, gN_am_thr, gB_am_thr, mI_sI_k, mI_sI_j, mI_sI_b, mI_sI_s, mI_sI_i, mI_sI_c, mL_sL_k, mL_sL_j, mL_sL_b, mL_sL_s, mL_sL_i, mL_sL_c, mR_sR_k, mR_sR_j, mR_sR_b, mR_sR_s, mR_sR_i, mR_sR_c, mI_sIr_k, mI_sIr_s, mI_sIr_i, mL_sLr_k, mL_sLr_s, mL_sLr_i, mR_sRr_k, mR_sRr_s, mR_sRr_i, mN_sN_k, mN_sN_i, mN_am_add_k, mN_am_add_s, mR_am_add_k, mN_am_ins_k, mN_am_ins_s, mR_am_ins_k, mN_am_rem_k, mN_am_rem_s, mR_am_rem_k, mR_am_add_s, mR_am_ins_s, mR_am_rem_s, mI_am_mk_k, mI_am_mk_s, mI_am_mk_i, mL_am_mk_k, mL_am_mk_s, mL_am_mk_i, mR_am_mk_k, mR_am_mk_s, mR_am_mk_i, mN_am_mk_k, mN_am_mk_i, mC_am_mk_k, mC_am_mk_s, mN_am_ml_k, mN_am_ml_i, mC_am_ml_k, mC_am_ml_s, mC_sC_k, mC_am_thr_k, sC_3 S, sC_4 S, sC_29 S, sR_29_4 S, sC_14 S, sN_14 S, k0, k1, k2, k3, k4, k5, k6, k7, k8, k9, k10, k11, k12, k13, k14, k15, k16, k17, k18, k19, k20, k21, k22, k23, k24, k25, k26, k27, k28, k29, k30, k31, k32, k33, k34, k35, k36, k37, k38, k39, k40, k41, k42, k43, k44, k45, k46, k47, k48, k49, k50, k51, k52, k53, k54, k55, k56, k57, k58, k59, k60, k61, k62, k63, k64, k65, k66, k67, k68, k69, k70, k71, k72, k73, k74, k75, k76, k77, k78, k79, k80, k81, k82, k83, k84, k85, k86, k87, k88, k89, k90, k91, k92, k93, k94, k95, k96, k97, k98, k99, k100, sp_R, sp_C, C50s E.1 E.2.1, true_and, and_true, and_self, if_true, if_false, ite_true, ite_false, Nat.lt_irrefl, List.length_nil, List.length_cons, Nat.reduceAdd, Nat.reduceLeDiff, Nat.reduceLT, Nat.reduceEqDiff, Nat.zero_lt_one, not_true, not_false_iff, bI_0, bI_1, ne_eq, reduceCtorEq, false_and, and_false, or_true, true_or, or_false, false_or, Nat.lt_one_iff, eq_self, Nat.zero_le, am_ko_v, am_ko_0, am_kil, Nat.reduceBEq, Int32.reduceLT, Int32.reduceLE, Int32.reduceAdd, Int32.reduceSub, i32_10, i32_01, not_true_eq_false, not_false_eq_true, Classical.not_not, nor_self, Nat.lt_add_one, nI_1, nI_pred, rf_n, i32_m0, i32_m1, reduceIte]
  have H0 : clT (spM σ c f g h1) (spM σ c f g h1) tt (gI σ 14 0) 0 [] := ⟨frC_rf, rfl, h12, ⟨Nat.le_refl _, Nat.le_refl _⟩, fun s r e => (by cases e), ⟨0, by omega, h36⟩, fun k hk => ⟨fun e => by
    rw [show gI (spM σ c f g h1) 36 tt 5 = 0 from h36] at e
    exfalso
    revert e
    revert k
    decide, fun ⟨s, r, e, _⟩ => (by cases e)⟩⟩
  have a := L43 (Q := Q) (D := D + 40) E (by omega) (show tt < gC (spM σ c f g h1) 36 from htt) (show tt < gC (spM σ c f g h1) 12 from ht12) hR (show (gB σ).1 + 24 ≤ 601024 ∧ (gB σ).2 + 480 ≤ 7293034 by omega) 11 [] (spM σ c f g h1) 0 0 (gI σ 14 0) (by decide) rfl H0 (Nat.le_refl _) (Nat.zero_le _) (by
    show (match txtP (toksF (gI σ 13 0) L) (uksF (gI σ 13 0) L) 11 0 0 with
      | .inl (k, p) => _
      | .inr l => _)
    revert h hf ho
    cases txtP (toksF (gI σ 13 0) L) (uksF (gI σ 13 0) L) 11 0 0 with
    | inl e =>
      obtain ⟨k, p⟩ := e
      intro h hf ho σ2 t1 n1 g1 a2 F b1 b2
      have kp := hf k p rfl
      have k0 : ¬ k = 0 := fun e => by rw [e] at kp; exact absurd kp (by decide)
      have S := (frC_E E F).1
      have hz := h c f g h1 σ2 t1 n1 g1 F b1 b2
      simp only [S43_66, S43_67, S43_68, S43_71, S43_72, S43_75, S43_78, S43_79, S43_82, S43_83, S43_84, S43_87, S43_88, S43_91, S43_94, S43_95, S43_96, S43_99, S43_100, S43_103, S43_106, S43_109, S43_110, S43_113, S43_116, S43_117, S43_120, S43_121, gL_sI, gR_sI, gN_sI, gC_sI, gB_sI, gI_sL, gR_sL, gN_sL, gC_sL, gB_sL, gI_sR, gL_sR, gN_sR, gC_sR, gB_sR, gL_sIr, gR_sIr, gN_sIr, gC_sIr, gB_sIr, gI_sLr, gR_sLr, gN_sLr, gC_sLr, gB_sLr, gI_sRr, gL_sRr, gN_sRr, gC_sRr, gB_sRr, gI_sN, gL_sN, gR_sN, gC_sN, gB_sN, gI_sC, gL_sC, gR_sC, gN_sC, gB_sC, gI_sB, gL_sB, gR_sB, gN_sB, gC_sB, gB_sB, gB_am_mk, gI_am_ml, gL_am_ml, gR_am_ml, gB_am_ml, gI_am_add, gL_am_add, gC_am_add, gB_am_add, gI_am_ins, gL_am_ins, gC_am_ins, gB_am_ins, gI_am_rem, gL_am_rem, gC_am_rem, gB_am_rem, gI_am_thr, gL_am_thr, gR_am_thr, gN_am_thr, gB_am_thr, mI_sI_k, mI_sI_j, mI_sI_b, mI_sI_s, mI_sI_i, mI_sI_c, mL_sL_k, mL_sL_j, mL_sL_b, mL_sL_s, mL_sL_i, mL_sL_c, mR_sR_k, mR_sR_j, mR_sR_b, mR_sR_s, mR_sR_i, mR_sR_c, mI_sIr_k, mI_sIr_s, mI_sIr_i, mL_sLr_k, mL_sLr_s, mL_sLr_i, mR_sRr_k, mR_sRr_s, mR_sRr_i, mN_sN_k, mN_sN_i, mN_am_add_k, mN_am_add_s, mR_am_add_k, mN_am_ins_k, mN_am_ins_s, mR_am_ins_k, mN_am_rem_k, mN_am_rem_s, mR_am_rem_k, mR_am_add_s, mR_am_ins_s, mR_am_rem_s, mI_am_mk_k, mI_am_mk_s, mI_am_mk_i, mL_am_mk_k, mL_am_mk_s, mL_am_mk_i, mR_am_mk_k, mR_am_mk_s, mR_am_mk_i, mN_am_mk_k, mN_am_mk_i, mC_am_mk_k, mC_am_mk_s, mN_am_ml_k, mN_am_ml_i, mC_am_ml_k, mC_am_ml_s, mC_sC_k, mC_am_thr_k, sC_3 S, sC_4 S, sC_29 S, sR_29_4 S, sC_14 S, sN_14 S, k0, k1, k2, k3, k4, k5, k6, k7, k8, k9, k10, k11, k12, k13, k14, k15, k16, k17, k18, k19, k20, k21, k22, k23, k24, k25, k26, k27, k28, k29, k30, k31, k32, k33, k34, k35, k36, k37, k38, k39, k40, k41, k42, k43, k44, k45, k46, k47, k48, k49, k50, k51, k52, k53, k54, k55, k56, k57, k58, k59, k60, k61, k62, k63, k64, k65, k66, k67, k68, k69, k70, k71, k72, k73, k74, k75, k76, k77, k78, k79, k80, k81, k82, k83, k84, k85, k86, k87, k88, k89, k90, k91, k92, k93, k94, k95, k96, k97, k98, k99, k100, rd_2, rd_R, rd_C, rd_s1, k0, true_and, and_true, and_self, if_true, if_false, ite_true, ite_false, Nat.lt_irrefl, List.length_nil, List.length_cons, Nat.reduceAdd, Nat.reduceLeDiff, Nat.reduceLT, Nat.reduceEqDiff, Nat.zero_lt_one, not_true, not_false_iff, bI_0, bI_1, ne_eq, reduceCtorEq, false_and, and_false, or_true, true_or, or_false, false_or, Nat.lt_one_iff, eq_self, Nat.zero_le, am_ko_v, am_ko_0, am_kil, Nat.reduceBEq, Int32.reduceLT, Int32.reduceLE, Int32.reduceAdd, Int32.reduceSub, i32_10, i32_01, not_true_eq_false, not_false_eq_true, Classical.not_not, nor_self, Nat.lt_add_one, nI_1, nI_pred, rf_n, i32_m0, i32_m1, reduceIte]
      exact hz
    | inr l =>
      intro h hf ho σ2 t1 n1 g1 a2 hn H
      have F := H.1
      have S := (frC_E E F).1
      obtain ⟨hl, -⟩ := ho l (by decide) rfl
      have H : clT (spM σ c f g h1) σ2 tt g1 n1 l := H
      have hz := h c f g h1 σ2 t1 n1 g1 hn H
      obtain ⟨-, H1, H2, ⟨H3, H4⟩, -⟩ := H
      have H3 : (gB σ2).1 ≤ (gB σ).1 + 2 * l.length := H3
      have H4 : (gB σ2).2 ≤ (gB σ).2 + 40 * l.length := H4
      have n31 : n1 < 2147483648 := by omega
      have c0 : (0 ≤ nI n1 ∧ nI n1 ≤ nI 300) := ⟨nI_pos' n31, nI_le hn (by omega)⟩
      have n301 : n1 < 301 := by omega
      have q1 : (gB σ2).1 + 1 ≤ 601024 ∧ (gB σ2).2 + n1 ≤ 7293034 := by omega
      have c36 : tt < gC σ2 36 := by rw [F.2.2.1]; exact htt
      have e14 : gI (rdM (sI σ2 29 0 1 0) (toksF (gI σ 13 0) L) t1 n1 g1 0 (-1)) 14 0 = g1 := rfl
      unfold fiM at hz
      simp only [am_ok, S43_66, S43_67, S43_68, S43_71, S43_72, S43_75, S43_78, S43_79, S43_82, S43_83, S43_84, S43_87, S43_88, S43_91, S43_94, S43_95, S43_96, S43_99, S43_100, S43_103, S43_106, S43_109, S43_110, S43_113, S43_116, S43_117, S43_120, S43_121, gL_sI, gR_sI, gN_sI, gC_sI, gB_sI, gI_sL, gR_sL, gN_sL, gC_sL, gB_sL, gI_sR, gL_sR, gN_sR, gC_sR, gB_sR, gL_sIr, gR_sIr, gN_sIr, gC_sIr, gB_sIr, gI_sLr, gR_sLr, gN_sLr, gC_sLr, gB_sLr, gI_sRr, gL_sRr, gN_sRr, gC_sRr, gB_sRr, gI_sN, gL_sN, gR_sN, gC_sN, gB_sN, gI_sC, gL_sC, gR_sC, gN_sC, gB_sC, gI_sB, gL_sB, gR_sB, gN_sB, gC_sB, gB_sB, gB_am_mk, gI_am_ml, gL_am_ml, gR_am_ml, gB_am_ml, gI_am_add, gL_am_add, gC_am_add, gB_am_add, gI_am_ins, gL_am_ins, gC_am_ins, gB_am_ins, gI_am_rem, gL_am_rem, gC_am_rem, gB_am_rem, gI_am_thr, gL_am_thr, gR_am_thr, gN_am_thr, gB_am_thr, mI_sI_k, mI_sI_j, mI_sI_b, mI_sI_s, mI_sI_i, mI_sI_c, mL_sL_k, mL_sL_j, mL_sL_b, mL_sL_s, mL_sL_i, mL_sL_c, mR_sR_k, mR_sR_j, mR_sR_b, mR_sR_s, mR_sR_i, mR_sR_c, mI_sIr_k, mI_sIr_s, mI_sIr_i, mL_sLr_k, mL_sLr_s, mL_sLr_i, mR_sRr_k, mR_sRr_s, mR_sRr_i, mN_sN_k, mN_sN_i, mN_am_add_k, mN_am_add_s, mR_am_add_k, mN_am_ins_k, mN_am_ins_s, mR_am_ins_k, mN_am_rem_k, mN_am_rem_s, mR_am_rem_k, mR_am_add_s, mR_am_ins_s, mR_am_rem_s, mI_am_mk_k, mI_am_mk_s, mI_am_mk_i, mL_am_mk_k, mL_am_mk_s, mL_am_mk_i, mR_am_mk_k, mR_am_mk_s, mR_am_mk_i, mN_am_mk_k, mN_am_mk_i, mC_am_mk_k, mC_am_mk_s, mN_am_ml_k, mN_am_ml_i, mC_am_ml_k, mC_am_ml_s, mC_sC_k, mC_am_thr_k, sC_3 S, sC_4 S, sC_29 S, sR_29_4 S, sC_14 S, sN_14 S, k0, k1, k2, k3, k4, k5, k6, k7, k8, k9, k10, k11, k12, k13, k14, k15, k16, k17, k18, k19, k20, k21, k22, k23, k24, k25, k26, k27, k28, k29, k30, k31, k32, k33, k34, k35, k36, k37, k38, k39, k40, k41, k42, k43, k44, k45, k46, k47, k48, k49, k50, k51, k52, k53, k54, k55, k56, k57, k58, k59, k60, k61, k62, k63, k64, k65, k66, k67, k68, k69, k70, k71, k72, k73, k74, k75, k76, k77, k78, k79, k80, k81, k82, k83, k84, k85, k86, k87, k88, k89, k90, k91, k92, k93, k94, k95, k96, k97, k98, k99, k100, rd_2, rd_5, rd_R, rd_C, rd_N, rd_B, rd_s1, C136, c0, ini_iff n31, nI_clamp n31, n301, q1, c36, e14, true_and, and_true, and_self, if_true, if_false, ite_true, ite_false, Nat.lt_irrefl, List.length_nil, List.length_cons, Nat.reduceAdd, Nat.reduceLeDiff, Nat.reduceLT, Nat.reduceEqDiff, Nat.zero_lt_one, not_true, not_false_iff, bI_0, bI_1, ne_eq, reduceCtorEq, false_and, and_false, or_true, true_or, or_false, false_or, Nat.lt_one_iff, eq_self, Nat.zero_le, am_ko_v, am_ko_0, am_kil, Nat.reduceBEq, Int32.reduceLT, Int32.reduceLE, Int32.reduceAdd, Int32.reduceSub, i32_10, i32_01, not_true_eq_false, not_false_eq_true, Classical.not_not, nor_self, Nat.lt_add_one, nI_1, nI_pred, rf_n, i32_m0, i32_m1, reduceIte]
      exact hz)
  rw [show nI ([] : List rcT).length = 0 from rfl] at a
  exact a
end FI2
