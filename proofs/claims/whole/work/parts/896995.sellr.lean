/-! sells, buyer: the reference's side, as far as it goes -/
theorem set_bit : ∀ s, s < 128 → ∀ i, i < 7 → (nI s >>> (nI i &&& 31)) &&& 1 = (if s.testBit i = true then 1 else 0) := by decide +kernel
theorem set_sb : ∀ s, s < 128 → ∀ i, i < 7 → s.testBit i = true → nI s - (1 : Int32) <<< (nI i &&& 31) = nI (s - 2 ^ i) := by decide +kernel
/-- the reference's houses and bids -/
def RFR (σ : aM) (m : Nat) (hs : Nat → Nat) (v : Nat → Nat → Nat) : Prop := Sh σ ∧ gI σ 4 0 85 = nI m ∧ m ≤ 7 ∧ ∀ i, i < m → gI σ 99 0 i = nI (hs i) ∧ hs i < 30 ∧ ∀ p, p < 60 → gI σ 97 0 (30 * p + hs i) = nI (v i p) ∧ v i p ≤ 100000
def rrF (v : Nat → Nat → Nat) (f : Nat) (B : Nat → Nat) (p s : Nat) : Nat → Nat → Nat → Nat
  | _, 0, a => a
  | i, k + 1, a => rrF v f B p s (i + 1) k (if s.testBit i = true ∧ 0 < v (f + i) p ∧ a < B (s - 2 ^ i) + v (f + i) p then B (s - 2 ^ i) + v (f + i) p else a)
theorem rrF_c {v : Nat → Nat → Nat} {f : Nat} {B : Nat → Nat} {p s i k a : Nat} : rrF v f B p s i (k + 1) a = rrF v f B p s (i + 1) k (if s.testBit i = true ∧ 0 < v (f + i) p ∧ a < B (s - 2 ^ i) + v (f + i) p then B (s - 2 ^ i) + v (f + i) p else a) := rfl
abbrev restR (σ : aM) (g : Nat → Int32) : aM := sIr σ 100 0 g
theorem restR_w {σ : aM} {g : Nat → Int32} {j : Nat} {x : Int32} : sI (restR σ g) 100 0 j x = restR σ (fun c => if c = j then x else g c) := by
  unfold restR sI sIr
  refine congrArg (fun f => (f, σ.2)) ?_
  funext a b c
  by_cases e : a = 100 ∧ b = 0
  · by_cases q : c = j
    · simp [am_u3, e, q]
    · simp [am_u3, e, q]
  · have e1 : ¬ (a = 100 ∧ b = 0 ∧ c = j) := fun z => e ⟨z.1, z.2.1⟩
    simp [am_u3, e, e1]
section SELR
variable {d m f lf : Nat} {σ : aM} {Q : aR → aM → Prop} {hs : Nat → Nat} {v : Nat → Nat → Nat} {B : Nat → Nat} {out : Int64} {x5 : Int32}
theorem L227i {p s : Nat} (h : RFR σ m hs v) (hp : p < 60) (hl : f + lf = m) (hs7 : s < 2 ^ lf) : ∀ k i a g (a9 : Option aV), i + k = lf → g s = nI a → a < 2000000 → (∀ t, t < s → g t = nI (B t) ∧ B t < 1000000) → (∀ (g' : Nat → Int32) (b9 : Option aV), g' = (fun c => if c = s then nI (rrF v f B p s i k a) else g c) → WP d 227 176 [some (vr (some (4, 0))), some (vi (nI f)), some (vl out), none, some (vi (nI lf)), some (vi x5), some (vi (nI p)), some (vi (nI s)), some (vi (nI lf)), b9] [] (restR σ g') Q) → WP d 227 78 [some (vr (some (4, 0))), some (vi (nI f)), some (vl out), none, some (vi (nI lf)), some (vi x5), some (vi (nI p)), some (vi (nI s)), some (vi (nI i)), a9] [] (restR σ g) Q := by
  obtain ⟨S, hm, h7, ho⟩ := h
  have hs8 : s < 128 := Nat.lt_of_lt_of_le hs7 (show 2 ^ lf ≤ 2 ^ 7 from Nat.pow_le_pow_right (by decide) (by omega))
  intro k
  induction k with
  | zero =>
    intro i a g a9 hi hgs ha hg hq
    have e : i = lf := by omega
    subst e
    have c1 : ¬ nI i < nI i := nI_nlt (Nat.le_refl i) (by omega)
    have hz := hq g a9 (by
      funext c
      by_cases q : c = s
      · subst q; rw [if_pos rfl, hgs]; rfl
      · rw [if_neg q])
    rw [S227_78]
    simp only [S227_80, S227_82, c1, k0, k1, k2, k3, k4, k5, k6, k7, k8, k9, k10, k11, k12, k13, k14, k15, k16, k17, k18, k19, k20, k21, k22, k23, k24, k25, k26, k27, k28, k29, k30, k31, k32, k33, k34, k35, k36, k37, k38, k39, k40, k41, k42, k43, k44, k45, k46, k47, k48, k49, k50, k51, k52, k53, k54, k55, k56, k57, k58, k59, k60, k61, k62, k63, k64, k65, k66, k67, k68, k69, k70, k71, k72, k73, k74, k75, k76, k77, k78, k79, k80, k81, k82, k83, k84, k85, k86, k87, k88, k89, k90, k91, k92, k93, k94, k95, k96, k97, k98, k99, k100, true_and, and_true, and_self, if_true, if_false, ite_true, ite_false, Nat.lt_irrefl, List.length_nil, List.length_cons, Nat.reduceAdd, Nat.reduceLeDiff, Nat.reduceLT, Nat.reduceEqDiff, Nat.zero_lt_one, not_true, not_false_iff, bI_0, bI_1, ne_eq, reduceCtorEq, false_and, and_false, or_true, true_or, or_false, false_or, Nat.lt_one_iff, eq_self, Nat.zero_le, am_ko_v, am_ko_0, am_kil, Nat.reduceBEq, Int32.reduceLT, Int32.reduceLE, Int32.reduceAdd, Int32.reduceSub, i32_10, i32_01, not_true_eq_false, not_false_eq_true, Classical.not_not, nor_self, Nat.lt_add_one, nI_1, nI_pred, rf_n, i32_m0, i32_m1, reduceIte]
    exact hz
  | succ k ih =>
    intro i a g a9 hi hgs ha hg hq
    have c1 : nI i < nI lf := nI_lt (by omega) (by omega)
    have im : f + i < m := by omega
    have f31 : f + i < 2147483648 := by omega
    have f7 : f + i < 7 := by omega
    obtain ⟨o1, o2, o3⟩ := ho (f + i) im
    obtain ⟨o4, o5⟩ := o3 p hp
    have e30 : (30 : Int32) * nI p + nI (hs (f + i)) = nI (30 * p + hs (f + i)) := by
      rw [show (30 : Int32) = nI 30 from rfl, pk_mul, nI_add]
    have b31 : 30 * p + hs (f + i) < 2147483648 := by omega
    have b18 : 30 * p + hs (f + i) < 1800 := by omega
    have eb := set_bit s hs8 i (by omega)
    have s31 : s < 2147483648 := by omega
    by_cases tb : s.testBit i = true
    · rw [if_pos tb] at eb
      obtain ⟨f1, f2⟩ := set_le s hs8 i (by omega) tb
      have es := set_sb s hs8 i (by omega) tb
      have hlt : s - 2 ^ i < s := by omega
      obtain ⟨g1, g2⟩ := hg (s - 2 ^ i) hlt
      have r31 : s - 2 ^ i < 2147483648 := by omega
      have r8 : s - 2 ^ i < 128 := by omega
      by_cases c : 0 < v (f + i) p
      · have c2 : 0 < nI (v (f + i) p) := by have := nI_lt c (show v (f + i) p < 2 ^ 31 by omega); rwa [nI_0] at this
        by_cases q : a < B (s - 2 ^ i) + v (f + i) p
        · have c3 : nI a < nI (B (s - 2 ^ i) + v (f + i) p) := nI_lt q (by omega)
          have er : rrF v f B p s i (k + 1) a = rrF v f B p s (i + 1) k (B (s - 2 ^ i) + v (f + i) p) := by rw [rrF_c, if_pos ⟨tb, c, q⟩]
          have hz := ih (i + 1) (B (s - 2 ^ i) + v (f + i) p) (fun c => if c = s then nI (B (s - 2 ^ i) + v (f + i) p) else g c) (some (vi (nI (v (f + i) p)))) (by omega) (if_pos rfl) (by omega) (fun t ht => by
            show (if t = s then _ else g t) = _ ∧ _
            rw [if_neg (by omega)]; exact hg t ht) (fun g' b9 hg' => hq g' b9 (by
              rw [er, hg']
              funext c'
              by_cases z : c' = s
              · rw [if_pos z, if_pos z]
              · rw [if_neg z, if_neg z, if_neg z]))
          rw [S227_78]
          simp only [S227_80, S227_82, S227_85, S227_86, S227_89, S227_91, S227_93, S227_94, S227_95, S227_98, S227_99, S227_101, S227_102, S227_103, S227_104, S227_105, S227_107, S227_109, S227_111, S227_112, S227_113, S227_114, S227_115, S227_118, S227_120, S227_123, S227_124, S227_127, S227_129, S227_130, S227_132, S227_133, S227_134, S227_135, S227_137, S227_138, S227_139, S227_142, S227_144, S227_145, S227_148, S227_149, S227_152, S227_154, S227_155, S227_158, S227_160, S227_161, S227_163, S227_164, S227_165, S227_166, S227_168, S227_169, S227_170, S227_173, gL_sI, gR_sI, gN_sI, gC_sI, gB_sI, gI_sL, gR_sL, gN_sL, gC_sL, gB_sL, gI_sR, gL_sR, gN_sR, gC_sR, gB_sR, gL_sIr, gR_sIr, gN_sIr, gC_sIr, gB_sIr, gI_sLr, gR_sLr, gN_sLr, gC_sLr, gB_sLr, gI_sRr, gL_sRr, gN_sRr, gC_sRr, gB_sRr, gI_sN, gL_sN, gR_sN, gC_sN, gB_sN, gI_sC, gL_sC, gR_sC, gN_sC, gB_sC, gI_sB, gL_sB, gR_sB, gN_sB, gC_sB, gB_sB, gB_am_mk, gI_am_ml, gL_am_ml, gR_am_ml, gB_am_ml, gI_am_add, gL_am_add, gC_am_add, gB_am_add, gI_am_ins, gL_am_ins, gC_am_ins, gB_am_ins, gI_am_rem, gL_am_rem, gC_am_rem, gB_am_rem, gI_am_thr, gL_am_thr, gR_am_thr, gN_am_thr, gB_am_thr, mI_sI_k, mI_sI_j, mI_sI_b, mI_sI_s, mI_sI_i, mI_sI_c, mL_sL_k, mL_sL_j, mL_sL_b, mL_sL_s, mL_sL_i, mL_sL_c, mR_sR_k, mR_sR_j, mR_sR_b, mR_sR_s, mR_sR_i, mR_sR_c, mI_sIr_k, mI_sIr_s, mI_sIr_i, mL_sLr_k, mL_sLr_s, mL_sLr_i, mR_sRr_k, mR_sRr_s, mR_sRr_i, mN_sN_k, mN_sN_i, mN_am_add_k, mN_am_add_s, mR_am_add_k, mN_am_ins_k, mN_am_ins_s, mR_am_ins_k, mN_am_rem_k, mN_am_rem_s, mR_am_rem_k, mR_am_add_s, mR_am_ins_s, mR_am_rem_s, mI_am_mk_k, mI_am_mk_s, mI_am_mk_i, mL_am_mk_k, mL_am_mk_s, mL_am_mk_i, mR_am_mk_k, mR_am_mk_s, mR_am_mk_i, mN_am_mk_k, mN_am_mk_i, mC_am_mk_k, mC_am_mk_s, mN_am_ml_k, mN_am_ml_i, mC_am_ml_k, mC_am_ml_s, mC_sC_k, mC_am_thr_k, sC_4 S, sC_97 S, sC_99 S, sC_100 S, sN_97 S, sN_99 S, sN_100 S, sR_4_81 S, sR_4_83 S, sR_4_84 S, c1, nI_add, ini_iff f31, nI_clamp f31, f7, o1, e30, ini_iff b31, nI_clamp b31, b18, o4, eb, c2, es, ini_iff r31, nI_clamp r31, r8, g1, hgs, ini_iff s31, nI_clamp s31, hs8, c3, restR_w, k0, k1, k2, k3, k4, k5, k6, k7, k8, k9, k10, k11, k12, k13, k14, k15, k16, k17, k18, k19, k20, k21, k22, k23, k24, k25, k26, k27, k28, k29, k30, k31, k32, k33, k34, k35, k36, k37, k38, k39, k40, k41, k42, k43, k44, k45, k46, k47, k48, k49, k50, k51, k52, k53, k54, k55, k56, k57, k58, k59, k60, k61, k62, k63, k64, k65, k66, k67, k68, k69, k70, k71, k72, k73, k74, k75, k76, k77, k78, k79, k80, k81, k82, k83, k84, k85, k86, k87, k88, k89, k90, k91, k92, k93, k94, k95, k96, k97, k98, k99, k100, true_and, and_true, and_self, if_true, if_false, ite_true, ite_false, Nat.lt_irrefl, List.length_nil, List.length_cons, Nat.reduceAdd, Nat.reduceLeDiff, Nat.reduceLT, Nat.reduceEqDiff, Nat.zero_lt_one, not_true, not_false_iff, bI_0, bI_1, ne_eq, reduceCtorEq, false_and, and_false, or_true, true_or, or_false, false_or, Nat.lt_one_iff, eq_self, Nat.zero_le, am_ko_v, am_ko_0, am_kil, Nat.reduceBEq, Int32.reduceLT, Int32.reduceLE, Int32.reduceAdd, Int32.reduceSub, i32_10, i32_01, not_true_eq_false, not_false_eq_true, Classical.not_not, nor_self, Nat.lt_add_one, nI_1, nI_pred, rf_n, i32_m0, i32_m1, reduceIte]
          exact hz
        · have c3 : ¬ nI a < nI (B (s - 2 ^ i) + v (f + i) p) := nI_nlt (by omega) (by omega)
          have er : rrF v f B p s i (k + 1) a = rrF v f B p s (i + 1) k a := by rw [rrF_c, if_neg (fun z => q z.2.2)]
          have hz := ih (i + 1) a g (some (vi (nI (v (f + i) p)))) (by omega) hgs ha hg (fun g' b9 hg' => hq g' b9 (by rw [er]; exact hg'))
          rw [S227_78]
          simp only [S227_80, S227_82, S227_85, S227_86, S227_89, S227_91, S227_93, S227_94, S227_95, S227_98, S227_99, S227_101, S227_102, S227_103, S227_104, S227_105, S227_107, S227_109, S227_111, S227_112, S227_113, S227_114, S227_115, S227_118, S227_120, S227_123, S227_124, S227_127, S227_129, S227_130, S227_132, S227_133, S227_134, S227_135, S227_137, S227_138, S227_139, S227_142, S227_144, S227_145, S227_148, S227_149, S227_152, S227_154, S227_155, S227_158, S227_160, S227_161, S227_163, S227_164, S227_165, S227_166, S227_168, S227_169, S227_170, S227_173, gL_sI, gR_sI, gN_sI, gC_sI, gB_sI, gI_sL, gR_sL, gN_sL, gC_sL, gB_sL, gI_sR, gL_sR, gN_sR, gC_sR, gB_sR, gL_sIr, gR_sIr, gN_sIr, gC_sIr, gB_sIr, gI_sLr, gR_sLr, gN_sLr, gC_sLr, gB_sLr, gI_sRr, gL_sRr, gN_sRr, gC_sRr, gB_sRr, gI_sN, gL_sN, gR_sN, gC_sN, gB_sN, gI_sC, gL_sC, gR_sC, gN_sC, gB_sC, gI_sB, gL_sB, gR_sB, gN_sB, gC_sB, gB_sB, gB_am_mk, gI_am_ml, gL_am_ml, gR_am_ml, gB_am_ml, gI_am_add, gL_am_add, gC_am_add, gB_am_add, gI_am_ins, gL_am_ins, gC_am_ins, gB_am_ins, gI_am_rem, gL_am_rem, gC_am_rem, gB_am_rem, gI_am_thr, gL_am_thr, gR_am_thr, gN_am_thr, gB_am_thr, mI_sI_k, mI_sI_j, mI_sI_b, mI_sI_s, mI_sI_i, mI_sI_c, mL_sL_k, mL_sL_j, mL_sL_b, mL_sL_s, mL_sL_i, mL_sL_c, mR_sR_k, mR_sR_j, mR_sR_b, mR_sR_s, mR_sR_i, mR_sR_c, mI_sIr_k, mI_sIr_s, mI_sIr_i, mL_sLr_k, mL_sLr_s, mL_sLr_i, mR_sRr_k, mR_sRr_s, mR_sRr_i, mN_sN_k, mN_sN_i, mN_am_add_k, mN_am_add_s, mR_am_add_k, mN_am_ins_k, mN_am_ins_s, mR_am_ins_k, mN_am_rem_k, mN_am_rem_s, mR_am_rem_k, mR_am_add_s, mR_am_ins_s, mR_am_rem_s, mI_am_mk_k, mI_am_mk_s, mI_am_mk_i, mL_am_mk_k, mL_am_mk_s, mL_am_mk_i, mR_am_mk_k, mR_am_mk_s, mR_am_mk_i, mN_am_mk_k, mN_am_mk_i, mC_am_mk_k, mC_am_mk_s, mN_am_ml_k, mN_am_ml_i, mC_am_ml_k, mC_am_ml_s, mC_sC_k, mC_am_thr_k, sC_4 S, sC_97 S, sC_99 S, sC_100 S, sN_97 S, sN_99 S, sN_100 S, sR_4_81 S, sR_4_83 S, sR_4_84 S, c1, nI_add, ini_iff f31, nI_clamp f31, f7, o1, e30, ini_iff b31, nI_clamp b31, b18, o4, eb, c2, es, ini_iff r31, nI_clamp r31, r8, g1, hgs, ini_iff s31, nI_clamp s31, hs8, c3, k0, k1, k2, k3, k4, k5, k6, k7, k8, k9, k10, k11, k12, k13, k14, k15, k16, k17, k18, k19, k20, k21, k22, k23, k24, k25, k26, k27, k28, k29, k30, k31, k32, k33, k34, k35, k36, k37, k38, k39, k40, k41, k42, k43, k44, k45, k46, k47, k48, k49, k50, k51, k52, k53, k54, k55, k56, k57, k58, k59, k60, k61, k62, k63, k64, k65, k66, k67, k68, k69, k70, k71, k72, k73, k74, k75, k76, k77, k78, k79, k80, k81, k82, k83, k84, k85, k86, k87, k88, k89, k90, k91, k92, k93, k94, k95, k96, k97, k98, k99, k100, true_and, and_true, and_self, if_true, if_false, ite_true, ite_false, Nat.lt_irrefl, List.length_nil, List.length_cons, Nat.reduceAdd, Nat.reduceLeDiff, Nat.reduceLT, Nat.reduceEqDiff, Nat.zero_lt_one, not_true, not_false_iff, bI_0, bI_1, ne_eq, reduceCtorEq, false_and, and_false, or_true, true_or, or_false, false_or, Nat.lt_one_iff, eq_self, Nat.zero_le, am_ko_v, am_ko_0, am_kil, Nat.reduceBEq, Int32.reduceLT, Int32.reduceLE, Int32.reduceAdd, Int32.reduceSub, i32_10, i32_01, not_true_eq_false, not_false_eq_true, Classical.not_not, nor_self, Nat.lt_add_one, nI_1, nI_pred, rf_n, i32_m0, i32_m1, reduceIte]
          exact hz
      · have c0 : v (f + i) p = 0 := by omega
        have c2 : ¬ 0 < nI (v (f + i) p) := by rw [c0]; decide
        have er : rrF v f B p s i (k + 1) a = rrF v f B p s (i + 1) k a := by rw [rrF_c, if_neg (fun z => c z.2.1)]
        have hz := ih (i + 1) a g (some (vi (nI (v (f + i) p)))) (by omega) hgs ha hg (fun g' b9 hg' => hq g' b9 (by rw [er]; exact hg'))
        rw [S227_78]
        simp only [S227_80, S227_82, S227_85, S227_86, S227_89, S227_91, S227_93, S227_94, S227_95, S227_98, S227_99, S227_101, S227_102, S227_103, S227_104, S227_105, S227_107, S227_109, S227_111, S227_112, S227_113, S227_114, S227_115, S227_118, S227_120, S227_123, S227_124, S227_127, S227_129, S227_130, S227_132, S227_133, S227_134, S227_135, S227_137, S227_138, S227_139, S227_142, S227_144, S227_145, S227_148, S227_149, S227_152, S227_154, S227_155, S227_158, S227_160, S227_161, S227_163, S227_164, S227_165, S227_166, S227_168, S227_169, S227_170, S227_173, gL_sI, gR_sI, gN_sI, gC_sI, gB_sI, gI_sL, gR_sL, gN_sL, gC_sL, gB_sL, gI_sR, gL_sR, gN_sR, gC_sR, gB_sR, gL_sIr, gR_sIr, gN_sIr, gC_sIr, gB_sIr, gI_sLr, gR_sLr, gN_sLr, gC_sLr, gB_sLr, gI_sRr, gL_sRr, gN_sRr, gC_sRr, gB_sRr, gI_sN, gL_sN, gR_sN, gC_sN, gB_sN, gI_sC, gL_sC, gR_sC, gN_sC, gB_sC, gI_sB, gL_sB, gR_sB, gN_sB, gC_sB, gB_sB, gB_am_mk, gI_am_ml, gL_am_ml, gR_am_ml, gB_am_ml, gI_am_add, gL_am_add, gC_am_add, gB_am_add, gI_am_ins, gL_am_ins, gC_am_ins, gB_am_ins, gI_am_rem, gL_am_rem, gC_am_rem, gB_am_rem, gI_am_thr, gL_am_thr, gR_am_thr, gN_am_thr, gB_am_thr, mI_sI_k, mI_sI_j, mI_sI_b, mI_sI_s, mI_sI_i, mI_sI_c, mL_sL_k, mL_sL_j, mL_sL_b, mL_sL_s, mL_sL_i, mL_sL_c, mR_sR_k, mR_sR_j, mR_sR_b, mR_sR_s, mR_sR_i, mR_sR_c, mI_sIr_k, mI_sIr_s, mI_sIr_i, mL_sLr_k, mL_sLr_s, mL_sLr_i, mR_sRr_k, mR_sRr_s, mR_sRr_i, mN_sN_k, mN_sN_i, mN_am_add_k, mN_am_add_s, mR_am_add_k, mN_am_ins_k, mN_am_ins_s, mR_am_ins_k, mN_am_rem_k, mN_am_rem_s, mR_am_rem_k, mR_am_add_s, mR_am_ins_s, mR_am_rem_s, mI_am_mk_k, mI_am_mk_s, mI_am_mk_i, mL_am_mk_k, mL_am_mk_s, mL_am_mk_i, mR_am_mk_k, mR_am_mk_s, mR_am_mk_i, mN_am_mk_k, mN_am_mk_i, mC_am_mk_k, mC_am_mk_s, mN_am_ml_k, mN_am_ml_i, mC_am_ml_k, mC_am_ml_s, mC_sC_k, mC_am_thr_k, sC_4 S, sC_97 S, sC_99 S, sC_100 S, sN_97 S, sN_99 S, sN_100 S, sR_4_81 S, sR_4_83 S, sR_4_84 S, c1, nI_add, ini_iff f31, nI_clamp f31, f7, o1, e30, ini_iff b31, nI_clamp b31, b18, o4, eb, c2, k0, k1, k2, k3, k4, k5, k6, k7, k8, k9, k10, k11, k12, k13, k14, k15, k16, k17, k18, k19, k20, k21, k22, k23, k24, k25, k26, k27, k28, k29, k30, k31, k32, k33, k34, k35, k36, k37, k38, k39, k40, k41, k42, k43, k44, k45, k46, k47, k48, k49, k50, k51, k52, k53, k54, k55, k56, k57, k58, k59, k60, k61, k62, k63, k64, k65, k66, k67, k68, k69, k70, k71, k72, k73, k74, k75, k76, k77, k78, k79, k80, k81, k82, k83, k84, k85, k86, k87, k88, k89, k90, k91, k92, k93, k94, k95, k96, k97, k98, k99, k100, true_and, and_true, and_self, if_true, if_false, ite_true, ite_false, Nat.lt_irrefl, List.length_nil, List.length_cons, Nat.reduceAdd, Nat.reduceLeDiff, Nat.reduceLT, Nat.reduceEqDiff, Nat.zero_lt_one, not_true, not_false_iff, bI_0, bI_1, ne_eq, reduceCtorEq, false_and, and_false, or_true, true_or, or_false, false_or, Nat.lt_one_iff, eq_self, Nat.zero_le, am_ko_v, am_ko_0, am_kil, Nat.reduceBEq, Int32.reduceLT, Int32.reduceLE, Int32.reduceAdd, Int32.reduceSub, i32_10, i32_01, not_true_eq_false, not_false_eq_true, Classical.not_not, nor_self, Nat.lt_add_one, nI_1, nI_pred, rf_n, i32_m0, i32_m1, reduceIte]
        exact hz
    · rw [if_neg tb] at eb
      have er : rrF v f B p s i (k + 1) a = rrF v f B p s (i + 1) k a := by rw [rrF_c, if_neg (fun z => tb z.1)]
      have hz := ih (i + 1) a g (some (vi (nI (v (f + i) p)))) (by omega) hgs ha hg (fun g' b9 hg' => hq g' b9 (by rw [er]; exact hg'))
      rw [S227_78]
      simp only [S227_80, S227_82, S227_85, S227_86, S227_89, S227_91, S227_93, S227_94, S227_95, S227_98, S227_99, S227_101, S227_102, S227_103, S227_104, S227_105, S227_107, S227_109, S227_111, S227_112, S227_113, S227_114, S227_115, S227_118, S227_120, S227_123, S227_124, S227_127, S227_129, S227_130, S227_132, S227_133, S227_134, S227_135, S227_137, S227_138, S227_139, S227_142, S227_144, S227_145, S227_148, S227_149, S227_152, S227_154, S227_155, S227_158, S227_160, S227_161, S227_163, S227_164, S227_165, S227_166, S227_168, S227_169, S227_170, S227_173, gL_sI, gR_sI, gN_sI, gC_sI, gB_sI, gI_sL, gR_sL, gN_sL, gC_sL, gB_sL, gI_sR, gL_sR, gN_sR, gC_sR, gB_sR, gL_sIr, gR_sIr, gN_sIr, gC_sIr, gB_sIr, gI_sLr, gR_sLr, gN_sLr, gC_sLr, gB_sLr, gI_sRr, gL_sRr, gN_sRr, gC_sRr, gB_sRr, gI_sN, gL_sN, gR_sN, gC_sN, gB_sN, gI_sC, gL_sC, gR_sC, gN_sC, gB_sC, gI_sB, gL_sB, gR_sB, gN_sB, gC_sB, gB_sB, gB_am_mk, gI_am_ml, gL_am_ml, gR_am_ml, gB_am_ml, gI_am_add, gL_am_add, gC_am_add, gB_am_add, gI_am_ins, gL_am_ins, gC_am_ins, gB_am_ins, gI_am_rem, gL_am_rem, gC_am_rem, gB_am_rem, gI_am_thr, gL_am_thr, gR_am_thr, gN_am_thr, gB_am_thr, mI_sI_k, mI_sI_j, mI_sI_b, mI_sI_s, mI_sI_i, mI_sI_c, mL_sL_k, mL_sL_j, mL_sL_b, mL_sL_s, mL_sL_i, mL_sL_c, mR_sR_k, mR_sR_j, mR_sR_b, mR_sR_s, mR_sR_i, mR_sR_c, mI_sIr_k, mI_sIr_s, mI_sIr_i, mL_sLr_k, mL_sLr_s, mL_sLr_i, mR_sRr_k, mR_sRr_s, mR_sRr_i, mN_sN_k, mN_sN_i, mN_am_add_k, mN_am_add_s, mR_am_add_k, mN_am_ins_k, mN_am_ins_s, mR_am_ins_k, mN_am_rem_k, mN_am_rem_s, mR_am_rem_k, mR_am_add_s, mR_am_ins_s, mR_am_rem_s, mI_am_mk_k, mI_am_mk_s, mI_am_mk_i, mL_am_mk_k, mL_am_mk_s, mL_am_mk_i, mR_am_mk_k, mR_am_mk_s, mR_am_mk_i, mN_am_mk_k, mN_am_mk_i, mC_am_mk_k, mC_am_mk_s, mN_am_ml_k, mN_am_ml_i, mC_am_ml_k, mC_am_ml_s, mC_sC_k, mC_am_thr_k, sC_4 S, sC_97 S, sC_99 S, sC_100 S, sN_97 S, sN_99 S, sN_100 S, sR_4_81 S, sR_4_83 S, sR_4_84 S, c1, nI_add, ini_iff f31, nI_clamp f31, f7, o1, e30, ini_iff b31, nI_clamp b31, b18, o4, eb, k0, k1, k2, k3, k4, k5, k6, k7, k8, k9, k10, k11, k12, k13, k14, k15, k16, k17, k18, k19, k20, k21, k22, k23, k24, k25, k26, k27, k28, k29, k30, k31, k32, k33, k34, k35, k36, k37, k38, k39, k40, k41, k42, k43, k44, k45, k46, k47, k48, k49, k50, k51, k52, k53, k54, k55, k56, k57, k58, k59, k60, k61, k62, k63, k64, k65, k66, k67, k68, k69, k70, k71, k72, k73, k74, k75, k76, k77, k78, k79, k80, k81, k82, k83, k84, k85, k86, k87, k88, k89, k90, k91, k92, k93, k94, k95, k96, k97, k98, k99, k100, true_and, and_true, and_self, if_true, if_false, ite_true, ite_false, Nat.lt_irrefl, List.length_nil, List.length_cons, Nat.reduceAdd, Nat.reduceLeDiff, Nat.reduceLT, Nat.reduceEqDiff, Nat.zero_lt_one, not_true, not_false_iff, bI_0, bI_1, ne_eq, reduceCtorEq, false_and, and_false, or_true, true_or, or_false, false_or, Nat.lt_one_iff, eq_self, Nat.zero_le, am_ko_v, am_ko_0, am_kil, Nat.reduceBEq, Int32.reduceLT, Int32.reduceLE, Int32.reduceAdd, Int32.reduceSub, i32_10, i32_01, not_true_eq_false, not_false_eq_true, Classical.not_not, nor_self, Nat.lt_add_one, nI_1, nI_pred, rf_n, i32_m0, i32_m1, reduceIte]
      exact hz
end SELR
/-! the reference's row of best sums, pure -/
section SLR
variable {v : Nat → Nat → Nat} {f lf : Nat}
abbrev shV (v : Nat → Nat → Nat) (f : Nat) : Nat → Nat → Nat := fun i p => v (f + i) p
theorem rrF_s {B : Nat → Nat} {p s : Nat} : ∀ (k i a : Nat), a ≤ rrF v f B p s i k a ∧ (∀ j, i ≤ j → j < i + k → 0 < v (f + j) p → s.testBit j = true → B (s - 2 ^ j) + v (f + j) p ≤ rrF v f B p s i k a) ∧ (rrF v f B p s i k a = a ∨ ∃ j, i ≤ j ∧ j < i + k ∧ 0 < v (f + j) p ∧ s.testBit j = true ∧ rrF v f B p s i k a = B (s - 2 ^ j) + v (f + j) p)
  | 0, i, a => ⟨Nat.le_refl a, fun j h1 h2 => absurd h2 (by omega), Or.inl rfl⟩
  | k + 1, i, a => by
    unfold rrF
    by_cases c : s.testBit i = true ∧ 0 < v (f + i) p ∧ a < B (s - 2 ^ i) + v (f + i) p
    · rw [if_pos c]
      obtain ⟨h1, h2, h3⟩ := rrF_s (B := B) (p := p) (s := s) k (i + 1) (B (s - 2 ^ i) + v (f + i) p)
      refine ⟨Nat.le_trans (Nat.le_of_lt c.2.2) h1, fun j g1 g2 g3 g4 => ?_, ?_⟩
      · by_cases e : j = i
        · subst e; exact h1
        · exact h2 j (by omega) (by omega) g3 g4
      · rcases h3 with h3 | ⟨j, g1, g2, g3, g4, g5⟩
        · exact Or.inr ⟨i, Nat.le_refl i, by omega, c.2.1, c.1, h3⟩
        · exact Or.inr ⟨j, by omega, by omega, g3, g4, g5⟩
    · rw [if_neg c]
      obtain ⟨h1, h2, h3⟩ := rrF_s (B := B) (p := p) (s := s) k (i + 1) a
      refine ⟨h1, fun j g1 g2 g3 g4 => ?_, ?_⟩
      · by_cases e : j = i
        · subst e
          have : ¬ a < B (s - 2 ^ j) + v (f + j) p := fun q => c ⟨g4, g3, q⟩
          exact Nat.le_trans (Nat.le_of_not_lt this) h1
        · exact h2 j (by omega) (by omega) g3 g4
      · rcases h3 with h3 | ⟨j, g1, g2, g3, g4, g5⟩
        · exact Or.inl h3
        · exact Or.inr ⟨j, by omega, by omega, g3, g4, g5⟩
/-- the row behind p persons, these out of it -/
def DR (v : Nat → Nat → Nat) (f lf : Nat) (O : Nat → Bool) : Nat → Nat → Nat
  | 0, _ => 0
  | p + 1, t => if O p = true then DR v f lf O p t else if 1 ≤ t then rrF v f (DR v f lf O p) p t 0 lf (DR v f lf O p t) else DR v f lf O p t
def bP (O : Nat → Bool) : Nat → Prop := fun p => O p = true
def addB (O : Nat → Bool) (p : Nat) : Nat → Bool := fun q => O q || decide (q = p)
theorem addB_p {O : Nat → Bool} {p : Nat} : bP (addB O p) = padd (bP O) p := by
  funext q
  unfold bP addB padd
  simp
theorem noB_p : bP (fun _ => false) = noP := by
  funext q
  unfold bP noP
  simp
theorem DR_top {O : Nat → Bool} (hl : lf ≤ 7) : ∀ p t, t < 2 ^ lf → Top (alV (shV v f)) (wS (shV v f)) p (bP O) (btS t) (DR v f lf O p t)
  | 0, t, _ => Top_0
  | p + 1, t, ht => by
    have h128 : t < 128 := Nat.lt_of_lt_of_le ht (show 2 ^ lf ≤ 2 ^ 7 from Nat.pow_le_pow_right (by decide) hl)
    have ih := DR_top (O := O) hl p
    unfold DR
    by_cases co : O p = true
    · rw [if_pos co]
      exact Top_out co (ih t ht)
    rw [if_neg co]
    by_cases c : 1 ≤ t
    · rw [if_pos c]
      obtain ⟨h1, h2, h3⟩ := rrF_s (v := v) (f := f) (B := DR v f lf O p) (p := p) (s := t) lf 0 (DR v f lf O p t)
      refine Top_step co (ih t ht) ?_ h1 (fun i b g1 g2 g3 => ?_) (fun i g1 => ⟨_, by rw [bt_sub h128 g1]; exact ih _ (Nat.lt_of_le_of_lt (Nat.sub_le _ _) ht)⟩)
      · rcases h3 with h3 | ⟨j, _, g2, g3, g4, g5⟩
        · exact Or.inl h3
        · exact Or.inr ⟨j, g4, g3, _, by rw [bt_sub h128 g4]; exact ih _ (Nat.lt_of_le_of_lt (Nat.sub_le _ _) ht), g5⟩
      · have := h2 i (Nat.zero_le i) (by have := bt_lt ht g1; omega) g2 g1
        rw [bt_sub h128 g1] at g3
        rw [Top_one g3 (ih _ (Nat.lt_of_le_of_lt (Nat.sub_le _ _) ht))]
        exact this
    · rw [if_neg c]
      have t0 : t = 0 := by omega
      subst t0
      have hz : ∀ i, ¬ btS 0 i := fun i e => by
        unfold btS at e
        rw [Nat.zero_testBit] at e
        cases e
      exact Top_step co (ih 0 ht) (Or.inl rfl) (Nat.le_refl _) (fun i b g => absurd g (hz i)) (fun i g => absurd g (hz i))
theorem DR_lt {O : Nat → Bool} (hl : lf ≤ 7) (hv : ∀ i p, v i p ≤ 100000) (p t : Nat) (ht : t < 2 ^ lf) : DR v f lf O p t < 1000000 := by
  have h7 : ∀ i, btS t i → i < 7 := fun i hi => by have := bt_lt ht hi; omega
  have h1 := Had_100 (v := shV v f) (fun i p => hv (f + i) p) 7 h7 (DR_top (O := O) hl p t ht).1
  omega
/-- houses counted from another -/
theorem Had_sh {f : Nat} {al : Nat → Nat → Prop} {w : Nat → Nat → Nat} : ∀ {P : Nat} {O S S' : Nat → Prop} {x : Nat}, (∀ i, S i ↔ f ≤ i ∧ S' (i - f)) → (Had (fun i p => al (f + i) p) (fun i p => w (f + i) p) P O S' x ↔ Had al w P O S x)
  | 0, _, _, _, _, _ => Iff.rfl
  | P + 1, O, S, S', x, h => by
    have hs : ∀ i, ∀ j, hsub S (f + i) j ↔ f ≤ j ∧ hsub S' i (j - f) := fun i j => by
      unfold hsub
      rw [h j]
      constructor
      · rintro ⟨⟨a, b⟩, c⟩; exact ⟨a, b, by omega⟩
      · rintro ⟨a, b, c⟩; exact ⟨⟨a, b⟩, by omega⟩
    constructor
    · rintro (g | ⟨g1, i, g2, g3, y, g4, g5⟩)
      · exact Or.inl ((Had_sh h).mp g)
      · exact Or.inr ⟨g1, f + i, (h _).mpr ⟨by omega, by rw [show f + i - f = i by omega]; exact g2⟩, g3, y, (Had_sh (hs i)).mp g4, g5⟩
    · rintro (g | ⟨g1, i, g2, g3, y, g4, g5⟩)
      · exact Or.inl ((Had_sh h).mpr g)
      · obtain ⟨a, b⟩ := (h i).mp g2
        have e : f + (i - f) = i := by omega
        refine Or.inr ⟨g1, i - f, b, ?_, y, (Had_sh (hs (i - f))).mpr (by rw [e]; exact g4), ?_⟩
        · show al (f + (i - f)) P
          rw [e]; exact g3
        · show x = y + w (f + (i - f)) P
          rw [e]; exact g5
theorem ones_bit : ∀ lf, lf ≤ 7 → ∀ i, i < 8 → (2 ^ lf - 1).testBit i = decide (i < lf) := by decide +kernel
theorem ones_geS (hl : lf ≤ 7) (i : Nat) : geS f (f + lf) i ↔ f ≤ i ∧ btS (2 ^ lf - 1) (i - f) := by
  unfold geS btS
  rcases Nat.lt_or_ge (i - f) 8 with c | c
  · rw [ones_bit lf hl _ c, decide_eq_true_iff]
    omega
  · have h7 : 2 ^ lf ≤ 2 ^ 7 := Nat.pow_le_pow_right (by decide) hl
    rw [bt_hi (by omega) (by omega)]
    constructor
    · rintro ⟨a, b⟩; omega
    · rintro ⟨a, b⟩; cases b
theorem DR_geS {O : Nat → Bool} {P : Nat} (hl : lf ≤ 7) : Top (alV v) (wS v) P (bP O) (geS f (f + lf)) (DR v f lf O P (2 ^ lf - 1)) := by
  have hp := Nat.two_pow_pos lf
  have h := DR_top (v := v) (f := f) (lf := lf) (O := O) hl P (2 ^ lf - 1) (by omega)
  have e : ∀ x, Had (alV (shV v f)) (wS (shV v f)) P (bP O) (btS (2 ^ lf - 1)) x ↔ Had (alV v) (wS v) P (bP O) (geS f (f + lf)) x := fun x => Had_sh (f := f) (al := alV v) (w := wS v) (ones_geS hl)
  exact ⟨(e _).mp h.1, fun y hy => h.2 y ((e y).mpr hy)⟩
end SLR
/-- who is out, as bits -/
def outP (x : Int64) (O : Nat → Bool) : Prop := ∀ p, p < 60 → (x >>> ((nI p).toInt64 &&& 63)) &&& 1 = (if O p = true then 1 else 0)
theorem outP_0 : outP 0 (fun _ => false) := by
  have : ∀ p, p < 60 → ((0 : Int64) >>> ((nI p).toInt64 &&& 63)) &&& 1 = 0 := by decide +kernel
  exact this
section SELR2
variable {d m f lf P : Nat} {σ : aM} {Q : aR → aM → Prop} {hs : Nat → Nat} {v : Nat → Nat → Nat} {B : Nat → Nat} {O : Nat → Bool} {out : Int64} {x5 : Int32}
theorem L227s {p : Nat} (h : RFR σ m hs v) (hp : p < 60) (hl : f + lf = m) (hB : ∀ t, t < 2 ^ lf → B t < 1000000) : ∀ s g (a8 a9 : Option aV), s < 2 ^ lf → (∀ t, t ≤ s → g t = nI (B t)) → (∀ (g' : Nat → Int32) (b8 b9 : Option aV), g' = (fun t => if 1 ≤ t ∧ t ≤ s then nI (rrF v f B p t 0 lf (B t)) else g t) → WP d 227 182 [some (vr (some (4, 0))), some (vi (nI f)), some (vl out), none, some (vi (nI lf)), some (vi x5), some (vi (nI p)), some (vi (nI 0)), b8, b9] [] (restR σ g') Q) → WP d 227 70 [some (vr (some (4, 0))), some (vi (nI f)), some (vl out), none, some (vi (nI lf)), some (vi x5), some (vi (nI p)), some (vi (nI s)), a8, a9] [] (restR σ g) Q := by
  have h7 := h.2.2.1
  have hp7 : 2 ^ lf ≤ 2 ^ 7 := Nat.pow_le_pow_right (by decide) (by omega)
  intro s
  induction s with
  | zero =>
    intro g a8 a9 _ _ hq
    have hz := hq g a8 a9 (by funext t; rw [if_neg (by omega)])
    rw [S227_70]
    simp only [S227_72, nI_0, true_and, and_true, and_self, if_true, if_false, ite_true, ite_false, Nat.lt_irrefl, List.length_nil, List.length_cons, Nat.reduceAdd, Nat.reduceLeDiff, Nat.reduceLT, Nat.reduceEqDiff, Nat.zero_lt_one, not_true, not_false_iff, bI_0, bI_1, ne_eq, reduceCtorEq, false_and, and_false, or_true, true_or, or_false, false_or, Nat.lt_one_iff, eq_self, Nat.zero_le, am_ko_v, am_ko_0, am_kil, Nat.reduceBEq, Int32.reduceLT, Int32.reduceLE, Int32.reduceAdd, Int32.reduceSub, i32_10, i32_01, not_true_eq_false, not_false_eq_true, Classical.not_not, nor_self, Nat.lt_add_one, nI_1, nI_pred, rf_n, i32_m0, i32_m1, reduceIte]
    rw [nI_0] at hz
    exact hz
  | succ s ih =>
    intro g a8 a9 hs2 hg hq
    have c1 : 0 < nI (s + 1) := by have := nI_lt (Nat.succ_pos s) (show s + 1 < 2 ^ 31 by omega); rwa [nI_0] at this
    have em : nI (s + 1) + (-1) = nI s := by rw [← nI_pred s, Int32.sub_eq_add_neg]
    rw [S227_70]
    simp only [S227_72, S227_75, S227_76, c1, true_and, and_true, and_self, if_true, if_false, ite_true, ite_false, Nat.lt_irrefl, List.length_nil, List.length_cons, Nat.reduceAdd, Nat.reduceLeDiff, Nat.reduceLT, Nat.reduceEqDiff, Nat.zero_lt_one, not_true, not_false_iff, bI_0, bI_1, ne_eq, reduceCtorEq, false_and, and_false, or_true, true_or, or_false, false_or, Nat.lt_one_iff, eq_self, Nat.zero_le, am_ko_v, am_ko_0, am_kil, Nat.reduceBEq, Int32.reduceLT, Int32.reduceLE, Int32.reduceAdd, Int32.reduceSub, i32_10, i32_01, not_true_eq_false, not_false_eq_true, Classical.not_not, nor_self, Nat.lt_add_one, nI_1, nI_pred, rf_n, i32_m0, i32_m1, reduceIte]
    rw [← nI_0]
    refine L227i (B := B) h hp hl hs2 lf 0 (B (s + 1)) g a9 (by omega) (hg _ (Nat.le_refl _)) (by have := hB _ hs2; omega) (fun t ht => ⟨hg t (by omega), hB t (by omega)⟩) (fun g' b9 hg' => ?_)
    simp only [S227_176, S227_179, em]
    refine ih g' _ b9 (by omega) (fun t ht => ?_) (fun g2 b8 b9' hg2 => hq g2 b8 b9' ?_)
    · rw [hg']
      show (if t = s + 1 then _ else g t) = _
      rw [if_neg (by omega)]
      exact hg t (by omega)
    · rw [hg2, hg']
      funext t
      by_cases q : t = s + 1
      · subst q
        rw [if_neg (by omega), if_pos (by omega)]
        exact if_pos rfl
      · by_cases q2 : 1 ≤ t ∧ t ≤ s
        · rw [if_pos q2, if_pos (by omega)]
        · rw [if_neg q2, if_neg (show ¬ (1 ≤ t ∧ t ≤ s + 1) by omega)]
          exact if_neg q
theorem L227p (h : RFR σ m hs v) (hv : ∀ i p, v i p ≤ 100000) (hP : P ≤ 60) (e2 : gI σ 4 0 2 = nI P) (hl : f + lf = m) (ho : outP out O) (hq : ∀ g', Q (some (some (vi (nI (DR v f lf O P (2 ^ lf - 1)))))) (restR σ g')) : ∀ k p g (a7 a8 a9 : Option aV), p + k = P → (∀ t, t < 2 ^ lf → g t = nI (DR v f lf O p t)) → WP d 227 41 [some (vr (some (4, 0))), some (vi (nI f)), some (vl out), none, some (vi (nI lf)), some (vi (nI (2 ^ lf))), some (vi (nI p)), a7, a8, a9] [] (restR σ g) Q := by
  have S0 : Sh σ := h.1
  have h7 := h.2.2.1
  have hl7 : lf ≤ 7 := by omega
  have hp7 : 2 ^ lf ≤ 2 ^ 7 := Nat.pow_le_pow_right (by decide) hl7
  have hpos := Nat.two_pow_pos lf
  obtain ⟨M, hM⟩ : ∃ M, 2 ^ lf = M + 1 := ⟨2 ^ lf - 1, by omega⟩
  have em : nI (2 ^ lf) - 1 = nI M := by rw [hM, nI_pred]
  have m31 : M < 2147483648 := by omega
  have m128 : M < 128 := by omega
  intro k
  induction k with
  | zero =>
    intro p g a7 a8 a9 hi hg
    have S : Sh (restR σ g) := S0
    have e1 : p = P := by omega
    subst e1
    have c1 : ¬ nI p < nI p := nI_nlt (Nat.le_refl p) (by omega)
    have hz := hq g
    have hr : gI (restR σ g) 100 0 M = nI (DR v f lf O p (2 ^ lf - 1)) := by
      rw [show 2 ^ lf - 1 = M by omega, ← hg M (by omega)]
      exact mI_sIr_s
    have e2' : gI (restR σ g) 4 0 2 = nI p := e2
    rw [S227_41]
    simp only [S227_43, S227_44, S227_47, S227_50, S227_51, S227_53, S227_54, S227_55, S227_56, S227_57, S227_58, S227_61, S227_64, S227_66, S227_67, S227_68, S227_72, S227_75, S227_76, S227_80, S227_82, S227_85, S227_86, S227_89, S227_91, S227_93, S227_94, S227_95, S227_98, S227_99, S227_101, S227_102, S227_103, S227_104, S227_105, S227_107, S227_109, S227_111, S227_112, S227_113, S227_114, S227_115, S227_118, S227_120, S227_123, S227_124, S227_127, S227_129, S227_130, S227_132, S227_133, S227_134, S227_135, S227_137, S227_138, S227_139, S227_142, S227_144, S227_145, S227_148, S227_149, S227_152, S227_154, S227_155, S227_158, S227_160, S227_161, S227_163, S227_164, S227_165, S227_166, S227_168, S227_169, S227_170, S227_173, S227_176, S227_179, S227_182, S227_185, S227_188, S227_189, S227_192, S227_194, S227_195, S227_196, S227_197, gL_sI, gR_sI, gN_sI, gC_sI, gB_sI, gI_sL, gR_sL, gN_sL, gC_sL, gB_sL, gI_sR, gL_sR, gN_sR, gC_sR, gB_sR, gL_sIr, gR_sIr, gN_sIr, gC_sIr, gB_sIr, gI_sLr, gR_sLr, gN_sLr, gC_sLr, gB_sLr, gI_sRr, gL_sRr, gN_sRr, gC_sRr, gB_sRr, gI_sN, gL_sN, gR_sN, gC_sN, gB_sN, gI_sC, gL_sC, gR_sC, gN_sC, gB_sC, gI_sB, gL_sB, gR_sB, gN_sB, gC_sB, gB_sB, gB_am_mk, gI_am_ml, gL_am_ml, gR_am_ml, gB_am_ml, gI_am_add, gL_am_add, gC_am_add, gB_am_add, gI_am_ins, gL_am_ins, gC_am_ins, gB_am_ins, gI_am_rem, gL_am_rem, gC_am_rem, gB_am_rem, gI_am_thr, gL_am_thr, gR_am_thr, gN_am_thr, gB_am_thr, mI_sI_k, mI_sI_j, mI_sI_b, mI_sI_s, mI_sI_i, mI_sI_c, mL_sL_k, mL_sL_j, mL_sL_b, mL_sL_s, mL_sL_i, mL_sL_c, mR_sR_k, mR_sR_j, mR_sR_b, mR_sR_s, mR_sR_i, mR_sR_c, mI_sIr_k, mI_sIr_s, mI_sIr_i, mL_sLr_k, mL_sLr_s, mL_sLr_i, mR_sRr_k, mR_sRr_s, mR_sRr_i, mN_sN_k, mN_sN_i, mN_am_add_k, mN_am_add_s, mR_am_add_k, mN_am_ins_k, mN_am_ins_s, mR_am_ins_k, mN_am_rem_k, mN_am_rem_s, mR_am_rem_k, mR_am_add_s, mR_am_ins_s, mR_am_rem_s, mI_am_mk_k, mI_am_mk_s, mI_am_mk_i, mL_am_mk_k, mL_am_mk_s, mL_am_mk_i, mR_am_mk_k, mR_am_mk_s, mR_am_mk_i, mN_am_mk_k, mN_am_mk_i, mC_am_mk_k, mC_am_mk_s, mN_am_ml_k, mN_am_ml_i, mC_am_ml_k, mC_am_ml_s, mC_sC_k, mC_am_thr_k, sC_3 S, sC_4 S, sR_4_81 S, sC_97 S, sN_97 S, sR_4_83 S, sC_99 S, sN_99 S, sR_4_84 S, sC_100 S, sN_100 S, k0, k1, k2, k3, k4, k5, k6, k7, k8, k9, k10, k11, k12, k13, k14, k15, k16, k17, k18, k19, k20, k21, k22, k23, k24, k25, k26, k27, k28, k29, k30, k31, k32, k33, k34, k35, k36, k37, k38, k39, k40, k41, k42, k43, k44, k45, k46, k47, k48, k49, k50, k51, k52, k53, k54, k55, k56, k57, k58, k59, k60, k61, k62, k63, k64, k65, k66, k67, k68, k69, k70, k71, k72, k73, k74, k75, k76, k77, k78, k79, k80, k81, k82, k83, k84, k85, k86, k87, k88, k89, k90, k91, k92, k93, k94, k95, k96, k97, k98, k99, k100, e2', c1, em, ini_iff m31, nI_clamp m31, m128, hr, true_and, and_true, and_self, if_true, if_false, ite_true, ite_false, Nat.lt_irrefl, List.length_nil, List.length_cons, Nat.reduceAdd, Nat.reduceLeDiff, Nat.reduceLT, Nat.reduceEqDiff, Nat.zero_lt_one, not_true, not_false_iff, bI_0, bI_1, ne_eq, reduceCtorEq, false_and, and_false, or_true, true_or, or_false, false_or, Nat.lt_one_iff, eq_self, Nat.zero_le, am_ko_v, am_ko_0, am_kil, Nat.reduceBEq, Int32.reduceLT, Int32.reduceLE, Int32.reduceAdd, Int32.reduceSub, i32_10, i32_01, not_true_eq_false, not_false_eq_true, Classical.not_not, nor_self, Nat.lt_add_one, nI_1, nI_pred, rf_n, i32_m0, i32_m1, reduceIte]
    exact hz
  | succ k ih =>
    intro p g a7 a8 a9 hi hg
    have S : Sh (restR σ g) := S0
    have hp : p < 60 := by omega
    have c1 : nI p < nI P := nI_lt (by omega) (by omega)
    have e2' : gI (restR σ g) 4 0 2 = nI P := e2
    have eo := ho p hp
    by_cases co : O p = true
    · rw [if_pos co] at eo
      have cc : lg_cmp (1 : Int64) 1 = 0 := by decide
      have hz := ih (p + 1) g a7 a8 a9 (by omega) (fun t ht => by
        show _ = nI (if O p = true then DR v f lf O p t else _)
        rw [if_pos co]; exact hg t ht)
      rw [S227_41]
      simp only [S227_43, S227_44, S227_47, S227_50, S227_51, S227_53, S227_54, S227_55, S227_56, S227_57, S227_58, S227_61, S227_64, S227_66, S227_67, S227_68, gL_sI, gR_sI, gN_sI, gC_sI, gB_sI, gI_sL, gR_sL, gN_sL, gC_sL, gB_sL, gI_sR, gL_sR, gN_sR, gC_sR, gB_sR, gL_sIr, gR_sIr, gN_sIr, gC_sIr, gB_sIr, gI_sLr, gR_sLr, gN_sLr, gC_sLr, gB_sLr, gI_sRr, gL_sRr, gN_sRr, gC_sRr, gB_sRr, gI_sN, gL_sN, gR_sN, gC_sN, gB_sN, gI_sC, gL_sC, gR_sC, gN_sC, gB_sC, gI_sB, gL_sB, gR_sB, gN_sB, gC_sB, gB_sB, gB_am_mk, gI_am_ml, gL_am_ml, gR_am_ml, gB_am_ml, gI_am_add, gL_am_add, gC_am_add, gB_am_add, gI_am_ins, gL_am_ins, gC_am_ins, gB_am_ins, gI_am_rem, gL_am_rem, gC_am_rem, gB_am_rem, gI_am_thr, gL_am_thr, gR_am_thr, gN_am_thr, gB_am_thr, mI_sI_k, mI_sI_j, mI_sI_b, mI_sI_s, mI_sI_i, mI_sI_c, mL_sL_k, mL_sL_j, mL_sL_b, mL_sL_s, mL_sL_i, mL_sL_c, mR_sR_k, mR_sR_j, mR_sR_b, mR_sR_s, mR_sR_i, mR_sR_c, mI_sIr_k, mI_sIr_s, mI_sIr_i, mL_sLr_k, mL_sLr_s, mL_sLr_i, mR_sRr_k, mR_sRr_s, mR_sRr_i, mN_sN_k, mN_sN_i, mN_am_add_k, mN_am_add_s, mR_am_add_k, mN_am_ins_k, mN_am_ins_s, mR_am_ins_k, mN_am_rem_k, mN_am_rem_s, mR_am_rem_k, mR_am_add_s, mR_am_ins_s, mR_am_rem_s, mI_am_mk_k, mI_am_mk_s, mI_am_mk_i, mL_am_mk_k, mL_am_mk_s, mL_am_mk_i, mR_am_mk_k, mR_am_mk_s, mR_am_mk_i, mN_am_mk_k, mN_am_mk_i, mC_am_mk_k, mC_am_mk_s, mN_am_ml_k, mN_am_ml_i, mC_am_ml_k, mC_am_ml_s, mC_sC_k, mC_am_thr_k, sC_3 S, sC_4 S, sR_4_81 S, sC_97 S, sN_97 S, sR_4_83 S, sC_99 S, sN_99 S, sR_4_84 S, sC_100 S, sN_100 S, k0, k1, k2, k3, k4, k5, k6, k7, k8, k9, k10, k11, k12, k13, k14, k15, k16, k17, k18, k19, k20, k21, k22, k23, k24, k25, k26, k27, k28, k29, k30, k31, k32, k33, k34, k35, k36, k37, k38, k39, k40, k41, k42, k43, k44, k45, k46, k47, k48, k49, k50, k51, k52, k53, k54, k55, k56, k57, k58, k59, k60, k61, k62, k63, k64, k65, k66, k67, k68, k69, k70, k71, k72, k73, k74, k75, k76, k77, k78, k79, k80, k81, k82, k83, k84, k85, k86, k87, k88, k89, k90, k91, k92, k93, k94, k95, k96, k97, k98, k99, k100, e2', c1, eo, cc, true_and, and_true, and_self, if_true, if_false, ite_true, ite_false, Nat.lt_irrefl, List.length_nil, List.length_cons, Nat.reduceAdd, Nat.reduceLeDiff, Nat.reduceLT, Nat.reduceEqDiff, Nat.zero_lt_one, not_true, not_false_iff, bI_0, bI_1, ne_eq, reduceCtorEq, false_and, and_false, or_true, true_or, or_false, false_or, Nat.lt_one_iff, eq_self, Nat.zero_le, am_ko_v, am_ko_0, am_kil, Nat.reduceBEq, Int32.reduceLT, Int32.reduceLE, Int32.reduceAdd, Int32.reduceSub, i32_10, i32_01, not_true_eq_false, not_false_eq_true, Classical.not_not, nor_self, Nat.lt_add_one, nI_1, nI_pred, rf_n, i32_m0, i32_m1, reduceIte]
      simp only [S227_182, S227_185, gL_sI, gR_sI, gN_sI, gC_sI, gB_sI, gI_sL, gR_sL, gN_sL, gC_sL, gB_sL, gI_sR, gL_sR, gN_sR, gC_sR, gB_sR, gL_sIr, gR_sIr, gN_sIr, gC_sIr, gB_sIr, gI_sLr, gR_sLr, gN_sLr, gC_sLr, gB_sLr, gI_sRr, gL_sRr, gN_sRr, gC_sRr, gB_sRr, gI_sN, gL_sN, gR_sN, gC_sN, gB_sN, gI_sC, gL_sC, gR_sC, gN_sC, gB_sC, gI_sB, gL_sB, gR_sB, gN_sB, gC_sB, gB_sB, gB_am_mk, gI_am_ml, gL_am_ml, gR_am_ml, gB_am_ml, gI_am_add, gL_am_add, gC_am_add, gB_am_add, gI_am_ins, gL_am_ins, gC_am_ins, gB_am_ins, gI_am_rem, gL_am_rem, gC_am_rem, gB_am_rem, gI_am_thr, gL_am_thr, gR_am_thr, gN_am_thr, gB_am_thr, mI_sI_k, mI_sI_j, mI_sI_b, mI_sI_s, mI_sI_i, mI_sI_c, mL_sL_k, mL_sL_j, mL_sL_b, mL_sL_s, mL_sL_i, mL_sL_c, mR_sR_k, mR_sR_j, mR_sR_b, mR_sR_s, mR_sR_i, mR_sR_c, mI_sIr_k, mI_sIr_s, mI_sIr_i, mL_sLr_k, mL_sLr_s, mL_sLr_i, mR_sRr_k, mR_sRr_s, mR_sRr_i, mN_sN_k, mN_sN_i, mN_am_add_k, mN_am_add_s, mR_am_add_k, mN_am_ins_k, mN_am_ins_s, mR_am_ins_k, mN_am_rem_k, mN_am_rem_s, mR_am_rem_k, mR_am_add_s, mR_am_ins_s, mR_am_rem_s, mI_am_mk_k, mI_am_mk_s, mI_am_mk_i, mL_am_mk_k, mL_am_mk_s, mL_am_mk_i, mR_am_mk_k, mR_am_mk_s, mR_am_mk_i, mN_am_mk_k, mN_am_mk_i, mC_am_mk_k, mC_am_mk_s, mN_am_ml_k, mN_am_ml_i, mC_am_ml_k, mC_am_ml_s, mC_sC_k, mC_am_thr_k, sC_3 S, sC_4 S, sR_4_81 S, sC_97 S, sN_97 S, sR_4_83 S, sC_99 S, sN_99 S, sR_4_84 S, sC_100 S, sN_100 S, k0, k1, k2, k3, k4, k5, k6, k7, k8, k9, k10, k11, k12, k13, k14, k15, k16, k17, k18, k19, k20, k21, k22, k23, k24, k25, k26, k27, k28, k29, k30, k31, k32, k33, k34, k35, k36, k37, k38, k39, k40, k41, k42, k43, k44, k45, k46, k47, k48, k49, k50, k51, k52, k53, k54, k55, k56, k57, k58, k59, k60, k61, k62, k63, k64, k65, k66, k67, k68, k69, k70, k71, k72, k73, k74, k75, k76, k77, k78, k79, k80, k81, k82, k83, k84, k85, k86, k87, k88, k89, k90, k91, k92, k93, k94, k95, k96, k97, k98, k99, k100, nI_add, true_and, and_true, and_self, if_true, if_false, ite_true, ite_false, Nat.lt_irrefl, List.length_nil, List.length_cons, Nat.reduceAdd, Nat.reduceLeDiff, Nat.reduceLT, Nat.reduceEqDiff, Nat.zero_lt_one, not_true, not_false_iff, bI_0, bI_1, ne_eq, reduceCtorEq, false_and, and_false, or_true, true_or, or_false, false_or, Nat.lt_one_iff, eq_self, Nat.zero_le, am_ko_v, am_ko_0, am_kil, Nat.reduceBEq, Int32.reduceLT, Int32.reduceLE, Int32.reduceAdd, Int32.reduceSub, i32_10, i32_01, not_true_eq_false, not_false_eq_true, Classical.not_not, nor_self, Nat.lt_add_one, nI_1, nI_pred, rf_n, i32_m0, i32_m1, reduceIte]
      exact hz
    · rw [if_neg co] at eo
      have cc : ¬ lg_cmp (0 : Int64) 1 = 0 := by decide
      rw [S227_41]
      simp only [S227_43, S227_44, S227_47, S227_50, S227_51, S227_53, S227_54, S227_55, S227_56, S227_57, S227_58, S227_61, S227_64, S227_66, S227_67, S227_68, gL_sI, gR_sI, gN_sI, gC_sI, gB_sI, gI_sL, gR_sL, gN_sL, gC_sL, gB_sL, gI_sR, gL_sR, gN_sR, gC_sR, gB_sR, gL_sIr, gR_sIr, gN_sIr, gC_sIr, gB_sIr, gI_sLr, gR_sLr, gN_sLr, gC_sLr, gB_sLr, gI_sRr, gL_sRr, gN_sRr, gC_sRr, gB_sRr, gI_sN, gL_sN, gR_sN, gC_sN, gB_sN, gI_sC, gL_sC, gR_sC, gN_sC, gB_sC, gI_sB, gL_sB, gR_sB, gN_sB, gC_sB, gB_sB, gB_am_mk, gI_am_ml, gL_am_ml, gR_am_ml, gB_am_ml, gI_am_add, gL_am_add, gC_am_add, gB_am_add, gI_am_ins, gL_am_ins, gC_am_ins, gB_am_ins, gI_am_rem, gL_am_rem, gC_am_rem, gB_am_rem, gI_am_thr, gL_am_thr, gR_am_thr, gN_am_thr, gB_am_thr, mI_sI_k, mI_sI_j, mI_sI_b, mI_sI_s, mI_sI_i, mI_sI_c, mL_sL_k, mL_sL_j, mL_sL_b, mL_sL_s, mL_sL_i, mL_sL_c, mR_sR_k, mR_sR_j, mR_sR_b, mR_sR_s, mR_sR_i, mR_sR_c, mI_sIr_k, mI_sIr_s, mI_sIr_i, mL_sLr_k, mL_sLr_s, mL_sLr_i, mR_sRr_k, mR_sRr_s, mR_sRr_i, mN_sN_k, mN_sN_i, mN_am_add_k, mN_am_add_s, mR_am_add_k, mN_am_ins_k, mN_am_ins_s, mR_am_ins_k, mN_am_rem_k, mN_am_rem_s, mR_am_rem_k, mR_am_add_s, mR_am_ins_s, mR_am_rem_s, mI_am_mk_k, mI_am_mk_s, mI_am_mk_i, mL_am_mk_k, mL_am_mk_s, mL_am_mk_i, mR_am_mk_k, mR_am_mk_s, mR_am_mk_i, mN_am_mk_k, mN_am_mk_i, mC_am_mk_k, mC_am_mk_s, mN_am_ml_k, mN_am_ml_i, mC_am_ml_k, mC_am_ml_s, mC_sC_k, mC_am_thr_k, sC_3 S, sC_4 S, sR_4_81 S, sC_97 S, sN_97 S, sR_4_83 S, sC_99 S, sN_99 S, sR_4_84 S, sC_100 S, sN_100 S, k0, k1, k2, k3, k4, k5, k6, k7, k8, k9, k10, k11, k12, k13, k14, k15, k16, k17, k18, k19, k20, k21, k22, k23, k24, k25, k26, k27, k28, k29, k30, k31, k32, k33, k34, k35, k36, k37, k38, k39, k40, k41, k42, k43, k44, k45, k46, k47, k48, k49, k50, k51, k52, k53, k54, k55, k56, k57, k58, k59, k60, k61, k62, k63, k64, k65, k66, k67, k68, k69, k70, k71, k72, k73, k74, k75, k76, k77, k78, k79, k80, k81, k82, k83, k84, k85, k86, k87, k88, k89, k90, k91, k92, k93, k94, k95, k96, k97, k98, k99, k100, e2', c1, eo, cc, em, true_and, and_true, and_self, if_true, if_false, ite_true, ite_false, Nat.lt_irrefl, List.length_nil, List.length_cons, Nat.reduceAdd, Nat.reduceLeDiff, Nat.reduceLT, Nat.reduceEqDiff, Nat.zero_lt_one, not_true, not_false_iff, bI_0, bI_1, ne_eq, reduceCtorEq, false_and, and_false, or_true, true_or, or_false, false_or, Nat.lt_one_iff, eq_self, Nat.zero_le, am_ko_v, am_ko_0, am_kil, Nat.reduceBEq, Int32.reduceLT, Int32.reduceLE, Int32.reduceAdd, Int32.reduceSub, i32_10, i32_01, not_true_eq_false, not_false_eq_true, Classical.not_not, nor_self, Nat.lt_add_one, nI_1, nI_pred, rf_n, i32_m0, i32_m1, reduceIte]
      refine L227s (B := DR v f lf O p) h hp hl (fun t ht => DR_lt hl7 hv p t ht) M g a8 a9 (by omega) (fun t ht => hg t (by omega)) (fun g' b8 b9 hg' => ?_)
      have hz := ih (p + 1) g' (some (vi (nI 0))) b8 b9 (by omega) (fun t ht => by
        show _ = nI (if O p = true then DR v f lf O p t else if 1 ≤ t then rrF v f (DR v f lf O p) p t 0 lf (DR v f lf O p t) else DR v f lf O p t)
        rw [if_neg co, hg']
        by_cases q : 1 ≤ t
        · rw [if_pos q]
          exact if_pos ⟨q, by omega⟩
        · rw [if_neg q, ← hg t ht]
          exact if_neg (fun z => q z.1))
      have S : Sh (restR σ g') := S0
      simp only [S227_182, S227_185, gL_sI, gR_sI, gN_sI, gC_sI, gB_sI, gI_sL, gR_sL, gN_sL, gC_sL, gB_sL, gI_sR, gL_sR, gN_sR, gC_sR, gB_sR, gL_sIr, gR_sIr, gN_sIr, gC_sIr, gB_sIr, gI_sLr, gR_sLr, gN_sLr, gC_sLr, gB_sLr, gI_sRr, gL_sRr, gN_sRr, gC_sRr, gB_sRr, gI_sN, gL_sN, gR_sN, gC_sN, gB_sN, gI_sC, gL_sC, gR_sC, gN_sC, gB_sC, gI_sB, gL_sB, gR_sB, gN_sB, gC_sB, gB_sB, gB_am_mk, gI_am_ml, gL_am_ml, gR_am_ml, gB_am_ml, gI_am_add, gL_am_add, gC_am_add, gB_am_add, gI_am_ins, gL_am_ins, gC_am_ins, gB_am_ins, gI_am_rem, gL_am_rem, gC_am_rem, gB_am_rem, gI_am_thr, gL_am_thr, gR_am_thr, gN_am_thr, gB_am_thr, mI_sI_k, mI_sI_j, mI_sI_b, mI_sI_s, mI_sI_i, mI_sI_c, mL_sL_k, mL_sL_j, mL_sL_b, mL_sL_s, mL_sL_i, mL_sL_c, mR_sR_k, mR_sR_j, mR_sR_b, mR_sR_s, mR_sR_i, mR_sR_c, mI_sIr_k, mI_sIr_s, mI_sIr_i, mL_sLr_k, mL_sLr_s, mL_sLr_i, mR_sRr_k, mR_sRr_s, mR_sRr_i, mN_sN_k, mN_sN_i, mN_am_add_k, mN_am_add_s, mR_am_add_k, mN_am_ins_k, mN_am_ins_s, mR_am_ins_k, mN_am_rem_k, mN_am_rem_s, mR_am_rem_k, mR_am_add_s, mR_am_ins_s, mR_am_rem_s, mI_am_mk_k, mI_am_mk_s, mI_am_mk_i, mL_am_mk_k, mL_am_mk_s, mL_am_mk_i, mR_am_mk_k, mR_am_mk_s, mR_am_mk_i, mN_am_mk_k, mN_am_mk_i, mC_am_mk_k, mC_am_mk_s, mN_am_ml_k, mN_am_ml_i, mC_am_ml_k, mC_am_ml_s, mC_sC_k, mC_am_thr_k, sC_3 S, sC_4 S, sR_4_81 S, sC_97 S, sN_97 S, sR_4_83 S, sC_99 S, sN_99 S, sR_4_84 S, sC_100 S, sN_100 S, k0, k1, k2, k3, k4, k5, k6, k7, k8, k9, k10, k11, k12, k13, k14, k15, k16, k17, k18, k19, k20, k21, k22, k23, k24, k25, k26, k27, k28, k29, k30, k31, k32, k33, k34, k35, k36, k37, k38, k39, k40, k41, k42, k43, k44, k45, k46, k47, k48, k49, k50, k51, k52, k53, k54, k55, k56, k57, k58, k59, k60, k61, k62, k63, k64, k65, k66, k67, k68, k69, k70, k71, k72, k73, k74, k75, k76, k77, k78, k79, k80, k81, k82, k83, k84, k85, k86, k87, k88, k89, k90, k91, k92, k93, k94, k95, k96, k97, k98, k99, k100, nI_add, true_and, and_true, and_self, if_true, if_false, ite_true, ite_false, Nat.lt_irrefl, List.length_nil, List.length_cons, Nat.reduceAdd, Nat.reduceLeDiff, Nat.reduceLT, Nat.reduceEqDiff, Nat.zero_lt_one, not_true, not_false_iff, bI_0, bI_1, ne_eq, reduceCtorEq, false_and, and_false, or_true, true_or, or_false, false_or, Nat.lt_one_iff, eq_self, Nat.zero_le, am_ko_v, am_ko_0, am_kil, Nat.reduceBEq, Int32.reduceLT, Int32.reduceLE, Int32.reduceAdd, Int32.reduceSub, i32_10, i32_01, not_true_eq_false, not_false_eq_true, Classical.not_not, nor_self, Nat.lt_add_one, nI_1, nI_pred, rf_n, i32_m0, i32_m1, reduceIte]
      exact hz
theorem L227z (h : RFR σ m hs v) (hl : f + lf = m) (hq : ∀ g' (a6 : Option aV), (∀ t, t < 2 ^ lf → g' t = 0) → WP d 227 38 [some (vr (some (4, 0))), some (vi (nI f)), some (vl out), none, some (vi (nI lf)), some (vi (nI (2 ^ lf))), a6, none, none, none] [] (restR σ g') Q) : ∀ k s g, s + k = 2 ^ lf → (∀ t, t < s → g t = 0) → WP d 227 17 [some (vr (some (4, 0))), some (vi (nI f)), some (vl out), none, some (vi (nI lf)), some (vi (nI (2 ^ lf))), some (vi (nI s)), none, none, none] [] (restR σ g) Q := by
  have S0 : Sh σ := h.1
  have h7 := h.2.2.1
  have hp7 : 2 ^ lf ≤ 2 ^ 7 := Nat.pow_le_pow_right (by decide) (by omega)
  intro k
  induction k with
  | zero =>
    intro s g hi hg
    have S : Sh (restR σ g) := S0
    have c1 : ¬ nI s < nI (2 ^ lf) := nI_nlt (by omega) (by omega)
    have hz := hq g (some (vi (nI s))) (fun t ht => hg t (by omega))
    rw [S227_17]
    simp only [S227_19, S227_21, S227_24, S227_25, S227_28, S227_30, S227_31, S227_32, S227_35, gL_sI, gR_sI, gN_sI, gC_sI, gB_sI, gI_sL, gR_sL, gN_sL, gC_sL, gB_sL, gI_sR, gL_sR, gN_sR, gC_sR, gB_sR, gL_sIr, gR_sIr, gN_sIr, gC_sIr, gB_sIr, gI_sLr, gR_sLr, gN_sLr, gC_sLr, gB_sLr, gI_sRr, gL_sRr, gN_sRr, gC_sRr, gB_sRr, gI_sN, gL_sN, gR_sN, gC_sN, gB_sN, gI_sC, gL_sC, gR_sC, gN_sC, gB_sC, gI_sB, gL_sB, gR_sB, gN_sB, gC_sB, gB_sB, gB_am_mk, gI_am_ml, gL_am_ml, gR_am_ml, gB_am_ml, gI_am_add, gL_am_add, gC_am_add, gB_am_add, gI_am_ins, gL_am_ins, gC_am_ins, gB_am_ins, gI_am_rem, gL_am_rem, gC_am_rem, gB_am_rem, gI_am_thr, gL_am_thr, gR_am_thr, gN_am_thr, gB_am_thr, mI_sI_k, mI_sI_j, mI_sI_b, mI_sI_s, mI_sI_i, mI_sI_c, mL_sL_k, mL_sL_j, mL_sL_b, mL_sL_s, mL_sL_i, mL_sL_c, mR_sR_k, mR_sR_j, mR_sR_b, mR_sR_s, mR_sR_i, mR_sR_c, mI_sIr_k, mI_sIr_s, mI_sIr_i, mL_sLr_k, mL_sLr_s, mL_sLr_i, mR_sRr_k, mR_sRr_s, mR_sRr_i, mN_sN_k, mN_sN_i, mN_am_add_k, mN_am_add_s, mR_am_add_k, mN_am_ins_k, mN_am_ins_s, mR_am_ins_k, mN_am_rem_k, mN_am_rem_s, mR_am_rem_k, mR_am_add_s, mR_am_ins_s, mR_am_rem_s, mI_am_mk_k, mI_am_mk_s, mI_am_mk_i, mL_am_mk_k, mL_am_mk_s, mL_am_mk_i, mR_am_mk_k, mR_am_mk_s, mR_am_mk_i, mN_am_mk_k, mN_am_mk_i, mC_am_mk_k, mC_am_mk_s, mN_am_ml_k, mN_am_ml_i, mC_am_ml_k, mC_am_ml_s, mC_sC_k, mC_am_thr_k, sC_3 S, sC_4 S, sR_4_81 S, sC_97 S, sN_97 S, sR_4_83 S, sC_99 S, sN_99 S, sR_4_84 S, sC_100 S, sN_100 S, k0, k1, k2, k3, k4, k5, k6, k7, k8, k9, k10, k11, k12, k13, k14, k15, k16, k17, k18, k19, k20, k21, k22, k23, k24, k25, k26, k27, k28, k29, k30, k31, k32, k33, k34, k35, k36, k37, k38, k39, k40, k41, k42, k43, k44, k45, k46, k47, k48, k49, k50, k51, k52, k53, k54, k55, k56, k57, k58, k59, k60, k61, k62, k63, k64, k65, k66, k67, k68, k69, k70, k71, k72, k73, k74, k75, k76, k77, k78, k79, k80, k81, k82, k83, k84, k85, k86, k87, k88, k89, k90, k91, k92, k93, k94, k95, k96, k97, k98, k99, k100, c1, true_and, and_true, and_self, if_true, if_false, ite_true, ite_false, Nat.lt_irrefl, List.length_nil, List.length_cons, Nat.reduceAdd, Nat.reduceLeDiff, Nat.reduceLT, Nat.reduceEqDiff, Nat.zero_lt_one, not_true, not_false_iff, bI_0, bI_1, ne_eq, reduceCtorEq, false_and, and_false, or_true, true_or, or_false, false_or, Nat.lt_one_iff, eq_self, Nat.zero_le, am_ko_v, am_ko_0, am_kil, Nat.reduceBEq, Int32.reduceLT, Int32.reduceLE, Int32.reduceAdd, Int32.reduceSub, i32_10, i32_01, not_true_eq_false, not_false_eq_true, Classical.not_not, nor_self, Nat.lt_add_one, nI_1, nI_pred, rf_n, i32_m0, i32_m1, reduceIte]
    exact hz
  | succ k ih =>
    intro s g hi hg
    have S : Sh (restR σ g) := S0
    have c1 : nI s < nI (2 ^ lf) := nI_lt (by omega) (by omega)
    have s31 : s < 2147483648 := by omega
    have s128 : s < 128 := by omega
    have hz := ih (s + 1) (fun c => if c = s then 0 else g c) (by omega) (fun t ht => by
      show (if t = s then (0 : Int32) else g t) = 0
      by_cases q : t = s
      · rw [if_pos q]
      · rw [if_neg q]; exact hg t (by omega))
    rw [S227_17]
    simp only [S227_19, S227_21, S227_24, S227_25, S227_28, S227_30, S227_31, S227_32, S227_35, c1, sC_4 S, sR_4_84 S, sC_100 S, sN_100 S, ini_iff s31, nI_clamp s31, s128, restR_w, nI_add, k0, k1, k2, k3, k4, k5, k6, k7, k8, k9, k10, k11, k12, k13, k14, k15, k16, k17, k18, k19, k20, k21, k22, k23, k24, k25, k26, k27, k28, k29, k30, k31, k32, k33, k34, k35, k36, k37, k38, k39, k40, k41, k42, k43, k44, k45, k46, k47, k48, k49, k50, k51, k52, k53, k54, k55, k56, k57, k58, k59, k60, k61, k62, k63, k64, k65, k66, k67, k68, k69, k70, k71, k72, k73, k74, k75, k76, k77, k78, k79, k80, k81, k82, k83, k84, k85, k86, k87, k88, k89, k90, k91, k92, k93, k94, k95, k96, k97, k98, k99, k100, true_and, and_true, and_self, if_true, if_false, ite_true, ite_false, Nat.lt_irrefl, List.length_nil, List.length_cons, Nat.reduceAdd, Nat.reduceLeDiff, Nat.reduceLT, Nat.reduceEqDiff, Nat.zero_lt_one, not_true, not_false_iff, bI_0, bI_1, ne_eq, reduceCtorEq, false_and, and_false, or_true, true_or, or_false, false_or, Nat.lt_one_iff, eq_self, Nat.zero_le, am_ko_v, am_ko_0, am_kil, Nat.reduceBEq, Int32.reduceLT, Int32.reduceLE, Int32.reduceAdd, Int32.reduceSub, i32_10, i32_01, not_true_eq_false, not_false_eq_true, Classical.not_not, nor_self, Nat.lt_add_one, nI_1, nI_pred, rf_n, i32_m0, i32_m1, reduceIte]
    exact hz
theorem restR_r {g g' : Nat → Int32} : restR (restR σ g) g' = restR σ g' := by
  unfold restR sIr
  refine congrArg (fun f => (f, σ.2)) ?_
  funext a b c
  by_cases e : a = 100 ∧ b = 0
  · simp [e]
  · simp [e]
theorem restR_id : restR σ (gI σ 100 0) = σ := by
  unfold restR sIr gI
  refine Prod.ext ?_ rfl
  funext a b c
  by_cases e : a = 100 ∧ b = 0
  · simp [e]
  · simp [e]
theorem C227 {g : Nat → Int32} (h : RFR σ m hs v) (hv : ∀ i p, v i p ≤ 100000) (hP : P ≤ 60) (e2 : gI σ 4 0 2 = nI P) (hl : f + lf = m) (ho : outP out O) (hq : ∀ g', Q (some (some (vi (nI (DR v f lf O P (2 ^ lf - 1)))))) (restR σ g')) : WP d 227 0 [some (vr (some (4, 0))), some (vi (nI f)), some (vl out), none, none, none, none, none, none, none] [] (restR σ g) Q := by
  have S : Sh (restR σ g) := h.1
  have h7 := h.2.2.1
  have e85 : gI (restR σ g) 4 0 85 = nI m := h.2.1
  have es : nI m - nI f = nI lf := by rw [pk_sub (by omega), show m - f = lf by omega]
  have e1 := sh1m lf (by omega)
  have hz := L227z (d := d) (Q := Q) (out := out) h hl (fun g' a6 hg' => by
    rw [S227_38, S227_39, ← nI_0]
    exact L227p h hv hP e2 hl ho hq P 0 g' none none none (by omega) (fun t ht => hg' t ht)) (2 ^ lf) 0 g (by omega) (fun t ht => absurd ht (by omega))
  rw [nI_0] at hz
  simp only [S227_0, S227_1, S227_4, S227_5, S227_6, S227_8, S227_9, S227_11, S227_12, S227_14, S227_15, gL_sI, gR_sI, gN_sI, gC_sI, gB_sI, gI_sL, gR_sL, gN_sL, gC_sL, gB_sL, gI_sR, gL_sR, gN_sR, gC_sR, gB_sR, gL_sIr, gR_sIr, gN_sIr, gC_sIr, gB_sIr, gI_sLr, gR_sLr, gN_sLr, gC_sLr, gB_sLr, gI_sRr, gL_sRr, gN_sRr, gC_sRr, gB_sRr, gI_sN, gL_sN, gR_sN, gC_sN, gB_sN, gI_sC, gL_sC, gR_sC, gN_sC, gB_sC, gI_sB, gL_sB, gR_sB, gN_sB, gC_sB, gB_sB, gB_am_mk, gI_am_ml, gL_am_ml, gR_am_ml, gB_am_ml, gI_am_add, gL_am_add, gC_am_add, gB_am_add, gI_am_ins, gL_am_ins, gC_am_ins, gB_am_ins, gI_am_rem, gL_am_rem, gC_am_rem, gB_am_rem, gI_am_thr, gL_am_thr, gR_am_thr, gN_am_thr, gB_am_thr, mI_sI_k, mI_sI_j, mI_sI_b, mI_sI_s, mI_sI_i, mI_sI_c, mL_sL_k, mL_sL_j, mL_sL_b, mL_sL_s, mL_sL_i, mL_sL_c, mR_sR_k, mR_sR_j, mR_sR_b, mR_sR_s, mR_sR_i, mR_sR_c, mI_sIr_k, mI_sIr_s, mI_sIr_i, mL_sLr_k, mL_sLr_s, mL_sLr_i, mR_sRr_k, mR_sRr_s, mR_sRr_i, mN_sN_k, mN_sN_i, mN_am_add_k, mN_am_add_s, mR_am_add_k, mN_am_ins_k, mN_am_ins_s, mR_am_ins_k, mN_am_rem_k, mN_am_rem_s, mR_am_rem_k, mR_am_add_s, mR_am_ins_s, mR_am_rem_s, mI_am_mk_k, mI_am_mk_s, mI_am_mk_i, mL_am_mk_k, mL_am_mk_s, mL_am_mk_i, mR_am_mk_k, mR_am_mk_s, mR_am_mk_i, mN_am_mk_k, mN_am_mk_i, mC_am_mk_k, mC_am_mk_s, mN_am_ml_k, mN_am_ml_i, mC_am_ml_k, mC_am_ml_s, mC_sC_k, mC_am_thr_k, sC_3 S, sC_4 S, sR_4_81 S, sC_97 S, sN_97 S, sR_4_83 S, sC_99 S, sN_99 S, sR_4_84 S, sC_100 S, sN_100 S, k0, k1, k2, k3, k4, k5, k6, k7, k8, k9, k10, k11, k12, k13, k14, k15, k16, k17, k18, k19, k20, k21, k22, k23, k24, k25, k26, k27, k28, k29, k30, k31, k32, k33, k34, k35, k36, k37, k38, k39, k40, k41, k42, k43, k44, k45, k46, k47, k48, k49, k50, k51, k52, k53, k54, k55, k56, k57, k58, k59, k60, k61, k62, k63, k64, k65, k66, k67, k68, k69, k70, k71, k72, k73, k74, k75, k76, k77, k78, k79, k80, k81, k82, k83, k84, k85, k86, k87, k88, k89, k90, k91, k92, k93, k94, k95, k96, k97, k98, k99, k100, e85, es, e1, true_and, and_true, and_self, if_true, if_false, ite_true, ite_false, Nat.lt_irrefl, List.length_nil, List.length_cons, Nat.reduceAdd, Nat.reduceLeDiff, Nat.reduceLT, Nat.reduceEqDiff, Nat.zero_lt_one, not_true, not_false_iff, bI_0, bI_1, ne_eq, reduceCtorEq, false_and, and_false, or_true, true_or, or_false, false_or, Nat.lt_one_iff, eq_self, Nat.zero_le, am_ko_v, am_ko_0, am_kil, Nat.reduceBEq, Int32.reduceLT, Int32.reduceLE, Int32.reduceAdd, Int32.reduceSub, i32_10, i32_01, not_true_eq_false, not_false_eq_true, Classical.not_not, nor_self, Nat.lt_add_one, nI_1, nI_pred, rf_n, i32_m0, i32_m1, reduceIte]
  exact hz
end SELR2
