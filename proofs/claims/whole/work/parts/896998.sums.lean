/-! the reference's sums -/
theorem outP_add {x : Int64} {O : Nat → Bool} {p : Nat} (h : outP x O) (hp : p < 60) : outP (x ||| ((1 : Int64) <<< ((nI p).toInt64 &&& 63))) (addB O p) := by
  intro q hq
  have hb : ∀ p, p < 60 → ∀ q, q < 60 → (((1 : Int64) <<< ((nI p).toInt64 &&& 63)) >>> ((nI q).toInt64 &&& 63)) &&& 1 = (if q = p then 1 else 0) := by decide +kernel
  have e := hb p hp q hq
  have ex : ∀ a b s : Int64, ((a ||| b) >>> s) &&& 1 = ((a >>> s) &&& 1) ||| ((b >>> s) &&& 1) := fun a b s => by
    apply Int64.toBitVec_inj.mp
    simp only [Int64.toBitVec_and, Int64.toBitVec_or, Int64.toBitVec_shiftRight]
    show ((a.toBitVec ||| b.toBitVec).sshiftRight' (s.toBitVec.smod 64) &&& _) = (a.toBitVec.sshiftRight' (s.toBitVec.smod 64) &&& _) ||| (b.toBitVec.sshiftRight' (s.toBitVec.smod 64) &&& _)
    rw [BitVec.sshiftRight', BitVec.sshiftRight', BitVec.sshiftRight', BitVec.sshiftRight_or_distrib]
    apply BitVec.eq_of_getLsbD_eq
    intro i hi
    rw [BitVec.getLsbD_or, BitVec.getLsbD_and, BitVec.getLsbD_and, BitVec.getLsbD_and, BitVec.getLsbD_or]
    exact Bool.and_or_distrib_right _ _ _
  rw [ex, h q hq, e]
  unfold addB
  by_cases c1 : O q = true
  · by_cases c2 : q = p
    · rw [if_pos c1, if_pos c2, if_pos (by simp [c1])]; decide
    · rw [if_pos c1, if_neg c2, if_pos (by simp [c1])]; decide
  · by_cases c2 : q = p
    · rw [if_neg c1, if_pos c2, if_pos (by simp [c2])]; decide
    · rw [if_neg c1, if_neg c2, if_neg (by simp [c1, c2])]; decide
def chF (d : Nat) : Int32 := if d = 0 then -1 else nI (63 - d)
def smM (σ : aM) (ch g : Nat → Int32) : aM := restR (sIr σ 98 0 ch) g
def hzM (σ : aM) (m : Nat) (f : Nat → Int32) : aM := sIr (sI σ 4 0 85 (nI m)) 99 0 f
section SMM
variable {σ : aM} {ch g f : Nat → Int32} {K i j m k : Nat} {x : Int32}
theorem sm_R : gR (smM σ ch g) K i j = gR σ K i j := rfl
theorem sm_N : gN (smM σ ch g) K i = gN σ K i := rfl
theorem sm_C : gC (smM σ ch g) K = gC σ K := rfl
theorem sm_98 : gI (smM σ ch g) 98 0 j = ch j := (mI_sIr_k (by decide)).trans mI_sIr_s
theorem sm_I (h : K ≠ 98) (h2 : K ≠ 100) : gI (smM σ ch g) K i j = gI σ K i j := (mI_sIr_k h2).trans (mI_sIr_k h)
theorem sm_w : sI (smM σ ch g) 98 0 j x = smM σ (upN ch j x) g := by
  unfold smM restR sI sIr upN
  refine congrArg (fun f => (f, σ.2)) ?_
  funext a b c
  unfold am_u3
  dsimp only
  by_cases e : a = 98 ∧ b = 0
  · have e2 : ¬ (a = 100 ∧ b = 0) := fun q => by have := e.1.symm.trans q.1; omega
    by_cases q : c = j
    · simp [e, q]
    · simp [e, q]
  · have e1 : ¬ (a = 98 ∧ b = 0 ∧ c = j) := fun z => e ⟨z.1, z.2.1⟩
    simp [e, e1]
theorem hz_R : gR (hzM σ m f) K i j = gR σ K i j := rfl
theorem hz_N : gN (hzM σ m f) K i = gN σ K i := rfl
theorem hz_C : gC (hzM σ m f) K = gC σ K := rfl
theorem hz_85 : gI (hzM σ m f) 4 0 85 = nI m := rfl
theorem hz_4 (h : j ≠ 85) : gI (hzM σ m f) 4 0 j = gI σ 4 0 j := (mI_sIr_k (by decide)).trans (mI_sI_j h)
theorem hz_99 : gI (hzM σ m f) 99 0 j = f j := mI_sIr_s
theorem hz_I (h : K ≠ 4) (h2 : K ≠ 99) : gI (hzM σ m f) K i j = gI σ K i j := (mI_sIr_k h2).trans (mI_sI_k h)
theorem hz_w : sI (hzM σ m f) 99 0 j x = hzM σ m (upN f j x) := by
  unfold hzM
  refine Prod.ext ?_ rfl
  funext a b c
  show am_u3 (fun a b c => if a = 99 ∧ b = 0 then f c else (sI σ 4 0 85 (nI m)).1 a b c) 99 0 j x a b c = (if a = 99 ∧ b = 0 then upN f j x c else (sI σ 4 0 85 (nI m)).1 a b c)
  unfold am_u3 upN
  by_cases e : a = 99 ∧ b = 0
  · by_cases q : c = j
    · simp [e, q]
    · simp [e, q]
  · have e1 : ¬ (a = 99 ∧ b = 0 ∧ c = j) := fun z => e ⟨z.1, z.2.1⟩
    simp [e, e1]
theorem hz_m : sI (hzM σ m f) 4 0 85 (nI k) = hzM σ k f := by
  unfold hzM
  refine Prod.ext ?_ rfl
  funext a b c
  show am_u3 (fun a b c => if a = 99 ∧ b = 0 then f c else am_u3 σ.1 4 0 85 (nI m) a b c) 4 0 85 (nI k) a b c = (if a = 99 ∧ b = 0 then f c else am_u3 σ.1 4 0 85 (nI k) a b c)
  unfold am_u3
  by_cases e : a = 4 ∧ b = 0 ∧ c = 85
  · have e2 : ¬ (a = 99 ∧ b = 0) := fun q => by have := e.1.symm.trans q.1; omega
    simp [e]
  · simp [e]
theorem hz_0 : sI σ 4 0 85 0 = hzM σ 0 (gI σ 99 0) := by
  unfold hzM
  refine Prod.ext ?_ rfl
  funext a b c
  show am_u3 σ.1 4 0 85 0 a b c = (if a = 99 ∧ b = 0 then gI σ 99 0 c else am_u3 σ.1 4 0 85 (nI 0) a b c)
  by_cases e : a = 99 ∧ b = 0
  · rw [if_pos e, e.1, e.2]
    unfold am_u3
    rw [if_neg (fun z => absurd z.1 (by decide))]
    rfl
  · rw [if_neg e, nI_0]
theorem Sh_hz (S : Sh σ) : Sh (hzM σ m f) := S
theorem sm_id : smM σ (gI σ 98 0) (gI σ 100 0) = σ := by
  unfold smM restR sIr gI
  refine Prod.ext ?_ rfl
  funext a b c
  by_cases e : a = 100 ∧ b = 0
  · simp [e]
  · by_cases e2 : a = 98 ∧ b = 0
    · simp [e2]
    · simp [e, e2]
end SMM
section SUM
variable {d m P k W : Nat} {σ : aM} {Q : aR → aM → Prop} {hs : Nat → Nat} {v : Nat → Nat → Nat} {O : Nat → Bool} {out : Int64} {x1 x2 : Int32} {ch : Nat → Int32}
theorem RFR_ch (h : RFR σ m hs v) : RFR (sIr σ 98 0 ch) m hs v := by
  obtain ⟨S, h1, h2, h3⟩ := h
  refine ⟨S, (mI_sIr_k (by decide)).trans h1, h2, fun i hi => ?_⟩
  obtain ⟨a, b, c⟩ := h3 i hi
  exact ⟨(mI_sIr_k (by decide)).trans a, b, fun p hp => ⟨(mI_sIr_k (by decide)).trans (c p hp).1, (c p hp).2⟩⟩
theorem L228p (h : RFR σ m hs v) (hv : ∀ i p, v i p ≤ 100000) (hP : P ≤ 60) (e2 : gI σ 4 0 2 = nI P) (hk : k < m) (ho : outP out O) (hW : W < 10000000) (hch : ch k = -1)
    (qn : (∀ q U, q < P → ¬ bP O q → 0 < v k q → Top (alV v) (wS v) P (padd (bP O) q) (geS (k + 1) m) U → v k q + U ≠ W) → ∀ g (a7 a8 : Option aV), WP (d + 1) 228 198 [some (vr (some (4, 0))), some (vi x1), some (vi x2), some (vi (nI W)), some (vl out), none, some (vi (nI k)), a7, a8] [] (smM σ ch g) Q)
    (qs : ∀ p T, p < P → ¬ bP O p → 0 < v k p → Top (alV v) (wS v) P (padd (bP O) p) (geS (k + 1) m) T → v k p + T = W → (∀ q U, q < p → ¬ bP O q → 0 < v k q → Top (alV v) (wS v) P (padd (bP O) q) (geS (k + 1) m) U → v k q + U ≠ W) → ∀ out' g (a7 a8 : Option aV), outP out' (addB O p) → WP (d + 1) 228 198 [some (vr (some (4, 0))), some (vi x1), some (vi x2), some (vi (nI T)), some (vl out'), none, some (vi (nI k)), a7, a8] [] (smM σ (upN ch k (nI p)) g) Q) :
    ∀ r p g (a8 : Option aV), p + r = P → (∀ q U, q < p → ¬ bP O q → 0 < v k q → Top (alV v) (wS v) P (padd (bP O) q) (geS (k + 1) m) U → v k q + U ≠ W) → WP (d + 1) 228 87 [some (vr (some (4, 0))), some (vi x1), some (vi x2), some (vi (nI W)), some (vl out), none, some (vi (nI k)), some (vi (nI p)), a8] [] (smM σ ch g) Q := by
  obtain ⟨S, hm, h7, hh⟩ := id h
  have k31 : k < 2147483648 := by omega
  have k7 : k < 7 := by omega
  obtain ⟨o1, o2, o3⟩ := hh k hk
  intro r
  induction r with
  | zero =>
    intro p g a8 hi hn
    have e : p = P := by omega
    have c1 : ¬ nI p < nI P := nI_nlt (by omega) (by omega)
    have hz := qn (by rw [← e]; rw [← e] at hn; exact hn) g (some (vi (nI p))) a8
    rw [S228_87]
    simp only [S228_89, S228_90, S228_93, S228_96, S228_97, S228_100, S228_102, S228_103, S228_104, S228_107, S228_108, S228_111, S228_113, S228_115, S228_116, S228_117, S228_120, S228_122, S228_123, S228_124, S228_125, S228_127, S228_129, S228_131, S228_132, S228_133, S228_134, S228_135, S228_136, S228_139, S228_141, S228_144, S228_146, S228_147, S228_149, S228_150, S228_151, S228_153, S228_154, S228_156, S228_157, S228_158, S228_161, S228_162, S228_163, S228_166, S228_169, S228_170, S228_173, S228_175, S228_177, S228_178, S228_180, S228_181, S228_183, S228_184, S228_185, S228_187, S228_188, S228_190, S228_191, S228_192, S228_195, gL_sI, gR_sI, gN_sI, gC_sI, gB_sI, gI_sL, gR_sL, gN_sL, gC_sL, gB_sL, gI_sR, gL_sR, gN_sR, gC_sR, gB_sR, gL_sIr, gR_sIr, gN_sIr, gC_sIr, gB_sIr, gI_sLr, gR_sLr, gN_sLr, gC_sLr, gB_sLr, gI_sRr, gL_sRr, gN_sRr, gC_sRr, gB_sRr, gI_sN, gL_sN, gR_sN, gC_sN, gB_sN, gI_sC, gL_sC, gR_sC, gN_sC, gB_sC, gI_sB, gL_sB, gR_sB, gN_sB, gC_sB, gB_sB, gB_am_mk, gI_am_ml, gL_am_ml, gR_am_ml, gB_am_ml, gI_am_add, gL_am_add, gC_am_add, gB_am_add, gI_am_ins, gL_am_ins, gC_am_ins, gB_am_ins, gI_am_rem, gL_am_rem, gC_am_rem, gB_am_rem, gI_am_thr, gL_am_thr, gR_am_thr, gN_am_thr, gB_am_thr, mI_sI_k, mI_sI_j, mI_sI_b, mI_sI_s, mI_sI_i, mI_sI_c, mL_sL_k, mL_sL_j, mL_sL_b, mL_sL_s, mL_sL_i, mL_sL_c, mR_sR_k, mR_sR_j, mR_sR_b, mR_sR_s, mR_sR_i, mR_sR_c, mI_sIr_k, mI_sIr_s, mI_sIr_i, mL_sLr_k, mL_sLr_s, mL_sLr_i, mR_sRr_k, mR_sRr_s, mR_sRr_i, mN_sN_k, mN_sN_i, mN_am_add_k, mN_am_add_s, mR_am_add_k, mN_am_ins_k, mN_am_ins_s, mR_am_ins_k, mN_am_rem_k, mN_am_rem_s, mR_am_rem_k, mR_am_add_s, mR_am_ins_s, mR_am_rem_s, mI_am_mk_k, mI_am_mk_s, mI_am_mk_i, mL_am_mk_k, mL_am_mk_s, mL_am_mk_i, mR_am_mk_k, mR_am_mk_s, mR_am_mk_i, mN_am_mk_k, mN_am_mk_i, mC_am_mk_k, mC_am_mk_s, mN_am_ml_k, mN_am_ml_i, mC_am_ml_k, mC_am_ml_s, mC_sC_k, mC_am_thr_k, sC_3 S, sC_4 S, sR_4_81 S, sC_97 S, sN_97 S, sR_4_82 S, sC_98 S, sN_98 S, sR_4_83 S, sC_99 S, sN_99 S, k0, k1, k2, k3, k4, k5, k6, k7, k8, k9, k10, k11, k12, k13, k14, k15, k16, k17, k18, k19, k20, k21, k22, k23, k24, k25, k26, k27, k28, k29, k30, k31, k32, k33, k34, k35, k36, k37, k38, k39, k40, k41, k42, k43, k44, k45, k46, k47, k48, k49, k50, k51, k52, k53, k54, k55, k56, k57, k58, k59, k60, k61, k62, k63, k64, k65, k66, k67, k68, k69, k70, k71, k72, k73, k74, k75, k76, k77, k78, k79, k80, k81, k82, k83, k84, k85, k86, k87, k88, k89, k90, k91, k92, k93, k94, k95, k96, k97, k98, k99, k100, sm_R, sm_C, sm_I, e2, c1, true_and, and_true, and_self, if_true, if_false, ite_true, ite_false, Nat.lt_irrefl, List.length_nil, List.length_cons, Nat.reduceAdd, Nat.reduceLeDiff, Nat.reduceLT, Nat.reduceEqDiff, Nat.zero_lt_one, not_true, not_false_iff, bI_0, bI_1, ne_eq, reduceCtorEq, false_and, and_false, or_true, true_or, or_false, false_or, Nat.lt_one_iff, eq_self, Nat.zero_le, am_ko_v, am_ko_0, am_kil, Nat.reduceBEq, Int32.reduceLT, Int32.reduceLE, Int32.reduceAdd, Int32.reduceSub, i32_10, i32_01, not_true_eq_false, not_false_eq_true, Classical.not_not, nor_self, Nat.lt_add_one, nI_1, nI_pred, rf_n, i32_m0, i32_m1, reduceIte]
    exact hz
  | succ r ih =>
    intro p g a8 hi hn
    have hp : p < 60 := by omega
    have c1 : nI p < nI P := nI_lt (by omega) (by omega)
    obtain ⟨o4, o5⟩ := o3 p hp
    have e30 : (30 : Int32) * nI p + nI (hs k) = nI (30 * p + hs k) := by
      rw [show (30 : Int32) = nI 30 from rfl, pk_mul, nI_add]
    have b31 : 30 * p + hs k < 2147483648 := by omega
    have b18 : 30 * p + hs k < 1800 := by omega
    have eo := ho p hp
    rw [S228_87]
    by_cases co : O p = true
    · rw [if_pos co] at eo
      have cc : lg_cmp (1 : Int64) 1 = 0 := by decide
      have hz := ih (p + 1) g (some (vi (nI (v k p)))) (by omega) (fun q U hq hO hv hT => by
        by_cases e : q = p
        · subst e; exact absurd co hO
        · exact hn q U (by omega) hO hv hT)
      simp only [S228_89, S228_90, S228_93, S228_96, S228_97, S228_100, S228_102, S228_103, S228_104, S228_107, S228_108, S228_111, S228_113, S228_115, S228_116, S228_117, S228_120, S228_122, S228_123, S228_124, S228_125, S228_127, S228_129, S228_131, S228_132, S228_133, S228_134, S228_135, S228_136, S228_139, S228_141, S228_144, S228_146, S228_147, S228_149, S228_150, S228_151, S228_153, S228_154, S228_156, S228_157, S228_158, S228_161, S228_162, S228_163, S228_166, S228_169, S228_170, S228_173, S228_175, S228_177, S228_178, S228_180, S228_181, S228_183, S228_184, S228_185, S228_187, S228_188, S228_190, S228_191, S228_192, S228_195, gL_sI, gR_sI, gN_sI, gC_sI, gB_sI, gI_sL, gR_sL, gN_sL, gC_sL, gB_sL, gI_sR, gL_sR, gN_sR, gC_sR, gB_sR, gL_sIr, gR_sIr, gN_sIr, gC_sIr, gB_sIr, gI_sLr, gR_sLr, gN_sLr, gC_sLr, gB_sLr, gI_sRr, gL_sRr, gN_sRr, gC_sRr, gB_sRr, gI_sN, gL_sN, gR_sN, gC_sN, gB_sN, gI_sC, gL_sC, gR_sC, gN_sC, gB_sC, gI_sB, gL_sB, gR_sB, gN_sB, gC_sB, gB_sB, gB_am_mk, gI_am_ml, gL_am_ml, gR_am_ml, gB_am_ml, gI_am_add, gL_am_add, gC_am_add, gB_am_add, gI_am_ins, gL_am_ins, gC_am_ins, gB_am_ins, gI_am_rem, gL_am_rem, gC_am_rem, gB_am_rem, gI_am_thr, gL_am_thr, gR_am_thr, gN_am_thr, gB_am_thr, mI_sI_k, mI_sI_j, mI_sI_b, mI_sI_s, mI_sI_i, mI_sI_c, mL_sL_k, mL_sL_j, mL_sL_b, mL_sL_s, mL_sL_i, mL_sL_c, mR_sR_k, mR_sR_j, mR_sR_b, mR_sR_s, mR_sR_i, mR_sR_c, mI_sIr_k, mI_sIr_s, mI_sIr_i, mL_sLr_k, mL_sLr_s, mL_sLr_i, mR_sRr_k, mR_sRr_s, mR_sRr_i, mN_sN_k, mN_sN_i, mN_am_add_k, mN_am_add_s, mR_am_add_k, mN_am_ins_k, mN_am_ins_s, mR_am_ins_k, mN_am_rem_k, mN_am_rem_s, mR_am_rem_k, mR_am_add_s, mR_am_ins_s, mR_am_rem_s, mI_am_mk_k, mI_am_mk_s, mI_am_mk_i, mL_am_mk_k, mL_am_mk_s, mL_am_mk_i, mR_am_mk_k, mR_am_mk_s, mR_am_mk_i, mN_am_mk_k, mN_am_mk_i, mC_am_mk_k, mC_am_mk_s, mN_am_ml_k, mN_am_ml_i, mC_am_ml_k, mC_am_ml_s, mC_sC_k, mC_am_thr_k, sC_3 S, sC_4 S, sR_4_81 S, sC_97 S, sN_97 S, sR_4_82 S, sC_98 S, sN_98 S, sR_4_83 S, sC_99 S, sN_99 S, k0, k1, k2, k3, k4, k5, k6, k7, k8, k9, k10, k11, k12, k13, k14, k15, k16, k17, k18, k19, k20, k21, k22, k23, k24, k25, k26, k27, k28, k29, k30, k31, k32, k33, k34, k35, k36, k37, k38, k39, k40, k41, k42, k43, k44, k45, k46, k47, k48, k49, k50, k51, k52, k53, k54, k55, k56, k57, k58, k59, k60, k61, k62, k63, k64, k65, k66, k67, k68, k69, k70, k71, k72, k73, k74, k75, k76, k77, k78, k79, k80, k81, k82, k83, k84, k85, k86, k87, k88, k89, k90, k91, k92, k93, k94, k95, k96, k97, k98, k99, k100, sm_R, sm_C, sm_N, sm_98, sm_I, e2, c1, hch, ini_iff k31, nI_clamp k31, k7, o1, e30, ini_iff b31, nI_clamp b31, b18, o4, eo, cc, nI_add, true_and, and_true, and_self, if_true, if_false, ite_true, ite_false, Nat.lt_irrefl, List.length_nil, List.length_cons, Nat.reduceAdd, Nat.reduceLeDiff, Nat.reduceLT, Nat.reduceEqDiff, Nat.zero_lt_one, not_true, not_false_iff, bI_0, bI_1, ne_eq, reduceCtorEq, false_and, and_false, or_true, true_or, or_false, false_or, Nat.lt_one_iff, eq_self, Nat.zero_le, am_ko_v, am_ko_0, am_kil, Nat.reduceBEq, Int32.reduceLT, Int32.reduceLE, Int32.reduceAdd, Int32.reduceSub, i32_10, i32_01, not_true_eq_false, not_false_eq_true, Classical.not_not, nor_self, Nat.lt_add_one, nI_1, nI_pred, rf_n, i32_m0, i32_m1, reduceIte]
      exact hz
    · rw [if_neg co] at eo
      have cc : ¬ lg_cmp (0 : Int64) 1 = 0 := by decide
      by_cases v0 : v k p = 0
      · have c2 : nI (v k p) = 0 := by rw [v0]; rfl
        have hz := ih (p + 1) g (some (vi (nI (v k p)))) (by omega) (fun q U hq hO hv hT => by
          by_cases e : q = p
          · subst e; omega
          · exact hn q U (by omega) hO hv hT)
        rw [c2] at hz o4
        simp only [S228_89, S228_90, S228_93, S228_96, S228_97, S228_100, S228_102, S228_103, S228_104, S228_107, S228_108, S228_111, S228_113, S228_115, S228_116, S228_117, S228_120, S228_122, S228_123, S228_124, S228_125, S228_127, S228_129, S228_131, S228_132, S228_133, S228_134, S228_135, S228_136, S228_139, S228_141, S228_144, S228_146, S228_147, S228_149, S228_150, S228_151, S228_153, S228_154, S228_156, S228_157, S228_158, S228_161, S228_162, S228_163, S228_166, S228_169, S228_170, S228_173, S228_175, S228_177, S228_178, S228_180, S228_181, S228_183, S228_184, S228_185, S228_187, S228_188, S228_190, S228_191, S228_192, S228_195, gL_sI, gR_sI, gN_sI, gC_sI, gB_sI, gI_sL, gR_sL, gN_sL, gC_sL, gB_sL, gI_sR, gL_sR, gN_sR, gC_sR, gB_sR, gL_sIr, gR_sIr, gN_sIr, gC_sIr, gB_sIr, gI_sLr, gR_sLr, gN_sLr, gC_sLr, gB_sLr, gI_sRr, gL_sRr, gN_sRr, gC_sRr, gB_sRr, gI_sN, gL_sN, gR_sN, gC_sN, gB_sN, gI_sC, gL_sC, gR_sC, gN_sC, gB_sC, gI_sB, gL_sB, gR_sB, gN_sB, gC_sB, gB_sB, gB_am_mk, gI_am_ml, gL_am_ml, gR_am_ml, gB_am_ml, gI_am_add, gL_am_add, gC_am_add, gB_am_add, gI_am_ins, gL_am_ins, gC_am_ins, gB_am_ins, gI_am_rem, gL_am_rem, gC_am_rem, gB_am_rem, gI_am_thr, gL_am_thr, gR_am_thr, gN_am_thr, gB_am_thr, mI_sI_k, mI_sI_j, mI_sI_b, mI_sI_s, mI_sI_i, mI_sI_c, mL_sL_k, mL_sL_j, mL_sL_b, mL_sL_s, mL_sL_i, mL_sL_c, mR_sR_k, mR_sR_j, mR_sR_b, mR_sR_s, mR_sR_i, mR_sR_c, mI_sIr_k, mI_sIr_s, mI_sIr_i, mL_sLr_k, mL_sLr_s, mL_sLr_i, mR_sRr_k, mR_sRr_s, mR_sRr_i, mN_sN_k, mN_sN_i, mN_am_add_k, mN_am_add_s, mR_am_add_k, mN_am_ins_k, mN_am_ins_s, mR_am_ins_k, mN_am_rem_k, mN_am_rem_s, mR_am_rem_k, mR_am_add_s, mR_am_ins_s, mR_am_rem_s, mI_am_mk_k, mI_am_mk_s, mI_am_mk_i, mL_am_mk_k, mL_am_mk_s, mL_am_mk_i, mR_am_mk_k, mR_am_mk_s, mR_am_mk_i, mN_am_mk_k, mN_am_mk_i, mC_am_mk_k, mC_am_mk_s, mN_am_ml_k, mN_am_ml_i, mC_am_ml_k, mC_am_ml_s, mC_sC_k, mC_am_thr_k, sC_3 S, sC_4 S, sR_4_81 S, sC_97 S, sN_97 S, sR_4_82 S, sC_98 S, sN_98 S, sR_4_83 S, sC_99 S, sN_99 S, k0, k1, k2, k3, k4, k5, k6, k7, k8, k9, k10, k11, k12, k13, k14, k15, k16, k17, k18, k19, k20, k21, k22, k23, k24, k25, k26, k27, k28, k29, k30, k31, k32, k33, k34, k35, k36, k37, k38, k39, k40, k41, k42, k43, k44, k45, k46, k47, k48, k49, k50, k51, k52, k53, k54, k55, k56, k57, k58, k59, k60, k61, k62, k63, k64, k65, k66, k67, k68, k69, k70, k71, k72, k73, k74, k75, k76, k77, k78, k79, k80, k81, k82, k83, k84, k85, k86, k87, k88, k89, k90, k91, k92, k93, k94, k95, k96, k97, k98, k99, k100, sm_R, sm_C, sm_N, sm_98, sm_I, e2, c1, hch, ini_iff k31, nI_clamp k31, k7, o1, e30, ini_iff b31, nI_clamp b31, b18, o4, eo, cc, nI_add, true_and, and_true, and_self, if_true, if_false, ite_true, ite_false, Nat.lt_irrefl, List.length_nil, List.length_cons, Nat.reduceAdd, Nat.reduceLeDiff, Nat.reduceLT, Nat.reduceEqDiff, Nat.zero_lt_one, not_true, not_false_iff, bI_0, bI_1, ne_eq, reduceCtorEq, false_and, and_false, or_true, true_or, or_false, false_or, Nat.lt_one_iff, eq_self, Nat.zero_le, am_ko_v, am_ko_0, am_kil, Nat.reduceBEq, Int32.reduceLT, Int32.reduceLE, Int32.reduceAdd, Int32.reduceSub, i32_10, i32_01, not_true_eq_false, not_false_eq_true, Classical.not_not, nor_self, Nat.lt_add_one, nI_1, nI_pred, rf_n, i32_m0, i32_m1, reduceIte]
        exact hz
      · have c2 : ¬ nI (v k p) = 0 := nI_ne0 (by omega) (by omega)
        have hl7 : m - (k + 1) ≤ 7 := by omega
        have ol : k + 1 + (m - (k + 1)) = m := by omega
        have hT := DR_geS (v := v) (f := k + 1) (lf := m - (k + 1)) (O := addB O p) (P := P) hl7
        rw [ol, addB_p] at hT
        have hT9 : DR v (k + 1) (m - (k + 1)) (addB O p) P (2 ^ (m - (k + 1)) - 1) < 1000000 := DR_lt hl7 hv _ _ (by have := Nat.two_pow_pos (m - (k + 1)); omega)
        simp only [S228_89, S228_90, S228_93, S228_96, S228_97, S228_100, S228_102, S228_103, S228_104, S228_107, S228_108, S228_111, S228_113, S228_115, S228_116, S228_117, S228_120, S228_122, S228_123, S228_124, S228_125, S228_127, S228_129, S228_131, S228_132, S228_133, S228_134, S228_135, S228_136, S228_139, S228_141, S228_144, S228_146, S228_147, S228_149, S228_150, S228_151, S228_153, S228_154, S228_156, S228_157, S228_158, gL_sI, gR_sI, gN_sI, gC_sI, gB_sI, gI_sL, gR_sL, gN_sL, gC_sL, gB_sL, gI_sR, gL_sR, gN_sR, gC_sR, gB_sR, gL_sIr, gR_sIr, gN_sIr, gC_sIr, gB_sIr, gI_sLr, gR_sLr, gN_sLr, gC_sLr, gB_sLr, gI_sRr, gL_sRr, gN_sRr, gC_sRr, gB_sRr, gI_sN, gL_sN, gR_sN, gC_sN, gB_sN, gI_sC, gL_sC, gR_sC, gN_sC, gB_sC, gI_sB, gL_sB, gR_sB, gN_sB, gC_sB, gB_sB, gB_am_mk, gI_am_ml, gL_am_ml, gR_am_ml, gB_am_ml, gI_am_add, gL_am_add, gC_am_add, gB_am_add, gI_am_ins, gL_am_ins, gC_am_ins, gB_am_ins, gI_am_rem, gL_am_rem, gC_am_rem, gB_am_rem, gI_am_thr, gL_am_thr, gR_am_thr, gN_am_thr, gB_am_thr, mI_sI_k, mI_sI_j, mI_sI_b, mI_sI_s, mI_sI_i, mI_sI_c, mL_sL_k, mL_sL_j, mL_sL_b, mL_sL_s, mL_sL_i, mL_sL_c, mR_sR_k, mR_sR_j, mR_sR_b, mR_sR_s, mR_sR_i, mR_sR_c, mI_sIr_k, mI_sIr_s, mI_sIr_i, mL_sLr_k, mL_sLr_s, mL_sLr_i, mR_sRr_k, mR_sRr_s, mR_sRr_i, mN_sN_k, mN_sN_i, mN_am_add_k, mN_am_add_s, mR_am_add_k, mN_am_ins_k, mN_am_ins_s, mR_am_ins_k, mN_am_rem_k, mN_am_rem_s, mR_am_rem_k, mR_am_add_s, mR_am_ins_s, mR_am_rem_s, mI_am_mk_k, mI_am_mk_s, mI_am_mk_i, mL_am_mk_k, mL_am_mk_s, mL_am_mk_i, mR_am_mk_k, mR_am_mk_s, mR_am_mk_i, mN_am_mk_k, mN_am_mk_i, mC_am_mk_k, mC_am_mk_s, mN_am_ml_k, mN_am_ml_i, mC_am_ml_k, mC_am_ml_s, mC_sC_k, mC_am_thr_k, sC_3 S, sC_4 S, sR_4_81 S, sC_97 S, sN_97 S, sR_4_82 S, sC_98 S, sN_98 S, sR_4_83 S, sC_99 S, sN_99 S, k0, k1, k2, k3, k4, k5, k6, k7, k8, k9, k10, k11, k12, k13, k14, k15, k16, k17, k18, k19, k20, k21, k22, k23, k24, k25, k26, k27, k28, k29, k30, k31, k32, k33, k34, k35, k36, k37, k38, k39, k40, k41, k42, k43, k44, k45, k46, k47, k48, k49, k50, k51, k52, k53, k54, k55, k56, k57, k58, k59, k60, k61, k62, k63, k64, k65, k66, k67, k68, k69, k70, k71, k72, k73, k74, k75, k76, k77, k78, k79, k80, k81, k82, k83, k84, k85, k86, k87, k88, k89, k90, k91, k92, k93, k94, k95, k96, k97, k98, k99, k100, sm_R, sm_C, sm_N, sm_98, sm_I, e2, c1, hch, ini_iff k31, nI_clamp k31, k7, o1, e30, ini_iff b31, nI_clamp b31, b18, o4, eo, cc, c2, nI_add, true_and, and_true, and_self, if_true, if_false, ite_true, ite_false, Nat.lt_irrefl, List.length_nil, List.length_cons, Nat.reduceAdd, Nat.reduceLeDiff, Nat.reduceLT, Nat.reduceEqDiff, Nat.zero_lt_one, not_true, not_false_iff, bI_0, bI_1, ne_eq, reduceCtorEq, false_and, and_false, or_true, true_or, or_false, false_or, Nat.lt_one_iff, eq_self, Nat.zero_le, am_ko_v, am_ko_0, am_kil, Nat.reduceBEq, Int32.reduceLT, Int32.reduceLE, Int32.reduceAdd, Int32.reduceSub, i32_10, i32_01, not_true_eq_false, not_false_eq_true, Classical.not_not, nor_self, Nat.lt_add_one, nI_1, nI_pred, rf_n, i32_m0, i32_m1, reduceIte]
        refine C227 (RFR_ch (ch := ch) h) hv hP ((mI_sIr_k (by decide)).trans e2) ol (outP_add ho hp) (fun g' => ?_)
        generalize hTe : DR v (k + 1) (m - (k + 1)) (addB O p) P (2 ^ (m - (k + 1)) - 1) = T at hT hT9
        rw [am_ko_v]
        by_cases c3 : v k p + T = W
        · have c4 : nI (v k p + T) = nI W := by rw [c3]
          have ew : nI W - nI (v k p) = nI T := by rw [← c3, pk_sub (by omega), show v k p + T - v k p = T by omega]
          have hz := fun (a7 : Option aV) => qs p T (by omega) co (by omega) hT c3 hn _ g' a7 (some (vi (nI (v k p)))) (outP_add ho hp)
          have cu : ¬ nI p = -1 := nI_m1 (by omega)
          have hu : upN ch k (nI p) k = nI p := if_pos rfl
          show WP (d + 1) 228 161 _ _ (smM σ ch g') Q
          simp only [S228_161, S228_162, S228_163, S228_166, S228_169, S228_170, S228_173, S228_175, S228_177, S228_178, S228_180, S228_181, S228_183, S228_184, S228_185, S228_187, S228_188, S228_190, S228_191, S228_192, S228_195, gL_sI, gR_sI, gN_sI, gC_sI, gB_sI, gI_sL, gR_sL, gN_sL, gC_sL, gB_sL, gI_sR, gL_sR, gN_sR, gC_sR, gB_sR, gL_sIr, gR_sIr, gN_sIr, gC_sIr, gB_sIr, gI_sLr, gR_sLr, gN_sLr, gC_sLr, gB_sLr, gI_sRr, gL_sRr, gN_sRr, gC_sRr, gB_sRr, gI_sN, gL_sN, gR_sN, gC_sN, gB_sN, gI_sC, gL_sC, gR_sC, gN_sC, gB_sC, gI_sB, gL_sB, gR_sB, gN_sB, gC_sB, gB_sB, gB_am_mk, gI_am_ml, gL_am_ml, gR_am_ml, gB_am_ml, gI_am_add, gL_am_add, gC_am_add, gB_am_add, gI_am_ins, gL_am_ins, gC_am_ins, gB_am_ins, gI_am_rem, gL_am_rem, gC_am_rem, gB_am_rem, gI_am_thr, gL_am_thr, gR_am_thr, gN_am_thr, gB_am_thr, mI_sI_k, mI_sI_j, mI_sI_b, mI_sI_s, mI_sI_i, mI_sI_c, mL_sL_k, mL_sL_j, mL_sL_b, mL_sL_s, mL_sL_i, mL_sL_c, mR_sR_k, mR_sR_j, mR_sR_b, mR_sR_s, mR_sR_i, mR_sR_c, mI_sIr_k, mI_sIr_s, mI_sIr_i, mL_sLr_k, mL_sLr_s, mL_sLr_i, mR_sRr_k, mR_sRr_s, mR_sRr_i, mN_sN_k, mN_sN_i, mN_am_add_k, mN_am_add_s, mR_am_add_k, mN_am_ins_k, mN_am_ins_s, mR_am_ins_k, mN_am_rem_k, mN_am_rem_s, mR_am_rem_k, mR_am_add_s, mR_am_ins_s, mR_am_rem_s, mI_am_mk_k, mI_am_mk_s, mI_am_mk_i, mL_am_mk_k, mL_am_mk_s, mL_am_mk_i, mR_am_mk_k, mR_am_mk_s, mR_am_mk_i, mN_am_mk_k, mN_am_mk_i, mC_am_mk_k, mC_am_mk_s, mN_am_ml_k, mN_am_ml_i, mC_am_ml_k, mC_am_ml_s, mC_sC_k, mC_am_thr_k, sC_3 S, sC_4 S, sR_4_81 S, sC_97 S, sN_97 S, sR_4_82 S, sC_98 S, sN_98 S, sR_4_83 S, sC_99 S, sN_99 S, k0, k1, k2, k3, k4, k5, k6, k7, k8, k9, k10, k11, k12, k13, k14, k15, k16, k17, k18, k19, k20, k21, k22, k23, k24, k25, k26, k27, k28, k29, k30, k31, k32, k33, k34, k35, k36, k37, k38, k39, k40, k41, k42, k43, k44, k45, k46, k47, k48, k49, k50, k51, k52, k53, k54, k55, k56, k57, k58, k59, k60, k61, k62, k63, k64, k65, k66, k67, k68, k69, k70, k71, k72, k73, k74, k75, k76, k77, k78, k79, k80, k81, k82, k83, k84, k85, k86, k87, k88, k89, k90, k91, k92, k93, k94, k95, k96, k97, k98, k99, k100, sm_R, sm_C, sm_N, sm_98, sm_I, sm_w, nI_add, c4, ini_iff k31, nI_clamp k31, k7, ew, true_and, and_true, and_self, if_true, if_false, ite_true, ite_false, Nat.lt_irrefl, List.length_nil, List.length_cons, Nat.reduceAdd, Nat.reduceLeDiff, Nat.reduceLT, Nat.reduceEqDiff, Nat.zero_lt_one, not_true, not_false_iff, bI_0, bI_1, ne_eq, reduceCtorEq, false_and, and_false, or_true, true_or, or_false, false_or, Nat.lt_one_iff, eq_self, Nat.zero_le, am_ko_v, am_ko_0, am_kil, Nat.reduceBEq, Int32.reduceLT, Int32.reduceLE, Int32.reduceAdd, Int32.reduceSub, i32_10, i32_01, not_true_eq_false, not_false_eq_true, Classical.not_not, nor_self, Nat.lt_add_one, nI_1, nI_pred, rf_n, i32_m0, i32_m1, reduceIte]
          rw [S228_87]
          by_cases c5 : p + 1 < P
          · have c6 : nI (p + 1) < nI P := nI_lt c5 (by omega)
            simp only [S228_89, S228_90, S228_93, S228_96, S228_97, S228_100, S228_102, S228_103, S228_104, gL_sI, gR_sI, gN_sI, gC_sI, gB_sI, gI_sL, gR_sL, gN_sL, gC_sL, gB_sL, gI_sR, gL_sR, gN_sR, gC_sR, gB_sR, gL_sIr, gR_sIr, gN_sIr, gC_sIr, gB_sIr, gI_sLr, gR_sLr, gN_sLr, gC_sLr, gB_sLr, gI_sRr, gL_sRr, gN_sRr, gC_sRr, gB_sRr, gI_sN, gL_sN, gR_sN, gC_sN, gB_sN, gI_sC, gL_sC, gR_sC, gN_sC, gB_sC, gI_sB, gL_sB, gR_sB, gN_sB, gC_sB, gB_sB, gB_am_mk, gI_am_ml, gL_am_ml, gR_am_ml, gB_am_ml, gI_am_add, gL_am_add, gC_am_add, gB_am_add, gI_am_ins, gL_am_ins, gC_am_ins, gB_am_ins, gI_am_rem, gL_am_rem, gC_am_rem, gB_am_rem, gI_am_thr, gL_am_thr, gR_am_thr, gN_am_thr, gB_am_thr, mI_sI_k, mI_sI_j, mI_sI_b, mI_sI_s, mI_sI_i, mI_sI_c, mL_sL_k, mL_sL_j, mL_sL_b, mL_sL_s, mL_sL_i, mL_sL_c, mR_sR_k, mR_sR_j, mR_sR_b, mR_sR_s, mR_sR_i, mR_sR_c, mI_sIr_k, mI_sIr_s, mI_sIr_i, mL_sLr_k, mL_sLr_s, mL_sLr_i, mR_sRr_k, mR_sRr_s, mR_sRr_i, mN_sN_k, mN_sN_i, mN_am_add_k, mN_am_add_s, mR_am_add_k, mN_am_ins_k, mN_am_ins_s, mR_am_ins_k, mN_am_rem_k, mN_am_rem_s, mR_am_rem_k, mR_am_add_s, mR_am_ins_s, mR_am_rem_s, mI_am_mk_k, mI_am_mk_s, mI_am_mk_i, mL_am_mk_k, mL_am_mk_s, mL_am_mk_i, mR_am_mk_k, mR_am_mk_s, mR_am_mk_i, mN_am_mk_k, mN_am_mk_i, mC_am_mk_k, mC_am_mk_s, mN_am_ml_k, mN_am_ml_i, mC_am_ml_k, mC_am_ml_s, mC_sC_k, mC_am_thr_k, sC_3 S, sC_4 S, sR_4_81 S, sC_97 S, sN_97 S, sR_4_82 S, sC_98 S, sN_98 S, sR_4_83 S, sC_99 S, sN_99 S, k0, k1, k2, k3, k4, k5, k6, k7, k8, k9, k10, k11, k12, k13, k14, k15, k16, k17, k18, k19, k20, k21, k22, k23, k24, k25, k26, k27, k28, k29, k30, k31, k32, k33, k34, k35, k36, k37, k38, k39, k40, k41, k42, k43, k44, k45, k46, k47, k48, k49, k50, k51, k52, k53, k54, k55, k56, k57, k58, k59, k60, k61, k62, k63, k64, k65, k66, k67, k68, k69, k70, k71, k72, k73, k74, k75, k76, k77, k78, k79, k80, k81, k82, k83, k84, k85, k86, k87, k88, k89, k90, k91, k92, k93, k94, k95, k96, k97, k98, k99, k100, sm_R, sm_C, sm_N, sm_98, sm_I, e2, c6, ini_iff k31, nI_clamp k31, k7, hu, cu, true_and, and_true, and_self, if_true, if_false, ite_true, ite_false, Nat.lt_irrefl, List.length_nil, List.length_cons, Nat.reduceAdd, Nat.reduceLeDiff, Nat.reduceLT, Nat.reduceEqDiff, Nat.zero_lt_one, not_true, not_false_iff, bI_0, bI_1, ne_eq, reduceCtorEq, false_and, and_false, or_true, true_or, or_false, false_or, Nat.lt_one_iff, eq_self, Nat.zero_le, am_ko_v, am_ko_0, am_kil, Nat.reduceBEq, Int32.reduceLT, Int32.reduceLE, Int32.reduceAdd, Int32.reduceSub, i32_10, i32_01, not_true_eq_false, not_false_eq_true, Classical.not_not, nor_self, Nat.lt_add_one, nI_1, nI_pred, rf_n, i32_m0, i32_m1, reduceIte]
            exact hz _
          · have c6 : ¬ nI (p + 1) < nI P := nI_nlt (by omega) (by omega)
            simp only [S228_89, S228_90, S228_93, S228_96, S228_97, S228_100, S228_102, S228_103, S228_104, gL_sI, gR_sI, gN_sI, gC_sI, gB_sI, gI_sL, gR_sL, gN_sL, gC_sL, gB_sL, gI_sR, gL_sR, gN_sR, gC_sR, gB_sR, gL_sIr, gR_sIr, gN_sIr, gC_sIr, gB_sIr, gI_sLr, gR_sLr, gN_sLr, gC_sLr, gB_sLr, gI_sRr, gL_sRr, gN_sRr, gC_sRr, gB_sRr, gI_sN, gL_sN, gR_sN, gC_sN, gB_sN, gI_sC, gL_sC, gR_sC, gN_sC, gB_sC, gI_sB, gL_sB, gR_sB, gN_sB, gC_sB, gB_sB, gB_am_mk, gI_am_ml, gL_am_ml, gR_am_ml, gB_am_ml, gI_am_add, gL_am_add, gC_am_add, gB_am_add, gI_am_ins, gL_am_ins, gC_am_ins, gB_am_ins, gI_am_rem, gL_am_rem, gC_am_rem, gB_am_rem, gI_am_thr, gL_am_thr, gR_am_thr, gN_am_thr, gB_am_thr, mI_sI_k, mI_sI_j, mI_sI_b, mI_sI_s, mI_sI_i, mI_sI_c, mL_sL_k, mL_sL_j, mL_sL_b, mL_sL_s, mL_sL_i, mL_sL_c, mR_sR_k, mR_sR_j, mR_sR_b, mR_sR_s, mR_sR_i, mR_sR_c, mI_sIr_k, mI_sIr_s, mI_sIr_i, mL_sLr_k, mL_sLr_s, mL_sLr_i, mR_sRr_k, mR_sRr_s, mR_sRr_i, mN_sN_k, mN_sN_i, mN_am_add_k, mN_am_add_s, mR_am_add_k, mN_am_ins_k, mN_am_ins_s, mR_am_ins_k, mN_am_rem_k, mN_am_rem_s, mR_am_rem_k, mR_am_add_s, mR_am_ins_s, mR_am_rem_s, mI_am_mk_k, mI_am_mk_s, mI_am_mk_i, mL_am_mk_k, mL_am_mk_s, mL_am_mk_i, mR_am_mk_k, mR_am_mk_s, mR_am_mk_i, mN_am_mk_k, mN_am_mk_i, mC_am_mk_k, mC_am_mk_s, mN_am_ml_k, mN_am_ml_i, mC_am_ml_k, mC_am_ml_s, mC_sC_k, mC_am_thr_k, sC_3 S, sC_4 S, sR_4_81 S, sC_97 S, sN_97 S, sR_4_82 S, sC_98 S, sN_98 S, sR_4_83 S, sC_99 S, sN_99 S, k0, k1, k2, k3, k4, k5, k6, k7, k8, k9, k10, k11, k12, k13, k14, k15, k16, k17, k18, k19, k20, k21, k22, k23, k24, k25, k26, k27, k28, k29, k30, k31, k32, k33, k34, k35, k36, k37, k38, k39, k40, k41, k42, k43, k44, k45, k46, k47, k48, k49, k50, k51, k52, k53, k54, k55, k56, k57, k58, k59, k60, k61, k62, k63, k64, k65, k66, k67, k68, k69, k70, k71, k72, k73, k74, k75, k76, k77, k78, k79, k80, k81, k82, k83, k84, k85, k86, k87, k88, k89, k90, k91, k92, k93, k94, k95, k96, k97, k98, k99, k100, sm_R, sm_C, sm_N, sm_98, sm_I, e2, c6, true_and, and_true, and_self, if_true, if_false, ite_true, ite_false, Nat.lt_irrefl, List.length_nil, List.length_cons, Nat.reduceAdd, Nat.reduceLeDiff, Nat.reduceLT, Nat.reduceEqDiff, Nat.zero_lt_one, not_true, not_false_iff, bI_0, bI_1, ne_eq, reduceCtorEq, false_and, and_false, or_true, true_or, or_false, false_or, Nat.lt_one_iff, eq_self, Nat.zero_le, am_ko_v, am_ko_0, am_kil, Nat.reduceBEq, Int32.reduceLT, Int32.reduceLE, Int32.reduceAdd, Int32.reduceSub, i32_10, i32_01, not_true_eq_false, not_false_eq_true, Classical.not_not, nor_self, Nat.lt_add_one, nI_1, nI_pred, rf_n, i32_m0, i32_m1, reduceIte]
            exact hz _
        · have c4 : ¬ nI (v k p + T) = nI W := fun e => c3 ((nI_eq (by omega) (by omega)).mp e)
          have hz := ih (p + 1) g' (some (vi (nI (v k p)))) (by omega) (fun q U hq hO hv hTq => by
            by_cases e : q = p
            · subst e
              rw [Top_one hTq hT]; exact c3
            · exact hn q U (by omega) hO hv hTq)
          show WP (d + 1) 228 161 _ _ (smM σ ch g') Q
          simp only [S228_161, S228_162, S228_163, S228_166, S228_169, S228_170, S228_173, S228_175, S228_177, S228_178, S228_180, S228_181, S228_183, S228_184, S228_185, S228_187, S228_188, S228_190, S228_191, S228_192, S228_195, gL_sI, gR_sI, gN_sI, gC_sI, gB_sI, gI_sL, gR_sL, gN_sL, gC_sL, gB_sL, gI_sR, gL_sR, gN_sR, gC_sR, gB_sR, gL_sIr, gR_sIr, gN_sIr, gC_sIr, gB_sIr, gI_sLr, gR_sLr, gN_sLr, gC_sLr, gB_sLr, gI_sRr, gL_sRr, gN_sRr, gC_sRr, gB_sRr, gI_sN, gL_sN, gR_sN, gC_sN, gB_sN, gI_sC, gL_sC, gR_sC, gN_sC, gB_sC, gI_sB, gL_sB, gR_sB, gN_sB, gC_sB, gB_sB, gB_am_mk, gI_am_ml, gL_am_ml, gR_am_ml, gB_am_ml, gI_am_add, gL_am_add, gC_am_add, gB_am_add, gI_am_ins, gL_am_ins, gC_am_ins, gB_am_ins, gI_am_rem, gL_am_rem, gC_am_rem, gB_am_rem, gI_am_thr, gL_am_thr, gR_am_thr, gN_am_thr, gB_am_thr, mI_sI_k, mI_sI_j, mI_sI_b, mI_sI_s, mI_sI_i, mI_sI_c, mL_sL_k, mL_sL_j, mL_sL_b, mL_sL_s, mL_sL_i, mL_sL_c, mR_sR_k, mR_sR_j, mR_sR_b, mR_sR_s, mR_sR_i, mR_sR_c, mI_sIr_k, mI_sIr_s, mI_sIr_i, mL_sLr_k, mL_sLr_s, mL_sLr_i, mR_sRr_k, mR_sRr_s, mR_sRr_i, mN_sN_k, mN_sN_i, mN_am_add_k, mN_am_add_s, mR_am_add_k, mN_am_ins_k, mN_am_ins_s, mR_am_ins_k, mN_am_rem_k, mN_am_rem_s, mR_am_rem_k, mR_am_add_s, mR_am_ins_s, mR_am_rem_s, mI_am_mk_k, mI_am_mk_s, mI_am_mk_i, mL_am_mk_k, mL_am_mk_s, mL_am_mk_i, mR_am_mk_k, mR_am_mk_s, mR_am_mk_i, mN_am_mk_k, mN_am_mk_i, mC_am_mk_k, mC_am_mk_s, mN_am_ml_k, mN_am_ml_i, mC_am_ml_k, mC_am_ml_s, mC_sC_k, mC_am_thr_k, sC_3 S, sC_4 S, sR_4_81 S, sC_97 S, sN_97 S, sR_4_82 S, sC_98 S, sN_98 S, sR_4_83 S, sC_99 S, sN_99 S, k0, k1, k2, k3, k4, k5, k6, k7, k8, k9, k10, k11, k12, k13, k14, k15, k16, k17, k18, k19, k20, k21, k22, k23, k24, k25, k26, k27, k28, k29, k30, k31, k32, k33, k34, k35, k36, k37, k38, k39, k40, k41, k42, k43, k44, k45, k46, k47, k48, k49, k50, k51, k52, k53, k54, k55, k56, k57, k58, k59, k60, k61, k62, k63, k64, k65, k66, k67, k68, k69, k70, k71, k72, k73, k74, k75, k76, k77, k78, k79, k80, k81, k82, k83, k84, k85, k86, k87, k88, k89, k90, k91, k92, k93, k94, k95, k96, k97, k98, k99, k100, sm_R, sm_C, sm_N, sm_98, sm_I, nI_add, c4, true_and, and_true, and_self, if_true, if_false, ite_true, ite_false, Nat.lt_irrefl, List.length_nil, List.length_cons, Nat.reduceAdd, Nat.reduceLeDiff, Nat.reduceLT, Nat.reduceEqDiff, Nat.zero_lt_one, not_true, not_false_iff, bI_0, bI_1, ne_eq, reduceCtorEq, false_and, and_false, or_true, true_or, or_false, false_or, Nat.lt_one_iff, eq_self, Nat.zero_le, am_ko_v, am_ko_0, am_kil, Nat.reduceBEq, Int32.reduceLT, Int32.reduceLE, Int32.reduceAdd, Int32.reduceSub, i32_10, i32_01, not_true_eq_false, not_false_eq_true, Classical.not_not, nor_self, Nat.lt_add_one, nI_1, nI_pred, rf_n, i32_m0, i32_m1, reduceIte]
          exact hz
theorem chF_p {p : Nat} (hp : p < 60) : chF (63 - p) = nI p := by
  unfold chF
  rw [if_neg (by omega), show 63 - (63 - p) = p by omega]
theorem L228o {X0 : Nat} (h : RFR σ m hs v) (hv : ∀ i p, v i p ≤ 100000) (hP : P ≤ 60) (e2 : gI σ 4 0 2 = nI P) (hq : ∀ f A ch g, (∀ j, f j ≤ 63) → (∀ j, j < m → ch j = chF (f j)) → X0 = A * 4398046511104 + pd f → Q (some (some (vi x2))) (smM σ ch g)) :
    ∀ r k X O out ch g (f : Nat → Nat) A (a7 a8 : Option aV), k + r = m → Top (alV v) (wP v) P (bP O) (geS k m) X → outP out O → (∀ j, f j ≤ 63) → (∀ j, k ≤ j → f j = 0) → (∀ j, j < k → ch j = chF (f j)) → X0 = A * 4398046511104 + pd f + X → WP (d + 1) 228 67 [some (vr (some (4, 0))), some (vi x1), some (vi x2), some (vi (nI (X / 4398046511104))), some (vl out), none, some (vi (nI k)), a7, a8] [] (smM σ ch g) Q := by
  obtain ⟨S, hm, h7, hh⟩ := id h
  intro r
  induction r with
  | zero =>
    intro k X O out ch g f A a7 a8 hi hX ho f1 f2 f3 f4
    have e : k = m := by omega
    rw [e] at hX
    have x0 := Top_end hX
    have c1 : ¬ nI k < nI m := nI_nlt (by omega) (by omega)
    have hz := hq f A ch g f1 (fun j hj => f3 j (by omega)) (by rw [f4, x0, Nat.add_zero])
    rw [S228_67]
    simp only [S228_69, S228_70, S228_73, S228_76, S228_77, S228_80, S228_82, S228_83, S228_84, S228_85, S228_89, S228_90, S228_93, S228_96, S228_97, S228_100, S228_102, S228_103, S228_104, S228_107, S228_108, S228_111, S228_113, S228_115, S228_116, S228_117, S228_120, S228_122, S228_123, S228_124, S228_125, S228_127, S228_129, S228_131, S228_132, S228_133, S228_134, S228_135, S228_136, S228_139, S228_141, S228_144, S228_146, S228_147, S228_149, S228_150, S228_151, S228_153, S228_154, S228_156, S228_157, S228_158, S228_161, S228_162, S228_163, S228_166, S228_169, S228_170, S228_173, S228_175, S228_177, S228_178, S228_180, S228_181, S228_183, S228_184, S228_185, S228_187, S228_188, S228_190, S228_191, S228_192, S228_195, S228_198, S228_201, S228_204, S228_205, gL_sI, gR_sI, gN_sI, gC_sI, gB_sI, gI_sL, gR_sL, gN_sL, gC_sL, gB_sL, gI_sR, gL_sR, gN_sR, gC_sR, gB_sR, gL_sIr, gR_sIr, gN_sIr, gC_sIr, gB_sIr, gI_sLr, gR_sLr, gN_sLr, gC_sLr, gB_sLr, gI_sRr, gL_sRr, gN_sRr, gC_sRr, gB_sRr, gI_sN, gL_sN, gR_sN, gC_sN, gB_sN, gI_sC, gL_sC, gR_sC, gN_sC, gB_sC, gI_sB, gL_sB, gR_sB, gN_sB, gC_sB, gB_sB, gB_am_mk, gI_am_ml, gL_am_ml, gR_am_ml, gB_am_ml, gI_am_add, gL_am_add, gC_am_add, gB_am_add, gI_am_ins, gL_am_ins, gC_am_ins, gB_am_ins, gI_am_rem, gL_am_rem, gC_am_rem, gB_am_rem, gI_am_thr, gL_am_thr, gR_am_thr, gN_am_thr, gB_am_thr, mI_sI_k, mI_sI_j, mI_sI_b, mI_sI_s, mI_sI_i, mI_sI_c, mL_sL_k, mL_sL_j, mL_sL_b, mL_sL_s, mL_sL_i, mL_sL_c, mR_sR_k, mR_sR_j, mR_sR_b, mR_sR_s, mR_sR_i, mR_sR_c, mI_sIr_k, mI_sIr_s, mI_sIr_i, mL_sLr_k, mL_sLr_s, mL_sLr_i, mR_sRr_k, mR_sRr_s, mR_sRr_i, mN_sN_k, mN_sN_i, mN_am_add_k, mN_am_add_s, mR_am_add_k, mN_am_ins_k, mN_am_ins_s, mR_am_ins_k, mN_am_rem_k, mN_am_rem_s, mR_am_rem_k, mR_am_add_s, mR_am_ins_s, mR_am_rem_s, mI_am_mk_k, mI_am_mk_s, mI_am_mk_i, mL_am_mk_k, mL_am_mk_s, mL_am_mk_i, mR_am_mk_k, mR_am_mk_s, mR_am_mk_i, mN_am_mk_k, mN_am_mk_i, mC_am_mk_k, mC_am_mk_s, mN_am_ml_k, mN_am_ml_i, mC_am_ml_k, mC_am_ml_s, mC_sC_k, mC_am_thr_k, sC_3 S, sC_4 S, sR_4_81 S, sC_97 S, sN_97 S, sR_4_82 S, sC_98 S, sN_98 S, sR_4_83 S, sC_99 S, sN_99 S, k0, k1, k2, k3, k4, k5, k6, k7, k8, k9, k10, k11, k12, k13, k14, k15, k16, k17, k18, k19, k20, k21, k22, k23, k24, k25, k26, k27, k28, k29, k30, k31, k32, k33, k34, k35, k36, k37, k38, k39, k40, k41, k42, k43, k44, k45, k46, k47, k48, k49, k50, k51, k52, k53, k54, k55, k56, k57, k58, k59, k60, k61, k62, k63, k64, k65, k66, k67, k68, k69, k70, k71, k72, k73, k74, k75, k76, k77, k78, k79, k80, k81, k82, k83, k84, k85, k86, k87, k88, k89, k90, k91, k92, k93, k94, k95, k96, k97, k98, k99, k100, sm_R, sm_C, sm_I, hm, c1, true_and, and_true, and_self, if_true, if_false, ite_true, ite_false, Nat.lt_irrefl, List.length_nil, List.length_cons, Nat.reduceAdd, Nat.reduceLeDiff, Nat.reduceLT, Nat.reduceEqDiff, Nat.zero_lt_one, not_true, not_false_iff, bI_0, bI_1, ne_eq, reduceCtorEq, false_and, and_false, or_true, true_or, or_false, false_or, Nat.lt_one_iff, eq_self, Nat.zero_le, am_ko_v, am_ko_0, am_kil, Nat.reduceBEq, Int32.reduceLT, Int32.reduceLE, Int32.reduceAdd, Int32.reduceSub, i32_10, i32_01, not_true_eq_false, not_false_eq_true, Classical.not_not, nor_self, Nat.lt_add_one, nI_1, nI_pred, rf_n, i32_m0, i32_m1, reduceIte]
    exact hz
  | succ r ih =>
    intro k X O out ch g f A a7 a8 hi hX ho f1 f2 f3 f4
    have hk : k < m := by omega
    have k31 : k < 2147483648 := by omega
    have k7 : k < 7 := by omega
    have c1 : nI k < nI m := nI_lt hk (by omega)
    have hW : X / 4398046511104 < 10000000 := by
      have a := Had_100 (P := P) (O := bP O) hv 7 (fun i hi => by have := hi.2; omega) (Top_sum (fun i hi => by have := hi.2; omega) hX).1
      omega
    obtain ⟨G1, G2⟩ := greedy h7 hk (show P ≤ 62 by omega) hX
    have ch1 : upN ch k (-1) k = -1 := if_pos rfl
    have cho : ∀ j, j < k → upN ch k (-1) j = ch j := fun j hj => if_neg (by omega)
    rw [S228_67]
    simp only [S228_69, S228_70, S228_73, S228_76, S228_77, S228_80, S228_82, S228_83, S228_84, S228_85, gL_sI, gR_sI, gN_sI, gC_sI, gB_sI, gI_sL, gR_sL, gN_sL, gC_sL, gB_sL, gI_sR, gL_sR, gN_sR, gC_sR, gB_sR, gL_sIr, gR_sIr, gN_sIr, gC_sIr, gB_sIr, gI_sLr, gR_sLr, gN_sLr, gC_sLr, gB_sLr, gI_sRr, gL_sRr, gN_sRr, gC_sRr, gB_sRr, gI_sN, gL_sN, gR_sN, gC_sN, gB_sN, gI_sC, gL_sC, gR_sC, gN_sC, gB_sC, gI_sB, gL_sB, gR_sB, gN_sB, gC_sB, gB_sB, gB_am_mk, gI_am_ml, gL_am_ml, gR_am_ml, gB_am_ml, gI_am_add, gL_am_add, gC_am_add, gB_am_add, gI_am_ins, gL_am_ins, gC_am_ins, gB_am_ins, gI_am_rem, gL_am_rem, gC_am_rem, gB_am_rem, gI_am_thr, gL_am_thr, gR_am_thr, gN_am_thr, gB_am_thr, mI_sI_k, mI_sI_j, mI_sI_b, mI_sI_s, mI_sI_i, mI_sI_c, mL_sL_k, mL_sL_j, mL_sL_b, mL_sL_s, mL_sL_i, mL_sL_c, mR_sR_k, mR_sR_j, mR_sR_b, mR_sR_s, mR_sR_i, mR_sR_c, mI_sIr_k, mI_sIr_s, mI_sIr_i, mL_sLr_k, mL_sLr_s, mL_sLr_i, mR_sRr_k, mR_sRr_s, mR_sRr_i, mN_sN_k, mN_sN_i, mN_am_add_k, mN_am_add_s, mR_am_add_k, mN_am_ins_k, mN_am_ins_s, mR_am_ins_k, mN_am_rem_k, mN_am_rem_s, mR_am_rem_k, mR_am_add_s, mR_am_ins_s, mR_am_rem_s, mI_am_mk_k, mI_am_mk_s, mI_am_mk_i, mL_am_mk_k, mL_am_mk_s, mL_am_mk_i, mR_am_mk_k, mR_am_mk_s, mR_am_mk_i, mN_am_mk_k, mN_am_mk_i, mC_am_mk_k, mC_am_mk_s, mN_am_ml_k, mN_am_ml_i, mC_am_ml_k, mC_am_ml_s, mC_sC_k, mC_am_thr_k, sC_3 S, sC_4 S, sR_4_81 S, sC_97 S, sN_97 S, sR_4_82 S, sC_98 S, sN_98 S, sR_4_83 S, sC_99 S, sN_99 S, k0, k1, k2, k3, k4, k5, k6, k7, k8, k9, k10, k11, k12, k13, k14, k15, k16, k17, k18, k19, k20, k21, k22, k23, k24, k25, k26, k27, k28, k29, k30, k31, k32, k33, k34, k35, k36, k37, k38, k39, k40, k41, k42, k43, k44, k45, k46, k47, k48, k49, k50, k51, k52, k53, k54, k55, k56, k57, k58, k59, k60, k61, k62, k63, k64, k65, k66, k67, k68, k69, k70, k71, k72, k73, k74, k75, k76, k77, k78, k79, k80, k81, k82, k83, k84, k85, k86, k87, k88, k89, k90, k91, k92, k93, k94, k95, k96, k97, k98, k99, k100, sm_R, sm_C, sm_N, sm_I, hm, c1, ini_iff k31, nI_clamp k31, k7, sm_w, true_and, and_true, and_self, if_true, if_false, ite_true, ite_false, Nat.lt_irrefl, List.length_nil, List.length_cons, Nat.reduceAdd, Nat.reduceLeDiff, Nat.reduceLT, Nat.reduceEqDiff, Nat.zero_lt_one, not_true, not_false_iff, bI_0, bI_1, ne_eq, reduceCtorEq, false_and, and_false, or_true, true_or, or_false, false_or, Nat.lt_one_iff, eq_self, Nat.zero_le, am_ko_v, am_ko_0, am_kil, Nat.reduceBEq, Int32.reduceLT, Int32.reduceLE, Int32.reduceAdd, Int32.reduceSub, i32_10, i32_01, not_true_eq_false, not_false_eq_true, Classical.not_not, nor_self, Nat.lt_add_one, nI_1, nI_pred, rf_n, i32_m0, i32_m1, reduceIte]
    rw [← nI_0]
    refine L228p h hv hP e2 hk ho hW ch1 (fun hn g' b7 b8 => ?_) (fun p T hp hO hvp hT he hl out' g' b7 b8 ho' => ?_) P 0 g a8 (by omega) (fun q U hq => absurd hq (Nat.not_lt_zero _))
    · have hz := ih (k + 1) X O out (upN ch k (-1)) g' f A b7 b8 (by omega) (G2 hn) ho f1 (fun j hj => f2 j (by omega)) (fun j hj => by
        by_cases e : j = k
        · subst e; rw [ch1, f2 j (Nat.le_refl _)]; rfl
        · rw [cho j (by omega)]; exact f3 j (by omega)) f4
      simp only [S228_198, S228_201, gL_sI, gR_sI, gN_sI, gC_sI, gB_sI, gI_sL, gR_sL, gN_sL, gC_sL, gB_sL, gI_sR, gL_sR, gN_sR, gC_sR, gB_sR, gL_sIr, gR_sIr, gN_sIr, gC_sIr, gB_sIr, gI_sLr, gR_sLr, gN_sLr, gC_sLr, gB_sLr, gI_sRr, gL_sRr, gN_sRr, gC_sRr, gB_sRr, gI_sN, gL_sN, gR_sN, gC_sN, gB_sN, gI_sC, gL_sC, gR_sC, gN_sC, gB_sC, gI_sB, gL_sB, gR_sB, gN_sB, gC_sB, gB_sB, gB_am_mk, gI_am_ml, gL_am_ml, gR_am_ml, gB_am_ml, gI_am_add, gL_am_add, gC_am_add, gB_am_add, gI_am_ins, gL_am_ins, gC_am_ins, gB_am_ins, gI_am_rem, gL_am_rem, gC_am_rem, gB_am_rem, gI_am_thr, gL_am_thr, gR_am_thr, gN_am_thr, gB_am_thr, mI_sI_k, mI_sI_j, mI_sI_b, mI_sI_s, mI_sI_i, mI_sI_c, mL_sL_k, mL_sL_j, mL_sL_b, mL_sL_s, mL_sL_i, mL_sL_c, mR_sR_k, mR_sR_j, mR_sR_b, mR_sR_s, mR_sR_i, mR_sR_c, mI_sIr_k, mI_sIr_s, mI_sIr_i, mL_sLr_k, mL_sLr_s, mL_sLr_i, mR_sRr_k, mR_sRr_s, mR_sRr_i, mN_sN_k, mN_sN_i, mN_am_add_k, mN_am_add_s, mR_am_add_k, mN_am_ins_k, mN_am_ins_s, mR_am_ins_k, mN_am_rem_k, mN_am_rem_s, mR_am_rem_k, mR_am_add_s, mR_am_ins_s, mR_am_rem_s, mI_am_mk_k, mI_am_mk_s, mI_am_mk_i, mL_am_mk_k, mL_am_mk_s, mL_am_mk_i, mR_am_mk_k, mR_am_mk_s, mR_am_mk_i, mN_am_mk_k, mN_am_mk_i, mC_am_mk_k, mC_am_mk_s, mN_am_ml_k, mN_am_ml_i, mC_am_ml_k, mC_am_ml_s, mC_sC_k, mC_am_thr_k, sC_3 S, sC_4 S, sR_4_81 S, sC_97 S, sN_97 S, sR_4_82 S, sC_98 S, sN_98 S, sR_4_83 S, sC_99 S, sN_99 S, k0, k1, k2, k3, k4, k5, k6, k7, k8, k9, k10, k11, k12, k13, k14, k15, k16, k17, k18, k19, k20, k21, k22, k23, k24, k25, k26, k27, k28, k29, k30, k31, k32, k33, k34, k35, k36, k37, k38, k39, k40, k41, k42, k43, k44, k45, k46, k47, k48, k49, k50, k51, k52, k53, k54, k55, k56, k57, k58, k59, k60, k61, k62, k63, k64, k65, k66, k67, k68, k69, k70, k71, k72, k73, k74, k75, k76, k77, k78, k79, k80, k81, k82, k83, k84, k85, k86, k87, k88, k89, k90, k91, k92, k93, k94, k95, k96, k97, k98, k99, k100, nI_add, true_and, and_true, and_self, if_true, if_false, ite_true, ite_false, Nat.lt_irrefl, List.length_nil, List.length_cons, Nat.reduceAdd, Nat.reduceLeDiff, Nat.reduceLT, Nat.reduceEqDiff, Nat.zero_lt_one, not_true, not_false_iff, bI_0, bI_1, ne_eq, reduceCtorEq, false_and, and_false, or_true, true_or, or_false, false_or, Nat.lt_one_iff, eq_self, Nat.zero_le, am_ko_v, am_ko_0, am_kil, Nat.reduceBEq, Int32.reduceLT, Int32.reduceLE, Int32.reduceAdd, Int32.reduceSub, i32_10, i32_01, not_true_eq_false, not_false_eq_true, Classical.not_not, nor_self, Nat.lt_add_one, nI_1, nI_pred, rf_n, i32_m0, i32_m1, reduceIte]
      exact hz
    · obtain ⟨X', hX', hXe, hXT⟩ := G1 p T hp hO hvp hT he hl
      have hf0 : f k = 0 := f2 k (Nat.le_refl _)
      have hpd := pd_upd (a := 63 - p) k7 hf0
      have hz := ih (k + 1) X' (addB O p) out' (upN (upN ch k (-1)) k (nI p)) g' (updN f k (63 - p)) (A + v k p) b7 b8 (by omega) (by rw [addB_p]; exact hX') ho' (fun j => by
        unfold updN
        by_cases e : j = k
        · rw [if_pos e]; omega
        · rw [if_neg e]; exact f1 j) (fun j hj => by
        unfold updN
        rw [if_neg (by omega)]; exact f2 j (by omega)) (fun j hj => by
        by_cases e : j = k
        · subst e
          unfold updN
          rw [if_pos rfl, chF_p (by omega)]
          exact if_pos rfl
        · unfold updN
          rw [if_neg e, ← f3 j (by omega), ← cho j (by omega)]
          exact if_neg e) (by
        rw [hpd, f4, hXe]
        unfold wP
        rw [Nat.add_mul]
        omega)
      rw [hXT] at hz
      simp only [S228_198, S228_201, gL_sI, gR_sI, gN_sI, gC_sI, gB_sI, gI_sL, gR_sL, gN_sL, gC_sL, gB_sL, gI_sR, gL_sR, gN_sR, gC_sR, gB_sR, gL_sIr, gR_sIr, gN_sIr, gC_sIr, gB_sIr, gI_sLr, gR_sLr, gN_sLr, gC_sLr, gB_sLr, gI_sRr, gL_sRr, gN_sRr, gC_sRr, gB_sRr, gI_sN, gL_sN, gR_sN, gC_sN, gB_sN, gI_sC, gL_sC, gR_sC, gN_sC, gB_sC, gI_sB, gL_sB, gR_sB, gN_sB, gC_sB, gB_sB, gB_am_mk, gI_am_ml, gL_am_ml, gR_am_ml, gB_am_ml, gI_am_add, gL_am_add, gC_am_add, gB_am_add, gI_am_ins, gL_am_ins, gC_am_ins, gB_am_ins, gI_am_rem, gL_am_rem, gC_am_rem, gB_am_rem, gI_am_thr, gL_am_thr, gR_am_thr, gN_am_thr, gB_am_thr, mI_sI_k, mI_sI_j, mI_sI_b, mI_sI_s, mI_sI_i, mI_sI_c, mL_sL_k, mL_sL_j, mL_sL_b, mL_sL_s, mL_sL_i, mL_sL_c, mR_sR_k, mR_sR_j, mR_sR_b, mR_sR_s, mR_sR_i, mR_sR_c, mI_sIr_k, mI_sIr_s, mI_sIr_i, mL_sLr_k, mL_sLr_s, mL_sLr_i, mR_sRr_k, mR_sRr_s, mR_sRr_i, mN_sN_k, mN_sN_i, mN_am_add_k, mN_am_add_s, mR_am_add_k, mN_am_ins_k, mN_am_ins_s, mR_am_ins_k, mN_am_rem_k, mN_am_rem_s, mR_am_rem_k, mR_am_add_s, mR_am_ins_s, mR_am_rem_s, mI_am_mk_k, mI_am_mk_s, mI_am_mk_i, mL_am_mk_k, mL_am_mk_s, mL_am_mk_i, mR_am_mk_k, mR_am_mk_s, mR_am_mk_i, mN_am_mk_k, mN_am_mk_i, mC_am_mk_k, mC_am_mk_s, mN_am_ml_k, mN_am_ml_i, mC_am_ml_k, mC_am_ml_s, mC_sC_k, mC_am_thr_k, sC_3 S, sC_4 S, sR_4_81 S, sC_97 S, sN_97 S, sR_4_82 S, sC_98 S, sN_98 S, sR_4_83 S, sC_99 S, sN_99 S, k0, k1, k2, k3, k4, k5, k6, k7, k8, k9, k10, k11, k12, k13, k14, k15, k16, k17, k18, k19, k20, k21, k22, k23, k24, k25, k26, k27, k28, k29, k30, k31, k32, k33, k34, k35, k36, k37, k38, k39, k40, k41, k42, k43, k44, k45, k46, k47, k48, k49, k50, k51, k52, k53, k54, k55, k56, k57, k58, k59, k60, k61, k62, k63, k64, k65, k66, k67, k68, k69, k70, k71, k72, k73, k74, k75, k76, k77, k78, k79, k80, k81, k82, k83, k84, k85, k86, k87, k88, k89, k90, k91, k92, k93, k94, k95, k96, k97, k98, k99, k100, nI_add, true_and, and_true, and_self, if_true, if_false, ite_true, ite_false, Nat.lt_irrefl, List.length_nil, List.length_cons, Nat.reduceAdd, Nat.reduceLeDiff, Nat.reduceLT, Nat.reduceEqDiff, Nat.zero_lt_one, not_true, not_false_iff, bI_0, bI_1, ne_eq, reduceCtorEq, false_and, and_false, or_true, true_or, or_false, false_or, Nat.lt_one_iff, eq_self, Nat.zero_le, am_ko_v, am_ko_0, am_kil, Nat.reduceBEq, Int32.reduceLT, Int32.reduceLE, Int32.reduceAdd, Int32.reduceSub, i32_10, i32_01, not_true_eq_false, not_false_eq_true, Classical.not_not, nor_self, Nat.lt_add_one, nI_1, nI_pred, rf_n, i32_m0, i32_m1, reduceIte]
      exact hz
theorem L228h {x : Int32} (S : Sh σ) (h30 : gN σ 22 0 ≤ 30) (e20 : gI σ 4 0 20 = nI (gN σ 22 0)) (h7 : (blF (toN x) (gN σ 22 0)).length ≤ 7) (hq : ∀ f (a2 : Option aV), (∀ j, j < (blF (toN x) (gN σ 22 0)).length → f j = nI ((blF (toN x) (gN σ 22 0)).getD j 0)) → WP (d + 1) 228 52 [some (vr (some (4, 0))), some (vi x), a2, none, none, none, none, none, none] [] (hzM σ (blF (toN x) (gN σ 22 0)).length f) Q) :
    ∀ k i f, i + k = gN σ 22 0 → (∀ j, j < (blF (toN x) i).length → f j = nI ((blF (toN x) i).getD j 0)) → WP (d + 1) 228 7 [some (vr (some (4, 0))), some (vi x), some (vi (nI i)), none, none, none, none, none, none] [] (hzM σ (blF (toN x) i).length f) Q := by
  intro k
  induction k with
  | zero =>
    intro i f hi hf
    have e : i = gN σ 22 0 := by omega
    have c1 : ¬ nI i < nI (gN σ 22 0) := nI_nlt (by omega) (by omega)
    have hz := hq f (some (vi (nI i))) (by rw [← e]; exact hf)
    rw [← e] at hz
    have e20' : gI (hzM σ (blF (toN x) i).length f) 4 0 20 = nI (gN σ 22 0) := (hz_4 (by decide)).trans e20
    rw [S228_7]
    simp only [S228_8, S228_9, S228_12, S228_15, S228_16, S228_17, S228_18, S228_19, S228_20, S228_23, S228_26, S228_27, S228_30, S228_31, S228_34, S228_35, S228_36, S228_37, S228_37q, S228_38, S228_41, S228_42, S228_43, S228_46, S228_49, gL_sI, gR_sI, gN_sI, gC_sI, gB_sI, gI_sL, gR_sL, gN_sL, gC_sL, gB_sL, gI_sR, gL_sR, gN_sR, gC_sR, gB_sR, gL_sIr, gR_sIr, gN_sIr, gC_sIr, gB_sIr, gI_sLr, gR_sLr, gN_sLr, gC_sLr, gB_sLr, gI_sRr, gL_sRr, gN_sRr, gC_sRr, gB_sRr, gI_sN, gL_sN, gR_sN, gC_sN, gB_sN, gI_sC, gL_sC, gR_sC, gN_sC, gB_sC, gI_sB, gL_sB, gR_sB, gN_sB, gC_sB, gB_sB, gB_am_mk, gI_am_ml, gL_am_ml, gR_am_ml, gB_am_ml, gI_am_add, gL_am_add, gC_am_add, gB_am_add, gI_am_ins, gL_am_ins, gC_am_ins, gB_am_ins, gI_am_rem, gL_am_rem, gC_am_rem, gB_am_rem, gI_am_thr, gL_am_thr, gR_am_thr, gN_am_thr, gB_am_thr, mI_sI_k, mI_sI_j, mI_sI_b, mI_sI_s, mI_sI_i, mI_sI_c, mL_sL_k, mL_sL_j, mL_sL_b, mL_sL_s, mL_sL_i, mL_sL_c, mR_sR_k, mR_sR_j, mR_sR_b, mR_sR_s, mR_sR_i, mR_sR_c, mI_sIr_k, mI_sIr_s, mI_sIr_i, mL_sLr_k, mL_sLr_s, mL_sLr_i, mR_sRr_k, mR_sRr_s, mR_sRr_i, mN_sN_k, mN_sN_i, mN_am_add_k, mN_am_add_s, mR_am_add_k, mN_am_ins_k, mN_am_ins_s, mR_am_ins_k, mN_am_rem_k, mN_am_rem_s, mR_am_rem_k, mR_am_add_s, mR_am_ins_s, mR_am_rem_s, mI_am_mk_k, mI_am_mk_s, mI_am_mk_i, mL_am_mk_k, mL_am_mk_s, mL_am_mk_i, mR_am_mk_k, mR_am_mk_s, mR_am_mk_i, mN_am_mk_k, mN_am_mk_i, mC_am_mk_k, mC_am_mk_s, mN_am_ml_k, mN_am_ml_i, mC_am_ml_k, mC_am_ml_s, mC_sC_k, mC_am_thr_k, sC_3 S, sC_4 S, sR_4_81 S, sC_97 S, sN_97 S, sR_4_82 S, sC_98 S, sN_98 S, sR_4_83 S, sC_99 S, sN_99 S, k0, k1, k2, k3, k4, k5, k6, k7, k8, k9, k10, k11, k12, k13, k14, k15, k16, k17, k18, k19, k20, k21, k22, k23, k24, k25, k26, k27, k28, k29, k30, k31, k32, k33, k34, k35, k36, k37, k38, k39, k40, k41, k42, k43, k44, k45, k46, k47, k48, k49, k50, k51, k52, k53, k54, k55, k56, k57, k58, k59, k60, k61, k62, k63, k64, k65, k66, k67, k68, k69, k70, k71, k72, k73, k74, k75, k76, k77, k78, k79, k80, k81, k82, k83, k84, k85, k86, k87, k88, k89, k90, k91, k92, k93, k94, k95, k96, k97, k98, k99, k100, hz_R, hz_C, e20', c1, true_and, and_true, and_self, if_true, if_false, ite_true, ite_false, Nat.lt_irrefl, List.length_nil, List.length_cons, Nat.reduceAdd, Nat.reduceLeDiff, Nat.reduceLT, Nat.reduceEqDiff, Nat.zero_lt_one, not_true, not_false_iff, bI_0, bI_1, ne_eq, reduceCtorEq, false_and, and_false, or_true, true_or, or_false, false_or, Nat.lt_one_iff, eq_self, Nat.zero_le, am_ko_v, am_ko_0, am_kil, Nat.reduceBEq, Int32.reduceLT, Int32.reduceLE, Int32.reduceAdd, Int32.reduceSub, i32_10, i32_01, not_true_eq_false, not_false_eq_true, Classical.not_not, nor_self, Nat.lt_add_one, nI_1, nI_pred, rf_n, i32_m0, i32_m1, reduceIte]
    exact hz
  | succ k ih =>
    intro i f hi hf
    have i30 : i < 30 := by omega
    have c1 : nI i < nI (gN σ 22 0) := nI_lt (by omega) (by omega)
    have hbit := bit_s0 (x := x) (show i < 32 by omega)
    have e20' : gI (hzM σ (blF (toN x) i).length f) 4 0 20 = nI (gN σ 22 0) := (hz_4 (by decide)).trans e20
    have el := bl_s (s := toN x) (i := i)
    rw [S228_7]
    by_cases tb : (toN x).testBit i = true
    · have cb : ¬ _ := fun e => absurd tb (hbit.mp e)
      rw [if_pos tb] at el
      have ell : (blF (toN x) (i + 1)).length = (blF (toN x) i).length + 1 := by rw [el, List.length_append]; rfl
      have hm := bl_mono (s := toN x) (show i + 1 ≤ gN σ 22 0 by omega)
      generalize hL : (blF (toN x) i).length = L at *
      have l31 : L < 2147483648 := by omega
      have l7 : L < 7 := by omega
      have hz := ih (i + 1) (upN f L (nI i)) (by omega) (fun j hj => by
        rw [ell] at hj
        unfold upN
        by_cases e : j = L
        · rw [if_pos e, el, e, ← hL]
          simp
        · rw [if_neg e, el, hf j (by omega)]
          simp [List.getD_eq_getElem?_getD, List.getElem?_append_left (show j < (blF (toN x) i).length by omega)])
      rw [ell] at hz
      simp only [S228_8, S228_9, S228_12, S228_15, S228_16, S228_17, S228_18, S228_19, S228_20, S228_23, S228_26, S228_27, S228_30, S228_31, S228_34, S228_35, S228_36, S228_37, S228_37q, S228_38, S228_41, S228_42, S228_43, S228_46, S228_49, gL_sI, gR_sI, gN_sI, gC_sI, gB_sI, gI_sL, gR_sL, gN_sL, gC_sL, gB_sL, gI_sR, gL_sR, gN_sR, gC_sR, gB_sR, gL_sIr, gR_sIr, gN_sIr, gC_sIr, gB_sIr, gI_sLr, gR_sLr, gN_sLr, gC_sLr, gB_sLr, gI_sRr, gL_sRr, gN_sRr, gC_sRr, gB_sRr, gI_sN, gL_sN, gR_sN, gC_sN, gB_sN, gI_sC, gL_sC, gR_sC, gN_sC, gB_sC, gI_sB, gL_sB, gR_sB, gN_sB, gC_sB, gB_sB, gB_am_mk, gI_am_ml, gL_am_ml, gR_am_ml, gB_am_ml, gI_am_add, gL_am_add, gC_am_add, gB_am_add, gI_am_ins, gL_am_ins, gC_am_ins, gB_am_ins, gI_am_rem, gL_am_rem, gC_am_rem, gB_am_rem, gI_am_thr, gL_am_thr, gR_am_thr, gN_am_thr, gB_am_thr, mI_sI_k, mI_sI_j, mI_sI_b, mI_sI_s, mI_sI_i, mI_sI_c, mL_sL_k, mL_sL_j, mL_sL_b, mL_sL_s, mL_sL_i, mL_sL_c, mR_sR_k, mR_sR_j, mR_sR_b, mR_sR_s, mR_sR_i, mR_sR_c, mI_sIr_k, mI_sIr_s, mI_sIr_i, mL_sLr_k, mL_sLr_s, mL_sLr_i, mR_sRr_k, mR_sRr_s, mR_sRr_i, mN_sN_k, mN_sN_i, mN_am_add_k, mN_am_add_s, mR_am_add_k, mN_am_ins_k, mN_am_ins_s, mR_am_ins_k, mN_am_rem_k, mN_am_rem_s, mR_am_rem_k, mR_am_add_s, mR_am_ins_s, mR_am_rem_s, mI_am_mk_k, mI_am_mk_s, mI_am_mk_i, mL_am_mk_k, mL_am_mk_s, mL_am_mk_i, mR_am_mk_k, mR_am_mk_s, mR_am_mk_i, mN_am_mk_k, mN_am_mk_i, mC_am_mk_k, mC_am_mk_s, mN_am_ml_k, mN_am_ml_i, mC_am_ml_k, mC_am_ml_s, mC_sC_k, mC_am_thr_k, sC_3 S, sC_4 S, sR_4_81 S, sC_97 S, sN_97 S, sR_4_82 S, sC_98 S, sN_98 S, sR_4_83 S, sC_99 S, sN_99 S, k0, k1, k2, k3, k4, k5, k6, k7, k8, k9, k10, k11, k12, k13, k14, k15, k16, k17, k18, k19, k20, k21, k22, k23, k24, k25, k26, k27, k28, k29, k30, k31, k32, k33, k34, k35, k36, k37, k38, k39, k40, k41, k42, k43, k44, k45, k46, k47, k48, k49, k50, k51, k52, k53, k54, k55, k56, k57, k58, k59, k60, k61, k62, k63, k64, k65, k66, k67, k68, k69, k70, k71, k72, k73, k74, k75, k76, k77, k78, k79, k80, k81, k82, k83, k84, k85, k86, k87, k88, k89, k90, k91, k92, k93, k94, k95, k96, k97, k98, k99, k100, hz_R, hz_C, hz_N, hz_85, hz_w, hz_m, e20', c1, cb, ini_iff l31, nI_clamp l31, l7, nI_add, true_and, and_true, and_self, if_true, if_false, ite_true, ite_false, Nat.lt_irrefl, List.length_nil, List.length_cons, Nat.reduceAdd, Nat.reduceLeDiff, Nat.reduceLT, Nat.reduceEqDiff, Nat.zero_lt_one, not_true, not_false_iff, bI_0, bI_1, ne_eq, reduceCtorEq, false_and, and_false, or_true, true_or, or_false, false_or, Nat.lt_one_iff, eq_self, Nat.zero_le, am_ko_v, am_ko_0, am_kil, Nat.reduceBEq, Int32.reduceLT, Int32.reduceLE, Int32.reduceAdd, Int32.reduceSub, i32_10, i32_01, not_true_eq_false, not_false_eq_true, Classical.not_not, nor_self, Nat.lt_add_one, nI_1, nI_pred, rf_n, i32_m0, i32_m1, reduceIte]
      exact hz
    · have cb : _ := hbit.mpr tb
      rw [if_neg tb] at el
      have hz := ih (i + 1) f (by omega) (by rw [el]; exact hf)
      rw [el] at hz
      simp only [S228_8, S228_9, S228_12, S228_15, S228_16, S228_17, S228_18, S228_19, S228_20, S228_23, S228_26, S228_27, S228_30, S228_31, S228_34, S228_35, S228_36, S228_37, S228_37q, S228_38, S228_41, S228_42, S228_43, S228_46, S228_49, gL_sI, gR_sI, gN_sI, gC_sI, gB_sI, gI_sL, gR_sL, gN_sL, gC_sL, gB_sL, gI_sR, gL_sR, gN_sR, gC_sR, gB_sR, gL_sIr, gR_sIr, gN_sIr, gC_sIr, gB_sIr, gI_sLr, gR_sLr, gN_sLr, gC_sLr, gB_sLr, gI_sRr, gL_sRr, gN_sRr, gC_sRr, gB_sRr, gI_sN, gL_sN, gR_sN, gC_sN, gB_sN, gI_sC, gL_sC, gR_sC, gN_sC, gB_sC, gI_sB, gL_sB, gR_sB, gN_sB, gC_sB, gB_sB, gB_am_mk, gI_am_ml, gL_am_ml, gR_am_ml, gB_am_ml, gI_am_add, gL_am_add, gC_am_add, gB_am_add, gI_am_ins, gL_am_ins, gC_am_ins, gB_am_ins, gI_am_rem, gL_am_rem, gC_am_rem, gB_am_rem, gI_am_thr, gL_am_thr, gR_am_thr, gN_am_thr, gB_am_thr, mI_sI_k, mI_sI_j, mI_sI_b, mI_sI_s, mI_sI_i, mI_sI_c, mL_sL_k, mL_sL_j, mL_sL_b, mL_sL_s, mL_sL_i, mL_sL_c, mR_sR_k, mR_sR_j, mR_sR_b, mR_sR_s, mR_sR_i, mR_sR_c, mI_sIr_k, mI_sIr_s, mI_sIr_i, mL_sLr_k, mL_sLr_s, mL_sLr_i, mR_sRr_k, mR_sRr_s, mR_sRr_i, mN_sN_k, mN_sN_i, mN_am_add_k, mN_am_add_s, mR_am_add_k, mN_am_ins_k, mN_am_ins_s, mR_am_ins_k, mN_am_rem_k, mN_am_rem_s, mR_am_rem_k, mR_am_add_s, mR_am_ins_s, mR_am_rem_s, mI_am_mk_k, mI_am_mk_s, mI_am_mk_i, mL_am_mk_k, mL_am_mk_s, mL_am_mk_i, mR_am_mk_k, mR_am_mk_s, mR_am_mk_i, mN_am_mk_k, mN_am_mk_i, mC_am_mk_k, mC_am_mk_s, mN_am_ml_k, mN_am_ml_i, mC_am_ml_k, mC_am_ml_s, mC_sC_k, mC_am_thr_k, sC_3 S, sC_4 S, sR_4_81 S, sC_97 S, sN_97 S, sR_4_82 S, sC_98 S, sN_98 S, sR_4_83 S, sC_99 S, sN_99 S, k0, k1, k2, k3, k4, k5, k6, k7, k8, k9, k10, k11, k12, k13, k14, k15, k16, k17, k18, k19, k20, k21, k22, k23, k24, k25, k26, k27, k28, k29, k30, k31, k32, k33, k34, k35, k36, k37, k38, k39, k40, k41, k42, k43, k44, k45, k46, k47, k48, k49, k50, k51, k52, k53, k54, k55, k56, k57, k58, k59, k60, k61, k62, k63, k64, k65, k66, k67, k68, k69, k70, k71, k72, k73, k74, k75, k76, k77, k78, k79, k80, k81, k82, k83, k84, k85, k86, k87, k88, k89, k90, k91, k92, k93, k94, k95, k96, k97, k98, k99, k100, hz_R, hz_C, e20', c1, cb, nI_add, true_and, and_true, and_self, if_true, if_false, ite_true, ite_false, Nat.lt_irrefl, List.length_nil, List.length_cons, Nat.reduceAdd, Nat.reduceLeDiff, Nat.reduceLT, Nat.reduceEqDiff, Nat.zero_lt_one, not_true, not_false_iff, bI_0, bI_1, ne_eq, reduceCtorEq, false_and, and_false, or_true, true_or, or_false, false_or, Nat.lt_one_iff, eq_self, Nat.zero_le, am_ko_v, am_ko_0, am_kil, Nat.reduceBEq, Int32.reduceLT, Int32.reduceLE, Int32.reduceAdd, Int32.reduceSub, i32_10, i32_01, not_true_eq_false, not_false_eq_true, Classical.not_not, nor_self, Nat.lt_add_one, nI_1, nI_pred, rf_n, i32_m0, i32_m1, reduceIte]
      exact hz
theorem C228 {x : Int32} {X0 : Nat} (S : Sh σ) (h30 : gN σ 22 0 ≤ 30) (e20 : gI σ 4 0 20 = nI (gN σ 22 0)) (hP : P ≤ 60) (e2 : gI σ 4 0 2 = nI P) (hm : (blF (toN x) (gN σ 22 0)).length = m) (h7 : m ≤ 7) (hv : ∀ i p, v i p ≤ 100000) (hb : ∀ i, i < m → ∀ p, p < 60 → gI σ 97 0 (30 * p + (blF (toN x) (gN σ 22 0)).getD i 0) = nI (v i p)) (hX0 : Top (alV v) (wP v) P noP (geS 0 m) X0) (hq : ∀ h9 f A ch g, (∀ j, j < m → h9 j = nI ((blF (toN x) (gN σ 22 0)).getD j 0)) → (∀ j, f j ≤ 63) → (∀ j, j < m → ch j = chF (f j)) → X0 = A * 4398046511104 + pd f → Q (some (some (vi (nI (X0 / 4398046511104))))) (smM (hzM σ m h9) ch g)) : WP (d + 1) 228 0 [some (vr (some (4, 0))), some (vi x), none, none, none, none, none, none, none] [] σ Q := by
  have hz := L228h (d := d) (x := x) (Q := Q) S h30 e20 (by omega) (fun h9 a2 hh9 => by
    rw [hm] at hh9 ⊢
    have R : RFR (hzM σ m h9) m (fun i => (blF (toN x) (gN σ 22 0)).getD i 0) v := by
      refine ⟨S, hz_85, h7, fun i hi => ⟨hz_99.trans (hh9 i hi), ?_, fun p hp => ⟨(hz_I (by decide) (by decide)).trans (hb i hi p hp), hv i p⟩⟩⟩
      have hmem : (blF (toN x) (gN σ 22 0)).getD i 0 ∈ blF (toN x) (gN σ 22 0) := by
        rw [List.getD_eq_getElem?_getD, List.getElem?_eq_getElem (by omega)]
        exact List.getElem_mem _
      have := (bl_mem.mp hmem).1
      show (blF (toN x) (gN σ 22 0)).getD i 0 < 30
      omega
    have e2' : gI (hzM σ m h9) 4 0 2 = nI P := (hz_4 (by decide)).trans e2
    have hT := DR_geS (v := v) (f := 0) (lf := m) (O := fun _ => false) (P := P) h7
    rw [Nat.zero_add, noB_p] at hT
    have eT := Top_one hT (Top_sum (fun i hi => by have := hi.2; omega) hX0)
    simp only [S228_52, S228_53, S228_54, true_and, and_true, and_self, if_true, if_false, ite_true, ite_false, Nat.lt_irrefl, List.length_nil, List.length_cons, Nat.reduceAdd, Nat.reduceLeDiff, Nat.reduceLT, Nat.reduceEqDiff, Nat.zero_lt_one, not_true, not_false_iff, bI_0, bI_1, ne_eq, reduceCtorEq, false_and, and_false, or_true, true_or, or_false, false_or, Nat.lt_one_iff, eq_self, Nat.zero_le, am_ko_v, am_ko_0, am_kil, Nat.reduceBEq, Int32.reduceLT, Int32.reduceLE, Int32.reduceAdd, Int32.reduceSub, i32_10, i32_01, not_true_eq_false, not_false_eq_true, Classical.not_not, nor_self, Nat.lt_add_one, nI_1, nI_pred, rf_n, i32_m0, i32_m1, reduceIte]
    simp only [S228_55, hz_C, sC_4 S, List.length_nil, true_and, and_true, and_self, if_true, if_false, ite_true, ite_false, Nat.lt_irrefl, List.length_nil, List.length_cons, Nat.reduceAdd, Nat.reduceLeDiff, Nat.reduceLT, Nat.reduceEqDiff, Nat.zero_lt_one, not_true, not_false_iff, bI_0, bI_1, ne_eq, reduceCtorEq, false_and, and_false, or_true, true_or, or_false, false_or, Nat.lt_one_iff, eq_self, Nat.zero_le, am_ko_v, am_ko_0, am_kil, Nat.reduceBEq, Int32.reduceLT, Int32.reduceLE, Int32.reduceAdd, Int32.reduceSub, i32_10, i32_01, not_true_eq_false, not_false_eq_true, Classical.not_not, nor_self, Nat.lt_add_one, nI_1, nI_pred, rf_n, i32_m0, i32_m1, reduceIte]
    rw [← nI_0, ← sm_id (σ := hzM σ m h9)]
    refine C227 (RFR_ch (ch := gI (hzM σ m h9) 98 0) R) hv hP ((mI_sIr_k (by decide)).trans e2') (show 0 + m = m by omega) outP_0 (fun g' => ?_)
    rw [am_ko_v, eT]
    show WP (d + 1) 228 58 _ _ (smM (hzM σ m h9) (gI (hzM σ m h9) 98 0) g') Q
    simp only [S228_58, S228_59, S228_60, S228_61, S228_62, S228_64, S228_65, true_and, and_true, and_self, if_true, if_false, ite_true, ite_false, Nat.lt_irrefl, List.length_nil, List.length_cons, Nat.reduceAdd, Nat.reduceLeDiff, Nat.reduceLT, Nat.reduceEqDiff, Nat.zero_lt_one, not_true, not_false_iff, bI_0, bI_1, ne_eq, reduceCtorEq, false_and, and_false, or_true, true_or, or_false, false_or, Nat.lt_one_iff, eq_self, Nat.zero_le, am_ko_v, am_ko_0, am_kil, Nat.reduceBEq, Int32.reduceLT, Int32.reduceLE, Int32.reduceAdd, Int32.reduceSub, i32_10, i32_01, not_true_eq_false, not_false_eq_true, Classical.not_not, nor_self, Nat.lt_add_one, nI_1, nI_pred, rf_n, i32_m0, i32_m1, reduceIte]
    rw [← nI_0]
    exact L228o R hv hP e2' (fun f A ch g a1 a2 a3 => hq h9 f A ch g hh9 a1 a2 a3) m 0 X0 (fun _ => false) 0 _ g' (fun _ => 0) 0 _ _ (by omega) (by rw [noB_p]; exact hX0) outP_0 (fun _ => Nat.zero_le _) (fun _ _ => rfl) (fun j hj => absurd hj (Nat.not_lt_zero _)) (by
      have : pd (fun _ => 0) = 0 := rfl
      rw [this]; omega)) (gN σ 22 0) 0 (gI σ 99 0) (by omega) (fun j hj => absurd hj (Nat.not_lt_zero _))
  rw [nI_0] at hz
  have e0 : (blF (toN x) 0).length = 0 := rfl
  rw [e0, ← hz_0] at hz
  simp only [S228_0, S228_1, S228_2, S228_5, S228_6, gL_sI, gR_sI, gN_sI, gC_sI, gB_sI, gI_sL, gR_sL, gN_sL, gC_sL, gB_sL, gI_sR, gL_sR, gN_sR, gC_sR, gB_sR, gL_sIr, gR_sIr, gN_sIr, gC_sIr, gB_sIr, gI_sLr, gR_sLr, gN_sLr, gC_sLr, gB_sLr, gI_sRr, gL_sRr, gN_sRr, gC_sRr, gB_sRr, gI_sN, gL_sN, gR_sN, gC_sN, gB_sN, gI_sC, gL_sC, gR_sC, gN_sC, gB_sC, gI_sB, gL_sB, gR_sB, gN_sB, gC_sB, gB_sB, gB_am_mk, gI_am_ml, gL_am_ml, gR_am_ml, gB_am_ml, gI_am_add, gL_am_add, gC_am_add, gB_am_add, gI_am_ins, gL_am_ins, gC_am_ins, gB_am_ins, gI_am_rem, gL_am_rem, gC_am_rem, gB_am_rem, gI_am_thr, gL_am_thr, gR_am_thr, gN_am_thr, gB_am_thr, mI_sI_k, mI_sI_j, mI_sI_b, mI_sI_s, mI_sI_i, mI_sI_c, mL_sL_k, mL_sL_j, mL_sL_b, mL_sL_s, mL_sL_i, mL_sL_c, mR_sR_k, mR_sR_j, mR_sR_b, mR_sR_s, mR_sR_i, mR_sR_c, mI_sIr_k, mI_sIr_s, mI_sIr_i, mL_sLr_k, mL_sLr_s, mL_sLr_i, mR_sRr_k, mR_sRr_s, mR_sRr_i, mN_sN_k, mN_sN_i, mN_am_add_k, mN_am_add_s, mR_am_add_k, mN_am_ins_k, mN_am_ins_s, mR_am_ins_k, mN_am_rem_k, mN_am_rem_s, mR_am_rem_k, mR_am_add_s, mR_am_ins_s, mR_am_rem_s, mI_am_mk_k, mI_am_mk_s, mI_am_mk_i, mL_am_mk_k, mL_am_mk_s, mL_am_mk_i, mR_am_mk_k, mR_am_mk_s, mR_am_mk_i, mN_am_mk_k, mN_am_mk_i, mC_am_mk_k, mC_am_mk_s, mN_am_ml_k, mN_am_ml_i, mC_am_ml_k, mC_am_ml_s, mC_sC_k, mC_am_thr_k, sC_3 S, sC_4 S, sR_4_81 S, sC_97 S, sN_97 S, sR_4_82 S, sC_98 S, sN_98 S, sR_4_83 S, sC_99 S, sN_99 S, k0, k1, k2, k3, k4, k5, k6, k7, k8, k9, k10, k11, k12, k13, k14, k15, k16, k17, k18, k19, k20, k21, k22, k23, k24, k25, k26, k27, k28, k29, k30, k31, k32, k33, k34, k35, k36, k37, k38, k39, k40, k41, k42, k43, k44, k45, k46, k47, k48, k49, k50, k51, k52, k53, k54, k55, k56, k57, k58, k59, k60, k61, k62, k63, k64, k65, k66, k67, k68, k69, k70, k71, k72, k73, k74, k75, k76, k77, k78, k79, k80, k81, k82, k83, k84, k85, k86, k87, k88, k89, k90, k91, k92, k93, k94, k95, k96, k97, k98, k99, k100, true_and, and_true, and_self, if_true, if_false, ite_true, ite_false, Nat.lt_irrefl, List.length_nil, List.length_cons, Nat.reduceAdd, Nat.reduceLeDiff, Nat.reduceLT, Nat.reduceEqDiff, Nat.zero_lt_one, not_true, not_false_iff, bI_0, bI_1, ne_eq, reduceCtorEq, false_and, and_false, or_true, true_or, or_false, false_or, Nat.lt_one_iff, eq_self, Nat.zero_le, am_ko_v, am_ko_0, am_kil, Nat.reduceBEq, Int32.reduceLT, Int32.reduceLE, Int32.reduceAdd, Int32.reduceSub, i32_10, i32_01, not_true_eq_false, not_false_eq_true, Classical.not_not, nor_self, Nat.lt_add_one, nI_1, nI_pred, rf_n, i32_m0, i32_m1, reduceIte]
  exact hz
end SUM
