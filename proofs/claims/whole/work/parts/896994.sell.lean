/-! sells, buyer: the class's side, as far as it goes -/
def nL (x : Nat) : Int64 := Int64.ofNat x
theorem nL_add {a b : Nat} : nL a + nL b = nL (a + b) := (Int64.ofNat_add a b).symm
theorem nL_ti {a : Nat} (h : a < 9223372036854775808) : (nL a).toInt = a := by
  unfold nL
  exact Int64.toInt_ofNat_of_lt (by omega)
theorem nL_lt {a b : Nat} (ha : a < 9223372036854775808) (hb : b < 9223372036854775808) : nL a < nL b ↔ a < b := by
  rw [Int64.lt_iff_toInt_lt, nL_ti ha, nL_ti hb]
  omega
theorem nL_inj {a b : Nat} (ha : a < 9223372036854775808) (hb : b < 9223372036854775808) (h : nL a = nL b) : a = b := by
  have := congrArg Int64.toInt h
  rw [nL_ti ha, nL_ti hb] at this
  omega
theorem nI_64 {a : Nat} (h : a < 2147483648) : (nI a).toInt64 = nL a := by
  apply Int64.toInt_inj.mp
  rw [nL_ti (by omega), Int32.toInt_toInt64]
  unfold nI
  exact Int32.toInt_ofNat_of_lt (by omega)
theorem nL_shl {a k : Nat} {z : Int64} (hz : z.toBitVec.toNat = k) (hk : k < 64) : nL a <<< z = nL (a * 2 ^ k) := by
  apply Int64.toBitVec_inj.mp
  rw [Int64.toBitVec_shiftLeft]
  unfold nL
  rw [Int64.toBitVec_ofNat', Int64.toBitVec_ofNat']
  have e : z.toBitVec.smod 64#64 = BitVec.ofNat 64 k := by
    have hz2 : z.toBitVec = BitVec.ofNat 64 k := by
      apply BitVec.eq_of_toNat_eq
      rw [hz, BitVec.toNat_ofNat, Nat.mod_eq_of_lt (by omega)]
    rw [hz2]
    have : ∀ k, k < 64 → (BitVec.ofNat 64 k).smod 64#64 = BitVec.ofNat 64 k := by decide +kernel
    exact this k hk
  show BitVec.ofNat 64 a <<< z.toBitVec.smod 64#64 = _
  rw [e]
  apply BitVec.eq_of_toNat_eq
  rw [BitVec.shiftLeft_eq']
  simp [BitVec.toNat_shiftLeft, Nat.shiftLeft_eq]
  rw [Nat.mod_eq_of_lt (a := k) (by omega)]
theorem dg63 : ∀ p, p < 60 → (63 : Int32) - nI p = nI (63 - p) := by decide +kernel
/-- a house out of a set -/
theorem set_rm : ∀ s, s < 128 → ∀ i, i < 7 → (nI s &&& ((1 : Int32) <<< (nI i &&& 31) ^^^ (-1))) = nI (if s.testBit i then s - 2 ^ i else s) := by decide +kernel
theorem set_le : ∀ s, s < 128 → ∀ i, i < 7 → s.testBit i = true → 2 ^ i ≤ s ∧ 0 < 2 ^ i := by decide +kernel
theorem shU : ∀ i, i < 7 → (((6 : Int32) * (6 - nI i)).toInt64 &&& 63).toBitVec.toNat = 6 * (6 - i) ∧ 2 ^ (6 * (6 - i)) = dgU i := by decide +kernel
/-- the houses laid out: m of them, their bids -/
def OFR (σ : aM) (m : Nat) (hs : Nat → Nat) (v : Nat → Nat → Nat) : Prop := Sh σ ∧ gN σ 31 0 = m ∧ m ≤ 7 ∧ ∀ i, i < m → gR σ 31 0 i = some (35, hs i) ∧ hs i < gC σ 35 ∧ gR σ 35 (hs i) 5 = some (6, hs i) ∧ hs i < gC σ 6 ∧ gN σ 6 (hs i) = 60 ∧ ∀ p, p < 60 → gI σ 6 (hs i) p = nI (v i p) ∧ v i p ≤ 100000
def bwF (v : Nat → Nat → Nat) (B : Nat → Nat) (p s : Nat) : Nat → Nat → Nat → Nat
  | _, 0, a => a
  | i, k + 1, a => bwF v B p s (i + 1) k (if 0 < v i p ∧ s.testBit i = true then max a (B (s - 2 ^ i) + wP v i p) else a)
/-- somebody bids -/
def anF (v : Nat → Nat → Nat) (p : Nat) : Nat → Nat → Bool
  | _, 0 => false
  | i, k + 1 => decide (0 < v i p) || anF v p (i + 1) k
section SELL
variable {d m : Nat} {σ : aM} {Q : aR → aM → Prop} {hs : Nat → Nat} {v : Nat → Nat → Nat} {B : Nat → Nat}
theorem C128 {i : Nat} : WP d 128 0 [some (vi (nI i))] [] σ Q ↔ Q (some (some (vi ((6 : Int32) * (6 - nI i))))) σ := by
  simp only [S128_0, S128_2, S128_4, S128_5, S128_6, S128_7, k0, k1, k2, k3, k4, k5, k6, k7, k8, k9, k10, k11, k12, k13, k14, k15, k16, k17, k18, k19, k20, k21, k22, k23, k24, k25, k26, k27, k28, k29, k30, k31, k32, k33, k34, k35, k36, k37, k38, k39, k40, k41, k42, k43, k44, k45, k46, k47, k48, k49, k50, k51, k52, k53, k54, k55, k56, k57, k58, k59, k60, k61, k62, k63, k64, k65, k66, k67, k68, k69, k70, k71, k72, k73, k74, k75, k76, k77, k78, k79, k80, k81, k82, k83, k84, k85, k86, k87, k88, k89, k90, k91, k92, k93, k94, k95, k96, k97, k98, k99, k100, true_and, and_true, and_self, if_true, if_false, ite_true, ite_false, Nat.lt_irrefl, List.length_nil, List.length_cons, Nat.reduceAdd, Nat.reduceLeDiff, Nat.reduceLT, Nat.reduceEqDiff, Nat.zero_lt_one, not_true, not_false_iff, bI_0, bI_1, ne_eq, reduceCtorEq, false_and, and_false, or_true, true_or, or_false, false_or, Nat.lt_one_iff, eq_self, Nat.zero_le, am_ko_v, am_ko_0, am_kil, Nat.reduceBEq, Int32.reduceLT, Int32.reduceLE, Int32.reduceAdd, Int32.reduceSub, i32_10, i32_01, not_true_eq_false, not_false_eq_true, Classical.not_not, nor_self, Nat.lt_add_one, nI_1, nI_pred, rf_n, i32_m0, i32_m1, reduceIte]
theorem L126 {p : Nat} (h : OFR σ m hs v) (hp : p < 60) : ∀ k i, i + k = m → (WP (d + 2) 126 2 [some (vr (some (3, 0))), some (vi (nI p)), some (vi (nI i))] [] σ Q ↔ Q (some (some (vi (if anF v p i k = true then 1 else 0)))) σ) := by
  obtain ⟨S, hN, h7, ho⟩ := h
  intro k
  induction k with
  | zero =>
    intro i hi
    have c1 : ¬ nI i < nI m := nI_nlt (by omega) (by omega)
    rw [S126_2]
    simp only [S126_0, S126_1, S126_3, S126_4, S126_7, S126_10, S126_13, S126_14, S126_17, S126_18, S126_21n, S126_21, S126_24, S126_25, S126_28, S126_31, S126_32, S126_33, S126_36, S126_39, S126_40, gL_sI, gR_sI, gN_sI, gC_sI, gB_sI, gI_sL, gR_sL, gN_sL, gC_sL, gB_sL, gI_sR, gL_sR, gN_sR, gC_sR, gB_sR, gL_sIr, gR_sIr, gN_sIr, gC_sIr, gB_sIr, gI_sLr, gR_sLr, gN_sLr, gC_sLr, gB_sLr, gI_sRr, gL_sRr, gN_sRr, gC_sRr, gB_sRr, gI_sN, gL_sN, gR_sN, gC_sN, gB_sN, gI_sC, gL_sC, gR_sC, gN_sC, gB_sC, gI_sB, gL_sB, gR_sB, gN_sB, gC_sB, gB_sB, gB_am_mk, gI_am_ml, gL_am_ml, gR_am_ml, gB_am_ml, gI_am_add, gL_am_add, gC_am_add, gB_am_add, gI_am_ins, gL_am_ins, gC_am_ins, gB_am_ins, gI_am_rem, gL_am_rem, gC_am_rem, gB_am_rem, gI_am_thr, gL_am_thr, gR_am_thr, gN_am_thr, gB_am_thr, mI_sI_k, mI_sI_j, mI_sI_b, mI_sI_s, mI_sI_i, mI_sI_c, mL_sL_k, mL_sL_j, mL_sL_b, mL_sL_s, mL_sL_i, mL_sL_c, mR_sR_k, mR_sR_j, mR_sR_b, mR_sR_s, mR_sR_i, mR_sR_c, mI_sIr_k, mI_sIr_s, mI_sIr_i, mL_sLr_k, mL_sLr_s, mL_sLr_i, mR_sRr_k, mR_sRr_s, mR_sRr_i, mN_sN_k, mN_sN_i, mN_am_add_k, mN_am_add_s, mR_am_add_k, mN_am_ins_k, mN_am_ins_s, mR_am_ins_k, mN_am_rem_k, mN_am_rem_s, mR_am_rem_k, mR_am_add_s, mR_am_ins_s, mR_am_rem_s, mI_am_mk_k, mI_am_mk_s, mI_am_mk_i, mL_am_mk_k, mL_am_mk_s, mL_am_mk_i, mR_am_mk_k, mR_am_mk_s, mR_am_mk_i, mN_am_mk_k, mN_am_mk_i, mC_am_mk_k, mC_am_mk_s, mN_am_ml_k, mN_am_ml_i, mC_am_ml_k, mC_am_ml_s, mC_sC_k, mC_am_thr_k, sC_3 S, sC_4 S, sR_3_10 S, sC_31 S, k0, k1, k2, k3, k4, k5, k6, k7, k8, k9, k10, k11, k12, k13, k14, k15, k16, k17, k18, k19, k20, k21, k22, k23, k24, k25, k26, k27, k28, k29, k30, k31, k32, k33, k34, k35, k36, k37, k38, k39, k40, k41, k42, k43, k44, k45, k46, k47, k48, k49, k50, k51, k52, k53, k54, k55, k56, k57, k58, k59, k60, k61, k62, k63, k64, k65, k66, k67, k68, k69, k70, k71, k72, k73, k74, k75, k76, k77, k78, k79, k80, k81, k82, k83, k84, k85, k86, k87, k88, k89, k90, k91, k92, k93, k94, k95, k96, k97, k98, k99, k100, hN, c1, anF, true_and, and_true, and_self, if_true, if_false, ite_true, ite_false, Nat.lt_irrefl, List.length_nil, List.length_cons, Nat.reduceAdd, Nat.reduceLeDiff, Nat.reduceLT, Nat.reduceEqDiff, Nat.zero_lt_one, not_true, not_false_iff, bI_0, bI_1, ne_eq, reduceCtorEq, false_and, and_false, or_true, true_or, or_false, false_or, Nat.lt_one_iff, eq_self, Nat.zero_le, am_ko_v, am_ko_0, am_kil, Nat.reduceBEq, Int32.reduceLT, Int32.reduceLE, Int32.reduceAdd, Int32.reduceSub, i32_10, i32_01, not_true_eq_false, not_false_eq_true, Classical.not_not, nor_self, Nat.lt_add_one, nI_1, nI_pred, rf_n, i32_m0, i32_m1, reduceIte]
  | succ k ih =>
    intro i hi
    have c1 : nI i < nI m := nI_lt (by omega) (by omega)
    have i31 : i < 2147483648 := by omega
    have im : i < m := by omega
    obtain ⟨o1, o2, o3, o4, o5, o6⟩ := ho i im
    obtain ⟨o7, o8⟩ := o6 p hp
    have hC8 := fun (D : Nat) (Q : aR → aM → Prop) => C8 (d := D) (Q := Q) o2 o3 o4 o5 hp
    rw [S126_2]
    by_cases c : 0 < v i p
    · have c2 : 0 < nI (v i p) := by have := nI_lt c (show v i p < 2 ^ 31 by omega); rwa [nI_0] at this
      simp only [S126_0, S126_1, S126_3, S126_4, S126_7, S126_10, S126_13, S126_14, S126_17, S126_18, S126_21n, S126_21, S126_24, S126_25, S126_28, S126_31, S126_32, S126_33, S126_36, S126_39, S126_40, gL_sI, gR_sI, gN_sI, gC_sI, gB_sI, gI_sL, gR_sL, gN_sL, gC_sL, gB_sL, gI_sR, gL_sR, gN_sR, gC_sR, gB_sR, gL_sIr, gR_sIr, gN_sIr, gC_sIr, gB_sIr, gI_sLr, gR_sLr, gN_sLr, gC_sLr, gB_sLr, gI_sRr, gL_sRr, gN_sRr, gC_sRr, gB_sRr, gI_sN, gL_sN, gR_sN, gC_sN, gB_sN, gI_sC, gL_sC, gR_sC, gN_sC, gB_sC, gI_sB, gL_sB, gR_sB, gN_sB, gC_sB, gB_sB, gB_am_mk, gI_am_ml, gL_am_ml, gR_am_ml, gB_am_ml, gI_am_add, gL_am_add, gC_am_add, gB_am_add, gI_am_ins, gL_am_ins, gC_am_ins, gB_am_ins, gI_am_rem, gL_am_rem, gC_am_rem, gB_am_rem, gI_am_thr, gL_am_thr, gR_am_thr, gN_am_thr, gB_am_thr, mI_sI_k, mI_sI_j, mI_sI_b, mI_sI_s, mI_sI_i, mI_sI_c, mL_sL_k, mL_sL_j, mL_sL_b, mL_sL_s, mL_sL_i, mL_sL_c, mR_sR_k, mR_sR_j, mR_sR_b, mR_sR_s, mR_sR_i, mR_sR_c, mI_sIr_k, mI_sIr_s, mI_sIr_i, mL_sLr_k, mL_sLr_s, mL_sLr_i, mR_sRr_k, mR_sRr_s, mR_sRr_i, mN_sN_k, mN_sN_i, mN_am_add_k, mN_am_add_s, mR_am_add_k, mN_am_ins_k, mN_am_ins_s, mR_am_ins_k, mN_am_rem_k, mN_am_rem_s, mR_am_rem_k, mR_am_add_s, mR_am_ins_s, mR_am_rem_s, mI_am_mk_k, mI_am_mk_s, mI_am_mk_i, mL_am_mk_k, mL_am_mk_s, mL_am_mk_i, mR_am_mk_k, mR_am_mk_s, mR_am_mk_i, mN_am_mk_k, mN_am_mk_i, mC_am_mk_k, mC_am_mk_s, mN_am_ml_k, mN_am_ml_i, mC_am_ml_k, mC_am_ml_s, mC_sC_k, mC_am_thr_k, sC_3 S, sC_4 S, sR_3_10 S, sC_31 S, k0, k1, k2, k3, k4, k5, k6, k7, k8, k9, k10, k11, k12, k13, k14, k15, k16, k17, k18, k19, k20, k21, k22, k23, k24, k25, k26, k27, k28, k29, k30, k31, k32, k33, k34, k35, k36, k37, k38, k39, k40, k41, k42, k43, k44, k45, k46, k47, k48, k49, k50, k51, k52, k53, k54, k55, k56, k57, k58, k59, k60, k61, k62, k63, k64, k65, k66, k67, k68, k69, k70, k71, k72, k73, k74, k75, k76, k77, k78, k79, k80, k81, k82, k83, k84, k85, k86, k87, k88, k89, k90, k91, k92, k93, k94, k95, k96, k97, k98, k99, k100, hN, c1, o1, o2, hC8, o7, c2, ini_iff i31, nI_clamp i31, im, anF, c, decide_true, Bool.true_or, true_and, and_true, and_self, if_true, if_false, ite_true, ite_false, Nat.lt_irrefl, List.length_nil, List.length_cons, Nat.reduceAdd, Nat.reduceLeDiff, Nat.reduceLT, Nat.reduceEqDiff, Nat.zero_lt_one, not_true, not_false_iff, bI_0, bI_1, ne_eq, reduceCtorEq, false_and, and_false, or_true, true_or, or_false, false_or, Nat.lt_one_iff, eq_self, Nat.zero_le, am_ko_v, am_ko_0, am_kil, Nat.reduceBEq, Int32.reduceLT, Int32.reduceLE, Int32.reduceAdd, Int32.reduceSub, i32_10, i32_01, not_true_eq_false, not_false_eq_true, Classical.not_not, nor_self, Nat.lt_add_one, nI_1, nI_pred, rf_n, i32_m0, i32_m1, reduceIte]
    · have c0 : v i p = 0 := by omega
      have c2 : ¬ 0 < nI (v i p) := by rw [c0]; decide
      simp only [S126_0, S126_1, S126_3, S126_4, S126_7, S126_10, S126_13, S126_14, S126_17, S126_18, S126_21n, S126_21, S126_24, S126_25, S126_28, S126_31, S126_32, S126_33, S126_36, S126_39, S126_40, gL_sI, gR_sI, gN_sI, gC_sI, gB_sI, gI_sL, gR_sL, gN_sL, gC_sL, gB_sL, gI_sR, gL_sR, gN_sR, gC_sR, gB_sR, gL_sIr, gR_sIr, gN_sIr, gC_sIr, gB_sIr, gI_sLr, gR_sLr, gN_sLr, gC_sLr, gB_sLr, gI_sRr, gL_sRr, gN_sRr, gC_sRr, gB_sRr, gI_sN, gL_sN, gR_sN, gC_sN, gB_sN, gI_sC, gL_sC, gR_sC, gN_sC, gB_sC, gI_sB, gL_sB, gR_sB, gN_sB, gC_sB, gB_sB, gB_am_mk, gI_am_ml, gL_am_ml, gR_am_ml, gB_am_ml, gI_am_add, gL_am_add, gC_am_add, gB_am_add, gI_am_ins, gL_am_ins, gC_am_ins, gB_am_ins, gI_am_rem, gL_am_rem, gC_am_rem, gB_am_rem, gI_am_thr, gL_am_thr, gR_am_thr, gN_am_thr, gB_am_thr, mI_sI_k, mI_sI_j, mI_sI_b, mI_sI_s, mI_sI_i, mI_sI_c, mL_sL_k, mL_sL_j, mL_sL_b, mL_sL_s, mL_sL_i, mL_sL_c, mR_sR_k, mR_sR_j, mR_sR_b, mR_sR_s, mR_sR_i, mR_sR_c, mI_sIr_k, mI_sIr_s, mI_sIr_i, mL_sLr_k, mL_sLr_s, mL_sLr_i, mR_sRr_k, mR_sRr_s, mR_sRr_i, mN_sN_k, mN_sN_i, mN_am_add_k, mN_am_add_s, mR_am_add_k, mN_am_ins_k, mN_am_ins_s, mR_am_ins_k, mN_am_rem_k, mN_am_rem_s, mR_am_rem_k, mR_am_add_s, mR_am_ins_s, mR_am_rem_s, mI_am_mk_k, mI_am_mk_s, mI_am_mk_i, mL_am_mk_k, mL_am_mk_s, mL_am_mk_i, mR_am_mk_k, mR_am_mk_s, mR_am_mk_i, mN_am_mk_k, mN_am_mk_i, mC_am_mk_k, mC_am_mk_s, mN_am_ml_k, mN_am_ml_i, mC_am_ml_k, mC_am_ml_s, mC_sC_k, mC_am_thr_k, sC_3 S, sC_4 S, sR_3_10 S, sC_31 S, k0, k1, k2, k3, k4, k5, k6, k7, k8, k9, k10, k11, k12, k13, k14, k15, k16, k17, k18, k19, k20, k21, k22, k23, k24, k25, k26, k27, k28, k29, k30, k31, k32, k33, k34, k35, k36, k37, k38, k39, k40, k41, k42, k43, k44, k45, k46, k47, k48, k49, k50, k51, k52, k53, k54, k55, k56, k57, k58, k59, k60, k61, k62, k63, k64, k65, k66, k67, k68, k69, k70, k71, k72, k73, k74, k75, k76, k77, k78, k79, k80, k81, k82, k83, k84, k85, k86, k87, k88, k89, k90, k91, k92, k93, k94, k95, k96, k97, k98, k99, k100, hN, c1, o1, o2, hC8, o7, c2, ini_iff i31, nI_clamp i31, im, nI_add, true_and, and_true, and_self, if_true, if_false, ite_true, ite_false, Nat.lt_irrefl, List.length_nil, List.length_cons, Nat.reduceAdd, Nat.reduceLeDiff, Nat.reduceLT, Nat.reduceEqDiff, Nat.zero_lt_one, not_true, not_false_iff, bI_0, bI_1, ne_eq, reduceCtorEq, false_and, and_false, or_true, true_or, or_false, false_or, Nat.lt_one_iff, eq_self, Nat.zero_le, am_ko_v, am_ko_0, am_kil, Nat.reduceBEq, Int32.reduceLT, Int32.reduceLE, Int32.reduceAdd, Int32.reduceSub, i32_10, i32_01, not_true_eq_false, not_false_eq_true, Classical.not_not, nor_self, Nat.lt_add_one, nI_1, nI_pred, rf_n, i32_m0, i32_m1, reduceIte]
      rw [ih (i + 1) (by omega)]
      simp only [anF, c, decide_false, Bool.false_or]
theorem C126 {p : Nat} (h : OFR σ m hs v) (hp : p < 60) : WP (d + 2) 126 0 [some (vr (some (3, 0))), some (vi (nI p)), none] [] σ Q ↔ Q (some (some (vi (if anF v p 0 m = true then 1 else 0)))) σ := by
  have e := L126 (d := d) (Q := Q) h hp m 0 (by omega)
  rw [nI_0] at e
  rw [← e]
  simp only [S126_0, S126_1, k0, k1, k2, k3, k4, k5, k6, k7, k8, k9, k10, k11, k12, k13, k14, k15, k16, k17, k18, k19, k20, k21, k22, k23, k24, k25, k26, k27, k28, k29, k30, k31, k32, k33, k34, k35, k36, k37, k38, k39, k40, k41, k42, k43, k44, k45, k46, k47, k48, k49, k50, k51, k52, k53, k54, k55, k56, k57, k58, k59, k60, k61, k62, k63, k64, k65, k66, k67, k68, k69, k70, k71, k72, k73, k74, k75, k76, k77, k78, k79, k80, k81, k82, k83, k84, k85, k86, k87, k88, k89, k90, k91, k92, k93, k94, k95, k96, k97, k98, k99, k100, true_and, and_true, and_self, if_true, if_false, ite_true, ite_false, Nat.lt_irrefl, List.length_nil, List.length_cons, Nat.reduceAdd, Nat.reduceLeDiff, Nat.reduceLT, Nat.reduceEqDiff, Nat.zero_lt_one, not_true, not_false_iff, bI_0, bI_1, ne_eq, reduceCtorEq, false_and, and_false, or_true, true_or, or_false, false_or, Nat.lt_one_iff, eq_self, Nat.zero_le, am_ko_v, am_ko_0, am_kil, Nat.reduceBEq, Int32.reduceLT, Int32.reduceLE, Int32.reduceAdd, Int32.reduceSub, i32_10, i32_01, not_true_eq_false, not_false_eq_true, Classical.not_not, nor_self, Nat.lt_add_one, nI_1, nI_pred, rf_n, i32_m0, i32_m1, reduceIte]
theorem L127 {p s : Nat} (h : OFR σ m hs v) (hp : p < 60) (hs7 : s < 2 ^ m) (hB : gR σ 3 0 11 = some (32, 0)) (hb : ∀ t, t ≤ s → gL σ 32 0 t = nL (B t) ∧ B t < 4611686018427387904) : ∀ k i a (a6 a7 a8 a9 a10 : Option aV), i + k = m → a < 6917529027641081856 → (WP (d + 2) 127 29 [some (vr (some (3, 0))), some (vi (nI p)), some (vi (nI s)), some (vl (nL a)), none, some (vi (nI i)), a6, a7, a8, a9, a10] [] σ Q ↔ Q (some (some (vl (nL (bwF v B p s i k a))))) σ) := by
  obtain ⟨S, hN, h7, ho⟩ := h
  have hs8 : s < 128 := Nat.lt_of_lt_of_le hs7 (show 2 ^ m ≤ 2 ^ 7 from Nat.pow_le_pow_right (by decide) h7)
  intro k
  induction k with
  | zero =>
    intro i a a6 a7 a8 a9 a10 hi ha
    have c1 : ¬ nI i < nI m := nI_nlt (by omega) (by omega)
    rw [S127_29]
    simp only [S127_0, S127_1, S127_2, S127_3, S127_6, S127_7, S127_8, S127_9, S127_12, S127_15, S127_16, S127_19, S127_20, S127_21, S127_24, S127_25, S127_26, S127_27, S127_31, S127_32, S127_35, S127_38, S127_41, S127_42, S127_45, S127_47, S127_50n, S127_50, S127_53, S127_54, S127_57, S127_58, S127_60, S127_61, S127_62, S127_64, S127_65, S127_66, S127_67, S127_68, S127_70, S127_72, S127_73, S127_74, S127_77, S127_79, S127_80, S127_83, S127_85, S127_86, S127_87, S127_90, S127_91, S127_92, S127_93, S127_96, S127_99, S127_101, S127_102, S127_103, S127_104, S127_106, S127_109, S127_110, S127_112, S127_113, S127_114, S127_117, S127_119, S127_120, S127_122, S127_124, S127_125, S127_126, S127_128, S127_129, S127_132, S127_133, S127_136, S127_139, S127_140, gL_sI, gR_sI, gN_sI, gC_sI, gB_sI, gI_sL, gR_sL, gN_sL, gC_sL, gB_sL, gI_sR, gL_sR, gN_sR, gC_sR, gB_sR, gL_sIr, gR_sIr, gN_sIr, gC_sIr, gB_sIr, gI_sLr, gR_sLr, gN_sLr, gC_sLr, gB_sLr, gI_sRr, gL_sRr, gN_sRr, gC_sRr, gB_sRr, gI_sN, gL_sN, gR_sN, gC_sN, gB_sN, gI_sC, gL_sC, gR_sC, gN_sC, gB_sC, gI_sB, gL_sB, gR_sB, gN_sB, gC_sB, gB_sB, gB_am_mk, gI_am_ml, gL_am_ml, gR_am_ml, gB_am_ml, gI_am_add, gL_am_add, gC_am_add, gB_am_add, gI_am_ins, gL_am_ins, gC_am_ins, gB_am_ins, gI_am_rem, gL_am_rem, gC_am_rem, gB_am_rem, gI_am_thr, gL_am_thr, gR_am_thr, gN_am_thr, gB_am_thr, mI_sI_k, mI_sI_j, mI_sI_b, mI_sI_s, mI_sI_i, mI_sI_c, mL_sL_k, mL_sL_j, mL_sL_b, mL_sL_s, mL_sL_i, mL_sL_c, mR_sR_k, mR_sR_j, mR_sR_b, mR_sR_s, mR_sR_i, mR_sR_c, mI_sIr_k, mI_sIr_s, mI_sIr_i, mL_sLr_k, mL_sLr_s, mL_sLr_i, mR_sRr_k, mR_sRr_s, mR_sRr_i, mN_sN_k, mN_sN_i, mN_am_add_k, mN_am_add_s, mR_am_add_k, mN_am_ins_k, mN_am_ins_s, mR_am_ins_k, mN_am_rem_k, mN_am_rem_s, mR_am_rem_k, mR_am_add_s, mR_am_ins_s, mR_am_rem_s, mI_am_mk_k, mI_am_mk_s, mI_am_mk_i, mL_am_mk_k, mL_am_mk_s, mL_am_mk_i, mR_am_mk_k, mR_am_mk_s, mR_am_mk_i, mN_am_mk_k, mN_am_mk_i, mC_am_mk_k, mC_am_mk_s, mN_am_ml_k, mN_am_ml_i, mC_am_ml_k, mC_am_ml_s, mC_sC_k, mC_am_thr_k, sC_3 S, sC_4 S, sR_3_10 S, sC_31 S, sR_3_11 S, sC_32 S, sN_32 S, k0, k1, k2, k3, k4, k5, k6, k7, k8, k9, k10, k11, k12, k13, k14, k15, k16, k17, k18, k19, k20, k21, k22, k23, k24, k25, k26, k27, k28, k29, k30, k31, k32, k33, k34, k35, k36, k37, k38, k39, k40, k41, k42, k43, k44, k45, k46, k47, k48, k49, k50, k51, k52, k53, k54, k55, k56, k57, k58, k59, k60, k61, k62, k63, k64, k65, k66, k67, k68, k69, k70, k71, k72, k73, k74, k75, k76, k77, k78, k79, k80, k81, k82, k83, k84, k85, k86, k87, k88, k89, k90, k91, k92, k93, k94, k95, k96, k97, k98, k99, k100, hN, c1, bwF, true_and, and_true, and_self, if_true, if_false, ite_true, ite_false, Nat.lt_irrefl, List.length_nil, List.length_cons, Nat.reduceAdd, Nat.reduceLeDiff, Nat.reduceLT, Nat.reduceEqDiff, Nat.zero_lt_one, not_true, not_false_iff, bI_0, bI_1, ne_eq, reduceCtorEq, false_and, and_false, or_true, true_or, or_false, false_or, Nat.lt_one_iff, eq_self, Nat.zero_le, am_ko_v, am_ko_0, am_kil, Nat.reduceBEq, Int32.reduceLT, Int32.reduceLE, Int32.reduceAdd, Int32.reduceSub, i32_10, i32_01, not_true_eq_false, not_false_eq_true, Classical.not_not, nor_self, Nat.lt_add_one, nI_1, nI_pred, rf_n, i32_m0, i32_m1, reduceIte]
  | succ k ih =>
    intro i a a6 a7 a8 a9 a10 hi ha
    have c1 : nI i < nI m := nI_lt (by omega) (by omega)
    have i31 : i < 2147483648 := by omega
    have im : i < m := by omega
    obtain ⟨o1, o2, o3, o4, o5, o6⟩ := ho i im
    obtain ⟨o7, o8⟩ := o6 p hp
    have hC8 := fun (D : Nat) (Q : aR → aM → Prop) => C8 (d := D) (Q := Q) o2 o3 o4 o5 hp
    have e1 := set_rm s hs8 i (by omega)
    have e2 := nI_64 (a := v i p) (by omega)
    rw [S127_29]
    by_cases c : 0 < v i p
    · have c2 : 0 < lg_cmp (nL (v i p)) 0 := lgc_gt.mpr ((nL_lt (a := 0) (by omega) (by omega)).mpr c)
      by_cases tb : s.testBit i = true
      · rw [if_pos tb] at e1
        obtain ⟨f1, f2⟩ := set_le s hs8 i (by omega) tb
        have c3 : ¬ nI (s - 2 ^ i) = nI s := fun q => by
          have := (nI_eq (by omega) (by omega)).mp q
          omega
        have r31 : s - 2 ^ i < 2147483648 := by omega
        have r8 : s - 2 ^ i < 128 := by omega
        have ein : nI (s - 2 ^ i) ≤ nI 127 := nI_le (by omega) (by omega)
        obtain ⟨b1, b2⟩ := hb (s - 2 ^ i) (by omega)
        obtain ⟨u1, u2⟩ := shU i (by omega)
        have e3 : (63 : Int32) - nI p = nI (63 - p) := dg63 p hp
        have e4 := nI_64 (a := 63 - p) (by omega)
        have e5 : nL (63 - p) <<< (((6 : Int32) * (6 - nI i)).toInt64 &&& 63) = nL ((63 - p) * dgU i) := by
          rw [nL_shl u1 (by omega), u2]
        have e6 : nL (v i p) <<< ((42 : Int32).toInt64 &&& 63) = nL (v i p * 4398046511104) := by
          rw [nL_shl (k := 42) (by decide) (by decide)]
        have hd := dgU_le (k := i)
        have hw : (63 - p) * dgU i ≤ 63 * dgU i := Nat.mul_le_mul_right _ (by omega)
        have e7 : (if nL a < nL (B (s - 2 ^ i) + v i p * 4398046511104 + (63 - p) * dgU i) then nL (B (s - 2 ^ i) + v i p * 4398046511104 + (63 - p) * dgU i) else nL a) = nL (max a (B (s - 2 ^ i) + wP v i p)) := by
          unfold wP
          rw [← Nat.add_assoc]
          by_cases q : a < B (s - 2 ^ i) + v i p * 4398046511104 + (63 - p) * dgU i
          · rw [if_pos ((nL_lt (by omega) (by omega)).mpr q), Nat.max_eq_right (by omega)]
          · rw [if_neg (fun z => q ((nL_lt (by omega) (by omega)).mp z)), Nat.max_eq_left (by omega)]
        simp only [S127_0, S127_1, S127_2, S127_3, S127_6, S127_7, S127_8, S127_9, S127_12, S127_15, S127_16, S127_19, S127_20, S127_21, S127_24, S127_25, S127_26, S127_27, S127_31, S127_32, S127_35, S127_38, S127_41, S127_42, S127_45, S127_47, S127_50n, S127_50, S127_53, S127_54, S127_57, S127_58, S127_60, S127_61, S127_62, S127_64, S127_65, S127_66, S127_67, S127_68, S127_70, S127_72, S127_73, S127_74, S127_77, S127_79, S127_80, S127_83, S127_85, S127_86, S127_87, S127_90, S127_91, S127_92, S127_93, S127_96, S127_99, S127_101, S127_102, S127_103, S127_104, S127_106, S127_109, S127_110, S127_112, S127_113, S127_114, S127_117, S127_119, S127_120, S127_122, S127_124, S127_125, S127_126, S127_128, S127_129, S127_132, S127_133, S127_136, S127_139, S127_140, gL_sI, gR_sI, gN_sI, gC_sI, gB_sI, gI_sL, gR_sL, gN_sL, gC_sL, gB_sL, gI_sR, gL_sR, gN_sR, gC_sR, gB_sR, gL_sIr, gR_sIr, gN_sIr, gC_sIr, gB_sIr, gI_sLr, gR_sLr, gN_sLr, gC_sLr, gB_sLr, gI_sRr, gL_sRr, gN_sRr, gC_sRr, gB_sRr, gI_sN, gL_sN, gR_sN, gC_sN, gB_sN, gI_sC, gL_sC, gR_sC, gN_sC, gB_sC, gI_sB, gL_sB, gR_sB, gN_sB, gC_sB, gB_sB, gB_am_mk, gI_am_ml, gL_am_ml, gR_am_ml, gB_am_ml, gI_am_add, gL_am_add, gC_am_add, gB_am_add, gI_am_ins, gL_am_ins, gC_am_ins, gB_am_ins, gI_am_rem, gL_am_rem, gC_am_rem, gB_am_rem, gI_am_thr, gL_am_thr, gR_am_thr, gN_am_thr, gB_am_thr, mI_sI_k, mI_sI_j, mI_sI_b, mI_sI_s, mI_sI_i, mI_sI_c, mL_sL_k, mL_sL_j, mL_sL_b, mL_sL_s, mL_sL_i, mL_sL_c, mR_sR_k, mR_sR_j, mR_sR_b, mR_sR_s, mR_sR_i, mR_sR_c, mI_sIr_k, mI_sIr_s, mI_sIr_i, mL_sLr_k, mL_sLr_s, mL_sLr_i, mR_sRr_k, mR_sRr_s, mR_sRr_i, mN_sN_k, mN_sN_i, mN_am_add_k, mN_am_add_s, mR_am_add_k, mN_am_ins_k, mN_am_ins_s, mR_am_ins_k, mN_am_rem_k, mN_am_rem_s, mR_am_rem_k, mR_am_add_s, mR_am_ins_s, mR_am_rem_s, mI_am_mk_k, mI_am_mk_s, mI_am_mk_i, mL_am_mk_k, mL_am_mk_s, mL_am_mk_i, mR_am_mk_k, mR_am_mk_s, mR_am_mk_i, mN_am_mk_k, mN_am_mk_i, mC_am_mk_k, mC_am_mk_s, mN_am_ml_k, mN_am_ml_i, mC_am_ml_k, mC_am_ml_s, mC_sC_k, mC_am_thr_k, sC_3 S, sC_4 S, sR_3_10 S, sC_31 S, sR_3_11 S, sC_32 S, sN_32 S, k0, k1, k2, k3, k4, k5, k6, k7, k8, k9, k10, k11, k12, k13, k14, k15, k16, k17, k18, k19, k20, k21, k22, k23, k24, k25, k26, k27, k28, k29, k30, k31, k32, k33, k34, k35, k36, k37, k38, k39, k40, k41, k42, k43, k44, k45, k46, k47, k48, k49, k50, k51, k52, k53, k54, k55, k56, k57, k58, k59, k60, k61, k62, k63, k64, k65, k66, k67, k68, k69, k70, k71, k72, k73, k74, k75, k76, k77, k78, k79, k80, k81, k82, k83, k84, k85, k86, k87, k88, k89, k90, k91, k92, k93, k94, k95, k96, k97, k98, k99, k100, hN, c1, o1, o2, hC8, o7, c2, ini_iff i31, nI_clamp i31, im, e1, e2, c3, C136, ein, C128, e3, e4, e5, e6, e7, hB, b1, ini_iff r31, nI_clamp r31, r8, nI_pos' r31, nL_add, nI_add, true_and, and_true, and_self, if_true, if_false, ite_true, ite_false, Nat.lt_irrefl, List.length_nil, List.length_cons, Nat.reduceAdd, Nat.reduceLeDiff, Nat.reduceLT, Nat.reduceEqDiff, Nat.zero_lt_one, not_true, not_false_iff, bI_0, bI_1, ne_eq, reduceCtorEq, false_and, and_false, or_true, true_or, or_false, false_or, Nat.lt_one_iff, eq_self, Nat.zero_le, am_ko_v, am_ko_0, am_kil, Nat.reduceBEq, Int32.reduceLT, Int32.reduceLE, Int32.reduceAdd, Int32.reduceSub, i32_10, i32_01, not_true_eq_false, not_false_eq_true, Classical.not_not, nor_self, Nat.lt_add_one, nI_1, nI_pred, rf_n, i32_m0, i32_m1, reduceIte]
        rw [ih (i + 1) _ _ _ _ _ _ (by omega) (by unfold wP; omega)]
        simp only [bwF, c, tb, and_self, if_true]
      · rw [if_neg tb] at e1
        simp only [S127_0, S127_1, S127_2, S127_3, S127_6, S127_7, S127_8, S127_9, S127_12, S127_15, S127_16, S127_19, S127_20, S127_21, S127_24, S127_25, S127_26, S127_27, S127_31, S127_32, S127_35, S127_38, S127_41, S127_42, S127_45, S127_47, S127_50n, S127_50, S127_53, S127_54, S127_57, S127_58, S127_60, S127_61, S127_62, S127_64, S127_65, S127_66, S127_67, S127_68, S127_70, S127_72, S127_73, S127_74, S127_77, S127_79, S127_80, S127_83, S127_85, S127_86, S127_87, S127_90, S127_91, S127_92, S127_93, S127_96, S127_99, S127_101, S127_102, S127_103, S127_104, S127_106, S127_109, S127_110, S127_112, S127_113, S127_114, S127_117, S127_119, S127_120, S127_122, S127_124, S127_125, S127_126, S127_128, S127_129, S127_132, S127_133, S127_136, S127_139, S127_140, gL_sI, gR_sI, gN_sI, gC_sI, gB_sI, gI_sL, gR_sL, gN_sL, gC_sL, gB_sL, gI_sR, gL_sR, gN_sR, gC_sR, gB_sR, gL_sIr, gR_sIr, gN_sIr, gC_sIr, gB_sIr, gI_sLr, gR_sLr, gN_sLr, gC_sLr, gB_sLr, gI_sRr, gL_sRr, gN_sRr, gC_sRr, gB_sRr, gI_sN, gL_sN, gR_sN, gC_sN, gB_sN, gI_sC, gL_sC, gR_sC, gN_sC, gB_sC, gI_sB, gL_sB, gR_sB, gN_sB, gC_sB, gB_sB, gB_am_mk, gI_am_ml, gL_am_ml, gR_am_ml, gB_am_ml, gI_am_add, gL_am_add, gC_am_add, gB_am_add, gI_am_ins, gL_am_ins, gC_am_ins, gB_am_ins, gI_am_rem, gL_am_rem, gC_am_rem, gB_am_rem, gI_am_thr, gL_am_thr, gR_am_thr, gN_am_thr, gB_am_thr, mI_sI_k, mI_sI_j, mI_sI_b, mI_sI_s, mI_sI_i, mI_sI_c, mL_sL_k, mL_sL_j, mL_sL_b, mL_sL_s, mL_sL_i, mL_sL_c, mR_sR_k, mR_sR_j, mR_sR_b, mR_sR_s, mR_sR_i, mR_sR_c, mI_sIr_k, mI_sIr_s, mI_sIr_i, mL_sLr_k, mL_sLr_s, mL_sLr_i, mR_sRr_k, mR_sRr_s, mR_sRr_i, mN_sN_k, mN_sN_i, mN_am_add_k, mN_am_add_s, mR_am_add_k, mN_am_ins_k, mN_am_ins_s, mR_am_ins_k, mN_am_rem_k, mN_am_rem_s, mR_am_rem_k, mR_am_add_s, mR_am_ins_s, mR_am_rem_s, mI_am_mk_k, mI_am_mk_s, mI_am_mk_i, mL_am_mk_k, mL_am_mk_s, mL_am_mk_i, mR_am_mk_k, mR_am_mk_s, mR_am_mk_i, mN_am_mk_k, mN_am_mk_i, mC_am_mk_k, mC_am_mk_s, mN_am_ml_k, mN_am_ml_i, mC_am_ml_k, mC_am_ml_s, mC_sC_k, mC_am_thr_k, sC_3 S, sC_4 S, sR_3_10 S, sC_31 S, sR_3_11 S, sC_32 S, sN_32 S, k0, k1, k2, k3, k4, k5, k6, k7, k8, k9, k10, k11, k12, k13, k14, k15, k16, k17, k18, k19, k20, k21, k22, k23, k24, k25, k26, k27, k28, k29, k30, k31, k32, k33, k34, k35, k36, k37, k38, k39, k40, k41, k42, k43, k44, k45, k46, k47, k48, k49, k50, k51, k52, k53, k54, k55, k56, k57, k58, k59, k60, k61, k62, k63, k64, k65, k66, k67, k68, k69, k70, k71, k72, k73, k74, k75, k76, k77, k78, k79, k80, k81, k82, k83, k84, k85, k86, k87, k88, k89, k90, k91, k92, k93, k94, k95, k96, k97, k98, k99, k100, hN, c1, o1, o2, hC8, o7, c2, ini_iff i31, nI_clamp i31, im, e1, e2, nI_add, true_and, and_true, and_self, if_true, if_false, ite_true, ite_false, Nat.lt_irrefl, List.length_nil, List.length_cons, Nat.reduceAdd, Nat.reduceLeDiff, Nat.reduceLT, Nat.reduceEqDiff, Nat.zero_lt_one, not_true, not_false_iff, bI_0, bI_1, ne_eq, reduceCtorEq, false_and, and_false, or_true, true_or, or_false, false_or, Nat.lt_one_iff, eq_self, Nat.zero_le, am_ko_v, am_ko_0, am_kil, Nat.reduceBEq, Int32.reduceLT, Int32.reduceLE, Int32.reduceAdd, Int32.reduceSub, i32_10, i32_01, not_true_eq_false, not_false_eq_true, Classical.not_not, nor_self, Nat.lt_add_one, nI_1, nI_pred, rf_n, i32_m0, i32_m1, reduceIte]
        rw [ih (i + 1) _ _ _ _ _ _ (by omega) ha]
        simp only [bwF, tb, and_false, if_false, Bool.false_eq_true]
    · have c0 : v i p = 0 := by omega
      have c2 : ¬ 0 < lg_cmp (nL (v i p)) 0 := by rw [c0]; decide
      simp only [S127_0, S127_1, S127_2, S127_3, S127_6, S127_7, S127_8, S127_9, S127_12, S127_15, S127_16, S127_19, S127_20, S127_21, S127_24, S127_25, S127_26, S127_27, S127_31, S127_32, S127_35, S127_38, S127_41, S127_42, S127_45, S127_47, S127_50n, S127_50, S127_53, S127_54, S127_57, S127_58, S127_60, S127_61, S127_62, S127_64, S127_65, S127_66, S127_67, S127_68, S127_70, S127_72, S127_73, S127_74, S127_77, S127_79, S127_80, S127_83, S127_85, S127_86, S127_87, S127_90, S127_91, S127_92, S127_93, S127_96, S127_99, S127_101, S127_102, S127_103, S127_104, S127_106, S127_109, S127_110, S127_112, S127_113, S127_114, S127_117, S127_119, S127_120, S127_122, S127_124, S127_125, S127_126, S127_128, S127_129, S127_132, S127_133, S127_136, S127_139, S127_140, gL_sI, gR_sI, gN_sI, gC_sI, gB_sI, gI_sL, gR_sL, gN_sL, gC_sL, gB_sL, gI_sR, gL_sR, gN_sR, gC_sR, gB_sR, gL_sIr, gR_sIr, gN_sIr, gC_sIr, gB_sIr, gI_sLr, gR_sLr, gN_sLr, gC_sLr, gB_sLr, gI_sRr, gL_sRr, gN_sRr, gC_sRr, gB_sRr, gI_sN, gL_sN, gR_sN, gC_sN, gB_sN, gI_sC, gL_sC, gR_sC, gN_sC, gB_sC, gI_sB, gL_sB, gR_sB, gN_sB, gC_sB, gB_sB, gB_am_mk, gI_am_ml, gL_am_ml, gR_am_ml, gB_am_ml, gI_am_add, gL_am_add, gC_am_add, gB_am_add, gI_am_ins, gL_am_ins, gC_am_ins, gB_am_ins, gI_am_rem, gL_am_rem, gC_am_rem, gB_am_rem, gI_am_thr, gL_am_thr, gR_am_thr, gN_am_thr, gB_am_thr, mI_sI_k, mI_sI_j, mI_sI_b, mI_sI_s, mI_sI_i, mI_sI_c, mL_sL_k, mL_sL_j, mL_sL_b, mL_sL_s, mL_sL_i, mL_sL_c, mR_sR_k, mR_sR_j, mR_sR_b, mR_sR_s, mR_sR_i, mR_sR_c, mI_sIr_k, mI_sIr_s, mI_sIr_i, mL_sLr_k, mL_sLr_s, mL_sLr_i, mR_sRr_k, mR_sRr_s, mR_sRr_i, mN_sN_k, mN_sN_i, mN_am_add_k, mN_am_add_s, mR_am_add_k, mN_am_ins_k, mN_am_ins_s, mR_am_ins_k, mN_am_rem_k, mN_am_rem_s, mR_am_rem_k, mR_am_add_s, mR_am_ins_s, mR_am_rem_s, mI_am_mk_k, mI_am_mk_s, mI_am_mk_i, mL_am_mk_k, mL_am_mk_s, mL_am_mk_i, mR_am_mk_k, mR_am_mk_s, mR_am_mk_i, mN_am_mk_k, mN_am_mk_i, mC_am_mk_k, mC_am_mk_s, mN_am_ml_k, mN_am_ml_i, mC_am_ml_k, mC_am_ml_s, mC_sC_k, mC_am_thr_k, sC_3 S, sC_4 S, sR_3_10 S, sC_31 S, sR_3_11 S, sC_32 S, sN_32 S, k0, k1, k2, k3, k4, k5, k6, k7, k8, k9, k10, k11, k12, k13, k14, k15, k16, k17, k18, k19, k20, k21, k22, k23, k24, k25, k26, k27, k28, k29, k30, k31, k32, k33, k34, k35, k36, k37, k38, k39, k40, k41, k42, k43, k44, k45, k46, k47, k48, k49, k50, k51, k52, k53, k54, k55, k56, k57, k58, k59, k60, k61, k62, k63, k64, k65, k66, k67, k68, k69, k70, k71, k72, k73, k74, k75, k76, k77, k78, k79, k80, k81, k82, k83, k84, k85, k86, k87, k88, k89, k90, k91, k92, k93, k94, k95, k96, k97, k98, k99, k100, hN, c1, o1, o2, hC8, o7, c2, ini_iff i31, nI_clamp i31, im, e1, e2, nI_add, true_and, and_true, and_self, if_true, if_false, ite_true, ite_false, Nat.lt_irrefl, List.length_nil, List.length_cons, Nat.reduceAdd, Nat.reduceLeDiff, Nat.reduceLT, Nat.reduceEqDiff, Nat.zero_lt_one, not_true, not_false_iff, bI_0, bI_1, ne_eq, reduceCtorEq, false_and, and_false, or_true, true_or, or_false, false_or, Nat.lt_one_iff, eq_self, Nat.zero_le, am_ko_v, am_ko_0, am_kil, Nat.reduceBEq, Int32.reduceLT, Int32.reduceLE, Int32.reduceAdd, Int32.reduceSub, i32_10, i32_01, not_true_eq_false, not_false_eq_true, Classical.not_not, nor_self, Nat.lt_add_one, nI_1, nI_pred, rf_n, i32_m0, i32_m1, reduceIte]
      rw [ih (i + 1) _ _ _ _ _ _ (by omega) ha]
      simp only [bwF, c, false_and, if_false]
theorem C127 {p s : Nat} (h : OFR σ m hs v) (hp : p < 60) (hs7 : s < 2 ^ m) (hb : ∀ t, t ≤ s → gL σ 32 0 t = nL (B t) ∧ B t < 4611686018427387904) : WP (d + 2) 127 0 [some (vr (some (3, 0))), some (vi (nI p)), some (vi (nI s)), none, none, none, none, none, none, none, none] [] σ Q ↔ Q (some (some (vl (nL (bwF v B p s 0 m (B s)))))) σ := by
  have S : Sh σ := h.1
  have h7 := h.2.2.1
  have hs8 : s < 128 := Nat.lt_of_lt_of_le hs7 (show 2 ^ m ≤ 2 ^ 7 from Nat.pow_le_pow_right (by decide) h7)
  have e := fun (a6 a7 a8 a9 a10 : Option aV) => L127 (d := d) (Q := Q) (B := B) h hp hs7 (sR_3_11 S) hb m 0 (B s) a6 a7 a8 a9 a10 (by omega) (by have := (hb s (Nat.le_refl s)).2; omega)
  simp only [nI_0] at e
  obtain ⟨b1, b2⟩ := hb s (Nat.le_refl s)
  have s31 : s < 2147483648 := by omega
  have ein : nI s ≤ nI 127 := nI_le (by omega) (by omega)
  rw [← e none none none none none]
  simp only [S127_0, S127_1, S127_2, S127_3, S127_6, S127_7, S127_8, S127_9, S127_12, S127_15, S127_16, S127_19, S127_20, S127_21, S127_24, S127_25, S127_26, S127_27, S127_31, S127_32, S127_35, S127_38, S127_41, S127_42, S127_45, S127_47, S127_50n, S127_50, S127_53, S127_54, S127_57, S127_58, S127_60, S127_61, S127_62, S127_64, S127_65, S127_66, S127_67, S127_68, S127_70, S127_72, S127_73, S127_74, S127_77, S127_79, S127_80, S127_83, S127_85, S127_86, S127_87, S127_90, S127_91, S127_92, S127_93, S127_96, S127_99, S127_101, S127_102, S127_103, S127_104, S127_106, S127_109, S127_110, S127_112, S127_113, S127_114, S127_117, S127_119, S127_120, S127_122, S127_124, S127_125, S127_126, S127_128, S127_129, S127_132, S127_133, S127_136, S127_139, S127_140, gL_sI, gR_sI, gN_sI, gC_sI, gB_sI, gI_sL, gR_sL, gN_sL, gC_sL, gB_sL, gI_sR, gL_sR, gN_sR, gC_sR, gB_sR, gL_sIr, gR_sIr, gN_sIr, gC_sIr, gB_sIr, gI_sLr, gR_sLr, gN_sLr, gC_sLr, gB_sLr, gI_sRr, gL_sRr, gN_sRr, gC_sRr, gB_sRr, gI_sN, gL_sN, gR_sN, gC_sN, gB_sN, gI_sC, gL_sC, gR_sC, gN_sC, gB_sC, gI_sB, gL_sB, gR_sB, gN_sB, gC_sB, gB_sB, gB_am_mk, gI_am_ml, gL_am_ml, gR_am_ml, gB_am_ml, gI_am_add, gL_am_add, gC_am_add, gB_am_add, gI_am_ins, gL_am_ins, gC_am_ins, gB_am_ins, gI_am_rem, gL_am_rem, gC_am_rem, gB_am_rem, gI_am_thr, gL_am_thr, gR_am_thr, gN_am_thr, gB_am_thr, mI_sI_k, mI_sI_j, mI_sI_b, mI_sI_s, mI_sI_i, mI_sI_c, mL_sL_k, mL_sL_j, mL_sL_b, mL_sL_s, mL_sL_i, mL_sL_c, mR_sR_k, mR_sR_j, mR_sR_b, mR_sR_s, mR_sR_i, mR_sR_c, mI_sIr_k, mI_sIr_s, mI_sIr_i, mL_sLr_k, mL_sLr_s, mL_sLr_i, mR_sRr_k, mR_sRr_s, mR_sRr_i, mN_sN_k, mN_sN_i, mN_am_add_k, mN_am_add_s, mR_am_add_k, mN_am_ins_k, mN_am_ins_s, mR_am_ins_k, mN_am_rem_k, mN_am_rem_s, mR_am_rem_k, mR_am_add_s, mR_am_ins_s, mR_am_rem_s, mI_am_mk_k, mI_am_mk_s, mI_am_mk_i, mL_am_mk_k, mL_am_mk_s, mL_am_mk_i, mR_am_mk_k, mR_am_mk_s, mR_am_mk_i, mN_am_mk_k, mN_am_mk_i, mC_am_mk_k, mC_am_mk_s, mN_am_ml_k, mN_am_ml_i, mC_am_ml_k, mC_am_ml_s, mC_sC_k, mC_am_thr_k, sC_3 S, sC_4 S, sR_3_10 S, sC_31 S, sR_3_11 S, sC_32 S, sN_32 S, k0, k1, k2, k3, k4, k5, k6, k7, k8, k9, k10, k11, k12, k13, k14, k15, k16, k17, k18, k19, k20, k21, k22, k23, k24, k25, k26, k27, k28, k29, k30, k31, k32, k33, k34, k35, k36, k37, k38, k39, k40, k41, k42, k43, k44, k45, k46, k47, k48, k49, k50, k51, k52, k53, k54, k55, k56, k57, k58, k59, k60, k61, k62, k63, k64, k65, k66, k67, k68, k69, k70, k71, k72, k73, k74, k75, k76, k77, k78, k79, k80, k81, k82, k83, k84, k85, k86, k87, k88, k89, k90, k91, k92, k93, k94, k95, k96, k97, k98, k99, k100, C136, ein, nI_pos' s31, ini_iff s31, nI_clamp s31, hs8, b1, true_and, and_true, and_self, if_true, if_false, ite_true, ite_false, Nat.lt_irrefl, List.length_nil, List.length_cons, Nat.reduceAdd, Nat.reduceLeDiff, Nat.reduceLT, Nat.reduceEqDiff, Nat.zero_lt_one, not_true, not_false_iff, bI_0, bI_1, ne_eq, reduceCtorEq, false_and, and_false, or_true, true_or, or_false, false_or, Nat.lt_one_iff, eq_self, Nat.zero_le, am_ko_v, am_ko_0, am_kil, Nat.reduceBEq, Int32.reduceLT, Int32.reduceLE, Int32.reduceAdd, Int32.reduceSub, i32_10, i32_01, not_true_eq_false, not_false_eq_true, Classical.not_not, nor_self, Nat.lt_add_one, nI_1, nI_pred, rf_n, i32_m0, i32_m1, reduceIte]
/-- the row of best sums -/
abbrev bestR (σ : aM) (g : Nat → Int64) : aM := sLr σ 32 0 g
theorem bestR_w {g : Nat → Int64} {j : Nat} {x : Int64} : sL (bestR σ g) 32 0 j x = bestR σ (fun c => if c = j then x else g c) := by
  unfold bestR sL sLr
  refine congrArg (fun f => (σ.1, f, σ.2.2)) ?_
  funext a b c
  by_cases e : a = 32 ∧ b = 0
  · by_cases q : c = j
    · simp [am_u3, e, q]
    · simp [am_u3, e, q]
  · have e1 : ¬ (a = 32 ∧ b = 0 ∧ c = j) := fun z => e ⟨z.1, z.2.1⟩
    simp [am_u3, e, e1]
theorem bestR_O {g : Nat → Int64} (h : OFR σ m hs v) : OFR (bestR σ g) m hs v := h
theorem L125a {p : Nat} {a1 : Option aV} (h : OFR σ m hs v) (hp : p < 60) (hB : ∀ t, t < 2 ^ m → B t < 4611686018427387904) : ∀ s g, s < 2 ^ m → (∀ t, t ≤ s → g t = nL (B t)) → (WP (d + 3) 125 51 [some (vr (some (3, 0))), a1, some (vi (nI p)), some (vi (nI s))] [] (bestR σ g) Q ↔ WP (d + 3) 125 73 [some (vr (some (3, 0))), a1, some (vi (nI p)), some (vi (nI 0))] [] (bestR σ (fun t => if 1 ≤ t ∧ t ≤ s then nL (bwF v B p t 0 m (B t)) else g t)) Q) := by
  have h7 := h.2.2.1
  have hp7 : 2 ^ m ≤ 2 ^ 7 := Nat.pow_le_pow_right (by decide) h7
  have S : Sh σ := h.1
  intro s
  induction s with
  | zero =>
    intro g _ _
    have e : (fun t => if 1 ≤ t ∧ t ≤ 0 then nL (bwF v B p t 0 m (B t)) else g t) = g := by
      funext t
      rw [if_neg (by omega)]
    rw [e, S125_51]
    simp only [S125_52, nI_0, true_and, and_true, and_self, if_true, if_false, ite_true, ite_false, Nat.lt_irrefl, List.length_nil, List.length_cons, Nat.reduceAdd, Nat.reduceLeDiff, Nat.reduceLT, Nat.reduceEqDiff, Nat.zero_lt_one, not_true, not_false_iff, bI_0, bI_1, ne_eq, reduceCtorEq, false_and, and_false, or_true, true_or, or_false, false_or, Nat.lt_one_iff, eq_self, Nat.zero_le, am_ko_v, am_ko_0, am_kil, Nat.reduceBEq, Int32.reduceLT, Int32.reduceLE, Int32.reduceAdd, Int32.reduceSub, i32_10, i32_01, not_true_eq_false, not_false_eq_true, Classical.not_not, nor_self, Nat.lt_add_one, nI_1, nI_pred, rf_n, i32_m0, i32_m1, reduceIte]
  | succ s ih =>
    intro g hs2 hg
    have S : Sh (bestR σ g) := S
    have hb : ∀ t, t ≤ s + 1 → gL (bestR σ g) 32 0 t = nL (B t) ∧ B t < 4611686018427387904 := fun t ht => ⟨(show gL (bestR σ g) 32 0 t = g t from mL_sLr_s).trans (hg t ht), hB t (by omega)⟩
    have hC := fun (D : Nat) (Q : aR → aM → Prop) => C127 (d := D) (Q := Q) (bestR_O (g := g) h) hp hs2 hb
    have c1 : 0 < nI (s + 1) := by have := nI_lt (Nat.succ_pos s) (show s + 1 < 2 ^ 31 by omega); rwa [nI_0] at this
    have em : nI (s + 1) + (-1) = nI s := by rw [← nI_pred s, Int32.sub_eq_add_neg]
    have s31 : s + 1 < 2147483648 := by omega
    have s128 : s + 1 < 128 := by omega
    rw [S125_51]
    simp only [S125_52, S125_55, S125_56, S125_59, S125_60, S125_61, S125_62, S125_63, S125_66, S125_67, S125_70, hC, c1, sC_3 S, sC_32 S, sR_3_11 S, sN_32 S, ini_iff s31, nI_clamp s31, s128, bestR_w, em, k0, k1, k2, k3, k4, k5, k6, k7, k8, k9, k10, k11, k12, k13, k14, k15, k16, k17, k18, k19, k20, k21, k22, k23, k24, k25, k26, k27, k28, k29, k30, k31, k32, k33, k34, k35, k36, k37, k38, k39, k40, k41, k42, k43, k44, k45, k46, k47, k48, k49, k50, k51, k52, k53, k54, k55, k56, k57, k58, k59, k60, k61, k62, k63, k64, k65, k66, k67, k68, k69, k70, k71, k72, k73, k74, k75, k76, k77, k78, k79, k80, k81, k82, k83, k84, k85, k86, k87, k88, k89, k90, k91, k92, k93, k94, k95, k96, k97, k98, k99, k100, true_and, and_true, and_self, if_true, if_false, ite_true, ite_false, Nat.lt_irrefl, List.length_nil, List.length_cons, Nat.reduceAdd, Nat.reduceLeDiff, Nat.reduceLT, Nat.reduceEqDiff, Nat.zero_lt_one, not_true, not_false_iff, bI_0, bI_1, ne_eq, reduceCtorEq, false_and, and_false, or_true, true_or, or_false, false_or, Nat.lt_one_iff, eq_self, Nat.zero_le, am_ko_v, am_ko_0, am_kil, Nat.reduceBEq, Int32.reduceLT, Int32.reduceLE, Int32.reduceAdd, Int32.reduceSub, i32_10, i32_01, not_true_eq_false, not_false_eq_true, Classical.not_not, nor_self, Nat.lt_add_one, nI_1, nI_pred, rf_n, i32_m0, i32_m1, reduceIte]
    rw [ih _ (by omega) (fun t ht => by rw [if_neg (by omega)]; exact hg t (by omega))]
    have e : (fun t => if 1 ≤ t ∧ t ≤ s then nL (bwF v B p t 0 m (B t)) else if t = s + 1 then nL (bwF v B p (s + 1) 0 m (B (s + 1))) else g t) = (fun t => if 1 ≤ t ∧ t ≤ s + 1 then nL (bwF v B p t 0 m (B t)) else g t) := by
      funext t
      by_cases q : t = s + 1
      · subst q
        rw [if_neg (by omega), if_pos rfl, if_pos (by omega)]
      · by_cases q2 : 1 ≤ t ∧ t ≤ s
        · rw [if_pos q2, if_pos (by omega)]
        · rw [if_neg q2, if_neg q, if_neg (by omega)]
    rw [e]
end SELL
/-! the class's row is the greatest of what can be had -/
section SELT
variable {v : Nat → Nat → Nat} {B : Nat → Nat} {m : Nat}
theorem bwF_s {p s : Nat} : ∀ (k i a : Nat), a ≤ bwF v B p s i k a ∧ (∀ j, i ≤ j → j < i + k → 0 < v j p → s.testBit j = true → B (s - 2 ^ j) + wP v j p ≤ bwF v B p s i k a) ∧ (bwF v B p s i k a = a ∨ ∃ j, i ≤ j ∧ j < i + k ∧ 0 < v j p ∧ s.testBit j = true ∧ bwF v B p s i k a = B (s - 2 ^ j) + wP v j p)
  | 0, i, a => ⟨Nat.le_refl a, fun j h1 h2 => absurd h2 (by omega), Or.inl rfl⟩
  | k + 1, i, a => by
    unfold bwF
    by_cases c : 0 < v i p ∧ s.testBit i = true
    · rw [if_pos c]
      obtain ⟨h1, h2, h3⟩ := bwF_s (p := p) (s := s) k (i + 1) (max a (B (s - 2 ^ i) + wP v i p))
      refine ⟨Nat.le_trans (Nat.le_max_left _ _) h1, fun j g1 g2 g3 g4 => ?_, ?_⟩
      · by_cases e : j = i
        · subst e; exact Nat.le_trans (Nat.le_max_right _ _) h1
        · exact h2 j (by omega) (by omega) g3 g4
      · rcases h3 with h3 | ⟨j, g1, g2, g3, g4, g5⟩
        · rw [h3]
          rcases Nat.le_total a (B (s - 2 ^ i) + wP v i p) with q | q
          · exact Or.inr ⟨i, Nat.le_refl i, by omega, c.1, c.2, Nat.max_eq_right q⟩
          · exact Or.inl (Nat.max_eq_left q)
        · exact Or.inr ⟨j, by omega, by omega, g3, g4, g5⟩
    · rw [if_neg c]
      obtain ⟨h1, h2, h3⟩ := bwF_s (p := p) (s := s) k (i + 1) a
      refine ⟨h1, fun j g1 g2 g3 g4 => ?_, ?_⟩
      · by_cases e : j = i
        · subst e; exact absurd ⟨g3, g4⟩ c
        · exact h2 j (by omega) (by omega) g3 g4
      · rcases h3 with h3 | ⟨j, g1, g2, g3, g4, g5⟩
        · exact Or.inl h3
        · exact Or.inr ⟨j, by omega, by omega, g3, g4, g5⟩
def btS (t : Nat) : Nat → Prop := fun i => t.testBit i = true
theorem bt_dec : ∀ t, t < 128 → ∀ i, i < 7 → t.testBit i = true → ∀ j, j < 7 → (t - 2 ^ i).testBit j = (t.testBit j && decide (j ≠ i)) := by decide +kernel
theorem bt_hi {t j : Nat} (h : t < 128) (hj : 7 ≤ j) : t.testBit j = false := Nat.testBit_lt_two_pow (Nat.lt_of_lt_of_le h (show 2 ^ 7 ≤ 2 ^ j from Nat.pow_le_pow_right (by decide) hj))
theorem bt_lt {t j : Nat} (h : t < 2 ^ m) (hj : t.testBit j = true) : j < m := by
  rcases Nat.lt_or_ge j m with c | c
  · exact c
  · rw [Nat.testBit_lt_two_pow (Nat.lt_of_lt_of_le h (Nat.pow_le_pow_right (by decide) c))] at hj
    cases hj
theorem bt_sub {t i : Nat} (h : t < 128) (hi : t.testBit i = true) : hsub (btS t) i = btS (t - 2 ^ i) := by
  have h7 : i < 7 := by
    rcases Nat.lt_or_ge i 7 with c | c
    · exact c
    · rw [bt_hi h c] at hi; cases hi
  funext j
  unfold hsub btS
  rcases Nat.lt_or_ge j 7 with c | c
  · rw [bt_dec t h i h7 hi j c]
    simp
  · rw [bt_hi h c, bt_hi (Nat.lt_of_le_of_lt (Nat.sub_le _ _) h) c]
    simp
/-- the row behind p persons -/
def DB (v : Nat → Nat → Nat) (m : Nat) : Nat → Nat → Nat
  | 0, _ => 0
  | p + 1, t => if 1 ≤ t then bwF v (DB v m p) p t 0 m (DB v m p t) else DB v m p t
def noP : Nat → Prop := fun _ => False
theorem DB_top (hm : m ≤ 7) : ∀ p t, t < 2 ^ m → Top (alV v) (wP v) p noP (btS t) (DB v m p t)
  | 0, t, _ => Top_0
  | p + 1, t, ht => by
    have h128 : t < 128 := Nat.lt_of_lt_of_le ht (show 2 ^ m ≤ 2 ^ 7 from Nat.pow_le_pow_right (by decide) hm)
    have ih := DB_top hm p
    unfold DB
    by_cases c : 1 ≤ t
    · rw [if_pos c]
      obtain ⟨h1, h2, h3⟩ := bwF_s (v := v) (B := DB v m p) (p := p) (s := t) m 0 (DB v m p t)
      refine Top_step (fun e => e) (ih t ht) ?_ h1 (fun i b g1 g2 g3 => ?_) (fun i g1 => ⟨_, by rw [bt_sub h128 g1]; exact ih _ (Nat.lt_of_le_of_lt (Nat.sub_le _ _) ht)⟩)
      · rcases h3 with h3 | ⟨j, _, g2, g3, g4, g5⟩
        · exact Or.inl h3
        · exact Or.inr ⟨j, g4, g3, _, by rw [bt_sub h128 g4]; exact ih _ (Nat.lt_of_le_of_lt (Nat.sub_le _ _) ht), g5⟩
      · have := h2 i (Nat.zero_le i) (by have := bt_lt ht g1; omega) g2 g1
        rw [bt_sub h128 g1] at g3
        rw [Top_one g3 (ih _ (Nat.lt_of_le_of_lt (Nat.sub_le _ _) ht))]
        exact this
    · rw [if_neg c]
      have t0 : t = 0 := by omega
      subst t0
      have hz : ∀ i, ¬ btS 0 i := fun i e => by
        unfold btS at e
        rw [Nat.zero_testBit] at e
        cases e
      exact Top_step (fun e => e) (ih 0 ht) (Or.inl rfl) (Nat.le_refl _) (fun i b g => absurd g (hz i)) (fun i g => absurd g (hz i))
/-- sums are small -/
theorem Had_100 {P : Nat} {O : Nat → Prop} (hv : ∀ i p, v i p ≤ 100000) : ∀ (n : Nat) {S : Nat → Prop} {y : Nat}, (∀ i, S i → i < n) → Had (alV v) (wS v) P O S y → y ≤ 100000 * n
  | 0, S, y, hS, h => by
    have e : ∀ {P : Nat} {x : Nat}, Had (alV v) (wS v) P O S x → x = 0 := by
      intro P
      induction P with
      | zero => intro x h; exact h
      | succ P ih =>
        intro x h
        rcases h with g | ⟨_, i, g2, _⟩
        · exact ih g
        · exact absurd (hS i g2) (Nat.not_lt_zero i)
    rw [e h]; exact Nat.zero_le _
  | n + 1, S, y, hS, h => by
    by_cases c : S n
    · have hsn : ∀ i, hsub S n i → i < n := fun i hi => by have := hS i hi.1; have := hi.2; omega
      rcases (Had_swap c).mp h with g | ⟨p, _, _, _, z, g, rfl⟩
      · have := Had_100 hv n hsn g; omega
      · have h0 : ∀ {O' : Nat → Prop}, Had (alV v) (wS v) P O' (hsub S n) z → z ≤ 100000 * n := fun g => by
          exact Had_100 hv n hsn g
        have h1 := h0 g
        have h2 : wS v n p ≤ 100000 := hv n p
        omega
    · have := Had_100 (S := S) hv n (fun i hi => by
        have := hS i hi
        rcases Nat.lt_or_ge i n with q | q
        · exact q
        · have e : i = n := by omega
          rw [e] at hi; exact absurd hi c) h
      omega
theorem DB_lt (hm : m ≤ 7) (hv : ∀ i p, v i p ≤ 100000) (p t : Nat) (ht : t < 2 ^ m) : DB v m p t < 4611686018427387904 := by
  have h7 : ∀ i, btS t i → i < 7 := fun i hi => by have := bt_lt ht hi; omega
  obtain ⟨y, f, a1, a2, a3, a4⟩ := Had_pd h7 (DB_top hm p t ht).1
  have h1 := Had_100 hv 7 h7 a1
  have h2 := pd_lt a2
  omega
theorem anF_n {p : Nat} : ∀ (k i : Nat), anF v p i k = false → ∀ j, i ≤ j → j < i + k → ¬ 0 < v j p
  | 0, i, _, j, h1, h2 => absurd h2 (by omega)
  | k + 1, i, h, j, h1, h2 => by
    unfold anF at h
    rw [Bool.or_eq_false_iff] at h
    by_cases e : j = i
    · subst e; exact of_decide_eq_false h.1
    · exact anF_n k (i + 1) h.2 j (by omega) (by omega)
theorem DB_no {p t : Nat} (h : anF v p 0 m = false) : DB v m (p + 1) t = DB v m p t := by
  show (if 1 ≤ t then bwF v (DB v m p) p t 0 m (DB v m p t) else DB v m p t) = DB v m p t
  by_cases c : 1 ≤ t
  · rw [if_pos c]
    obtain ⟨h1, h2, h3⟩ := bwF_s (v := v) (B := DB v m p) (p := p) (s := t) m 0 (DB v m p t)
    rcases h3 with h3 | ⟨j, g1, g2, g3, _⟩
    · exact h3
    · exact absurd g3 (anF_n m 0 h j g1 g2)
  · rw [if_neg c]
end SELT
section SELU
variable {d m M1 : Nat} {σ : aM} {Q : aR → aM → Prop} {hs : Nat → Nat} {v : Nat → Nat → Nat}
theorem L125 (h : OFR σ m hs v) (hv : ∀ i p, v i p ≤ 100000) (hP : gN σ 21 0 ≤ 60) (hM : 2 ^ m = M1 + 1) (hM0 : 1 ≤ M1) : ∀ k p g (a3 : Option aV), p + k = gN σ 21 0 → (∀ t, t < 2 ^ m → g t = nL (DB v m p t)) → (∀ g', (∀ t, t < 2 ^ m → g' t = nL (DB v m (gN σ 21 0) t)) → Q (some (some (vl (nL (DB v m (gN σ 21 0) M1))))) (bestR σ g')) → WP (d + 3) 125 20 [some (vr (some (3, 0))), some (vi (nI (M1 + 1))), some (vi (nI p)), a3] [] (bestR σ g) Q := by
  have h7 := h.2.2.1
  have hp7 : 2 ^ m ≤ 2 ^ 7 := Nat.pow_le_pow_right (by decide) h7
  have hM8 : M1 + 1 ≤ 128 := by omega
  have S0 : Sh σ := h.1
  intro k
  induction k with
  | zero =>
    intro p g a3 hi hg hq
    have S : Sh (bestR σ g) := S0
    have e1 : p = gN σ 21 0 := by omega
    have c1 : ¬ nI p < nI (gN σ 21 0) := nI_nlt (by omega) (by omega)
    have m31 : M1 < 2147483648 := by omega
    have m128 : M1 < 128 := by omega
    have w1 : (1 : Int32) ≤ nI (M1 + 1) := by
      have := nI_le (show 1 ≤ M1 + 1 by omega) (show M1 + 1 < 2 ^ 31 by omega)
      exact this
    have w2 : nI (M1 + 1) ≤ nI 128 := nI_le hM8 (by decide)
    have hl : gL (bestR σ g) 32 0 M1 = nL (DB v m (gN σ 21 0) M1) := by
      rw [← e1, ← hg M1 (by omega)]
      exact mL_sLr_s
    have hz := hq g (fun t ht => by rw [← e1]; exact hg t ht)
    rw [S125_20]
    simp only [S125_0, S125_1, S125_2, S125_5, S125_8, S125_9, S125_10, S125_11, S125_14, S125_15, S125_18, S125_19, S125_21, S125_22, S125_25, S125_28, S125_31, S125_32, S125_33, S125_36, S125_39, S125_40, S125_41, S125_44, S125_45, S125_48, S125_49, S125_50, S125_52, S125_55, S125_56, S125_59, S125_60, S125_61, S125_62, S125_63, S125_66, S125_67, S125_70, S125_73, S125_76, S125_79, S125_80, S125_81, S125_82, S125_85, S125_86, S125_89, S125_92, S125_93, S125_96, S125_97, S125_98, S125_99, S125_100, S125_103, S125_104, gL_sI, gR_sI, gN_sI, gC_sI, gB_sI, gI_sL, gR_sL, gN_sL, gC_sL, gB_sL, gI_sR, gL_sR, gN_sR, gC_sR, gB_sR, gL_sIr, gR_sIr, gN_sIr, gC_sIr, gB_sIr, gI_sLr, gR_sLr, gN_sLr, gC_sLr, gB_sLr, gI_sRr, gL_sRr, gN_sRr, gC_sRr, gB_sRr, gI_sN, gL_sN, gR_sN, gC_sN, gB_sN, gI_sC, gL_sC, gR_sC, gN_sC, gB_sC, gI_sB, gL_sB, gR_sB, gN_sB, gC_sB, gB_sB, gB_am_mk, gI_am_ml, gL_am_ml, gR_am_ml, gB_am_ml, gI_am_add, gL_am_add, gC_am_add, gB_am_add, gI_am_ins, gL_am_ins, gC_am_ins, gB_am_ins, gI_am_rem, gL_am_rem, gC_am_rem, gB_am_rem, gI_am_thr, gL_am_thr, gR_am_thr, gN_am_thr, gB_am_thr, mI_sI_k, mI_sI_j, mI_sI_b, mI_sI_s, mI_sI_i, mI_sI_c, mL_sL_k, mL_sL_j, mL_sL_b, mL_sL_s, mL_sL_i, mL_sL_c, mR_sR_k, mR_sR_j, mR_sR_b, mR_sR_s, mR_sR_i, mR_sR_c, mI_sIr_k, mI_sIr_s, mI_sIr_i, mL_sLr_k, mL_sLr_s, mL_sLr_i, mR_sRr_k, mR_sRr_s, mR_sRr_i, mN_sN_k, mN_sN_i, mN_am_add_k, mN_am_add_s, mR_am_add_k, mN_am_ins_k, mN_am_ins_s, mR_am_ins_k, mN_am_rem_k, mN_am_rem_s, mR_am_rem_k, mR_am_add_s, mR_am_ins_s, mR_am_rem_s, mI_am_mk_k, mI_am_mk_s, mI_am_mk_i, mL_am_mk_k, mL_am_mk_s, mL_am_mk_i, mR_am_mk_k, mR_am_mk_s, mR_am_mk_i, mN_am_mk_k, mN_am_mk_i, mC_am_mk_k, mC_am_mk_s, mN_am_ml_k, mN_am_ml_i, mC_am_ml_k, mC_am_ml_s, mC_sC_k, mC_am_thr_k, sC_3 S, sC_4 S, sR_3_0 S, sC_21 S, sR_3_10 S, sC_31 S, sR_3_11 S, sC_32 S, sN_32 S, k0, k1, k2, k3, k4, k5, k6, k7, k8, k9, k10, k11, k12, k13, k14, k15, k16, k17, k18, k19, k20, k21, k22, k23, k24, k25, k26, k27, k28, k29, k30, k31, k32, k33, k34, k35, k36, k37, k38, k39, k40, k41, k42, k43, k44, k45, k46, k47, k48, k49, k50, k51, k52, k53, k54, k55, k56, k57, k58, k59, k60, k61, k62, k63, k64, k65, k66, k67, k68, k69, k70, k71, k72, k73, k74, k75, k76, k77, k78, k79, k80, k81, k82, k83, k84, k85, k86, k87, k88, k89, k90, k91, k92, k93, k94, k95, k96, k97, k98, k99, k100, c1, C136, w1, w2, nI_pred, ini_iff m31, nI_clamp m31, m128, hl, true_and, and_true, and_self, if_true, if_false, ite_true, ite_false, Nat.lt_irrefl, List.length_nil, List.length_cons, Nat.reduceAdd, Nat.reduceLeDiff, Nat.reduceLT, Nat.reduceEqDiff, Nat.zero_lt_one, not_true, not_false_iff, bI_0, bI_1, ne_eq, reduceCtorEq, false_and, and_false, or_true, true_or, or_false, false_or, Nat.lt_one_iff, eq_self, Nat.zero_le, am_ko_v, am_ko_0, am_kil, Nat.reduceBEq, Int32.reduceLT, Int32.reduceLE, Int32.reduceAdd, Int32.reduceSub, i32_10, i32_01, not_true_eq_false, not_false_eq_true, Classical.not_not, nor_self, Nat.lt_add_one, nI_1, nI_pred, rf_n, i32_m0, i32_m1, reduceIte]
    exact hz
  | succ k ih =>
    intro p g a3 hi hg hq
    have S : Sh (bestR σ g) := S0
    have hpP : p < gN σ 21 0 := by omega
    have hp : p < 60 := by omega
    have c1 : nI p < nI (gN σ 21 0) := nI_lt (by omega) (by omega)
    have hC := fun (D : Nat) (Q : aR → aM → Prop) => C126 (d := D) (Q := Q) (bestR_O (g := g) h) hp
    cases hA : anF v p 0 m with
    | false =>
      have hgo := ih (p + 1) g a3 (by omega) (fun t ht => by rw [DB_no hA]; exact hg t ht) hq
      rw [S125_20]
      simp only [S125_0, S125_1, S125_2, S125_5, S125_8, S125_9, S125_10, S125_11, S125_14, S125_15, S125_18, S125_19, S125_21, S125_22, S125_25, S125_28, S125_31, S125_32, S125_33, S125_36, S125_39, S125_40, S125_41, S125_44, S125_45, S125_48, S125_49, S125_50, S125_52, S125_55, S125_56, S125_59, S125_60, S125_61, S125_62, S125_63, S125_66, S125_67, S125_70, S125_73, S125_76, S125_79, S125_80, S125_81, S125_82, S125_85, S125_86, S125_89, S125_92, S125_93, S125_96, S125_97, S125_98, S125_99, S125_100, S125_103, S125_104, gL_sI, gR_sI, gN_sI, gC_sI, gB_sI, gI_sL, gR_sL, gN_sL, gC_sL, gB_sL, gI_sR, gL_sR, gN_sR, gC_sR, gB_sR, gL_sIr, gR_sIr, gN_sIr, gC_sIr, gB_sIr, gI_sLr, gR_sLr, gN_sLr, gC_sLr, gB_sLr, gI_sRr, gL_sRr, gN_sRr, gC_sRr, gB_sRr, gI_sN, gL_sN, gR_sN, gC_sN, gB_sN, gI_sC, gL_sC, gR_sC, gN_sC, gB_sC, gI_sB, gL_sB, gR_sB, gN_sB, gC_sB, gB_sB, gB_am_mk, gI_am_ml, gL_am_ml, gR_am_ml, gB_am_ml, gI_am_add, gL_am_add, gC_am_add, gB_am_add, gI_am_ins, gL_am_ins, gC_am_ins, gB_am_ins, gI_am_rem, gL_am_rem, gC_am_rem, gB_am_rem, gI_am_thr, gL_am_thr, gR_am_thr, gN_am_thr, gB_am_thr, mI_sI_k, mI_sI_j, mI_sI_b, mI_sI_s, mI_sI_i, mI_sI_c, mL_sL_k, mL_sL_j, mL_sL_b, mL_sL_s, mL_sL_i, mL_sL_c, mR_sR_k, mR_sR_j, mR_sR_b, mR_sR_s, mR_sR_i, mR_sR_c, mI_sIr_k, mI_sIr_s, mI_sIr_i, mL_sLr_k, mL_sLr_s, mL_sLr_i, mR_sRr_k, mR_sRr_s, mR_sRr_i, mN_sN_k, mN_sN_i, mN_am_add_k, mN_am_add_s, mR_am_add_k, mN_am_ins_k, mN_am_ins_s, mR_am_ins_k, mN_am_rem_k, mN_am_rem_s, mR_am_rem_k, mR_am_add_s, mR_am_ins_s, mR_am_rem_s, mI_am_mk_k, mI_am_mk_s, mI_am_mk_i, mL_am_mk_k, mL_am_mk_s, mL_am_mk_i, mR_am_mk_k, mR_am_mk_s, mR_am_mk_i, mN_am_mk_k, mN_am_mk_i, mC_am_mk_k, mC_am_mk_s, mN_am_ml_k, mN_am_ml_i, mC_am_ml_k, mC_am_ml_s, mC_sC_k, mC_am_thr_k, sC_3 S, sC_4 S, sR_3_0 S, sC_21 S, sR_3_10 S, sC_31 S, sR_3_11 S, sC_32 S, sN_32 S, k0, k1, k2, k3, k4, k5, k6, k7, k8, k9, k10, k11, k12, k13, k14, k15, k16, k17, k18, k19, k20, k21, k22, k23, k24, k25, k26, k27, k28, k29, k30, k31, k32, k33, k34, k35, k36, k37, k38, k39, k40, k41, k42, k43, k44, k45, k46, k47, k48, k49, k50, k51, k52, k53, k54, k55, k56, k57, k58, k59, k60, k61, k62, k63, k64, k65, k66, k67, k68, k69, k70, k71, k72, k73, k74, k75, k76, k77, k78, k79, k80, k81, k82, k83, k84, k85, k86, k87, k88, k89, k90, k91, k92, k93, k94, k95, k96, k97, k98, k99, k100, c1, hC, hA, nI_add, true_and, and_true, and_self, if_true, if_false, ite_true, ite_false, Nat.lt_irrefl, List.length_nil, List.length_cons, Nat.reduceAdd, Nat.reduceLeDiff, Nat.reduceLT, Nat.reduceEqDiff, Nat.zero_lt_one, not_true, not_false_iff, bI_0, bI_1, ne_eq, reduceCtorEq, false_and, and_false, or_true, true_or, or_false, false_or, Nat.lt_one_iff, eq_self, Nat.zero_le, am_ko_v, am_ko_0, am_kil, Nat.reduceBEq, Int32.reduceLT, Int32.reduceLE, Int32.reduceAdd, Int32.reduceSub, i32_10, i32_01, not_true_eq_false, not_false_eq_true, Classical.not_not, nor_self, Nat.lt_add_one, nI_1, nI_pred, rf_n, i32_m0, i32_m1, reduceIte]
      exact hgo
    | true =>
      have cm : ¬ nI 128 < nI (M1 + 1) := nI_nlt hM8 (by omega)
      have e := L125a (d := d) (Q := Q) (a1 := some (vi (nI (M1 + 1)))) (B := DB v m p) h hp (fun t ht => DB_lt h7 hv p t ht) M1 g (by omega) (fun t ht => hg t (by omega))
      have hgo := ih (p + 1) (fun t => if 1 ≤ t ∧ t ≤ M1 then nL (bwF v (DB v m p) p t 0 m (DB v m p t)) else g t) (some (vi (nI 0))) (by omega) (fun t ht => by
        show _ = nL (if 1 ≤ t then bwF v (DB v m p) p t 0 m (DB v m p t) else DB v m p t)
        by_cases q : 1 ≤ t
        · rw [if_pos q]
          show (if 1 ≤ t ∧ t ≤ M1 then _ else _) = _
          rw [if_pos (by omega)]
        · rw [if_neg q]
          show (if 1 ≤ t ∧ t ≤ M1 then _ else _) = _
          rw [if_neg (by omega)]
          exact hg t ht) hq
      rw [S125_20]
      simp only [S125_0, S125_1, S125_2, S125_5, S125_8, S125_9, S125_10, S125_11, S125_14, S125_15, S125_18, S125_19, S125_21, S125_22, S125_25, S125_28, S125_31, S125_32, S125_33, S125_36, S125_39, S125_40, S125_41, S125_44, S125_45, S125_48, S125_49, S125_50, S125_52, S125_55, S125_56, S125_59, S125_60, S125_61, S125_62, S125_63, S125_66, S125_67, S125_70, S125_73, S125_76, S125_79, S125_80, S125_81, S125_82, S125_85, S125_86, S125_89, S125_92, S125_93, S125_96, S125_97, S125_98, S125_99, S125_100, S125_103, S125_104, gL_sI, gR_sI, gN_sI, gC_sI, gB_sI, gI_sL, gR_sL, gN_sL, gC_sL, gB_sL, gI_sR, gL_sR, gN_sR, gC_sR, gB_sR, gL_sIr, gR_sIr, gN_sIr, gC_sIr, gB_sIr, gI_sLr, gR_sLr, gN_sLr, gC_sLr, gB_sLr, gI_sRr, gL_sRr, gN_sRr, gC_sRr, gB_sRr, gI_sN, gL_sN, gR_sN, gC_sN, gB_sN, gI_sC, gL_sC, gR_sC, gN_sC, gB_sC, gI_sB, gL_sB, gR_sB, gN_sB, gC_sB, gB_sB, gB_am_mk, gI_am_ml, gL_am_ml, gR_am_ml, gB_am_ml, gI_am_add, gL_am_add, gC_am_add, gB_am_add, gI_am_ins, gL_am_ins, gC_am_ins, gB_am_ins, gI_am_rem, gL_am_rem, gC_am_rem, gB_am_rem, gI_am_thr, gL_am_thr, gR_am_thr, gN_am_thr, gB_am_thr, mI_sI_k, mI_sI_j, mI_sI_b, mI_sI_s, mI_sI_i, mI_sI_c, mL_sL_k, mL_sL_j, mL_sL_b, mL_sL_s, mL_sL_i, mL_sL_c, mR_sR_k, mR_sR_j, mR_sR_b, mR_sR_s, mR_sR_i, mR_sR_c, mI_sIr_k, mI_sIr_s, mI_sIr_i, mL_sLr_k, mL_sLr_s, mL_sLr_i, mR_sRr_k, mR_sRr_s, mR_sRr_i, mN_sN_k, mN_sN_i, mN_am_add_k, mN_am_add_s, mR_am_add_k, mN_am_ins_k, mN_am_ins_s, mR_am_ins_k, mN_am_rem_k, mN_am_rem_s, mR_am_rem_k, mR_am_add_s, mR_am_ins_s, mR_am_rem_s, mI_am_mk_k, mI_am_mk_s, mI_am_mk_i, mL_am_mk_k, mL_am_mk_s, mL_am_mk_i, mR_am_mk_k, mR_am_mk_s, mR_am_mk_i, mN_am_mk_k, mN_am_mk_i, mC_am_mk_k, mC_am_mk_s, mN_am_ml_k, mN_am_ml_i, mC_am_ml_k, mC_am_ml_s, mC_sC_k, mC_am_thr_k, sC_3 S, sC_4 S, sR_3_0 S, sC_21 S, sR_3_10 S, sC_31 S, sR_3_11 S, sC_32 S, sN_32 S, k0, k1, k2, k3, k4, k5, k6, k7, k8, k9, k10, k11, k12, k13, k14, k15, k16, k17, k18, k19, k20, k21, k22, k23, k24, k25, k26, k27, k28, k29, k30, k31, k32, k33, k34, k35, k36, k37, k38, k39, k40, k41, k42, k43, k44, k45, k46, k47, k48, k49, k50, k51, k52, k53, k54, k55, k56, k57, k58, k59, k60, k61, k62, k63, k64, k65, k66, k67, k68, k69, k70, k71, k72, k73, k74, k75, k76, k77, k78, k79, k80, k81, k82, k83, k84, k85, k86, k87, k88, k89, k90, k91, k92, k93, k94, k95, k96, k97, k98, k99, k100, c1, hC, hA, cm, nI_pred, true_and, and_true, and_self, if_true, if_false, ite_true, ite_false, Nat.lt_irrefl, List.length_nil, List.length_cons, Nat.reduceAdd, Nat.reduceLeDiff, Nat.reduceLT, Nat.reduceEqDiff, Nat.zero_lt_one, not_true, not_false_iff, bI_0, bI_1, ne_eq, reduceCtorEq, false_and, and_false, or_true, true_or, or_false, false_or, Nat.lt_one_iff, eq_self, Nat.zero_le, am_ko_v, am_ko_0, am_kil, Nat.reduceBEq, Int32.reduceLT, Int32.reduceLE, Int32.reduceAdd, Int32.reduceSub, i32_10, i32_01, not_true_eq_false, not_false_eq_true, Classical.not_not, nor_self, Nat.lt_add_one, nI_1, nI_pred, rf_n, i32_m0, i32_m1, reduceIte]
      rw [e]
      simp only [S125_0, S125_1, S125_2, S125_5, S125_8, S125_9, S125_10, S125_11, S125_14, S125_15, S125_18, S125_19, S125_21, S125_22, S125_25, S125_28, S125_31, S125_32, S125_33, S125_36, S125_39, S125_40, S125_41, S125_44, S125_45, S125_48, S125_49, S125_50, S125_52, S125_55, S125_56, S125_59, S125_60, S125_61, S125_62, S125_63, S125_66, S125_67, S125_70, S125_73, S125_76, S125_79, S125_80, S125_81, S125_82, S125_85, S125_86, S125_89, S125_92, S125_93, S125_96, S125_97, S125_98, S125_99, S125_100, S125_103, S125_104, gL_sI, gR_sI, gN_sI, gC_sI, gB_sI, gI_sL, gR_sL, gN_sL, gC_sL, gB_sL, gI_sR, gL_sR, gN_sR, gC_sR, gB_sR, gL_sIr, gR_sIr, gN_sIr, gC_sIr, gB_sIr, gI_sLr, gR_sLr, gN_sLr, gC_sLr, gB_sLr, gI_sRr, gL_sRr, gN_sRr, gC_sRr, gB_sRr, gI_sN, gL_sN, gR_sN, gC_sN, gB_sN, gI_sC, gL_sC, gR_sC, gN_sC, gB_sC, gI_sB, gL_sB, gR_sB, gN_sB, gC_sB, gB_sB, gB_am_mk, gI_am_ml, gL_am_ml, gR_am_ml, gB_am_ml, gI_am_add, gL_am_add, gC_am_add, gB_am_add, gI_am_ins, gL_am_ins, gC_am_ins, gB_am_ins, gI_am_rem, gL_am_rem, gC_am_rem, gB_am_rem, gI_am_thr, gL_am_thr, gR_am_thr, gN_am_thr, gB_am_thr, mI_sI_k, mI_sI_j, mI_sI_b, mI_sI_s, mI_sI_i, mI_sI_c, mL_sL_k, mL_sL_j, mL_sL_b, mL_sL_s, mL_sL_i, mL_sL_c, mR_sR_k, mR_sR_j, mR_sR_b, mR_sR_s, mR_sR_i, mR_sR_c, mI_sIr_k, mI_sIr_s, mI_sIr_i, mL_sLr_k, mL_sLr_s, mL_sLr_i, mR_sRr_k, mR_sRr_s, mR_sRr_i, mN_sN_k, mN_sN_i, mN_am_add_k, mN_am_add_s, mR_am_add_k, mN_am_ins_k, mN_am_ins_s, mR_am_ins_k, mN_am_rem_k, mN_am_rem_s, mR_am_rem_k, mR_am_add_s, mR_am_ins_s, mR_am_rem_s, mI_am_mk_k, mI_am_mk_s, mI_am_mk_i, mL_am_mk_k, mL_am_mk_s, mL_am_mk_i, mR_am_mk_k, mR_am_mk_s, mR_am_mk_i, mN_am_mk_k, mN_am_mk_i, mC_am_mk_k, mC_am_mk_s, mN_am_ml_k, mN_am_ml_i, mC_am_ml_k, mC_am_ml_s, mC_sC_k, mC_am_thr_k, sC_3 S, sC_4 S, sR_3_0 S, sC_21 S, sR_3_10 S, sC_31 S, sR_3_11 S, sC_32 S, sN_32 S, k0, k1, k2, k3, k4, k5, k6, k7, k8, k9, k10, k11, k12, k13, k14, k15, k16, k17, k18, k19, k20, k21, k22, k23, k24, k25, k26, k27, k28, k29, k30, k31, k32, k33, k34, k35, k36, k37, k38, k39, k40, k41, k42, k43, k44, k45, k46, k47, k48, k49, k50, k51, k52, k53, k54, k55, k56, k57, k58, k59, k60, k61, k62, k63, k64, k65, k66, k67, k68, k69, k70, k71, k72, k73, k74, k75, k76, k77, k78, k79, k80, k81, k82, k83, k84, k85, k86, k87, k88, k89, k90, k91, k92, k93, k94, k95, k96, k97, k98, k99, k100, nI_add, true_and, and_true, and_self, if_true, if_false, ite_true, ite_false, Nat.lt_irrefl, List.length_nil, List.length_cons, Nat.reduceAdd, Nat.reduceLeDiff, Nat.reduceLT, Nat.reduceEqDiff, Nat.zero_lt_one, not_true, not_false_iff, bI_0, bI_1, ne_eq, reduceCtorEq, false_and, and_false, or_true, true_or, or_false, false_or, Nat.lt_one_iff, eq_self, Nat.zero_le, am_ko_v, am_ko_0, am_kil, Nat.reduceBEq, Int32.reduceLT, Int32.reduceLE, Int32.reduceAdd, Int32.reduceSub, i32_10, i32_01, not_true_eq_false, not_false_eq_true, Classical.not_not, nor_self, Nat.lt_add_one, nI_1, nI_pred, rf_n, i32_m0, i32_m1, reduceIte]
      exact hgo
theorem sh1m : ∀ m, m ≤ 7 → (1 : Int32) <<< (nI m &&& 31) = nI (2 ^ m) := by decide +kernel
theorem C125 (h : OFR σ m hs v) (hv : ∀ i p, v i p ≤ 100000) (hP : gN σ 21 0 ≤ 60) (hM : 2 ^ m = M1 + 1) (hM0 : 1 ≤ M1) (hq : ∀ g', (∀ t, t < 2 ^ m → g' t = nL (DB v m (gN σ 21 0) t)) → Q (some (some (vl (nL (DB v m (gN σ 21 0) M1))))) (bestR σ g')) : WP (d + 3) 125 0 [some (vr (some (3, 0))), none, none, none] [] σ Q := by
  have S : Sh σ := h.1
  have hN := h.2.1
  have e := sh1m m h.2.2.1
  rw [hM] at e
  have hgo := L125 (d := d) (Q := Q) h hv hP hM hM0 (gN σ 21 0) 0 (fun _ => 0) none (by omega) (fun t _ => rfl) hq
  rw [nI_0] at hgo
  simp only [S125_0, S125_1, S125_2, S125_5, S125_8, S125_9, S125_10, S125_11, S125_14, S125_15, S125_18, S125_19, e, hN, sC_3 S, sC_31 S, sC_32 S, sR_3_10 S, sR_3_11 S, sN_32 S, k32, k0, k1, k2, k3, k4, k5, k6, k7, k8, k9, k10, k11, k12, k13, k14, k15, k16, k17, k18, k19, k20, k21, k22, k23, k24, k25, k26, k27, k28, k29, k30, k31, k32, k33, k34, k35, k36, k37, k38, k39, k40, k41, k42, k43, k44, k45, k46, k47, k48, k49, k50, k51, k52, k53, k54, k55, k56, k57, k58, k59, k60, k61, k62, k63, k64, k65, k66, k67, k68, k69, k70, k71, k72, k73, k74, k75, k76, k77, k78, k79, k80, k81, k82, k83, k84, k85, k86, k87, k88, k89, k90, k91, k92, k93, k94, k95, k96, k97, k98, k99, k100, true_and, and_true, and_self, if_true, if_false, ite_true, ite_false, Nat.lt_irrefl, List.length_nil, List.length_cons, Nat.reduceAdd, Nat.reduceLeDiff, Nat.reduceLT, Nat.reduceEqDiff, Nat.zero_lt_one, not_true, not_false_iff, bI_0, bI_1, ne_eq, reduceCtorEq, false_and, and_false, or_true, true_or, or_false, false_or, Nat.lt_one_iff, eq_self, Nat.zero_le, am_ko_v, am_ko_0, am_kil, Nat.reduceBEq, Int32.reduceLT, Int32.reduceLE, Int32.reduceAdd, Int32.reduceSub, i32_10, i32_01, not_true_eq_false, not_false_eq_true, Classical.not_not, nor_self, Nat.lt_add_one, nI_1, nI_pred, rf_n, i32_m0, i32_m1, reduceIte]
  first | exact hgo | exact ⟨by decide, hgo⟩
end SELU
