/-! THE RULE, by the reference's rows -/
def lastF (b : Nat → Bool) : Nat → Option Nat
  | 0 => none
  | c + 1 => if b c = true then some c else lastF b c
def mF (σ : aM) (w : Nat → Int64) (k nm : Int32) (i s : Nat) : Bool := decide (gI σ 65 0 (10 * i + s) = k ∧ (k = 6 → gI σ 67 0 (10 * i + s) = nm) ∧ hldF σ w (10 * i + s))
def cntS (σ : aM) (i : Nat) : Nat := (gI σ 64 0 i).toNatClampNeg
def skF (σ : aM) (k : Int32) (i : Nat) : Nat → Bool
  | 0 => false
  | c + 1 => decide (gI σ 65 0 (10 * i + c) = 7 ∧ gI σ 66 0 (10 * i + c) = k) || skF σ k i c
theorem skF_iff {σ : aM} {k : Int32} {i : Nat} : ∀ c, skF σ k i c = true ↔ ∃ s, s < c ∧ gI σ 65 0 (10 * i + s) = 7 ∧ gI σ 66 0 (10 * i + s) = k := by
  intro c
  induction c with
  | zero => exact ⟨fun h => (by cases h), fun ⟨s, h, _⟩ => absurd h (by omega)⟩
  | succ c ih =>
    unfold skF
    rw [Bool.or_eq_true, ih, decide_eq_true_iff]
    constructor
    · rintro (h | ⟨s, h1, h2⟩)
      · exact ⟨c, by omega, h⟩
      · exact ⟨s, by omega, h2⟩
    · rintro ⟨s, h1, h2⟩
      by_cases e : s = c
      · subst e; exact Or.inl h2
      · exact Or.inr ⟨s, by omega, h2⟩
abbrev inF (σ : aM) (day known : Int32) (i : Nat) : Prop := gI σ 63 0 i ≤ day ∧ gI σ 62 0 i ≤ known
/-- over the numbers of the TEXTS, the last first -/
def rulL (σ : aM) (w : Nat → Int64) (k nm day known : Int32) : List Nat → Option (Nat × Nat)
  | [] => none
  | i :: r => if inF σ day known i then (match lastF (mF σ w k nm i) (cntS σ i) with
    | some s => some (i, s)
    | none => if skF σ k i (cntS σ i) = true then none else rulL σ w k nm day known r) else rulL σ w k nm day known r
def wthF (k : Int32) : Int32 := if k = 1 then 100 else if k = 2 then 7 else 0
/-- the TEXTS in order -/
def txL (σ : aM) : List Nat := ordL (gI σ 63 0) (gN σ 7 0)
def rulF (σ : aM) (w : Nat → Int64) (k nm day known : Int32) : Option (Nat × Nat) := rulL σ w k nm day known (txL σ).reverse
def rvF (σ : aM) (w : Nat → Int64) (k : Int32) (o : Option (Nat × Nat)) : Int32 := match o with
  | none => wthF k
  | some (i, s) => valF σ w (10 * i + s)
theorem ordL_len {f : Nat → Int32} : ∀ n, (ordL f n).length = n := by
  have h : ∀ t l, (insO f t l).length = l.length + 1 := by
    intro t l
    induction l with
    | nil => rfl
    | cons a r ih =>
      unfold insO
      by_cases c : f t < f a
      · rw [if_pos c]; rfl
      · rw [if_neg c]; simp [ih]
  intro n
  induction n with
  | zero => rfl
  | succ n ih => unfold ordL; rw [h, ih]
theorem ordL_mem {f : Nat → Int32} : ∀ n a, a ∈ ordL f n → a < n := by
  have h : ∀ t l a, a ∈ insO f t l → a = t ∨ a ∈ l := by
    intro t l
    induction l with
    | nil => intro a ha; exact Or.inl (by simpa [insO] using ha)
    | cons b r ih =>
      intro a ha
      unfold insO at ha
      by_cases c : f t < f b
      · rw [if_pos c] at ha; simpa using ha
      · rw [if_neg c] at ha
        rcases List.mem_cons.mp ha with e | e
        · exact Or.inr (by simp [e])
        · rcases ih a e with e | e
          · exact Or.inl e
          · exact Or.inr (List.mem_cons_of_mem _ e)
  intro n
  induction n with
  | zero => intro a ha; simp [ordL] at ha
  | succ n ih =>
    intro a ha
    unfold ordL at ha
    rcases h _ _ _ ha with e | e
    · omega
    · have := ih a e; omega
/-- what find writes: the stack's row, found, foundText, foundValue -/
def stL (σ : aM) (g : Nat → Int64) (x7 x6 : Option (Nat × Nat)) (v : Int32) : aM := sI (sR (sR (sLr σ 11 0 g) 30 0 7 x7) 30 0 6 x6) 30 0 8 v
section STL
variable {σ : aM} {g g' : Nat → Int64} {x7 x6 y : Option (Nat × Nat)} {u v : Int32} {a b c : Nat}
theorem stL_7 : sR (stL σ g x7 x6 v) 30 0 7 y = stL σ g y x6 v := by
  unfold stL sI sR am_u3
  refine Prod.ext rfl (Prod.ext rfl (Prod.ext ?_ rfl))
  funext a b c
  dsimp only
  by_cases h : a = 30 ∧ b = 0 ∧ c = 7
  · obtain ⟨rfl, rfl, rfl⟩ := h; rfl
  · rw [if_neg h]
    by_cases h2 : a = 30 ∧ b = 0 ∧ c = 6
    · rw [if_pos h2, if_pos h2]
    · rw [if_neg h2, if_neg h2, if_neg h, if_neg h]
theorem stL_6 : sR (stL σ g x7 x6 v) 30 0 6 y = stL σ g x7 y v := by
  unfold stL sI sR am_u3
  refine Prod.ext rfl (Prod.ext rfl (Prod.ext ?_ rfl))
  funext a b c
  dsimp only
  by_cases h : a = 30 ∧ b = 0 ∧ c = 6
  · rw [if_pos h, if_pos h]
  · rw [if_neg h, if_neg h, if_neg h]
theorem stL_8 : sI (stL σ g x7 x6 v) 30 0 8 u = stL σ g x7 x6 u := by
  unfold stL sI sR am_u3
  refine Prod.ext ?_ rfl
  funext a b c
  dsimp only
  by_cases h : a = 30 ∧ b = 0 ∧ c = 8
  · rw [if_pos h, if_pos h]
  · rw [if_neg h, if_neg h, if_neg h]
theorem stL_g : sLr (stL σ g x7 x6 v) 11 0 g' = stL σ g' x7 x6 v := by
  unfold stL sI sR sLr am_u3
  refine Prod.ext rfl (Prod.ext ?_ rfl)
  funext a b c
  dsimp only
  by_cases h : a = 11 ∧ b = 0
  · rw [if_pos h, if_pos h]
  · rw [if_neg h, if_neg h, if_neg h]
theorem stL_0 : stL σ (gL σ 11 0) (gR σ 30 0 7) (gR σ 30 0 6) (gI σ 30 0 8) = σ := by
  unfold stL
  rw [sLr_id]
  unfold sI sR am_u3 gI gR
  refine Prod.ext ?_ (Prod.ext rfl (Prod.ext ?_ rfl))
  · funext a b c
    dsimp only
    by_cases h : a = 30 ∧ b = 0 ∧ c = 8
    · obtain ⟨rfl, rfl, rfl⟩ := h; rfl
    · rw [if_neg h]
  · funext a b c
    dsimp only
    by_cases h : a = 30 ∧ b = 0 ∧ c = 6
    · obtain ⟨rfl, rfl, rfl⟩ := h; rfl
    · rw [if_neg h]
      by_cases h : a = 30 ∧ b = 0 ∧ c = 7
      · obtain ⟨rfl, rfl, rfl⟩ := h; rfl
      · rw [if_neg h]
theorem stL_Ik (h : a ≠ 30) : gI (stL σ g x7 x6 v) a b c = gI σ a b c := if_neg (fun q => h q.1)
theorem stL_Ic (h : c ≠ 8) : gI (stL σ g x7 x6 v) 30 b c = gI σ 30 b c := if_neg (fun q => h q.2.2)
theorem stL_I8 : gI (stL σ g x7 x6 v) 30 0 8 = v := rfl
theorem stL_Rk (h : a ≠ 30) : gR (stL σ g x7 x6 v) a b c = gR σ a b c := (if_neg (fun q => h q.1)).trans (if_neg (fun q => h q.1))
theorem stL_Rc (h6 : c ≠ 6) (h7 : c ≠ 7) : gR (stL σ g x7 x6 v) 30 b c = gR σ 30 b c := (if_neg (fun q => h6 q.2.2)).trans (if_neg (fun q => h7 q.2.2))
theorem stL_R7 : gR (stL σ g x7 x6 v) 30 0 7 = x7 := rfl
theorem stL_R6 : gR (stL σ g x7 x6 v) 30 0 6 = x6 := rfl
theorem stL_Lk (h : a ≠ 11) : gL (stL σ g x7 x6 v) a b c = gL σ a b c := if_neg (fun q => h q.1)
theorem stL_N : gN (stL σ g x7 x6 v) a b = gN σ a b := rfl
theorem stL_C : gC (stL σ g x7 x6 v) a = gC σ a := rfl
theorem stL_B : gB (stL σ g x7 x6 v) = gB σ := rfl
theorem Sh_stL (S : Sh σ) : Sh (stL σ g x7 x6 v) := by
  unfold stL
  exact Sh_fr S (by repeat (first | exact Ar.rf | refine Ar.sI ?_ | refine Ar.sR rfl ?_ | refine Ar.sL ?_ | refine Ar.add rfl rfl ?_ | refine Ar.mk rfl rfl rfl ?_ | refine Ar.sIr ?_ | refine Ar.sLr ?_ | refine Ar.sRr rfl ?_ | refine Ar.sN rfl ?_ | refine Ar.ml rfl rfl ?_ | refine Ar.ins rfl rfl ?_ | refine Ar.rem rfl rfl ?_ | refine Ar.thr rfl ?_)) rfl (fun j hj => by simp only [gL_sI, gR_sI, gN_sI, gC_sI, gB_sI, gI_sL, gR_sL, gN_sL, gC_sL, gB_sL, gI_sR, gL_sR, gN_sR, gC_sR, gB_sR, gL_sIr, gR_sIr, gN_sIr, gC_sIr, gB_sIr, gI_sLr, gR_sLr, gN_sLr, gC_sLr, gB_sLr, gI_sRr, gL_sRr, gN_sRr, gC_sRr, gB_sRr, gI_sN, gL_sN, gR_sN, gC_sN, gB_sN, gI_sC, gL_sC, gR_sC, gN_sC, gB_sC, gI_sB, gL_sB, gR_sB, gN_sB, gC_sB, gB_sB, gB_am_mk, gI_am_ml, gL_am_ml, gR_am_ml, gB_am_ml, gI_am_add, gL_am_add, gC_am_add, gB_am_add, gI_am_ins, gL_am_ins, gC_am_ins, gB_am_ins, gI_am_rem, gL_am_rem, gC_am_rem, gB_am_rem, gI_am_thr, gL_am_thr, gR_am_thr, gN_am_thr, gB_am_thr, mI_sI_k, mI_sI_j, mI_sI_b, mI_sI_s, mI_sI_i, mI_sI_c, mL_sL_k, mL_sL_j, mL_sL_b, mL_sL_s, mL_sL_i, mL_sL_c, mR_sR_k, mR_sR_j, mR_sR_b, mR_sR_s, mR_sR_i, mR_sR_c, mI_sIr_k, mI_sIr_s, mI_sIr_i, mL_sLr_k, mL_sLr_s, mL_sLr_i, mR_sRr_k, mR_sRr_s, mR_sRr_i, mN_sN_k, mN_sN_i, mN_am_add_k, mN_am_add_s, mR_am_add_k, mN_am_ins_k, mN_am_ins_s, mR_am_ins_k, mN_am_rem_k, mN_am_rem_s, mR_am_rem_k, mR_am_add_s, mR_am_ins_s, mR_am_rem_s, mI_am_mk_k, mI_am_mk_s, mI_am_mk_i, mL_am_mk_k, mL_am_mk_s, mL_am_mk_i, mR_am_mk_k, mR_am_mk_s, mR_am_mk_i, mN_am_mk_k, mN_am_mk_i, mC_am_mk_k, mC_am_mk_s, mN_am_ml_k, mN_am_ml_i, mC_am_ml_k, mC_am_ml_s, mC_sC_k, mC_am_thr_k, true_and, and_true, and_self, if_true, if_false, ite_true, ite_false, Nat.lt_irrefl, List.length_nil, List.length_cons, Nat.reduceAdd, Nat.reduceLeDiff, Nat.reduceLT, Nat.reduceEqDiff, Nat.zero_lt_one, not_true, not_false_iff, bI_0, bI_1, ne_eq, reduceCtorEq, false_and, and_false, or_true, true_or, or_false, false_or, Nat.lt_one_iff, eq_self, Nat.zero_le, am_ko_v, am_ko_0, am_kil, Nat.reduceBEq, Int32.reduceLT, Int32.reduceLE, Int32.reduceAdd, Int32.reduceSub, i32_10, i32_01, not_true_eq_false, not_false_eq_true, Classical.not_not, nor_self, Nat.lt_add_one, nI_1, nI_pred, rf_n, i32_m0, i32_m1, reduceIte]; rw [if_neg (by omega), if_neg (by omega)])
end STL
section FND
variable {d : Nat} {σ : aM} {Q : aR → aM → Prop}
theorem C18 {k : Int32} (S : Sh σ) : WP d 18 0 [some (vr (some (30, 0))), some (vi k)] [] σ Q ↔ Q (some none) (sI (sR (sR σ 30 0 7 none) 30 0 6 none) 30 0 8 (wthF k)) := by
  unfold wthF
  by_cases c1 : k = 1
  · simp only [S18_0, S18_1, S18_2, S18_5, S18_6, S18_7, S18_10, S18_11, S18_12, S18_13, S18_16, S18_18, S18_21, S18_22, S18_23, S18_26, S18_28, S18_31, S18_32, S18_35, gL_sI, gR_sI, gN_sI, gC_sI, gB_sI, gI_sL, gR_sL, gN_sL, gC_sL, gB_sL, gI_sR, gL_sR, gN_sR, gC_sR, gB_sR, gL_sIr, gR_sIr, gN_sIr, gC_sIr, gB_sIr, gI_sLr, gR_sLr, gN_sLr, gC_sLr, gB_sLr, gI_sRr, gL_sRr, gN_sRr, gC_sRr, gB_sRr, gI_sN, gL_sN, gR_sN, gC_sN, gB_sN, gI_sC, gL_sC, gR_sC, gN_sC, gB_sC, gI_sB, gL_sB, gR_sB, gN_sB, gC_sB, gB_sB, gB_am_mk, gI_am_ml, gL_am_ml, gR_am_ml, gB_am_ml, gI_am_add, gL_am_add, gC_am_add, gB_am_add, gI_am_ins, gL_am_ins, gC_am_ins, gB_am_ins, gI_am_rem, gL_am_rem, gC_am_rem, gB_am_rem, gI_am_thr, gL_am_thr, gR_am_thr, gN_am_thr, gB_am_thr, mI_sI_k, mI_sI_j, mI_sI_b, mI_sI_s, mI_sI_i, mI_sI_c, mL_sL_k, mL_sL_j, mL_sL_b, mL_sL_s, mL_sL_i, mL_sL_c, mR_sR_k, mR_sR_j, mR_sR_b, mR_sR_s, mR_sR_i, mR_sR_c, mI_sIr_k, mI_sIr_s, mI_sIr_i, mL_sLr_k, mL_sLr_s, mL_sLr_i, mR_sRr_k, mR_sRr_s, mR_sRr_i, mN_sN_k, mN_sN_i, mN_am_add_k, mN_am_add_s, mR_am_add_k, mN_am_ins_k, mN_am_ins_s, mR_am_ins_k, mN_am_rem_k, mN_am_rem_s, mR_am_rem_k, mR_am_add_s, mR_am_ins_s, mR_am_rem_s, mI_am_mk_k, mI_am_mk_s, mI_am_mk_i, mL_am_mk_k, mL_am_mk_s, mL_am_mk_i, mR_am_mk_k, mR_am_mk_s, mR_am_mk_i, mN_am_mk_k, mN_am_mk_i, mC_am_mk_k, mC_am_mk_s, mN_am_ml_k, mN_am_ml_i, mC_am_ml_k, mC_am_ml_s, mC_sC_k, mC_am_thr_k, sC_3 S, sC_4 S, sC_30 S, k0, k1, k2, k3, k4, k5, k6, k7, k8, k9, k10, k11, k12, k13, k14, k15, k16, k17, k18, k19, k20, k21, k22, k23, k24, k25, k26, k27, k28, k29, k30, k31, k32, k33, k34, k35, k36, k37, k38, k39, k40, k41, k42, k43, k44, k45, k46, k47, k48, k49, k50, k51, k52, k53, k54, k55, k56, k57, k58, k59, k60, k61, k62, k63, k64, k65, k66, k67, k68, k69, k70, k71, k72, k73, k74, k75, k76, k77, k78, k79, k80, k81, k82, k83, k84, k85, k86, k87, k88, k89, k90, k91, k92, k93, k94, k95, k96, k97, k98, k99, k100, c1, sC_30 S, true_and, and_true, and_self, if_true, if_false, ite_true, ite_false, Nat.lt_irrefl, List.length_nil, List.length_cons, Nat.reduceAdd, Nat.reduceLeDiff, Nat.reduceLT, Nat.reduceEqDiff, Nat.zero_lt_one, not_true, not_false_iff, bI_0, bI_1, ne_eq, reduceCtorEq, false_and, and_false, or_true, true_or, or_false, false_or, Nat.lt_one_iff, eq_self, Nat.zero_le, am_ko_v, am_ko_0, am_kil, Nat.reduceBEq, Int32.reduceLT, Int32.reduceLE, Int32.reduceAdd, Int32.reduceSub, i32_10, i32_01, not_true_eq_false, not_false_eq_true, Classical.not_not, nor_self, Nat.lt_add_one, nI_1, nI_pred, rf_n, i32_m0, i32_m1, reduceIte]
  by_cases c2 : k = 2
  · simp only [S18_0, S18_1, S18_2, S18_5, S18_6, S18_7, S18_10, S18_11, S18_12, S18_13, S18_16, S18_18, S18_21, S18_22, S18_23, S18_26, S18_28, S18_31, S18_32, S18_35, gL_sI, gR_sI, gN_sI, gC_sI, gB_sI, gI_sL, gR_sL, gN_sL, gC_sL, gB_sL, gI_sR, gL_sR, gN_sR, gC_sR, gB_sR, gL_sIr, gR_sIr, gN_sIr, gC_sIr, gB_sIr, gI_sLr, gR_sLr, gN_sLr, gC_sLr, gB_sLr, gI_sRr, gL_sRr, gN_sRr, gC_sRr, gB_sRr, gI_sN, gL_sN, gR_sN, gC_sN, gB_sN, gI_sC, gL_sC, gR_sC, gN_sC, gB_sC, gI_sB, gL_sB, gR_sB, gN_sB, gC_sB, gB_sB, gB_am_mk, gI_am_ml, gL_am_ml, gR_am_ml, gB_am_ml, gI_am_add, gL_am_add, gC_am_add, gB_am_add, gI_am_ins, gL_am_ins, gC_am_ins, gB_am_ins, gI_am_rem, gL_am_rem, gC_am_rem, gB_am_rem, gI_am_thr, gL_am_thr, gR_am_thr, gN_am_thr, gB_am_thr, mI_sI_k, mI_sI_j, mI_sI_b, mI_sI_s, mI_sI_i, mI_sI_c, mL_sL_k, mL_sL_j, mL_sL_b, mL_sL_s, mL_sL_i, mL_sL_c, mR_sR_k, mR_sR_j, mR_sR_b, mR_sR_s, mR_sR_i, mR_sR_c, mI_sIr_k, mI_sIr_s, mI_sIr_i, mL_sLr_k, mL_sLr_s, mL_sLr_i, mR_sRr_k, mR_sRr_s, mR_sRr_i, mN_sN_k, mN_sN_i, mN_am_add_k, mN_am_add_s, mR_am_add_k, mN_am_ins_k, mN_am_ins_s, mR_am_ins_k, mN_am_rem_k, mN_am_rem_s, mR_am_rem_k, mR_am_add_s, mR_am_ins_s, mR_am_rem_s, mI_am_mk_k, mI_am_mk_s, mI_am_mk_i, mL_am_mk_k, mL_am_mk_s, mL_am_mk_i, mR_am_mk_k, mR_am_mk_s, mR_am_mk_i, mN_am_mk_k, mN_am_mk_i, mC_am_mk_k, mC_am_mk_s, mN_am_ml_k, mN_am_ml_i, mC_am_ml_k, mC_am_ml_s, mC_sC_k, mC_am_thr_k, sC_3 S, sC_4 S, sC_30 S, k0, k1, k2, k3, k4, k5, k6, k7, k8, k9, k10, k11, k12, k13, k14, k15, k16, k17, k18, k19, k20, k21, k22, k23, k24, k25, k26, k27, k28, k29, k30, k31, k32, k33, k34, k35, k36, k37, k38, k39, k40, k41, k42, k43, k44, k45, k46, k47, k48, k49, k50, k51, k52, k53, k54, k55, k56, k57, k58, k59, k60, k61, k62, k63, k64, k65, k66, k67, k68, k69, k70, k71, k72, k73, k74, k75, k76, k77, k78, k79, k80, k81, k82, k83, k84, k85, k86, k87, k88, k89, k90, k91, k92, k93, k94, k95, k96, k97, k98, k99, k100, c1, c2, sC_30 S, ie_2_1, true_and, and_true, and_self, if_true, if_false, ite_true, ite_false, Nat.lt_irrefl, List.length_nil, List.length_cons, Nat.reduceAdd, Nat.reduceLeDiff, Nat.reduceLT, Nat.reduceEqDiff, Nat.zero_lt_one, not_true, not_false_iff, bI_0, bI_1, ne_eq, reduceCtorEq, false_and, and_false, or_true, true_or, or_false, false_or, Nat.lt_one_iff, eq_self, Nat.zero_le, am_ko_v, am_ko_0, am_kil, Nat.reduceBEq, Int32.reduceLT, Int32.reduceLE, Int32.reduceAdd, Int32.reduceSub, i32_10, i32_01, not_true_eq_false, not_false_eq_true, Classical.not_not, nor_self, Nat.lt_add_one, nI_1, nI_pred, rf_n, i32_m0, i32_m1, reduceIte]
  · simp only [S18_0, S18_1, S18_2, S18_5, S18_6, S18_7, S18_10, S18_11, S18_12, S18_13, S18_16, S18_18, S18_21, S18_22, S18_23, S18_26, S18_28, S18_31, S18_32, S18_35, gL_sI, gR_sI, gN_sI, gC_sI, gB_sI, gI_sL, gR_sL, gN_sL, gC_sL, gB_sL, gI_sR, gL_sR, gN_sR, gC_sR, gB_sR, gL_sIr, gR_sIr, gN_sIr, gC_sIr, gB_sIr, gI_sLr, gR_sLr, gN_sLr, gC_sLr, gB_sLr, gI_sRr, gL_sRr, gN_sRr, gC_sRr, gB_sRr, gI_sN, gL_sN, gR_sN, gC_sN, gB_sN, gI_sC, gL_sC, gR_sC, gN_sC, gB_sC, gI_sB, gL_sB, gR_sB, gN_sB, gC_sB, gB_sB, gB_am_mk, gI_am_ml, gL_am_ml, gR_am_ml, gB_am_ml, gI_am_add, gL_am_add, gC_am_add, gB_am_add, gI_am_ins, gL_am_ins, gC_am_ins, gB_am_ins, gI_am_rem, gL_am_rem, gC_am_rem, gB_am_rem, gI_am_thr, gL_am_thr, gR_am_thr, gN_am_thr, gB_am_thr, mI_sI_k, mI_sI_j, mI_sI_b, mI_sI_s, mI_sI_i, mI_sI_c, mL_sL_k, mL_sL_j, mL_sL_b, mL_sL_s, mL_sL_i, mL_sL_c, mR_sR_k, mR_sR_j, mR_sR_b, mR_sR_s, mR_sR_i, mR_sR_c, mI_sIr_k, mI_sIr_s, mI_sIr_i, mL_sLr_k, mL_sLr_s, mL_sLr_i, mR_sRr_k, mR_sRr_s, mR_sRr_i, mN_sN_k, mN_sN_i, mN_am_add_k, mN_am_add_s, mR_am_add_k, mN_am_ins_k, mN_am_ins_s, mR_am_ins_k, mN_am_rem_k, mN_am_rem_s, mR_am_rem_k, mR_am_add_s, mR_am_ins_s, mR_am_rem_s, mI_am_mk_k, mI_am_mk_s, mI_am_mk_i, mL_am_mk_k, mL_am_mk_s, mL_am_mk_i, mR_am_mk_k, mR_am_mk_s, mR_am_mk_i, mN_am_mk_k, mN_am_mk_i, mC_am_mk_k, mC_am_mk_s, mN_am_ml_k, mN_am_ml_i, mC_am_ml_k, mC_am_ml_s, mC_sC_k, mC_am_thr_k, sC_3 S, sC_4 S, sC_30 S, k0, k1, k2, k3, k4, k5, k6, k7, k8, k9, k10, k11, k12, k13, k14, k15, k16, k17, k18, k19, k20, k21, k22, k23, k24, k25, k26, k27, k28, k29, k30, k31, k32, k33, k34, k35, k36, k37, k38, k39, k40, k41, k42, k43, k44, k45, k46, k47, k48, k49, k50, k51, k52, k53, k54, k55, k56, k57, k58, k59, k60, k61, k62, k63, k64, k65, k66, k67, k68, k69, k70, k71, k72, k73, k74, k75, k76, k77, k78, k79, k80, k81, k82, k83, k84, k85, k86, k87, k88, k89, k90, k91, k92, k93, k94, k95, k96, k97, k98, k99, k100, c1, c2, sC_30 S, true_and, and_true, and_self, if_true, if_false, ite_true, ite_false, Nat.lt_irrefl, List.length_nil, List.length_cons, Nat.reduceAdd, Nat.reduceLeDiff, Nat.reduceLT, Nat.reduceEqDiff, Nat.zero_lt_one, not_true, not_false_iff, bI_0, bI_1, ne_eq, reduceCtorEq, false_and, and_false, or_true, true_or, or_false, false_or, Nat.lt_one_iff, eq_self, Nat.zero_le, am_ko_v, am_ko_0, am_kil, Nat.reduceBEq, Int32.reduceLT, Int32.reduceLE, Int32.reduceAdd, Int32.reduceSub, i32_10, i32_01, not_true_eq_false, not_false_eq_true, Classical.not_not, nor_self, Nat.lt_add_one, nI_1, nI_pred, rf_n, i32_m0, i32_m1, reduceIte]
theorem C37 {t i : Nat} {day known : Int32} (ht : t < gC σ 36) (h1 : gI σ 36 t 1 = gI σ 63 0 i) (h2 : gI σ 36 t 2 = gI σ 62 0 i) : WP d 37 0 [some (vr (some (36, t))), some (vi day), some (vi known)] [] σ Q ↔ Q (some (some (vi (bI (inF σ day known i))))) σ := by
  by_cases c1 : day < gI σ 63 0 i
  · have : ¬ inF σ day known i := fun h => absurd h.1 (Int32.not_le.mpr c1)
    rw [bI_f this]
    simp only [S37_0, S37_1, S37_4, S37_5, S37_8, S37_9, S37_12, S37_13, S37_16, S37_17, S37_20, S37_21, ht, h1, h2, c1, true_and, and_true, and_self, if_true, if_false, ite_true, ite_false, Nat.lt_irrefl, List.length_nil, List.length_cons, Nat.reduceAdd, Nat.reduceLeDiff, Nat.reduceLT, Nat.reduceEqDiff, Nat.zero_lt_one, not_true, not_false_iff, bI_0, bI_1, ne_eq, reduceCtorEq, false_and, and_false, or_true, true_or, or_false, false_or, Nat.lt_one_iff, eq_self, Nat.zero_le, am_ko_v, am_ko_0, am_kil, Nat.reduceBEq, Int32.reduceLT, Int32.reduceLE, Int32.reduceAdd, Int32.reduceSub, i32_10, i32_01, not_true_eq_false, not_false_eq_true, Classical.not_not, nor_self, Nat.lt_add_one, nI_1, nI_pred, rf_n, i32_m0, i32_m1, reduceIte]
  · by_cases c2 : known < gI σ 62 0 i
    · have : ¬ inF σ day known i := fun h => absurd h.2 (Int32.not_le.mpr c2)
      rw [bI_f this]
      simp only [S37_0, S37_1, S37_4, S37_5, S37_8, S37_9, S37_12, S37_13, S37_16, S37_17, S37_20, S37_21, ht, h1, h2, c1, c2, true_and, and_true, and_self, if_true, if_false, ite_true, ite_false, Nat.lt_irrefl, List.length_nil, List.length_cons, Nat.reduceAdd, Nat.reduceLeDiff, Nat.reduceLT, Nat.reduceEqDiff, Nat.zero_lt_one, not_true, not_false_iff, bI_0, bI_1, ne_eq, reduceCtorEq, false_and, and_false, or_true, true_or, or_false, false_or, Nat.lt_one_iff, eq_self, Nat.zero_le, am_ko_v, am_ko_0, am_kil, Nat.reduceBEq, Int32.reduceLT, Int32.reduceLE, Int32.reduceAdd, Int32.reduceSub, i32_10, i32_01, not_true_eq_false, not_false_eq_true, Classical.not_not, nor_self, Nat.lt_add_one, nI_1, nI_pred, rf_n, i32_m0, i32_m1, reduceIte]
    · have : inF σ day known i := ⟨Int32.not_lt.mp c1, Int32.not_lt.mp c2⟩
      rw [bI_t this]
      simp only [S37_0, S37_1, S37_4, S37_5, S37_8, S37_9, S37_12, S37_13, S37_16, S37_17, S37_20, S37_21, ht, h1, h2, c1, c2, true_and, and_true, and_self, if_true, if_false, ite_true, ite_false, Nat.lt_irrefl, List.length_nil, List.length_cons, Nat.reduceAdd, Nat.reduceLeDiff, Nat.reduceLT, Nat.reduceEqDiff, Nat.zero_lt_one, not_true, not_false_iff, bI_0, bI_1, ne_eq, reduceCtorEq, false_and, and_false, or_true, true_or, or_false, false_or, Nat.lt_one_iff, eq_self, Nat.zero_le, am_ko_v, am_ko_0, am_kil, Nat.reduceBEq, Int32.reduceLT, Int32.reduceLE, Int32.reduceAdd, Int32.reduceSub, i32_10, i32_01, not_true_eq_false, not_false_eq_true, Classical.not_not, nor_self, Nat.lt_add_one, nI_1, nI_pred, rf_n, i32_m0, i32_m1, reduceIte]
theorem C39 {t i k : Nat} (ht : t < gC σ 36) (hk : k < 7) (h : (((gI σ 36 t 5 >>> (nI k &&& 31)) &&& 1 = 1) ↔ ∃ s, s < cntS σ i ∧ gI σ 65 0 (10 * i + s) = 7 ∧ gI σ 66 0 (10 * i + s) = nI k)) : WP d 39 0 [some (vr (some (36, t))), some (vi (nI k))] [] σ Q ↔ Q (some (some (vi (if skF σ (nI k) i (cntS σ i) = true then 1 else 0)))) σ := by
  have h := h.trans (skF_iff (cntS σ i)).symm
  by_cases c : (gI σ 36 t 5 >>> (nI k &&& 31)) &&& 1 = 1
  · rw [if_pos (h.mp c)]
    simp only [S39_0, S39_1, S39_4, S39_5, S39_6, S39_7, S39_8, S39_9, S39_12, S39_13, S39_16, S39_17, ht, c, true_and, and_true, and_self, if_true, if_false, ite_true, ite_false, Nat.lt_irrefl, List.length_nil, List.length_cons, Nat.reduceAdd, Nat.reduceLeDiff, Nat.reduceLT, Nat.reduceEqDiff, Nat.zero_lt_one, not_true, not_false_iff, bI_0, bI_1, ne_eq, reduceCtorEq, false_and, and_false, or_true, true_or, or_false, false_or, Nat.lt_one_iff, eq_self, Nat.zero_le, am_ko_v, am_ko_0, am_kil, Nat.reduceBEq, Int32.reduceLT, Int32.reduceLE, Int32.reduceAdd, Int32.reduceSub, i32_10, i32_01, not_true_eq_false, not_false_eq_true, Classical.not_not, nor_self, Nat.lt_add_one, nI_1, nI_pred, rf_n, i32_m0, i32_m1, reduceIte]
  · rw [if_neg (fun e => c (h.mpr e))]
    simp only [S39_0, S39_1, S39_4, S39_5, S39_6, S39_7, S39_8, S39_9, S39_12, S39_13, S39_16, S39_17, ht, c, true_and, and_true, and_self, if_true, if_false, ite_true, ite_false, Nat.lt_irrefl, List.length_nil, List.length_cons, Nat.reduceAdd, Nat.reduceLeDiff, Nat.reduceLT, Nat.reduceEqDiff, Nat.zero_lt_one, not_true, not_false_iff, bI_0, bI_1, ne_eq, reduceCtorEq, false_and, and_false, or_true, true_or, or_false, false_or, Nat.lt_one_iff, eq_self, Nat.zero_le, am_ko_v, am_ko_0, am_kil, Nat.reduceBEq, Int32.reduceLT, Int32.reduceLE, Int32.reduceAdd, Int32.reduceSub, i32_10, i32_01, not_true_eq_false, not_false_eq_true, Classical.not_not, nor_self, Nat.lt_add_one, nI_1, nI_pred, rf_n, i32_m0, i32_m1, reduceIte]
theorem nI_0m : nI 0 - 1 = (-1 : Int32) := by decide
theorem pm1 (x : Int32) : x + (-1) = x - 1 := (Int32.sub_eq_add_neg x 1).symm
/-- a HOUSE of facts about the TEXTS that stays while THE RULES are asked -/
theorem L19 {w : Nat → Int64} {k i t c0 : Nat} {nm : Int32} (S : Sh σ) (hw : ∀ k, k < 10 → gL σ 10 0 k = w k) (hwi : ∀ k, ∃ x : Int32, w k = x.toInt64) (hk : k < 7) (hnm : k ≠ 6 → nm = -1) (hi : i < 12) (h18 : i < gC σ 18) (ht : t < gC σ 36) (h12 : gC σ 12 = gC σ 36) (hr3 : gR σ 36 t 3 = some (12, t)) (hr4 : gR σ 36 t 4 = some (18, i)) (hc : gN σ 12 t = c0) (h10 : c0 ≤ 10) (hst : ∀ s, s < c0 → StOK σ i t s) : ∀ c, c ≤ c0 → ∀ (g : Nat → Int64) (x6 : Option (Nat × Nat)) (v : Int32) (a5 : Option aV), (∀ g', Q (some none) (match lastF (mF σ w (nI k) nm i) c with
    | some s => stL σ g' (gR σ 12 t s) (some (36, t)) (valF σ w (10 * i + s))
    | none => stL σ g' none x6 v)) → WP (d + 3) 19 11 [some (vr (some (30, 0))), some (vr (some (36, t))), some (vi (nI k)), some (vi nm), some (vi (nI c - 1)), a5] [] (stL σ g none x6 v) Q := by
  intro c
  induction c with
  | zero =>
    intro hcc g x6 v a5 hq
    have e1 : ((-1 : Int32) < 0) = True := by decide
    rw [S19_11]
    simp only [S19_0, S19_1, S19_4, S19_7, S19_8, S19_9, S19_13, S19_16, S19_17, S19_20, S19_23, S19_24, S19_27, S19_29, S19_32n, S19_32, S19_35, S19_37, S19_39, S19_42, S19_43, S19_46, S19_48, S19_51, S19_52, S19_55, S19_56, S19_57, S19_59, S19_62, S19_64, S19_67, S19_70, S19_71, S19_72, S19_75, S19_76, S19_78, S19_81, S19_82, S19_83, S19_86, S19_87, S19_88, S19_89, S19_90, S19_92, S19_95, S19_97, S19_100, S19_103, S19_106, S19_109, S19_112, S19_115, gL_sI, gR_sI, gN_sI, gC_sI, gB_sI, gI_sL, gR_sL, gN_sL, gC_sL, gB_sL, gI_sR, gL_sR, gN_sR, gC_sR, gB_sR, gL_sIr, gR_sIr, gN_sIr, gC_sIr, gB_sIr, gI_sLr, gR_sLr, gN_sLr, gC_sLr, gB_sLr, gI_sRr, gL_sRr, gN_sRr, gC_sRr, gB_sRr, gI_sN, gL_sN, gR_sN, gC_sN, gB_sN, gI_sC, gL_sC, gR_sC, gN_sC, gB_sC, gI_sB, gL_sB, gR_sB, gN_sB, gC_sB, gB_sB, gB_am_mk, gI_am_ml, gL_am_ml, gR_am_ml, gB_am_ml, gI_am_add, gL_am_add, gC_am_add, gB_am_add, gI_am_ins, gL_am_ins, gC_am_ins, gB_am_ins, gI_am_rem, gL_am_rem, gC_am_rem, gB_am_rem, gI_am_thr, gL_am_thr, gR_am_thr, gN_am_thr, gB_am_thr, mI_sI_k, mI_sI_j, mI_sI_b, mI_sI_s, mI_sI_i, mI_sI_c, mL_sL_k, mL_sL_j, mL_sL_b, mL_sL_s, mL_sL_i, mL_sL_c, mR_sR_k, mR_sR_j, mR_sR_b, mR_sR_s, mR_sR_i, mR_sR_c, mI_sIr_k, mI_sIr_s, mI_sIr_i, mL_sLr_k, mL_sLr_s, mL_sLr_i, mR_sRr_k, mR_sRr_s, mR_sRr_i, mN_sN_k, mN_sN_i, mN_am_add_k, mN_am_add_s, mR_am_add_k, mN_am_ins_k, mN_am_ins_s, mR_am_ins_k, mN_am_rem_k, mN_am_rem_s, mR_am_rem_k, mR_am_add_s, mR_am_ins_s, mR_am_rem_s, mI_am_mk_k, mI_am_mk_s, mI_am_mk_i, mL_am_mk_k, mL_am_mk_s, mL_am_mk_i, mR_am_mk_k, mR_am_mk_s, mR_am_mk_i, mN_am_mk_k, mN_am_mk_i, mC_am_mk_k, mC_am_mk_s, mN_am_ml_k, mN_am_ml_i, mC_am_ml_k, mC_am_ml_s, mC_sC_k, mC_am_thr_k, sC_3 S, sC_4 S, sC_30 S, k0, k1, k2, k3, k4, k5, k6, k7, k8, k9, k10, k11, k12, k13, k14, k15, k16, k17, k18, k19, k20, k21, k22, k23, k24, k25, k26, k27, k28, k29, k30, k31, k32, k33, k34, k35, k36, k37, k38, k39, k40, k41, k42, k43, k44, k45, k46, k47, k48, k49, k50, k51, k52, k53, k54, k55, k56, k57, k58, k59, k60, k61, k62, k63, k64, k65, k66, k67, k68, k69, k70, k71, k72, k73, k74, k75, k76, k77, k78, k79, k80, k81, k82, k83, k84, k85, k86, k87, k88, k89, k90, k91, k92, k93, k94, k95, k96, k97, k98, k99, k100, nI_0m, e1, true_and, and_true, and_self, if_true, if_false, ite_true, ite_false, Nat.lt_irrefl, List.length_nil, List.length_cons, Nat.reduceAdd, Nat.reduceLeDiff, Nat.reduceLT, Nat.reduceEqDiff, Nat.zero_lt_one, not_true, not_false_iff, bI_0, bI_1, ne_eq, reduceCtorEq, false_and, and_false, or_true, true_or, or_false, false_or, Nat.lt_one_iff, eq_self, Nat.zero_le, am_ko_v, am_ko_0, am_kil, Nat.reduceBEq, Int32.reduceLT, Int32.reduceLE, Int32.reduceAdd, Int32.reduceSub, i32_10, i32_01, not_true_eq_false, not_false_eq_true, Classical.not_not, nor_self, Nat.lt_add_one, nI_1, nI_pred, rf_n, i32_m0, i32_m1, reduceIte]
    exact hq g
  | succ c ih =>
    intro hcc g x6 v a5 hq
    have c31 : c < 2147483648 := by omega
    have cc : c < c0 := by omega
    have n0 : ¬ nI c < 0 := nI_pos c31
    have ho := hst c (by omega)
    obtain ⟨u, kk, a, b, e, h1, h2, h3, h4, h5, h6, h7, h8, h9, h10', h11, h12', h13⟩ := ho
    have S9 : ∀ {g x7 x6 v}, Sh (stL σ g x7 x6 v) := fun {g x7 x6 v} => Sh_stL S
    rw [S19_11]
    by_cases ek : gI σ 65 0 (10 * i + c) = nI k
    · have ek2 : kk = k := by
        have := h5.symm.trans ek
        exact (nI_eq (by omega) (by omega)).mp this
      subst ek2
      by_cases en : gI σ 67 0 (10 * i + c) = nm
      · obtain ⟨g1, g2, g3, g4, g5, g6⟩ := id (h13 hk)
        obtain ⟨q1, q2⟩ := st_cls (t := t) (u := u) hwi h5 (by omega) hk (h13 hk)
        simp only [S19_0, S19_1, S19_4, S19_7, S19_8, S19_9, S19_13, S19_16, S19_17, S19_20, S19_23, S19_24, S19_27, S19_29, S19_32n, S19_32, S19_35, S19_37, S19_39, S19_42, S19_43, S19_46, S19_48, S19_51, S19_52, S19_55, S19_56, S19_57, S19_59, S19_62, S19_64, S19_67, S19_70, S19_71, S19_72, S19_75, S19_76, S19_78, S19_81, S19_82, S19_83, S19_86, S19_87, S19_88, S19_89, S19_90, S19_92, S19_95, S19_97, S19_100, S19_103, S19_106, S19_109, S19_112, S19_115, gL_sI, gR_sI, gN_sI, gC_sI, gB_sI, gI_sL, gR_sL, gN_sL, gC_sL, gB_sL, gI_sR, gL_sR, gN_sR, gC_sR, gB_sR, gL_sIr, gR_sIr, gN_sIr, gC_sIr, gB_sIr, gI_sLr, gR_sLr, gN_sLr, gC_sLr, gB_sLr, gI_sRr, gL_sRr, gN_sRr, gC_sRr, gB_sRr, gI_sN, gL_sN, gR_sN, gC_sN, gB_sN, gI_sC, gL_sC, gR_sC, gN_sC, gB_sC, gI_sB, gL_sB, gR_sB, gN_sB, gC_sB, gB_sB, gB_am_mk, gI_am_ml, gL_am_ml, gR_am_ml, gB_am_ml, gI_am_add, gL_am_add, gC_am_add, gB_am_add, gI_am_ins, gL_am_ins, gC_am_ins, gB_am_ins, gI_am_rem, gL_am_rem, gC_am_rem, gB_am_rem, gI_am_thr, gL_am_thr, gR_am_thr, gN_am_thr, gB_am_thr, mI_sI_k, mI_sI_j, mI_sI_b, mI_sI_s, mI_sI_i, mI_sI_c, mL_sL_k, mL_sL_j, mL_sL_b, mL_sL_s, mL_sL_i, mL_sL_c, mR_sR_k, mR_sR_j, mR_sR_b, mR_sR_s, mR_sR_i, mR_sR_c, mI_sIr_k, mI_sIr_s, mI_sIr_i, mL_sLr_k, mL_sLr_s, mL_sLr_i, mR_sRr_k, mR_sRr_s, mR_sRr_i, mN_sN_k, mN_sN_i, mN_am_add_k, mN_am_add_s, mR_am_add_k, mN_am_ins_k, mN_am_ins_s, mR_am_ins_k, mN_am_rem_k, mN_am_rem_s, mR_am_rem_k, mR_am_add_s, mR_am_ins_s, mR_am_rem_s, mI_am_mk_k, mI_am_mk_s, mI_am_mk_i, mL_am_mk_k, mL_am_mk_s, mL_am_mk_i, mR_am_mk_k, mR_am_mk_s, mR_am_mk_i, mN_am_mk_k, mN_am_mk_i, mC_am_mk_k, mC_am_mk_s, mN_am_ml_k, mN_am_ml_i, mC_am_ml_k, mC_am_ml_s, mC_sC_k, mC_am_thr_k, sC_3 S, sC_4 S, sC_30 S, k0, k1, k2, k3, k4, k5, k6, k7, k8, k9, k10, k11, k12, k13, k14, k15, k16, k17, k18, k19, k20, k21, k22, k23, k24, k25, k26, k27, k28, k29, k30, k31, k32, k33, k34, k35, k36, k37, k38, k39, k40, k41, k42, k43, k44, k45, k46, k47, k48, k49, k50, k51, k52, k53, k54, k55, k56, k57, k58, k59, k60, k61, k62, k63, k64, k65, k66, k67, k68, k69, k70, k71, k72, k73, k74, k75, k76, k77, k78, k79, k80, k81, k82, k83, k84, k85, k86, k87, k88, k89, k90, k91, k92, k93, k94, k95, k96, k97, k98, k99, k100, n0, stL_R7, stL_Rk, stL_Ik, stL_N, stL_C, sC_30 S, ht, h12, hr3, hc, ini_iff c31, nI_clamp c31, cc, h2, h1, h4, ek, h7, en, h11, h12', true_and, and_true, and_self, if_true, if_false, ite_true, ite_false, Nat.lt_irrefl, List.length_nil, List.length_cons, Nat.reduceAdd, Nat.reduceLeDiff, Nat.reduceLT, Nat.reduceEqDiff, Nat.zero_lt_one, not_true, not_false_iff, bI_0, bI_1, ne_eq, reduceCtorEq, false_and, and_false, or_true, true_or, or_false, false_or, Nat.lt_one_iff, eq_self, Nat.zero_le, am_ko_v, am_ko_0, am_kil, Nat.reduceBEq, Int32.reduceLT, Int32.reduceLE, Int32.reduceAdd, Int32.reduceSub, i32_10, i32_01, not_true_eq_false, not_false_eq_true, Classical.not_not, nor_self, Nat.lt_add_one, nI_1, nI_pred, rf_n, i32_m0, i32_m1, reduceIte]
        refine C24 (w := w) S9 hw h18 rfl g4 ht hr4 g2 g3 fun g' => ?_
        rw [stL_g]
        by_cases eh : hldF σ w (10 * i + c)
        · have em : mF σ w (nI kk) nm i c = true := by
            unfold mF; exact decide_eq_true ⟨ek, fun _ => en, eh⟩
          have et : ¬ topF (evC w (sgC (gI σ 18 i) b e) []) = 0 := fun q => (q1.mp q) eh
          have et : ¬ topF (evC w (sgC (gI (stL σ g none x6 v) 18 i) b e) []) = 0 := et
          have q2' : bdF (nI kk) (topF (evC w (sgC (gI (stL σ g' (some (19, u)) (some (36, t)) v) 18 i) a b) [])) = valF σ w (10 * i + c) := q2
          simp only [S19_0, S19_1, S19_4, S19_7, S19_8, S19_9, S19_13, S19_16, S19_17, S19_20, S19_23, S19_24, S19_27, S19_29, S19_32n, S19_32, S19_35, S19_37, S19_39, S19_42, S19_43, S19_46, S19_48, S19_51, S19_52, S19_55, S19_56, S19_57, S19_59, S19_62, S19_64, S19_67, S19_70, S19_71, S19_72, S19_75, S19_76, S19_78, S19_81, S19_82, S19_83, S19_86, S19_87, S19_88, S19_89, S19_90, S19_92, S19_95, S19_97, S19_100, S19_103, S19_106, S19_109, S19_112, S19_115, gL_sI, gR_sI, gN_sI, gC_sI, gB_sI, gI_sL, gR_sL, gN_sL, gC_sL, gB_sL, gI_sR, gL_sR, gN_sR, gC_sR, gB_sR, gL_sIr, gR_sIr, gN_sIr, gC_sIr, gB_sIr, gI_sLr, gR_sLr, gN_sLr, gC_sLr, gB_sLr, gI_sRr, gL_sRr, gN_sRr, gC_sRr, gB_sRr, gI_sN, gL_sN, gR_sN, gC_sN, gB_sN, gI_sC, gL_sC, gR_sC, gN_sC, gB_sC, gI_sB, gL_sB, gR_sB, gN_sB, gC_sB, gB_sB, gB_am_mk, gI_am_ml, gL_am_ml, gR_am_ml, gB_am_ml, gI_am_add, gL_am_add, gC_am_add, gB_am_add, gI_am_ins, gL_am_ins, gC_am_ins, gB_am_ins, gI_am_rem, gL_am_rem, gC_am_rem, gB_am_rem, gI_am_thr, gL_am_thr, gR_am_thr, gN_am_thr, gB_am_thr, mI_sI_k, mI_sI_j, mI_sI_b, mI_sI_s, mI_sI_i, mI_sI_c, mL_sL_k, mL_sL_j, mL_sL_b, mL_sL_s, mL_sL_i, mL_sL_c, mR_sR_k, mR_sR_j, mR_sR_b, mR_sR_s, mR_sR_i, mR_sR_c, mI_sIr_k, mI_sIr_s, mI_sIr_i, mL_sLr_k, mL_sLr_s, mL_sLr_i, mR_sRr_k, mR_sRr_s, mR_sRr_i, mN_sN_k, mN_sN_i, mN_am_add_k, mN_am_add_s, mR_am_add_k, mN_am_ins_k, mN_am_ins_s, mR_am_ins_k, mN_am_rem_k, mN_am_rem_s, mR_am_rem_k, mR_am_add_s, mR_am_ins_s, mR_am_rem_s, mI_am_mk_k, mI_am_mk_s, mI_am_mk_i, mL_am_mk_k, mL_am_mk_s, mL_am_mk_i, mR_am_mk_k, mR_am_mk_s, mR_am_mk_i, mN_am_mk_k, mN_am_mk_i, mC_am_mk_k, mC_am_mk_s, mN_am_ml_k, mN_am_ml_i, mC_am_ml_k, mC_am_ml_s, mC_sC_k, mC_am_thr_k, sC_3 S, sC_4 S, sC_30 S, k0, k1, k2, k3, k4, k5, k6, k7, k8, k9, k10, k11, k12, k13, k14, k15, k16, k17, k18, k19, k20, k21, k22, k23, k24, k25, k26, k27, k28, k29, k30, k31, k32, k33, k34, k35, k36, k37, k38, k39, k40, k41, k42, k43, k44, k45, k46, k47, k48, k49, k50, k51, k52, k53, k54, k55, k56, k57, k58, k59, k60, k61, k62, k63, k64, k65, k66, k67, k68, k69, k70, k71, k72, k73, k74, k75, k76, k77, k78, k79, k80, k81, k82, k83, k84, k85, k86, k87, k88, k89, k90, k91, k92, k93, k94, k95, k96, k97, k98, k99, k100, lgc_eq, et, stL_7, stL_6, stL_8, stL_Ik, stL_Rk, stL_C, sC_30 S, h1, h10', h11, true_and, and_true, and_self, if_true, if_false, ite_true, ite_false, Nat.lt_irrefl, List.length_nil, List.length_cons, Nat.reduceAdd, Nat.reduceLeDiff, Nat.reduceLT, Nat.reduceEqDiff, Nat.zero_lt_one, not_true, not_false_iff, bI_0, bI_1, ne_eq, reduceCtorEq, false_and, and_false, or_true, true_or, or_false, false_or, Nat.lt_one_iff, eq_self, Nat.zero_le, am_ko_v, am_ko_0, am_kil, Nat.reduceBEq, Int32.reduceLT, Int32.reduceLE, Int32.reduceAdd, Int32.reduceSub, i32_10, i32_01, not_true_eq_false, not_false_eq_true, Classical.not_not, nor_self, Nat.lt_add_one, nI_1, nI_pred, rf_n, i32_m0, i32_m1, reduceIte]
          refine C24 (w := w) S9 hw h18 rfl g4 ht hr4 g1 (Nat.le_trans g2 g3) fun g2' => ?_
          rw [stL_g]
          simp only [S19_0, S19_1, S19_4, S19_7, S19_8, S19_9, S19_13, S19_16, S19_17, S19_20, S19_23, S19_24, S19_27, S19_29, S19_32n, S19_32, S19_35, S19_37, S19_39, S19_42, S19_43, S19_46, S19_48, S19_51, S19_52, S19_55, S19_56, S19_57, S19_59, S19_62, S19_64, S19_67, S19_70, S19_71, S19_72, S19_75, S19_76, S19_78, S19_81, S19_82, S19_83, S19_86, S19_87, S19_88, S19_89, S19_90, S19_92, S19_95, S19_97, S19_100, S19_103, S19_106, S19_109, S19_112, S19_115, gL_sI, gR_sI, gN_sI, gC_sI, gB_sI, gI_sL, gR_sL, gN_sL, gC_sL, gB_sL, gI_sR, gL_sR, gN_sR, gC_sR, gB_sR, gL_sIr, gR_sIr, gN_sIr, gC_sIr, gB_sIr, gI_sLr, gR_sLr, gN_sLr, gC_sLr, gB_sLr, gI_sRr, gL_sRr, gN_sRr, gC_sRr, gB_sRr, gI_sN, gL_sN, gR_sN, gC_sN, gB_sN, gI_sC, gL_sC, gR_sC, gN_sC, gB_sC, gI_sB, gL_sB, gR_sB, gN_sB, gC_sB, gB_sB, gB_am_mk, gI_am_ml, gL_am_ml, gR_am_ml, gB_am_ml, gI_am_add, gL_am_add, gC_am_add, gB_am_add, gI_am_ins, gL_am_ins, gC_am_ins, gB_am_ins, gI_am_rem, gL_am_rem, gC_am_rem, gB_am_rem, gI_am_thr, gL_am_thr, gR_am_thr, gN_am_thr, gB_am_thr, mI_sI_k, mI_sI_j, mI_sI_b, mI_sI_s, mI_sI_i, mI_sI_c, mL_sL_k, mL_sL_j, mL_sL_b, mL_sL_s, mL_sL_i, mL_sL_c, mR_sR_k, mR_sR_j, mR_sR_b, mR_sR_s, mR_sR_i, mR_sR_c, mI_sIr_k, mI_sIr_s, mI_sIr_i, mL_sLr_k, mL_sLr_s, mL_sLr_i, mR_sRr_k, mR_sRr_s, mR_sRr_i, mN_sN_k, mN_sN_i, mN_am_add_k, mN_am_add_s, mR_am_add_k, mN_am_ins_k, mN_am_ins_s, mR_am_ins_k, mN_am_rem_k, mN_am_rem_s, mR_am_rem_k, mR_am_add_s, mR_am_ins_s, mR_am_rem_s, mI_am_mk_k, mI_am_mk_s, mI_am_mk_i, mL_am_mk_k, mL_am_mk_s, mL_am_mk_i, mR_am_mk_k, mR_am_mk_s, mR_am_mk_i, mN_am_mk_k, mN_am_mk_i, mC_am_mk_k, mC_am_mk_s, mN_am_ml_k, mN_am_ml_i, mC_am_ml_k, mC_am_ml_s, mC_sC_k, mC_am_thr_k, sC_3 S, sC_4 S, sC_30 S, k0, k1, k2, k3, k4, k5, k6, k7, k8, k9, k10, k11, k12, k13, k14, k15, k16, k17, k18, k19, k20, k21, k22, k23, k24, k25, k26, k27, k28, k29, k30, k31, k32, k33, k34, k35, k36, k37, k38, k39, k40, k41, k42, k43, k44, k45, k46, k47, k48, k49, k50, k51, k52, k53, k54, k55, k56, k57, k58, k59, k60, k61, k62, k63, k64, k65, k66, k67, k68, k69, k70, k71, k72, k73, k74, k75, k76, k77, k78, k79, k80, k81, k82, k83, k84, k85, k86, k87, k88, k89, k90, k91, k92, k93, k94, k95, k96, k97, k98, k99, k100, C23, q2', stL_8, stL_C, sC_30 S, pm1, true_and, and_true, and_self, if_true, if_false, ite_true, ite_false, Nat.lt_irrefl, List.length_nil, List.length_cons, Nat.reduceAdd, Nat.reduceLeDiff, Nat.reduceLT, Nat.reduceEqDiff, Nat.zero_lt_one, not_true, not_false_iff, bI_0, bI_1, ne_eq, reduceCtorEq, false_and, and_false, or_true, true_or, or_false, false_or, Nat.lt_one_iff, eq_self, Nat.zero_le, am_ko_v, am_ko_0, am_kil, Nat.reduceBEq, Int32.reduceLT, Int32.reduceLE, Int32.reduceAdd, Int32.reduceSub, i32_10, i32_01, not_true_eq_false, not_false_eq_true, Classical.not_not, nor_self, Nat.lt_add_one, nI_1, nI_pred, rf_n, i32_m0, i32_m1, reduceIte]
          have hq2 : ∀ g', Q (some none) (stL σ g' (some (19, u)) (some (36, t)) (valF σ w (10 * i + c))) := fun g' => by
            have := hq g'
            unfold lastF at this
            rw [if_pos em] at this
            dsimp only at this
            rw [h2] at this
            exact this
          rw [S19_11]
          by_cases c0z : nI c - 1 < 0
          · simp only [S19_0, S19_1, S19_4, S19_7, S19_8, S19_9, S19_13, S19_16, S19_17, S19_20, S19_23, S19_24, S19_27, S19_29, S19_32n, S19_32, S19_35, S19_37, S19_39, S19_42, S19_43, S19_46, S19_48, S19_51, S19_52, S19_55, S19_56, S19_57, S19_59, S19_62, S19_64, S19_67, S19_70, S19_71, S19_72, S19_75, S19_76, S19_78, S19_81, S19_82, S19_83, S19_86, S19_87, S19_88, S19_89, S19_90, S19_92, S19_95, S19_97, S19_100, S19_103, S19_106, S19_109, S19_112, S19_115, gL_sI, gR_sI, gN_sI, gC_sI, gB_sI, gI_sL, gR_sL, gN_sL, gC_sL, gB_sL, gI_sR, gL_sR, gN_sR, gC_sR, gB_sR, gL_sIr, gR_sIr, gN_sIr, gC_sIr, gB_sIr, gI_sLr, gR_sLr, gN_sLr, gC_sLr, gB_sLr, gI_sRr, gL_sRr, gN_sRr, gC_sRr, gB_sRr, gI_sN, gL_sN, gR_sN, gC_sN, gB_sN, gI_sC, gL_sC, gR_sC, gN_sC, gB_sC, gI_sB, gL_sB, gR_sB, gN_sB, gC_sB, gB_sB, gB_am_mk, gI_am_ml, gL_am_ml, gR_am_ml, gB_am_ml, gI_am_add, gL_am_add, gC_am_add, gB_am_add, gI_am_ins, gL_am_ins, gC_am_ins, gB_am_ins, gI_am_rem, gL_am_rem, gC_am_rem, gB_am_rem, gI_am_thr, gL_am_thr, gR_am_thr, gN_am_thr, gB_am_thr, mI_sI_k, mI_sI_j, mI_sI_b, mI_sI_s, mI_sI_i, mI_sI_c, mL_sL_k, mL_sL_j, mL_sL_b, mL_sL_s, mL_sL_i, mL_sL_c, mR_sR_k, mR_sR_j, mR_sR_b, mR_sR_s, mR_sR_i, mR_sR_c, mI_sIr_k, mI_sIr_s, mI_sIr_i, mL_sLr_k, mL_sLr_s, mL_sLr_i, mR_sRr_k, mR_sRr_s, mR_sRr_i, mN_sN_k, mN_sN_i, mN_am_add_k, mN_am_add_s, mR_am_add_k, mN_am_ins_k, mN_am_ins_s, mR_am_ins_k, mN_am_rem_k, mN_am_rem_s, mR_am_rem_k, mR_am_add_s, mR_am_ins_s, mR_am_rem_s, mI_am_mk_k, mI_am_mk_s, mI_am_mk_i, mL_am_mk_k, mL_am_mk_s, mL_am_mk_i, mR_am_mk_k, mR_am_mk_s, mR_am_mk_i, mN_am_mk_k, mN_am_mk_i, mC_am_mk_k, mC_am_mk_s, mN_am_ml_k, mN_am_ml_i, mC_am_ml_k, mC_am_ml_s, mC_sC_k, mC_am_thr_k, sC_3 S, sC_4 S, sC_30 S, k0, k1, k2, k3, k4, k5, k6, k7, k8, k9, k10, k11, k12, k13, k14, k15, k16, k17, k18, k19, k20, k21, k22, k23, k24, k25, k26, k27, k28, k29, k30, k31, k32, k33, k34, k35, k36, k37, k38, k39, k40, k41, k42, k43, k44, k45, k46, k47, k48, k49, k50, k51, k52, k53, k54, k55, k56, k57, k58, k59, k60, k61, k62, k63, k64, k65, k66, k67, k68, k69, k70, k71, k72, k73, k74, k75, k76, k77, k78, k79, k80, k81, k82, k83, k84, k85, k86, k87, k88, k89, k90, k91, k92, k93, k94, k95, k96, k97, k98, k99, k100, c0z, true_and, and_true, and_self, if_true, if_false, ite_true, ite_false, Nat.lt_irrefl, List.length_nil, List.length_cons, Nat.reduceAdd, Nat.reduceLeDiff, Nat.reduceLT, Nat.reduceEqDiff, Nat.zero_lt_one, not_true, not_false_iff, bI_0, bI_1, ne_eq, reduceCtorEq, false_and, and_false, or_true, true_or, or_false, false_or, Nat.lt_one_iff, eq_self, Nat.zero_le, am_ko_v, am_ko_0, am_kil, Nat.reduceBEq, Int32.reduceLT, Int32.reduceLE, Int32.reduceAdd, Int32.reduceSub, i32_10, i32_01, not_true_eq_false, not_false_eq_true, Classical.not_not, nor_self, Nat.lt_add_one, nI_1, nI_pred, rf_n, i32_m0, i32_m1, reduceIte]
            exact hq2 _
          · simp only [S19_0, S19_1, S19_4, S19_7, S19_8, S19_9, S19_13, S19_16, S19_17, S19_20, S19_23, S19_24, S19_27, S19_29, S19_32n, S19_32, S19_35, S19_37, S19_39, S19_42, S19_43, S19_46, S19_48, S19_51, S19_52, S19_55, S19_56, S19_57, S19_59, S19_62, S19_64, S19_67, S19_70, S19_71, S19_72, S19_75, S19_76, S19_78, S19_81, S19_82, S19_83, S19_86, S19_87, S19_88, S19_89, S19_90, S19_92, S19_95, S19_97, S19_100, S19_103, S19_106, S19_109, S19_112, S19_115, gL_sI, gR_sI, gN_sI, gC_sI, gB_sI, gI_sL, gR_sL, gN_sL, gC_sL, gB_sL, gI_sR, gL_sR, gN_sR, gC_sR, gB_sR, gL_sIr, gR_sIr, gN_sIr, gC_sIr, gB_sIr, gI_sLr, gR_sLr, gN_sLr, gC_sLr, gB_sLr, gI_sRr, gL_sRr, gN_sRr, gC_sRr, gB_sRr, gI_sN, gL_sN, gR_sN, gC_sN, gB_sN, gI_sC, gL_sC, gR_sC, gN_sC, gB_sC, gI_sB, gL_sB, gR_sB, gN_sB, gC_sB, gB_sB, gB_am_mk, gI_am_ml, gL_am_ml, gR_am_ml, gB_am_ml, gI_am_add, gL_am_add, gC_am_add, gB_am_add, gI_am_ins, gL_am_ins, gC_am_ins, gB_am_ins, gI_am_rem, gL_am_rem, gC_am_rem, gB_am_rem, gI_am_thr, gL_am_thr, gR_am_thr, gN_am_thr, gB_am_thr, mI_sI_k, mI_sI_j, mI_sI_b, mI_sI_s, mI_sI_i, mI_sI_c, mL_sL_k, mL_sL_j, mL_sL_b, mL_sL_s, mL_sL_i, mL_sL_c, mR_sR_k, mR_sR_j, mR_sR_b, mR_sR_s, mR_sR_i, mR_sR_c, mI_sIr_k, mI_sIr_s, mI_sIr_i, mL_sLr_k, mL_sLr_s, mL_sLr_i, mR_sRr_k, mR_sRr_s, mR_sRr_i, mN_sN_k, mN_sN_i, mN_am_add_k, mN_am_add_s, mR_am_add_k, mN_am_ins_k, mN_am_ins_s, mR_am_ins_k, mN_am_rem_k, mN_am_rem_s, mR_am_rem_k, mR_am_add_s, mR_am_ins_s, mR_am_rem_s, mI_am_mk_k, mI_am_mk_s, mI_am_mk_i, mL_am_mk_k, mL_am_mk_s, mL_am_mk_i, mR_am_mk_k, mR_am_mk_s, mR_am_mk_i, mN_am_mk_k, mN_am_mk_i, mC_am_mk_k, mC_am_mk_s, mN_am_ml_k, mN_am_ml_i, mC_am_ml_k, mC_am_ml_s, mC_sC_k, mC_am_thr_k, sC_3 S, sC_4 S, sC_30 S, k0, k1, k2, k3, k4, k5, k6, k7, k8, k9, k10, k11, k12, k13, k14, k15, k16, k17, k18, k19, k20, k21, k22, k23, k24, k25, k26, k27, k28, k29, k30, k31, k32, k33, k34, k35, k36, k37, k38, k39, k40, k41, k42, k43, k44, k45, k46, k47, k48, k49, k50, k51, k52, k53, k54, k55, k56, k57, k58, k59, k60, k61, k62, k63, k64, k65, k66, k67, k68, k69, k70, k71, k72, k73, k74, k75, k76, k77, k78, k79, k80, k81, k82, k83, k84, k85, k86, k87, k88, k89, k90, k91, k92, k93, k94, k95, k96, k97, k98, k99, k100, c0z, stL_R7, stL_C, sC_30 S, true_and, and_true, and_self, if_true, if_false, ite_true, ite_false, Nat.lt_irrefl, List.length_nil, List.length_cons, Nat.reduceAdd, Nat.reduceLeDiff, Nat.reduceLT, Nat.reduceEqDiff, Nat.zero_lt_one, not_true, not_false_iff, bI_0, bI_1, ne_eq, reduceCtorEq, false_and, and_false, or_true, true_or, or_false, false_or, Nat.lt_one_iff, eq_self, Nat.zero_le, am_ko_v, am_ko_0, am_kil, Nat.reduceBEq, Int32.reduceLT, Int32.reduceLE, Int32.reduceAdd, Int32.reduceSub, i32_10, i32_01, not_true_eq_false, not_false_eq_true, Classical.not_not, nor_self, Nat.lt_add_one, nI_1, nI_pred, rf_n, i32_m0, i32_m1, reduceIte]
            exact hq2 _
        · have em : ¬ mF σ w (nI kk) nm i c = true := by
            unfold mF; rw [decide_eq_true_iff]; exact fun q => eh q.2.2
          have et : topF (evC w (sgC (gI (stL σ g none x6 v) 18 i) b e) []) = 0 := q1.mpr eh
          simp only [S19_0, S19_1, S19_4, S19_7, S19_8, S19_9, S19_13, S19_16, S19_17, S19_20, S19_23, S19_24, S19_27, S19_29, S19_32n, S19_32, S19_35, S19_37, S19_39, S19_42, S19_43, S19_46, S19_48, S19_51, S19_52, S19_55, S19_56, S19_57, S19_59, S19_62, S19_64, S19_67, S19_70, S19_71, S19_72, S19_75, S19_76, S19_78, S19_81, S19_82, S19_83, S19_86, S19_87, S19_88, S19_89, S19_90, S19_92, S19_95, S19_97, S19_100, S19_103, S19_106, S19_109, S19_112, S19_115, gL_sI, gR_sI, gN_sI, gC_sI, gB_sI, gI_sL, gR_sL, gN_sL, gC_sL, gB_sL, gI_sR, gL_sR, gN_sR, gC_sR, gB_sR, gL_sIr, gR_sIr, gN_sIr, gC_sIr, gB_sIr, gI_sLr, gR_sLr, gN_sLr, gC_sLr, gB_sLr, gI_sRr, gL_sRr, gN_sRr, gC_sRr, gB_sRr, gI_sN, gL_sN, gR_sN, gC_sN, gB_sN, gI_sC, gL_sC, gR_sC, gN_sC, gB_sC, gI_sB, gL_sB, gR_sB, gN_sB, gC_sB, gB_sB, gB_am_mk, gI_am_ml, gL_am_ml, gR_am_ml, gB_am_ml, gI_am_add, gL_am_add, gC_am_add, gB_am_add, gI_am_ins, gL_am_ins, gC_am_ins, gB_am_ins, gI_am_rem, gL_am_rem, gC_am_rem, gB_am_rem, gI_am_thr, gL_am_thr, gR_am_thr, gN_am_thr, gB_am_thr, mI_sI_k, mI_sI_j, mI_sI_b, mI_sI_s, mI_sI_i, mI_sI_c, mL_sL_k, mL_sL_j, mL_sL_b, mL_sL_s, mL_sL_i, mL_sL_c, mR_sR_k, mR_sR_j, mR_sR_b, mR_sR_s, mR_sR_i, mR_sR_c, mI_sIr_k, mI_sIr_s, mI_sIr_i, mL_sLr_k, mL_sLr_s, mL_sLr_i, mR_sRr_k, mR_sRr_s, mR_sRr_i, mN_sN_k, mN_sN_i, mN_am_add_k, mN_am_add_s, mR_am_add_k, mN_am_ins_k, mN_am_ins_s, mR_am_ins_k, mN_am_rem_k, mN_am_rem_s, mR_am_rem_k, mR_am_add_s, mR_am_ins_s, mR_am_rem_s, mI_am_mk_k, mI_am_mk_s, mI_am_mk_i, mL_am_mk_k, mL_am_mk_s, mL_am_mk_i, mR_am_mk_k, mR_am_mk_s, mR_am_mk_i, mN_am_mk_k, mN_am_mk_i, mC_am_mk_k, mC_am_mk_s, mN_am_ml_k, mN_am_ml_i, mC_am_ml_k, mC_am_ml_s, mC_sC_k, mC_am_thr_k, sC_3 S, sC_4 S, sC_30 S, k0, k1, k2, k3, k4, k5, k6, k7, k8, k9, k10, k11, k12, k13, k14, k15, k16, k17, k18, k19, k20, k21, k22, k23, k24, k25, k26, k27, k28, k29, k30, k31, k32, k33, k34, k35, k36, k37, k38, k39, k40, k41, k42, k43, k44, k45, k46, k47, k48, k49, k50, k51, k52, k53, k54, k55, k56, k57, k58, k59, k60, k61, k62, k63, k64, k65, k66, k67, k68, k69, k70, k71, k72, k73, k74, k75, k76, k77, k78, k79, k80, k81, k82, k83, k84, k85, k86, k87, k88, k89, k90, k91, k92, k93, k94, k95, k96, k97, k98, k99, k100, lgc_eq, et, pm1, true_and, and_true, and_self, if_true, if_false, ite_true, ite_false, Nat.lt_irrefl, List.length_nil, List.length_cons, Nat.reduceAdd, Nat.reduceLeDiff, Nat.reduceLT, Nat.reduceEqDiff, Nat.zero_lt_one, not_true, not_false_iff, bI_0, bI_1, ne_eq, reduceCtorEq, false_and, and_false, or_true, true_or, or_false, false_or, Nat.lt_one_iff, eq_self, Nat.zero_le, am_ko_v, am_ko_0, am_kil, Nat.reduceBEq, Int32.reduceLT, Int32.reduceLE, Int32.reduceAdd, Int32.reduceSub, i32_10, i32_01, not_true_eq_false, not_false_eq_true, Classical.not_not, nor_self, Nat.lt_add_one, nI_1, nI_pred, rf_n, i32_m0, i32_m1, reduceIte]
          refine ih (by omega) _ _ _ _ fun g'' => ?_
          have := hq g''
          unfold lastF at this
          rw [if_neg em] at this
          exact this
      · have em : ¬ mF σ w (nI kk) nm i c = true := by
          unfold mF; rw [decide_eq_true_iff]
          intro q
          by_cases k6 : kk = 6
          · exact en (q.2.1 (by rw [k6]; rfl))
          · exact en (by rw [h8 k6, hnm k6])
        simp only [S19_0, S19_1, S19_4, S19_7, S19_8, S19_9, S19_13, S19_16, S19_17, S19_20, S19_23, S19_24, S19_27, S19_29, S19_32n, S19_32, S19_35, S19_37, S19_39, S19_42, S19_43, S19_46, S19_48, S19_51, S19_52, S19_55, S19_56, S19_57, S19_59, S19_62, S19_64, S19_67, S19_70, S19_71, S19_72, S19_75, S19_76, S19_78, S19_81, S19_82, S19_83, S19_86, S19_87, S19_88, S19_89, S19_90, S19_92, S19_95, S19_97, S19_100, S19_103, S19_106, S19_109, S19_112, S19_115, gL_sI, gR_sI, gN_sI, gC_sI, gB_sI, gI_sL, gR_sL, gN_sL, gC_sL, gB_sL, gI_sR, gL_sR, gN_sR, gC_sR, gB_sR, gL_sIr, gR_sIr, gN_sIr, gC_sIr, gB_sIr, gI_sLr, gR_sLr, gN_sLr, gC_sLr, gB_sLr, gI_sRr, gL_sRr, gN_sRr, gC_sRr, gB_sRr, gI_sN, gL_sN, gR_sN, gC_sN, gB_sN, gI_sC, gL_sC, gR_sC, gN_sC, gB_sC, gI_sB, gL_sB, gR_sB, gN_sB, gC_sB, gB_sB, gB_am_mk, gI_am_ml, gL_am_ml, gR_am_ml, gB_am_ml, gI_am_add, gL_am_add, gC_am_add, gB_am_add, gI_am_ins, gL_am_ins, gC_am_ins, gB_am_ins, gI_am_rem, gL_am_rem, gC_am_rem, gB_am_rem, gI_am_thr, gL_am_thr, gR_am_thr, gN_am_thr, gB_am_thr, mI_sI_k, mI_sI_j, mI_sI_b, mI_sI_s, mI_sI_i, mI_sI_c, mL_sL_k, mL_sL_j, mL_sL_b, mL_sL_s, mL_sL_i, mL_sL_c, mR_sR_k, mR_sR_j, mR_sR_b, mR_sR_s, mR_sR_i, mR_sR_c, mI_sIr_k, mI_sIr_s, mI_sIr_i, mL_sLr_k, mL_sLr_s, mL_sLr_i, mR_sRr_k, mR_sRr_s, mR_sRr_i, mN_sN_k, mN_sN_i, mN_am_add_k, mN_am_add_s, mR_am_add_k, mN_am_ins_k, mN_am_ins_s, mR_am_ins_k, mN_am_rem_k, mN_am_rem_s, mR_am_rem_k, mR_am_add_s, mR_am_ins_s, mR_am_rem_s, mI_am_mk_k, mI_am_mk_s, mI_am_mk_i, mL_am_mk_k, mL_am_mk_s, mL_am_mk_i, mR_am_mk_k, mR_am_mk_s, mR_am_mk_i, mN_am_mk_k, mN_am_mk_i, mC_am_mk_k, mC_am_mk_s, mN_am_ml_k, mN_am_ml_i, mC_am_ml_k, mC_am_ml_s, mC_sC_k, mC_am_thr_k, sC_3 S, sC_4 S, sC_30 S, k0, k1, k2, k3, k4, k5, k6, k7, k8, k9, k10, k11, k12, k13, k14, k15, k16, k17, k18, k19, k20, k21, k22, k23, k24, k25, k26, k27, k28, k29, k30, k31, k32, k33, k34, k35, k36, k37, k38, k39, k40, k41, k42, k43, k44, k45, k46, k47, k48, k49, k50, k51, k52, k53, k54, k55, k56, k57, k58, k59, k60, k61, k62, k63, k64, k65, k66, k67, k68, k69, k70, k71, k72, k73, k74, k75, k76, k77, k78, k79, k80, k81, k82, k83, k84, k85, k86, k87, k88, k89, k90, k91, k92, k93, k94, k95, k96, k97, k98, k99, k100, n0, stL_R7, stL_Rk, stL_Ik, stL_N, stL_C, sC_30 S, ht, h12, hr3, hc, ini_iff c31, nI_clamp c31, cc, h2, h1, h4, ek, h7, en, pm1, true_and, and_true, and_self, if_true, if_false, ite_true, ite_false, Nat.lt_irrefl, List.length_nil, List.length_cons, Nat.reduceAdd, Nat.reduceLeDiff, Nat.reduceLT, Nat.reduceEqDiff, Nat.zero_lt_one, not_true, not_false_iff, bI_0, bI_1, ne_eq, reduceCtorEq, false_and, and_false, or_true, true_or, or_false, false_or, Nat.lt_one_iff, eq_self, Nat.zero_le, am_ko_v, am_ko_0, am_kil, Nat.reduceBEq, Int32.reduceLT, Int32.reduceLE, Int32.reduceAdd, Int32.reduceSub, i32_10, i32_01, not_true_eq_false, not_false_eq_true, Classical.not_not, nor_self, Nat.lt_add_one, nI_1, nI_pred, rf_n, i32_m0, i32_m1, reduceIte]
        refine ih (by omega) _ _ _ _ fun g'' => ?_
        have := hq g''
        unfold lastF at this
        rw [if_neg em] at this
        exact this
    · have em : ¬ mF σ w (nI k) nm i c = true := by
        unfold mF; rw [decide_eq_true_iff]; exact fun q => ek q.1
      simp only [S19_0, S19_1, S19_4, S19_7, S19_8, S19_9, S19_13, S19_16, S19_17, S19_20, S19_23, S19_24, S19_27, S19_29, S19_32n, S19_32, S19_35, S19_37, S19_39, S19_42, S19_43, S19_46, S19_48, S19_51, S19_52, S19_55, S19_56, S19_57, S19_59, S19_62, S19_64, S19_67, S19_70, S19_71, S19_72, S19_75, S19_76, S19_78, S19_81, S19_82, S19_83, S19_86, S19_87, S19_88, S19_89, S19_90, S19_92, S19_95, S19_97, S19_100, S19_103, S19_106, S19_109, S19_112, S19_115, gL_sI, gR_sI, gN_sI, gC_sI, gB_sI, gI_sL, gR_sL, gN_sL, gC_sL, gB_sL, gI_sR, gL_sR, gN_sR, gC_sR, gB_sR, gL_sIr, gR_sIr, gN_sIr, gC_sIr, gB_sIr, gI_sLr, gR_sLr, gN_sLr, gC_sLr, gB_sLr, gI_sRr, gL_sRr, gN_sRr, gC_sRr, gB_sRr, gI_sN, gL_sN, gR_sN, gC_sN, gB_sN, gI_sC, gL_sC, gR_sC, gN_sC, gB_sC, gI_sB, gL_sB, gR_sB, gN_sB, gC_sB, gB_sB, gB_am_mk, gI_am_ml, gL_am_ml, gR_am_ml, gB_am_ml, gI_am_add, gL_am_add, gC_am_add, gB_am_add, gI_am_ins, gL_am_ins, gC_am_ins, gB_am_ins, gI_am_rem, gL_am_rem, gC_am_rem, gB_am_rem, gI_am_thr, gL_am_thr, gR_am_thr, gN_am_thr, gB_am_thr, mI_sI_k, mI_sI_j, mI_sI_b, mI_sI_s, mI_sI_i, mI_sI_c, mL_sL_k, mL_sL_j, mL_sL_b, mL_sL_s, mL_sL_i, mL_sL_c, mR_sR_k, mR_sR_j, mR_sR_b, mR_sR_s, mR_sR_i, mR_sR_c, mI_sIr_k, mI_sIr_s, mI_sIr_i, mL_sLr_k, mL_sLr_s, mL_sLr_i, mR_sRr_k, mR_sRr_s, mR_sRr_i, mN_sN_k, mN_sN_i, mN_am_add_k, mN_am_add_s, mR_am_add_k, mN_am_ins_k, mN_am_ins_s, mR_am_ins_k, mN_am_rem_k, mN_am_rem_s, mR_am_rem_k, mR_am_add_s, mR_am_ins_s, mR_am_rem_s, mI_am_mk_k, mI_am_mk_s, mI_am_mk_i, mL_am_mk_k, mL_am_mk_s, mL_am_mk_i, mR_am_mk_k, mR_am_mk_s, mR_am_mk_i, mN_am_mk_k, mN_am_mk_i, mC_am_mk_k, mC_am_mk_s, mN_am_ml_k, mN_am_ml_i, mC_am_ml_k, mC_am_ml_s, mC_sC_k, mC_am_thr_k, sC_3 S, sC_4 S, sC_30 S, k0, k1, k2, k3, k4, k5, k6, k7, k8, k9, k10, k11, k12, k13, k14, k15, k16, k17, k18, k19, k20, k21, k22, k23, k24, k25, k26, k27, k28, k29, k30, k31, k32, k33, k34, k35, k36, k37, k38, k39, k40, k41, k42, k43, k44, k45, k46, k47, k48, k49, k50, k51, k52, k53, k54, k55, k56, k57, k58, k59, k60, k61, k62, k63, k64, k65, k66, k67, k68, k69, k70, k71, k72, k73, k74, k75, k76, k77, k78, k79, k80, k81, k82, k83, k84, k85, k86, k87, k88, k89, k90, k91, k92, k93, k94, k95, k96, k97, k98, k99, k100, n0, stL_R7, stL_Rk, stL_Ik, stL_N, stL_C, sC_30 S, ht, h12, hr3, hc, ini_iff c31, nI_clamp c31, cc, h2, h1, h4, ek, pm1, true_and, and_true, and_self, if_true, if_false, ite_true, ite_false, Nat.lt_irrefl, List.length_nil, List.length_cons, Nat.reduceAdd, Nat.reduceLeDiff, Nat.reduceLT, Nat.reduceEqDiff, Nat.zero_lt_one, not_true, not_false_iff, bI_0, bI_1, ne_eq, reduceCtorEq, false_and, and_false, or_true, true_or, or_false, false_or, Nat.lt_one_iff, eq_self, Nat.zero_le, am_ko_v, am_ko_0, am_kil, Nat.reduceBEq, Int32.reduceLT, Int32.reduceLE, Int32.reduceAdd, Int32.reduceSub, i32_10, i32_01, not_true_eq_false, not_false_eq_true, Classical.not_not, nor_self, Nat.lt_add_one, nI_1, nI_pred, rf_n, i32_m0, i32_m1, reduceIte]
      refine ih (by omega) _ _ _ _ fun g'' => ?_
      have := hq g''
      unfold lastF at this
      rw [if_neg em] at this
      exact this
end FND
