/-! the reference's order of the TEXTS, and its RULE -/
def rsL (σ : aM) (g : Nat → Int32) (m : Int32) (f h : Nat → Int64) : aM := sI (sIr (sLr (sLr σ 78 0 h) 77 0 f) 79 0 g) 4 0 57 m
section RSL
variable {σ : aM} {g g' : Nat → Int32} {m u v : Int32} {f h f' h' : Nat → Int64} {a b c : Nat}
theorem rsL_78 : sLr (rsL σ g m f h) 78 0 h' = rsL σ g m f h' := by
  unfold rsL sI sIr sLr am_u3
  refine Prod.ext rfl (Prod.ext ?_ rfl)
  funext a b c
  dsimp only
  by_cases h : a = 78 ∧ b = 0
  · obtain ⟨rfl, rfl⟩ := h; rfl
  · rw [if_neg h]
    by_cases h2 : a = 77 ∧ b = 0
    · rw [if_pos h2, if_pos h2]
    · rw [if_neg h2, if_neg h2, if_neg h, if_neg h]
theorem rsL_77 : sLr (rsL σ g m f h) 77 0 f' = rsL σ g m f' h := by
  unfold rsL sI sIr sLr am_u3
  refine Prod.ext rfl (Prod.ext ?_ rfl)
  funext a b c
  dsimp only
  by_cases h : a = 77 ∧ b = 0
  · rw [if_pos h, if_pos h]
  · rw [if_neg h, if_neg h, if_neg h]
theorem rsL_57 : sI (rsL σ g m f h) 4 0 57 u = rsL σ g u f h := by
  unfold rsL sI sIr sLr am_u3
  refine Prod.ext ?_ rfl
  funext a b c
  dsimp only
  by_cases h : a = 4 ∧ b = 0 ∧ c = 57
  · rw [if_pos h, if_pos h]
  · rw [if_neg h, if_neg h, if_neg h]
theorem rsL_79 {j : Nat} : sI (rsL σ g m f h) 79 0 j v = rsL σ (fun c => if c = j then v else g c) m f h := by
  unfold rsL sI sIr sLr am_u3
  refine Prod.ext ?_ rfl
  funext a b c
  dsimp only
  by_cases h : a = 79 ∧ b = 0
  · obtain ⟨rfl, rfl⟩ := h
    by_cases hj : c = j
    · subst hj; simp
    · simp [hj]
  · rw [if_neg (fun q => h ⟨q.1, q.2.1⟩), if_neg h, if_neg h]
theorem rsL_0 : rsL σ (gI σ 79 0) (gI σ 4 0 57) (gL σ 77 0) (gL σ 78 0) = σ := by
  unfold rsL
  have e1 : sLr (sLr σ 78 0 (gL σ 78 0)) 77 0 (gL σ 77 0) = σ := by rw [sLr_id, sLr_id]
  rw [e1, sIr_id]
  unfold sI am_u3 gI
  refine Prod.ext ?_ rfl
  funext a b c
  dsimp only
  by_cases h : a = 4 ∧ b = 0 ∧ c = 57
  · obtain ⟨rfl, rfl, rfl⟩ := h; rfl
  · rw [if_neg h]
theorem rsL_Ik (h1 : a ≠ 4) (h2 : a ≠ 79) : gI (rsL σ g m f h) a b c = gI σ a b c := (if_neg (fun q => h1 q.1)).trans (if_neg (fun q => h2 q.1))
theorem rsL_Ic (h1 : c ≠ 57) : gI (rsL σ g m f h) 4 b c = gI σ 4 b c := by
  show (if 4 = 4 ∧ b = 0 ∧ c = 57 then m else if 4 = 79 ∧ b = 0 then g c else gI σ 4 b c) = _
  rw [if_neg (fun q => h1 q.2.2), if_neg (fun q => absurd q.1 (by decide))]
theorem rsL_I57 : gI (rsL σ g m f h) 4 0 57 = m := rfl
theorem rsL_I79 : gI (rsL σ g m f h) 79 0 c = g c := rfl
theorem rsL_R : gR (rsL σ g m f h) a b c = gR σ a b c := rfl
theorem rsL_Lk (h1 : a ≠ 77) (h2 : a ≠ 78) : gL (rsL σ g m f h) a b c = gL σ a b c := (if_neg (fun q => h1 q.1)).trans (if_neg (fun q => h2 q.1))
theorem rsL_L77 : gL (rsL σ g m f h) 77 0 c = f c := rfl
theorem rsL_N : gN (rsL σ g m f h) a b = gN σ a b := rfl
theorem rsL_C : gC (rsL σ g m f h) a = gC σ a := rfl
theorem rsL_B : gB (rsL σ g m f h) = gB σ := rfl
theorem Sh_rsL (S : Sh σ) : Sh (rsL σ g m f h) := by
  unfold rsL
  exact Sh_fr S (by repeat (first | exact Ar.rf | refine Ar.sI ?_ | refine Ar.sR rfl ?_ | refine Ar.sL ?_ | refine Ar.add rfl rfl ?_ | refine Ar.mk rfl rfl rfl ?_ | refine Ar.sIr ?_ | refine Ar.sLr ?_ | refine Ar.sRr rfl ?_ | refine Ar.sN rfl ?_ | refine Ar.ml rfl rfl ?_ | refine Ar.ins rfl rfl ?_ | refine Ar.rem rfl rfl ?_ | refine Ar.thr rfl ?_ | refine Ar.stL rfl ?_ | refine Ar.rsL ?_)) rfl (fun _ _ => rfl)
end RSL
/-! lists -/
def insA (t : Nat) : Nat → List Nat → List Nat
  | 0, l => t :: l
  | _ + 1, [] => [t]
  | i + 1, a :: r => a :: insA t i r
theorem insA_get {t : Nat} : ∀ (i : Nat) (l : List Nat) (j : Nat), i ≤ l.length → (insA t i l).getD j 0 = if j < i then l.getD j 0 else if j = i then t else l.getD (j - 1) 0 := by
  intro i
  induction i with
  | zero =>
    intro l j _
    cases j with
    | zero => rfl
    | succ j => simp [insA]
  | succ i ih =>
    intro l j h
    cases l with
    | nil => simp at h
    | cons a r =>
      cases j with
      | zero => simp [insA]
      | succ j =>
        have := ih r j (by simpa using h)
        simp only [insA, List.getD_cons_succ, this]
        by_cases c1 : j < i
        · rw [if_pos c1, if_pos (show j + 1 < i + 1 by omega)]
        · rw [if_neg c1, if_neg (show ¬ j + 1 < i + 1 by omega)]
          by_cases c2 : j = i
          · rw [if_pos c2, if_pos (show j + 1 = i + 1 by omega)]
          · rw [if_neg c2, if_neg (show ¬ j + 1 = i + 1 by omega)]
            obtain ⟨q, rfl⟩ : ∃ q, j = q + 1 := ⟨j - 1, by omega⟩
            simp
theorem insO_insA {f : Nat → Int32} {t : Nat} : ∀ (l : List Nat) (i : Nat), i ≤ l.length → (∀ j, j < i → ¬ f t < f (l.getD j 0)) → (∀ j, i ≤ j → j < l.length → f t < f (l.getD j 0)) → insO f t l = insA t i l := by
  intro l
  induction l with
  | nil =>
    intro i h _ _
    have : i = 0 := by simpa using h
    subst this; rfl
  | cons a r ih =>
    intro i h h1 h2
    cases i with
    | zero =>
      have := h2 0 (Nat.le_refl _) (by simp)
      have : f t < f a := by simpa using this
      exact if_pos this
    | succ i =>
      have := h1 0 (by omega)
      have : ¬ f t < f a := by simpa using this
      unfold insO
      rw [if_neg this]
      exact congrArg (a :: ·) (ih i (by simpa using h) (fun j hj => by simpa using h1 (j + 1) (by omega)) (fun j hj hj2 => by simpa using h2 (j + 1) (by omega) (by simpa using hj2)))
theorem insO_mem {f : Nat → Int32} {t : Nat} : ∀ (l : List Nat) (a : Nat), a ∈ insO f t l → a = t ∨ a ∈ l := by
  intro l
  induction l with
  | nil => intro a ha; exact Or.inl (by simpa [insO] using ha)
  | cons b r ih =>
    intro a ha
    unfold insO at ha
    by_cases c : f t < f b
    · rw [if_pos c] at ha; simpa using ha
    · rw [if_neg c] at ha
      rcases List.mem_cons.mp ha with e | e
      · exact Or.inr (by simp [e])
      · rcases ih a e with e | e
        · exact Or.inl e
        · exact Or.inr (List.mem_cons_of_mem _ e)
theorem insO_pw {f : Nat → Int32} {t : Nat} : ∀ (l : List Nat), l.Pairwise (fun a b => f a ≤ f b) → (insO f t l).Pairwise (fun a b => f a ≤ f b) := by
  intro l
  induction l with
  | nil => intro _; simp [insO]
  | cons a r ih =>
    intro h
    rw [List.pairwise_cons] at h
    unfold insO
    by_cases c : f t < f a
    · rw [if_pos c, List.pairwise_cons]
      refine ⟨fun b hb => ?_, List.pairwise_cons.mpr h⟩
      rcases List.mem_cons.mp hb with e | e
      · rw [e]; exact Int32.le_of_lt c
      · exact Int32.le_trans (Int32.le_of_lt c) (h.1 b e)
    · rw [if_neg c, List.pairwise_cons]
      refine ⟨fun b hb => ?_, ih h.2⟩
      rcases insO_mem _ _ hb with e | e
      · rw [e]; exact Int32.not_lt.mp c
      · exact h.1 b e
theorem ordL_pw {f : Nat → Int32} : ∀ n, (ordL f n).Pairwise (fun a b => f a ≤ f b) := by
  intro n
  induction n with
  | zero => exact List.Pairwise.nil
  | succ n ih => exact insO_pw _ ih
theorem insO_head {f : Nat → Int32} {t : Nat} : ∀ (l : List Nat), (∀ b ∈ l, f t < f b) → insO f t l = t :: l := by
  intro l h
  cases l with
  | nil => rfl
  | cons a r => exact if_pos (h a (List.mem_cons_self))
theorem insO_fil {f : Nat → Int32} {t : Nat} {p : Nat → Bool} : ∀ (l : List Nat), l.Pairwise (fun a b => f a ≤ f b) → (insO f t l).filter p = if p t = true then insO f t (l.filter p) else l.filter p := by
  intro l
  induction l with
  | nil => intro _; by_cases c : p t = true <;> simp [insO, c]
  | cons a r ih =>
    intro h
    rw [List.pairwise_cons] at h
    by_cases c : f t < f a
    · have e : insO f t (a :: r) = t :: a :: r := if_pos c
      rw [e]
      by_cases d : p t = true
      · rw [if_pos d, List.filter_cons_of_pos d, insO_head]
        intro b hb
        have hb := (List.mem_filter.mp hb).1
        rcases List.mem_cons.mp hb with e | e
        · rw [e]; exact c
        · exact Int32.lt_of_lt_of_le c (h.1 b e)
      · rw [if_neg d, List.filter_cons_of_neg d]
    · have e : insO f t (a :: r) = a :: insO f t r := if_neg c
      rw [e]
      by_cases d : p a = true
      · rw [List.filter_cons_of_pos d, List.filter_cons_of_pos d, ih h.2]
        by_cases q : p t = true
        · rw [if_pos q, if_pos q]
          exact (if_neg c).symm
        · rw [if_neg q, if_neg q]
      · rw [List.filter_cons_of_neg d, List.filter_cons_of_neg d, ih h.2]
/-- a row holds a list of numbers -/
def repL (g : Nat → Int32) (M : List Nat) : Prop := ∀ j, j < M.length → g j = nI (M.getD j 0)
theorem insA_len {t : Nat} : ∀ (i : Nat) (l : List Nat), i ≤ l.length → (insA t i l).length = l.length + 1 := by
  intro i
  induction i with
  | zero => intro l _; rfl
  | succ i ih =>
    intro l h
    cases l with
    | nil => simp at h
    | cons a r => simp [insA, ih r (by simpa using h)]
theorem insO_len {f : Nat → Int32} {t : Nat} : ∀ (l : List Nat), (insO f t l).length = l.length + 1 := by
  intro l
  induction l with
  | nil => rfl
  | cons a r ih =>
    unfold insO
    by_cases c : f t < f a
    · rw [if_pos c]; rfl
    · rw [if_neg c]; simp [ih]
theorem pw_get {f : Nat → Int32} {l : List Nat} (h : l.Pairwise (fun a b => f a ≤ f b)) {a b : Nat} (hab : a ≤ b) (hb : b < l.length) : f (l.getD a 0) ≤ f (l.getD b 0) := by
  rcases Nat.lt_or_eq_of_le hab with c | c
  · have := List.pairwise_iff_getElem.mp h a b (by omega) hb c
    simpa [List.getD, hb, show a < l.length by omega] using this
  · rw [c]; exact Int32.le_refl _
section ORD
variable {d : Nat} {σ : aM} {Q : aR → aM → Prop}
theorem L183i {day known : Int32} {t m : Nat} {M : List Nat} {f h : Nat → Int64} (S : Sh σ) (ht : t < 12) (hm : M.length = m) (hm12 : m < 12) (hM : ∀ j, j < m → M.getD j 0 < 12) (hpw : M.Pairwise (fun a b => gI σ 63 0 a ≤ gI σ 63 0 b)) (hk : ∀ (x : aV) g', repL g' (insO (gI σ 63 0) t M) → WP d 183 7 [some (vr (some (4, 0))), some (vi day), some (vi known), some (vi (nI (t + 1))), some x] [] (rsL σ g' (nI (m + 1)) f h) Q) : ∀ i, i ≤ m → ∀ g, (∀ j, j < i → g j = nI (M.getD j 0)) → (∀ j, i < j → j ≤ m → g j = nI (M.getD (j - 1) 0)) → (∀ j, i ≤ j → j < m → gI σ 63 0 t < gI σ 63 0 (M.getD j 0)) → WP d 183 44 [some (vr (some (4, 0))), some (vi day), some (vi known), some (vi (nI t)), some (vi (nI i))] [] (rsL σ g (nI m) f h) Q := by
  have S9 : ∀ {g m f h}, Sh (rsL σ g m f h) := fun {g m f h} => Sh_rsL S
  have t31 : t < 2147483648 := by omega
  intro i
  induction i with
  | zero =>
    intro hi g g1 g2 g3
    have z : ¬ (0 : Int32) < nI 0 := by decide
    have z31 : (0 : Nat) < 2147483648 := by omega
    have z12 : (0 : Nat) < 12 := by omega
    rw [S183_44]
    simp only [S183_0, S183_1, S183_2, S183_5, S183_6, S183_8, S183_9, S183_12, S183_15, S183_16, S183_19, S183_20, S183_21, S183_22, S183_25, S183_26, S183_29, S183_30, S183_31, S183_32, S183_35, S183_38, S183_39, S183_42, S183_46, S183_49, S183_50, S183_53, S183_54, S183_57, S183_59, S183_60, S183_61, S183_62, S183_63, S183_64, S183_67, S183_68, S183_69, S183_72, S183_73, S183_76, S183_78, S183_79, S183_82, S183_84, S183_85, S183_86, S183_87, S183_88, S183_91, S183_94, S183_95, S183_98, S183_100, S183_101, S183_102, S183_103, S183_103q, S183_104, S183_107, S183_108, S183_109, S183_112, S183_115, S183_118, gL_sI, gR_sI, gN_sI, gC_sI, gB_sI, gI_sL, gR_sL, gN_sL, gC_sL, gB_sL, gI_sR, gL_sR, gN_sR, gC_sR, gB_sR, gL_sIr, gR_sIr, gN_sIr, gC_sIr, gB_sIr, gI_sLr, gR_sLr, gN_sLr, gC_sLr, gB_sLr, gI_sRr, gL_sRr, gN_sRr, gC_sRr, gB_sRr, gI_sN, gL_sN, gR_sN, gC_sN, gB_sN, gI_sC, gL_sC, gR_sC, gN_sC, gB_sC, gI_sB, gL_sB, gR_sB, gN_sB, gC_sB, gB_sB, gB_am_mk, gI_am_ml, gL_am_ml, gR_am_ml, gB_am_ml, gI_am_add, gL_am_add, gC_am_add, gB_am_add, gI_am_ins, gL_am_ins, gC_am_ins, gB_am_ins, gI_am_rem, gL_am_rem, gC_am_rem, gB_am_rem, gI_am_thr, gL_am_thr, gR_am_thr, gN_am_thr, gB_am_thr, mI_sI_k, mI_sI_j, mI_sI_b, mI_sI_s, mI_sI_i, mI_sI_c, mL_sL_k, mL_sL_j, mL_sL_b, mL_sL_s, mL_sL_i, mL_sL_c, mR_sR_k, mR_sR_j, mR_sR_b, mR_sR_s, mR_sR_i, mR_sR_c, mI_sIr_k, mI_sIr_s, mI_sIr_i, mL_sLr_k, mL_sLr_s, mL_sLr_i, mR_sRr_k, mR_sRr_s, mR_sRr_i, mN_sN_k, mN_sN_i, mN_am_add_k, mN_am_add_s, mR_am_add_k, mN_am_ins_k, mN_am_ins_s, mR_am_ins_k, mN_am_rem_k, mN_am_rem_s, mR_am_rem_k, mR_am_add_s, mR_am_ins_s, mR_am_rem_s, mI_am_mk_k, mI_am_mk_s, mI_am_mk_i, mL_am_mk_k, mL_am_mk_s, mL_am_mk_i, mR_am_mk_k, mR_am_mk_s, mR_am_mk_i, mN_am_mk_k, mN_am_mk_i, mC_am_mk_k, mC_am_mk_s, mN_am_ml_k, mN_am_ml_i, mC_am_ml_k, mC_am_ml_s, mC_sC_k, mC_am_thr_k, sC_3 S, sC_4 S, sR_4_28 S, sC_62 S, sN_62 S, sR_4_29 S, sC_63 S, sN_63 S, sR_4_56 S, sC_79 S, sN_79 S, k0, k1, k2, k3, k4, k5, k6, k7, k8, k9, k10, k11, k12, k13, k14, k15, k16, k17, k18, k19, k20, k21, k22, k23, k24, k25, k26, k27, k28, k29, k30, k31, k32, k33, k34, k35, k36, k37, k38, k39, k40, k41, k42, k43, k44, k45, k46, k47, k48, k49, k50, k51, k52, k53, k54, k55, k56, k57, k58, k59, k60, k61, k62, k63, k64, k65, k66, k67, k68, k69, k70, k71, k72, k73, k74, k75, k76, k77, k78, k79, k80, k81, k82, k83, k84, k85, k86, k87, k88, k89, k90, k91, k92, k93, k94, k95, k96, k97, k98, k99, k100, z, rsL_C, rsL_R, rsL_N, ini_iff z31, nI_clamp z31, z12, rsL_79, rsL_I57, rsL_57, true_and, and_true, and_self, if_true, if_false, ite_true, ite_false, Nat.lt_irrefl, List.length_nil, List.length_cons, Nat.reduceAdd, Nat.reduceLeDiff, Nat.reduceLT, Nat.reduceEqDiff, Nat.zero_lt_one, not_true, not_false_iff, bI_0, bI_1, ne_eq, reduceCtorEq, false_and, and_false, or_true, true_or, or_false, false_or, Nat.lt_one_iff, eq_self, Nat.zero_le, am_ko_v, am_ko_0, am_kil, Nat.reduceBEq, Int32.reduceLT, Int32.reduceLE, Int32.reduceAdd, Int32.reduceSub, i32_10, i32_01, not_true_eq_false, not_false_eq_true, Classical.not_not, nor_self, Nat.lt_add_one, nI_1, nI_pred, rf_n, i32_m0, i32_m1, reduceIte]
    refine hk _ _ fun j hj => ?_
    rw [insO_insA (f := gI σ 63 0) M 0 (Nat.zero_le _) (fun j hj => absurd hj (by omega)) (fun j h1 h2 => g3 j h1 (by omega)), insA_len 0 M (Nat.zero_le _)] at hj
    rw [insO_insA (f := gI σ 63 0) M 0 (Nat.zero_le _) (fun j hj => absurd hj (by omega)) (fun j h1 h2 => g3 j h1 (by omega)), insA_get 0 M j (Nat.zero_le _)]
    by_cases c : j = 0
    · simp [c]
    · simp only [c, if_false, show ¬ j < 0 by omega]
      exact g2 j (by omega) (by omega)
  | succ i ih =>
    intro hi g g1 g2 g3
    have z : (0 : Int32) < nI (i + 1) := nI_lt (a := 0) (by omega) (by omega)
    have i31 : i < 2147483648 := by omega
    have i12 : i < 12 := by omega
    have j31 : i + 1 < 2147483648 := by omega
    have j12 : i + 1 < 12 := by omega
    have gi := g1 i (by omega)
    have mi := hM i (by omega)
    have m31 : M.getD i 0 < 2147483648 := by omega
    rw [S183_44]
    by_cases c : gI σ 63 0 t < gI σ 63 0 (M.getD i 0)
    · simp only [S183_0, S183_1, S183_2, S183_5, S183_6, S183_8, S183_9, S183_12, S183_15, S183_16, S183_19, S183_20, S183_21, S183_22, S183_25, S183_26, S183_29, S183_30, S183_31, S183_32, S183_35, S183_38, S183_39, S183_42, S183_46, S183_49, S183_50, S183_53, S183_54, S183_57, S183_59, S183_60, S183_61, S183_62, S183_63, S183_64, S183_67, S183_68, S183_69, S183_72, S183_73, S183_76, S183_78, S183_79, S183_82, S183_84, S183_85, S183_86, S183_87, S183_88, S183_91, S183_94, S183_95, S183_98, S183_100, S183_101, S183_102, S183_103, S183_103q, S183_104, S183_107, S183_108, S183_109, S183_112, S183_115, S183_118, gL_sI, gR_sI, gN_sI, gC_sI, gB_sI, gI_sL, gR_sL, gN_sL, gC_sL, gB_sL, gI_sR, gL_sR, gN_sR, gC_sR, gB_sR, gL_sIr, gR_sIr, gN_sIr, gC_sIr, gB_sIr, gI_sLr, gR_sLr, gN_sLr, gC_sLr, gB_sLr, gI_sRr, gL_sRr, gN_sRr, gC_sRr, gB_sRr, gI_sN, gL_sN, gR_sN, gC_sN, gB_sN, gI_sC, gL_sC, gR_sC, gN_sC, gB_sC, gI_sB, gL_sB, gR_sB, gN_sB, gC_sB, gB_sB, gB_am_mk, gI_am_ml, gL_am_ml, gR_am_ml, gB_am_ml, gI_am_add, gL_am_add, gC_am_add, gB_am_add, gI_am_ins, gL_am_ins, gC_am_ins, gB_am_ins, gI_am_rem, gL_am_rem, gC_am_rem, gB_am_rem, gI_am_thr, gL_am_thr, gR_am_thr, gN_am_thr, gB_am_thr, mI_sI_k, mI_sI_j, mI_sI_b, mI_sI_s, mI_sI_i, mI_sI_c, mL_sL_k, mL_sL_j, mL_sL_b, mL_sL_s, mL_sL_i, mL_sL_c, mR_sR_k, mR_sR_j, mR_sR_b, mR_sR_s, mR_sR_i, mR_sR_c, mI_sIr_k, mI_sIr_s, mI_sIr_i, mL_sLr_k, mL_sLr_s, mL_sLr_i, mR_sRr_k, mR_sRr_s, mR_sRr_i, mN_sN_k, mN_sN_i, mN_am_add_k, mN_am_add_s, mR_am_add_k, mN_am_ins_k, mN_am_ins_s, mR_am_ins_k, mN_am_rem_k, mN_am_rem_s, mR_am_rem_k, mR_am_add_s, mR_am_ins_s, mR_am_rem_s, mI_am_mk_k, mI_am_mk_s, mI_am_mk_i, mL_am_mk_k, mL_am_mk_s, mL_am_mk_i, mR_am_mk_k, mR_am_mk_s, mR_am_mk_i, mN_am_mk_k, mN_am_mk_i, mC_am_mk_k, mC_am_mk_s, mN_am_ml_k, mN_am_ml_i, mC_am_ml_k, mC_am_ml_s, mC_sC_k, mC_am_thr_k, sC_3 S, sC_4 S, sR_4_28 S, sC_62 S, sN_62 S, sR_4_29 S, sC_63 S, sN_63 S, sR_4_56 S, sC_79 S, sN_79 S, k0, k1, k2, k3, k4, k5, k6, k7, k8, k9, k10, k11, k12, k13, k14, k15, k16, k17, k18, k19, k20, k21, k22, k23, k24, k25, k26, k27, k28, k29, k30, k31, k32, k33, k34, k35, k36, k37, k38, k39, k40, k41, k42, k43, k44, k45, k46, k47, k48, k49, k50, k51, k52, k53, k54, k55, k56, k57, k58, k59, k60, k61, k62, k63, k64, k65, k66, k67, k68, k69, k70, k71, k72, k73, k74, k75, k76, k77, k78, k79, k80, k81, k82, k83, k84, k85, k86, k87, k88, k89, k90, k91, k92, k93, k94, k95, k96, k97, k98, k99, k100, z, rsL_C, rsL_R, rsL_N, rsL_I79, rsL_Ik, gi, ini_iff i31, nI_clamp i31, i12, ini_iff j31, nI_clamp j31, j12, ini_iff t31, nI_clamp t31, ht, ini_iff m31, nI_clamp m31, mi, c, rsL_79, pk_m1, true_and, and_true, and_self, if_true, if_false, ite_true, ite_false, Nat.lt_irrefl, List.length_nil, List.length_cons, Nat.reduceAdd, Nat.reduceLeDiff, Nat.reduceLT, Nat.reduceEqDiff, Nat.zero_lt_one, not_true, not_false_iff, bI_0, bI_1, ne_eq, reduceCtorEq, false_and, and_false, or_true, true_or, or_false, false_or, Nat.lt_one_iff, eq_self, Nat.zero_le, am_ko_v, am_ko_0, am_kil, Nat.reduceBEq, Int32.reduceLT, Int32.reduceLE, Int32.reduceAdd, Int32.reduceSub, i32_10, i32_01, not_true_eq_false, not_false_eq_true, Classical.not_not, nor_self, Nat.lt_add_one, nI_1, nI_pred, rf_n, i32_m0, i32_m1, reduceIte]
      refine ih (by omega) _ (fun j hj => ?_) (fun j h1 h2 => ?_) (fun j h1 h2 => ?_)
      · have : ¬ j = i + 1 := by omega
        simp only [this, if_false]; exact g1 j (by omega)
      · by_cases e : j = i + 1
        · simp only [e, if_true, Nat.add_sub_cancel]
        · simp only [e, if_false]; exact g2 j (by omega) h2
      · by_cases e : j = i
        · rw [e]; exact c
        · exact g3 j (by omega) h2
    · have b1 : ∀ j, j < i + 1 → ¬ gI σ 63 0 t < gI σ 63 0 (M.getD j 0) := fun j hj => Int32.not_lt.mpr (Int32.le_trans (pw_get hpw (show j ≤ i by omega) (by omega)) (Int32.not_lt.mp c))
      simp only [S183_0, S183_1, S183_2, S183_5, S183_6, S183_8, S183_9, S183_12, S183_15, S183_16, S183_19, S183_20, S183_21, S183_22, S183_25, S183_26, S183_29, S183_30, S183_31, S183_32, S183_35, S183_38, S183_39, S183_42, S183_46, S183_49, S183_50, S183_53, S183_54, S183_57, S183_59, S183_60, S183_61, S183_62, S183_63, S183_64, S183_67, S183_68, S183_69, S183_72, S183_73, S183_76, S183_78, S183_79, S183_82, S183_84, S183_85, S183_86, S183_87, S183_88, S183_91, S183_94, S183_95, S183_98, S183_100, S183_101, S183_102, S183_103, S183_103q, S183_104, S183_107, S183_108, S183_109, S183_112, S183_115, S183_118, gL_sI, gR_sI, gN_sI, gC_sI, gB_sI, gI_sL, gR_sL, gN_sL, gC_sL, gB_sL, gI_sR, gL_sR, gN_sR, gC_sR, gB_sR, gL_sIr, gR_sIr, gN_sIr, gC_sIr, gB_sIr, gI_sLr, gR_sLr, gN_sLr, gC_sLr, gB_sLr, gI_sRr, gL_sRr, gN_sRr, gC_sRr, gB_sRr, gI_sN, gL_sN, gR_sN, gC_sN, gB_sN, gI_sC, gL_sC, gR_sC, gN_sC, gB_sC, gI_sB, gL_sB, gR_sB, gN_sB, gC_sB, gB_sB, gB_am_mk, gI_am_ml, gL_am_ml, gR_am_ml, gB_am_ml, gI_am_add, gL_am_add, gC_am_add, gB_am_add, gI_am_ins, gL_am_ins, gC_am_ins, gB_am_ins, gI_am_rem, gL_am_rem, gC_am_rem, gB_am_rem, gI_am_thr, gL_am_thr, gR_am_thr, gN_am_thr, gB_am_thr, mI_sI_k, mI_sI_j, mI_sI_b, mI_sI_s, mI_sI_i, mI_sI_c, mL_sL_k, mL_sL_j, mL_sL_b, mL_sL_s, mL_sL_i, mL_sL_c, mR_sR_k, mR_sR_j, mR_sR_b, mR_sR_s, mR_sR_i, mR_sR_c, mI_sIr_k, mI_sIr_s, mI_sIr_i, mL_sLr_k, mL_sLr_s, mL_sLr_i, mR_sRr_k, mR_sRr_s, mR_sRr_i, mN_sN_k, mN_sN_i, mN_am_add_k, mN_am_add_s, mR_am_add_k, mN_am_ins_k, mN_am_ins_s, mR_am_ins_k, mN_am_rem_k, mN_am_rem_s, mR_am_rem_k, mR_am_add_s, mR_am_ins_s, mR_am_rem_s, mI_am_mk_k, mI_am_mk_s, mI_am_mk_i, mL_am_mk_k, mL_am_mk_s, mL_am_mk_i, mR_am_mk_k, mR_am_mk_s, mR_am_mk_i, mN_am_mk_k, mN_am_mk_i, mC_am_mk_k, mC_am_mk_s, mN_am_ml_k, mN_am_ml_i, mC_am_ml_k, mC_am_ml_s, mC_sC_k, mC_am_thr_k, sC_3 S, sC_4 S, sR_4_28 S, sC_62 S, sN_62 S, sR_4_29 S, sC_63 S, sN_63 S, sR_4_56 S, sC_79 S, sN_79 S, k0, k1, k2, k3, k4, k5, k6, k7, k8, k9, k10, k11, k12, k13, k14, k15, k16, k17, k18, k19, k20, k21, k22, k23, k24, k25, k26, k27, k28, k29, k30, k31, k32, k33, k34, k35, k36, k37, k38, k39, k40, k41, k42, k43, k44, k45, k46, k47, k48, k49, k50, k51, k52, k53, k54, k55, k56, k57, k58, k59, k60, k61, k62, k63, k64, k65, k66, k67, k68, k69, k70, k71, k72, k73, k74, k75, k76, k77, k78, k79, k80, k81, k82, k83, k84, k85, k86, k87, k88, k89, k90, k91, k92, k93, k94, k95, k96, k97, k98, k99, k100, z, rsL_C, rsL_R, rsL_N, rsL_I79, rsL_Ik, gi, ini_iff i31, nI_clamp i31, i12, ini_iff j31, nI_clamp j31, j12, ini_iff t31, nI_clamp t31, ht, ini_iff m31, nI_clamp m31, mi, c, rsL_79, rsL_I57, rsL_57, true_and, and_true, and_self, if_true, if_false, ite_true, ite_false, Nat.lt_irrefl, List.length_nil, List.length_cons, Nat.reduceAdd, Nat.reduceLeDiff, Nat.reduceLT, Nat.reduceEqDiff, Nat.zero_lt_one, not_true, not_false_iff, bI_0, bI_1, ne_eq, reduceCtorEq, false_and, and_false, or_true, true_or, or_false, false_or, Nat.lt_one_iff, eq_self, Nat.zero_le, am_ko_v, am_ko_0, am_kil, Nat.reduceBEq, Int32.reduceLT, Int32.reduceLE, Int32.reduceAdd, Int32.reduceSub, i32_10, i32_01, not_true_eq_false, not_false_eq_true, Classical.not_not, nor_self, Nat.lt_add_one, nI_1, nI_pred, rf_n, i32_m0, i32_m1, reduceIte]
      refine hk _ _ fun j hj => ?_
      rw [insO_insA (f := gI σ 63 0) M (i + 1) (by omega) b1 (fun j h1 h2 => g3 j h1 (by omega)), insA_len (i + 1) M (by omega)] at hj
      rw [insO_insA (f := gI σ 63 0) M (i + 1) (by omega) b1 (fun j h1 h2 => g3 j h1 (by omega)), insA_get (i + 1) M j (by omega)]
      by_cases e : j = i + 1
      · simp only [e, if_true, Nat.lt_irrefl, if_false]
      · simp only [e, if_false]
        by_cases e2 : j < i + 1
        · rw [if_pos e2]; exact g1 j e2
        · rw [if_neg e2]; exact g2 j (by omega) (by omega)
/-- the numbers of the TEXTS that are in force and known, in order -/
def fiL (σ : aM) (day known : Int32) (n : Nat) : List Nat := (ordL (gI σ 63 0) n).filter (inB σ day known)
theorem fil_len {p : Nat → Bool} : ∀ (l : List Nat), (l.filter p).length ≤ l.length := fun l => List.length_filter_le _ _
theorem L183 {day known : Int32} {T : Nat} {f h : Nat → Int64} (S : Sh σ) (hT : T ≤ 12) (x_n : gI σ 4 0 27 = nI T) (hq : ∀ g', repL g' (fiL σ day known T) → Q (some none) (rsL σ g' (nI (fiL σ day known T).length) f h)) : ∀ k t, t + k = T → ∀ g (a4 : Option aV), repL g (fiL σ day known t) → WP d 183 7 [some (vr (some (4, 0))), some (vi day), some (vi known), some (vi (nI t)), a4] [] (rsL σ g (nI (fiL σ day known t).length) f h) Q := by
  have S9 : ∀ {g m f h}, Sh (rsL σ g m f h) := fun {g m f h} => Sh_rsL S
  intro k
  induction k with
  | zero =>
    intro t ht g a4 hg
    have c : ¬ nI t < nI T := nI_nlt (by omega) (by omega)
    obtain rfl : t = T := by omega
    rw [S183_7]
    simp only [S183_0, S183_1, S183_2, S183_5, S183_6, S183_8, S183_9, S183_12, S183_15, S183_16, S183_19, S183_20, S183_21, S183_22, S183_25, S183_26, S183_29, S183_30, S183_31, S183_32, S183_35, S183_38, S183_39, S183_42, S183_46, S183_49, S183_50, S183_53, S183_54, S183_57, S183_59, S183_60, S183_61, S183_62, S183_63, S183_64, S183_67, S183_68, S183_69, S183_72, S183_73, S183_76, S183_78, S183_79, S183_82, S183_84, S183_85, S183_86, S183_87, S183_88, S183_91, S183_94, S183_95, S183_98, S183_100, S183_101, S183_102, S183_103, S183_103q, S183_104, S183_107, S183_108, S183_109, S183_112, S183_115, S183_118, gL_sI, gR_sI, gN_sI, gC_sI, gB_sI, gI_sL, gR_sL, gN_sL, gC_sL, gB_sL, gI_sR, gL_sR, gN_sR, gC_sR, gB_sR, gL_sIr, gR_sIr, gN_sIr, gC_sIr, gB_sIr, gI_sLr, gR_sLr, gN_sLr, gC_sLr, gB_sLr, gI_sRr, gL_sRr, gN_sRr, gC_sRr, gB_sRr, gI_sN, gL_sN, gR_sN, gC_sN, gB_sN, gI_sC, gL_sC, gR_sC, gN_sC, gB_sC, gI_sB, gL_sB, gR_sB, gN_sB, gC_sB, gB_sB, gB_am_mk, gI_am_ml, gL_am_ml, gR_am_ml, gB_am_ml, gI_am_add, gL_am_add, gC_am_add, gB_am_add, gI_am_ins, gL_am_ins, gC_am_ins, gB_am_ins, gI_am_rem, gL_am_rem, gC_am_rem, gB_am_rem, gI_am_thr, gL_am_thr, gR_am_thr, gN_am_thr, gB_am_thr, mI_sI_k, mI_sI_j, mI_sI_b, mI_sI_s, mI_sI_i, mI_sI_c, mL_sL_k, mL_sL_j, mL_sL_b, mL_sL_s, mL_sL_i, mL_sL_c, mR_sR_k, mR_sR_j, mR_sR_b, mR_sR_s, mR_sR_i, mR_sR_c, mI_sIr_k, mI_sIr_s, mI_sIr_i, mL_sLr_k, mL_sLr_s, mL_sLr_i, mR_sRr_k, mR_sRr_s, mR_sRr_i, mN_sN_k, mN_sN_i, mN_am_add_k, mN_am_add_s, mR_am_add_k, mN_am_ins_k, mN_am_ins_s, mR_am_ins_k, mN_am_rem_k, mN_am_rem_s, mR_am_rem_k, mR_am_add_s, mR_am_ins_s, mR_am_rem_s, mI_am_mk_k, mI_am_mk_s, mI_am_mk_i, mL_am_mk_k, mL_am_mk_s, mL_am_mk_i, mR_am_mk_k, mR_am_mk_s, mR_am_mk_i, mN_am_mk_k, mN_am_mk_i, mC_am_mk_k, mC_am_mk_s, mN_am_ml_k, mN_am_ml_i, mC_am_ml_k, mC_am_ml_s, mC_sC_k, mC_am_thr_k, sC_3 S, sC_4 S, sR_4_28 S, sC_62 S, sN_62 S, sR_4_29 S, sC_63 S, sN_63 S, sR_4_56 S, sC_79 S, sN_79 S, k0, k1, k2, k3, k4, k5, k6, k7, k8, k9, k10, k11, k12, k13, k14, k15, k16, k17, k18, k19, k20, k21, k22, k23, k24, k25, k26, k27, k28, k29, k30, k31, k32, k33, k34, k35, k36, k37, k38, k39, k40, k41, k42, k43, k44, k45, k46, k47, k48, k49, k50, k51, k52, k53, k54, k55, k56, k57, k58, k59, k60, k61, k62, k63, k64, k65, k66, k67, k68, k69, k70, k71, k72, k73, k74, k75, k76, k77, k78, k79, k80, k81, k82, k83, k84, k85, k86, k87, k88, k89, k90, k91, k92, k93, k94, k95, k96, k97, k98, k99, k100, c, rsL_C, rsL_Ic, x_n, true_and, and_true, and_self, if_true, if_false, ite_true, ite_false, Nat.lt_irrefl, List.length_nil, List.length_cons, Nat.reduceAdd, Nat.reduceLeDiff, Nat.reduceLT, Nat.reduceEqDiff, Nat.zero_lt_one, not_true, not_false_iff, bI_0, bI_1, ne_eq, reduceCtorEq, false_and, and_false, or_true, true_or, or_false, false_or, Nat.lt_one_iff, eq_self, Nat.zero_le, am_ko_v, am_ko_0, am_kil, Nat.reduceBEq, Int32.reduceLT, Int32.reduceLE, Int32.reduceAdd, Int32.reduceSub, i32_10, i32_01, not_true_eq_false, not_false_eq_true, Classical.not_not, nor_self, Nat.lt_add_one, nI_1, nI_pred, rf_n, i32_m0, i32_m1, reduceIte]
    exact hq g hg
  | succ k ih =>
    intro t ht g a4 hg
    have c : nI t < nI T := nI_lt (by omega) (by omega)
    have t31 : t < 2147483648 := by omega
    have t12 : t < 12 := by omega
    have hord : ordL (gI σ 63 0) (t + 1) = insO (gI σ 63 0) t (ordL (gI σ 63 0) t) := rfl
    have hfil : fiL σ day known (t + 1) = if inB σ day known t = true then insO (gI σ 63 0) t (fiL σ day known t) else fiL σ day known t := by
      unfold fiL; rw [hord, insO_fil _ (ordL_pw t)]
    have hlen : (fiL σ day known t).length ≤ t := by
      have := fil_len (p := inB σ day known) (ordL (gI σ 63 0) t)
      rw [ordL_len] at this; exact this
    have hmem : ∀ j, j < (fiL σ day known t).length → (fiL σ day known t).getD j 0 < 12 := fun j hj => by
      have e : (fiL σ day known t).getD j 0 = (fiL σ day known t)[j] := by simp [List.getD, hj]
      rw [e]
      have := ordL_mem _ _ (List.mem_filter.mp (List.getElem_mem hj)).1
      omega
    rw [S183_7]
    by_cases c1 : known < gI σ 62 0 t
    · have nb : ¬ inB σ day known t = true := fun q => absurd (of_decide_eq_true q).2 (Int32.not_le.mpr c1)
      rw [if_neg nb] at hfil
      simp only [S183_0, S183_1, S183_2, S183_5, S183_6, S183_8, S183_9, S183_12, S183_15, S183_16, S183_19, S183_20, S183_21, S183_22, S183_25, S183_26, S183_29, S183_30, S183_31, S183_32, S183_35, S183_38, S183_39, S183_42, S183_46, S183_49, S183_50, S183_53, S183_54, S183_57, S183_59, S183_60, S183_61, S183_62, S183_63, S183_64, S183_67, S183_68, S183_69, S183_72, S183_73, S183_76, S183_78, S183_79, S183_82, S183_84, S183_85, S183_86, S183_87, S183_88, S183_91, S183_94, S183_95, S183_98, S183_100, S183_101, S183_102, S183_103, S183_103q, S183_104, S183_107, S183_108, S183_109, S183_112, S183_115, S183_118, gL_sI, gR_sI, gN_sI, gC_sI, gB_sI, gI_sL, gR_sL, gN_sL, gC_sL, gB_sL, gI_sR, gL_sR, gN_sR, gC_sR, gB_sR, gL_sIr, gR_sIr, gN_sIr, gC_sIr, gB_sIr, gI_sLr, gR_sLr, gN_sLr, gC_sLr, gB_sLr, gI_sRr, gL_sRr, gN_sRr, gC_sRr, gB_sRr, gI_sN, gL_sN, gR_sN, gC_sN, gB_sN, gI_sC, gL_sC, gR_sC, gN_sC, gB_sC, gI_sB, gL_sB, gR_sB, gN_sB, gC_sB, gB_sB, gB_am_mk, gI_am_ml, gL_am_ml, gR_am_ml, gB_am_ml, gI_am_add, gL_am_add, gC_am_add, gB_am_add, gI_am_ins, gL_am_ins, gC_am_ins, gB_am_ins, gI_am_rem, gL_am_rem, gC_am_rem, gB_am_rem, gI_am_thr, gL_am_thr, gR_am_thr, gN_am_thr, gB_am_thr, mI_sI_k, mI_sI_j, mI_sI_b, mI_sI_s, mI_sI_i, mI_sI_c, mL_sL_k, mL_sL_j, mL_sL_b, mL_sL_s, mL_sL_i, mL_sL_c, mR_sR_k, mR_sR_j, mR_sR_b, mR_sR_s, mR_sR_i, mR_sR_c, mI_sIr_k, mI_sIr_s, mI_sIr_i, mL_sLr_k, mL_sLr_s, mL_sLr_i, mR_sRr_k, mR_sRr_s, mR_sRr_i, mN_sN_k, mN_sN_i, mN_am_add_k, mN_am_add_s, mR_am_add_k, mN_am_ins_k, mN_am_ins_s, mR_am_ins_k, mN_am_rem_k, mN_am_rem_s, mR_am_rem_k, mR_am_add_s, mR_am_ins_s, mR_am_rem_s, mI_am_mk_k, mI_am_mk_s, mI_am_mk_i, mL_am_mk_k, mL_am_mk_s, mL_am_mk_i, mR_am_mk_k, mR_am_mk_s, mR_am_mk_i, mN_am_mk_k, mN_am_mk_i, mC_am_mk_k, mC_am_mk_s, mN_am_ml_k, mN_am_ml_i, mC_am_ml_k, mC_am_ml_s, mC_sC_k, mC_am_thr_k, sC_3 S, sC_4 S, sR_4_28 S, sC_62 S, sN_62 S, sR_4_29 S, sC_63 S, sN_63 S, sR_4_56 S, sC_79 S, sN_79 S, k0, k1, k2, k3, k4, k5, k6, k7, k8, k9, k10, k11, k12, k13, k14, k15, k16, k17, k18, k19, k20, k21, k22, k23, k24, k25, k26, k27, k28, k29, k30, k31, k32, k33, k34, k35, k36, k37, k38, k39, k40, k41, k42, k43, k44, k45, k46, k47, k48, k49, k50, k51, k52, k53, k54, k55, k56, k57, k58, k59, k60, k61, k62, k63, k64, k65, k66, k67, k68, k69, k70, k71, k72, k73, k74, k75, k76, k77, k78, k79, k80, k81, k82, k83, k84, k85, k86, k87, k88, k89, k90, k91, k92, k93, k94, k95, k96, k97, k98, k99, k100, c, rsL_C, rsL_Ic, rsL_R, rsL_N, rsL_Ik, x_n, ini_iff t31, nI_clamp t31, t12, c1, true_and, and_true, and_self, if_true, if_false, ite_true, ite_false, Nat.lt_irrefl, List.length_nil, List.length_cons, Nat.reduceAdd, Nat.reduceLeDiff, Nat.reduceLT, Nat.reduceEqDiff, Nat.zero_lt_one, not_true, not_false_iff, bI_0, bI_1, ne_eq, reduceCtorEq, false_and, and_false, or_true, true_or, or_false, false_or, Nat.lt_one_iff, eq_self, Nat.zero_le, am_ko_v, am_ko_0, am_kil, Nat.reduceBEq, Int32.reduceLT, Int32.reduceLE, Int32.reduceAdd, Int32.reduceSub, i32_10, i32_01, not_true_eq_false, not_false_eq_true, Classical.not_not, nor_self, Nat.lt_add_one, nI_1, nI_pred, rf_n, i32_m0, i32_m1, reduceIte]
      rw [← hfil] at hg ⊢
      exact ih (t + 1) (by omega) g _ hg
    by_cases c2 : day < gI σ 63 0 t
    · have nb : ¬ inB σ day known t = true := fun q => absurd (of_decide_eq_true q).1 (Int32.not_le.mpr c2)
      rw [if_neg nb] at hfil
      simp only [S183_0, S183_1, S183_2, S183_5, S183_6, S183_8, S183_9, S183_12, S183_15, S183_16, S183_19, S183_20, S183_21, S183_22, S183_25, S183_26, S183_29, S183_30, S183_31, S183_32, S183_35, S183_38, S183_39, S183_42, S183_46, S183_49, S183_50, S183_53, S183_54, S183_57, S183_59, S183_60, S183_61, S183_62, S183_63, S183_64, S183_67, S183_68, S183_69, S183_72, S183_73, S183_76, S183_78, S183_79, S183_82, S183_84, S183_85, S183_86, S183_87, S183_88, S183_91, S183_94, S183_95, S183_98, S183_100, S183_101, S183_102, S183_103, S183_103q, S183_104, S183_107, S183_108, S183_109, S183_112, S183_115, S183_118, gL_sI, gR_sI, gN_sI, gC_sI, gB_sI, gI_sL, gR_sL, gN_sL, gC_sL, gB_sL, gI_sR, gL_sR, gN_sR, gC_sR, gB_sR, gL_sIr, gR_sIr, gN_sIr, gC_sIr, gB_sIr, gI_sLr, gR_sLr, gN_sLr, gC_sLr, gB_sLr, gI_sRr, gL_sRr, gN_sRr, gC_sRr, gB_sRr, gI_sN, gL_sN, gR_sN, gC_sN, gB_sN, gI_sC, gL_sC, gR_sC, gN_sC, gB_sC, gI_sB, gL_sB, gR_sB, gN_sB, gC_sB, gB_sB, gB_am_mk, gI_am_ml, gL_am_ml, gR_am_ml, gB_am_ml, gI_am_add, gL_am_add, gC_am_add, gB_am_add, gI_am_ins, gL_am_ins, gC_am_ins, gB_am_ins, gI_am_rem, gL_am_rem, gC_am_rem, gB_am_rem, gI_am_thr, gL_am_thr, gR_am_thr, gN_am_thr, gB_am_thr, mI_sI_k, mI_sI_j, mI_sI_b, mI_sI_s, mI_sI_i, mI_sI_c, mL_sL_k, mL_sL_j, mL_sL_b, mL_sL_s, mL_sL_i, mL_sL_c, mR_sR_k, mR_sR_j, mR_sR_b, mR_sR_s, mR_sR_i, mR_sR_c, mI_sIr_k, mI_sIr_s, mI_sIr_i, mL_sLr_k, mL_sLr_s, mL_sLr_i, mR_sRr_k, mR_sRr_s, mR_sRr_i, mN_sN_k, mN_sN_i, mN_am_add_k, mN_am_add_s, mR_am_add_k, mN_am_ins_k, mN_am_ins_s, mR_am_ins_k, mN_am_rem_k, mN_am_rem_s, mR_am_rem_k, mR_am_add_s, mR_am_ins_s, mR_am_rem_s, mI_am_mk_k, mI_am_mk_s, mI_am_mk_i, mL_am_mk_k, mL_am_mk_s, mL_am_mk_i, mR_am_mk_k, mR_am_mk_s, mR_am_mk_i, mN_am_mk_k, mN_am_mk_i, mC_am_mk_k, mC_am_mk_s, mN_am_ml_k, mN_am_ml_i, mC_am_ml_k, mC_am_ml_s, mC_sC_k, mC_am_thr_k, sC_3 S, sC_4 S, sR_4_28 S, sC_62 S, sN_62 S, sR_4_29 S, sC_63 S, sN_63 S, sR_4_56 S, sC_79 S, sN_79 S, k0, k1, k2, k3, k4, k5, k6, k7, k8, k9, k10, k11, k12, k13, k14, k15, k16, k17, k18, k19, k20, k21, k22, k23, k24, k25, k26, k27, k28, k29, k30, k31, k32, k33, k34, k35, k36, k37, k38, k39, k40, k41, k42, k43, k44, k45, k46, k47, k48, k49, k50, k51, k52, k53, k54, k55, k56, k57, k58, k59, k60, k61, k62, k63, k64, k65, k66, k67, k68, k69, k70, k71, k72, k73, k74, k75, k76, k77, k78, k79, k80, k81, k82, k83, k84, k85, k86, k87, k88, k89, k90, k91, k92, k93, k94, k95, k96, k97, k98, k99, k100, c, rsL_C, rsL_Ic, rsL_R, rsL_N, rsL_Ik, x_n, ini_iff t31, nI_clamp t31, t12, c1, c2, true_and, and_true, and_self, if_true, if_false, ite_true, ite_false, Nat.lt_irrefl, List.length_nil, List.length_cons, Nat.reduceAdd, Nat.reduceLeDiff, Nat.reduceLT, Nat.reduceEqDiff, Nat.zero_lt_one, not_true, not_false_iff, bI_0, bI_1, ne_eq, reduceCtorEq, false_and, and_false, or_true, true_or, or_false, false_or, Nat.lt_one_iff, eq_self, Nat.zero_le, am_ko_v, am_ko_0, am_kil, Nat.reduceBEq, Int32.reduceLT, Int32.reduceLE, Int32.reduceAdd, Int32.reduceSub, i32_10, i32_01, not_true_eq_false, not_false_eq_true, Classical.not_not, nor_self, Nat.lt_add_one, nI_1, nI_pred, rf_n, i32_m0, i32_m1, reduceIte]
      rw [← hfil] at hg ⊢
      exact ih (t + 1) (by omega) g _ hg
    · have nb : inB σ day known t = true := decide_eq_true ⟨Int32.not_lt.mp c2, Int32.not_lt.mp c1⟩
      rw [if_pos nb] at hfil
      have hl2 : (fiL σ day known (t + 1)).length = (fiL σ day known t).length + 1 := by rw [hfil, insO_len]
      have A := L183i (d := d) (σ := σ) (Q := Q) (day := day) (known := known) (t := t) (M := fiL σ day known t) (f := f) (h := h) S t12 rfl (by omega) hmem ((ordL_pw t).filter _) (fun x g' hg' => by
        have e := ih (t + 1) (by omega) g' (some x) (by rw [hfil]; exact hg')
        rw [hl2] at e
        exact e) (fiL σ day known t).length (Nat.le_refl _) g hg (fun j h1 h2 => absurd h1 (by omega)) (fun j h1 h2 => absurd h1 (by omega))
      simp only [S183_0, S183_1, S183_2, S183_5, S183_6, S183_8, S183_9, S183_12, S183_15, S183_16, S183_19, S183_20, S183_21, S183_22, S183_25, S183_26, S183_29, S183_30, S183_31, S183_32, S183_35, S183_38, S183_39, S183_42, S183_46, S183_49, S183_50, S183_53, S183_54, S183_57, S183_59, S183_60, S183_61, S183_62, S183_63, S183_64, S183_67, S183_68, S183_69, S183_72, S183_73, S183_76, S183_78, S183_79, S183_82, S183_84, S183_85, S183_86, S183_87, S183_88, S183_91, S183_94, S183_95, S183_98, S183_100, S183_101, S183_102, S183_103, S183_103q, S183_104, S183_107, S183_108, S183_109, S183_112, S183_115, S183_118, gL_sI, gR_sI, gN_sI, gC_sI, gB_sI, gI_sL, gR_sL, gN_sL, gC_sL, gB_sL, gI_sR, gL_sR, gN_sR, gC_sR, gB_sR, gL_sIr, gR_sIr, gN_sIr, gC_sIr, gB_sIr, gI_sLr, gR_sLr, gN_sLr, gC_sLr, gB_sLr, gI_sRr, gL_sRr, gN_sRr, gC_sRr, gB_sRr, gI_sN, gL_sN, gR_sN, gC_sN, gB_sN, gI_sC, gL_sC, gR_sC, gN_sC, gB_sC, gI_sB, gL_sB, gR_sB, gN_sB, gC_sB, gB_sB, gB_am_mk, gI_am_ml, gL_am_ml, gR_am_ml, gB_am_ml, gI_am_add, gL_am_add, gC_am_add, gB_am_add, gI_am_ins, gL_am_ins, gC_am_ins, gB_am_ins, gI_am_rem, gL_am_rem, gC_am_rem, gB_am_rem, gI_am_thr, gL_am_thr, gR_am_thr, gN_am_thr, gB_am_thr, mI_sI_k, mI_sI_j, mI_sI_b, mI_sI_s, mI_sI_i, mI_sI_c, mL_sL_k, mL_sL_j, mL_sL_b, mL_sL_s, mL_sL_i, mL_sL_c, mR_sR_k, mR_sR_j, mR_sR_b, mR_sR_s, mR_sR_i, mR_sR_c, mI_sIr_k, mI_sIr_s, mI_sIr_i, mL_sLr_k, mL_sLr_s, mL_sLr_i, mR_sRr_k, mR_sRr_s, mR_sRr_i, mN_sN_k, mN_sN_i, mN_am_add_k, mN_am_add_s, mR_am_add_k, mN_am_ins_k, mN_am_ins_s, mR_am_ins_k, mN_am_rem_k, mN_am_rem_s, mR_am_rem_k, mR_am_add_s, mR_am_ins_s, mR_am_rem_s, mI_am_mk_k, mI_am_mk_s, mI_am_mk_i, mL_am_mk_k, mL_am_mk_s, mL_am_mk_i, mR_am_mk_k, mR_am_mk_s, mR_am_mk_i, mN_am_mk_k, mN_am_mk_i, mC_am_mk_k, mC_am_mk_s, mN_am_ml_k, mN_am_ml_i, mC_am_ml_k, mC_am_ml_s, mC_sC_k, mC_am_thr_k, sC_3 S, sC_4 S, sR_4_28 S, sC_62 S, sN_62 S, sR_4_29 S, sC_63 S, sN_63 S, sR_4_56 S, sC_79 S, sN_79 S, k0, k1, k2, k3, k4, k5, k6, k7, k8, k9, k10, k11, k12, k13, k14, k15, k16, k17, k18, k19, k20, k21, k22, k23, k24, k25, k26, k27, k28, k29, k30, k31, k32, k33, k34, k35, k36, k37, k38, k39, k40, k41, k42, k43, k44, k45, k46, k47, k48, k49, k50, k51, k52, k53, k54, k55, k56, k57, k58, k59, k60, k61, k62, k63, k64, k65, k66, k67, k68, k69, k70, k71, k72, k73, k74, k75, k76, k77, k78, k79, k80, k81, k82, k83, k84, k85, k86, k87, k88, k89, k90, k91, k92, k93, k94, k95, k96, k97, k98, k99, k100, c, rsL_C, rsL_Ic, rsL_I57, rsL_R, rsL_N, rsL_Ik, x_n, ini_iff t31, nI_clamp t31, t12, c1, c2, true_and, and_true, and_self, if_true, if_false, ite_true, ite_false, Nat.lt_irrefl, List.length_nil, List.length_cons, Nat.reduceAdd, Nat.reduceLeDiff, Nat.reduceLT, Nat.reduceEqDiff, Nat.zero_lt_one, not_true, not_false_iff, bI_0, bI_1, ne_eq, reduceCtorEq, false_and, and_false, or_true, true_or, or_false, false_or, Nat.lt_one_iff, eq_self, Nat.zero_le, am_ko_v, am_ko_0, am_kil, Nat.reduceBEq, Int32.reduceLT, Int32.reduceLE, Int32.reduceAdd, Int32.reduceSub, i32_10, i32_01, not_true_eq_false, not_false_eq_true, Classical.not_not, nor_self, Nat.lt_add_one, nI_1, nI_pred, rf_n, i32_m0, i32_m1, reduceIte]
      exact A
theorem C183 {day known : Int32} {T : Nat} {g : Nat → Int32} {m : Int32} {f h : Nat → Int64} (S : Sh σ) (hT : T ≤ 12) (x_n : gI σ 4 0 27 = nI T) (hq : ∀ g', repL g' (fiL σ day known T) → Q (some none) (rsL σ g' (nI (fiL σ day known T).length) f h)) : WP d 183 0 [some (vr (some (4, 0))), some (vi day), some (vi known), none, none] [] (rsL σ g m f h) Q := by
  have S9 : ∀ {g m f h}, Sh (rsL σ g m f h) := fun {g m f h} => Sh_rsL S
  have A := L183 (d := d) (Q := Q) S hT x_n hq T 0 (by omega) g none (fun j hj => absurd hj (by simp [fiL, ordL]))
  have e : (fiL σ day known 0).length = 0 := rfl
  rw [e, nI_0] at A
  simp only [S183_0, S183_1, S183_2, S183_5, S183_6, S183_8, S183_9, S183_12, S183_15, S183_16, S183_19, S183_20, S183_21, S183_22, S183_25, S183_26, S183_29, S183_30, S183_31, S183_32, S183_35, S183_38, S183_39, S183_42, S183_46, S183_49, S183_50, S183_53, S183_54, S183_57, S183_59, S183_60, S183_61, S183_62, S183_63, S183_64, S183_67, S183_68, S183_69, S183_72, S183_73, S183_76, S183_78, S183_79, S183_82, S183_84, S183_85, S183_86, S183_87, S183_88, S183_91, S183_94, S183_95, S183_98, S183_100, S183_101, S183_102, S183_103, S183_103q, S183_104, S183_107, S183_108, S183_109, S183_112, S183_115, S183_118, gL_sI, gR_sI, gN_sI, gC_sI, gB_sI, gI_sL, gR_sL, gN_sL, gC_sL, gB_sL, gI_sR, gL_sR, gN_sR, gC_sR, gB_sR, gL_sIr, gR_sIr, gN_sIr, gC_sIr, gB_sIr, gI_sLr, gR_sLr, gN_sLr, gC_sLr, gB_sLr, gI_sRr, gL_sRr, gN_sRr, gC_sRr, gB_sRr, gI_sN, gL_sN, gR_sN, gC_sN, gB_sN, gI_sC, gL_sC, gR_sC, gN_sC, gB_sC, gI_sB, gL_sB, gR_sB, gN_sB, gC_sB, gB_sB, gB_am_mk, gI_am_ml, gL_am_ml, gR_am_ml, gB_am_ml, gI_am_add, gL_am_add, gC_am_add, gB_am_add, gI_am_ins, gL_am_ins, gC_am_ins, gB_am_ins, gI_am_rem, gL_am_rem, gC_am_rem, gB_am_rem, gI_am_thr, gL_am_thr, gR_am_thr, gN_am_thr, gB_am_thr, mI_sI_k, mI_sI_j, mI_sI_b, mI_sI_s, mI_sI_i, mI_sI_c, mL_sL_k, mL_sL_j, mL_sL_b, mL_sL_s, mL_sL_i, mL_sL_c, mR_sR_k, mR_sR_j, mR_sR_b, mR_sR_s, mR_sR_i, mR_sR_c, mI_sIr_k, mI_sIr_s, mI_sIr_i, mL_sLr_k, mL_sLr_s, mL_sLr_i, mR_sRr_k, mR_sRr_s, mR_sRr_i, mN_sN_k, mN_sN_i, mN_am_add_k, mN_am_add_s, mR_am_add_k, mN_am_ins_k, mN_am_ins_s, mR_am_ins_k, mN_am_rem_k, mN_am_rem_s, mR_am_rem_k, mR_am_add_s, mR_am_ins_s, mR_am_rem_s, mI_am_mk_k, mI_am_mk_s, mI_am_mk_i, mL_am_mk_k, mL_am_mk_s, mL_am_mk_i, mR_am_mk_k, mR_am_mk_s, mR_am_mk_i, mN_am_mk_k, mN_am_mk_i, mC_am_mk_k, mC_am_mk_s, mN_am_ml_k, mN_am_ml_i, mC_am_ml_k, mC_am_ml_s, mC_sC_k, mC_am_thr_k, sC_3 S, sC_4 S, sR_4_28 S, sC_62 S, sN_62 S, sR_4_29 S, sC_63 S, sN_63 S, sR_4_56 S, sC_79 S, sN_79 S, k0, k1, k2, k3, k4, k5, k6, k7, k8, k9, k10, k11, k12, k13, k14, k15, k16, k17, k18, k19, k20, k21, k22, k23, k24, k25, k26, k27, k28, k29, k30, k31, k32, k33, k34, k35, k36, k37, k38, k39, k40, k41, k42, k43, k44, k45, k46, k47, k48, k49, k50, k51, k52, k53, k54, k55, k56, k57, k58, k59, k60, k61, k62, k63, k64, k65, k66, k67, k68, k69, k70, k71, k72, k73, k74, k75, k76, k77, k78, k79, k80, k81, k82, k83, k84, k85, k86, k87, k88, k89, k90, k91, k92, k93, k94, k95, k96, k97, k98, k99, k100, rsL_C, rsL_57, true_and, and_true, and_self, if_true, if_false, ite_true, ite_false, Nat.lt_irrefl, List.length_nil, List.length_cons, Nat.reduceAdd, Nat.reduceLeDiff, Nat.reduceLT, Nat.reduceEqDiff, Nat.zero_lt_one, not_true, not_false_iff, bI_0, bI_1, ne_eq, reduceCtorEq, false_and, and_false, or_true, true_or, or_false, false_or, Nat.lt_one_iff, eq_self, Nat.zero_le, am_ko_v, am_ko_0, am_kil, Nat.reduceBEq, Int32.reduceLT, Int32.reduceLE, Int32.reduceAdd, Int32.reduceSub, i32_10, i32_01, not_true_eq_false, not_false_eq_true, Classical.not_not, nor_self, Nat.lt_add_one, nI_1, nI_pred, rf_n, i32_m0, i32_m1, reduceIte]
  exact A
end ORD
